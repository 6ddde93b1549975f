section M55
variable {p : Program} {l : Launch} {e : Env} {R : Room} {s : State} {m : MethodId} {args : Array Value} {below : List Frame} {meth : Method} {c : Code} {D : va_G} {cA : Nat → ClassId} {tys : List (ClassId × FieldType)} {A : Nat → Prop} {n0 s0 : Nat} {QM : State → Prop} {dm : List Nat × Nat × Nat} {ra : Nat → Nat} {jx : Nat → Nat → Nat} {rm : Nat}
def w_J9_max_f86c9_11 (ra : Nat → Nat) (jx : Nat → Nat → Nat) (rm : Nat) (Q : Sg → Int64 → Prop) (X : Sg → String → Prop) (σ : Sg) (u0 : Int64) : Prop := Q σ u0
def w_J9_max_f86c9_10 (ra : Nat → Nat) (jx : Nat → Nat → Nat) (rm : Nat) (Q : Sg → Int64 → Prop) (X : Sg → String → Prop) (σ : Sg) (v2 : Int64) : Prop := w_J9_max_f86c9_11 ra jx rm Q X σ v2
def w_J9_max_f86c9_6 (ra : Nat → Nat) (jx : Nat → Nat → Nat) (rm : Nat) (Q : Sg → Int64 → Prop) (X : Sg → String → Prop) (σ : Sg) (v0 : Int64) : Prop := w_J9_max_f86c9_11 ra jx rm Q X σ v0
def w_J9_max_f86c9_0 (ra : Nat → Nat) (jx : Nat → Nat → Nat) (rm : Nat) (Q : Sg → Int64 → Prop) (X : Sg → String → Prop) (σ : Sg) (v0 : Int64) (v2 : Int64) : Prop := (if v0 < v2 then w_J9_max_f86c9_10 ra jx rm Q X σ v2 else w_J9_max_f86c9_6 ra jx rm Q X σ v0)
def wp_J9_max_f86c9 (ra : Nat → Nat) (jx : Nat → Nat → Nat) (rm : Nat) (v0 : Int64) (v2 : Int64) (σ : Sg) (Q : Sg → Int64 → Prop) (X : Sg → String → Prop) : Prop := w_J9_max_f86c9_0 ra jx rm Q X σ v0 v2
theorem mj_J9_max_f86c9 {ra : Nat → Nat} {jx : Nat → Nat → Nat} {rm : Nat} {x y : Int64} {σ : Sg} : wp_J9_max_f86c9 ra jx rm x y σ (fun σ' r => σ = σ' ∧ r = maxJ x y) (fun _ _ => False) := by
  unfold wp_J9_max_f86c9 w_J9_max_f86c9_0 w_J9_max_f86c9_6 w_J9_max_f86c9_10 w_J9_max_f86c9_11
  unfold maxJ
  split <;> split <;> first | exact ⟨rfl, rfl⟩ | (exfalso; rename_i a9 b9; simp only [Int64.lt_iff_toInt_lt, Int64.le_iff_toInt_le, ge_iff_le, gt_iff_lt] at a9 b9; omega)
theorem dJ9_max_f86c9_0 : decode cJ9_max_f86c9 0 = .ok (.lload_n 0, 1) := by decide +kernel
theorem dJ9_max_f86c9_1 : decode cJ9_max_f86c9 1 = .ok (.lload_n 2, 1) := by decide +kernel
theorem dJ9_max_f86c9_2 : decode cJ9_max_f86c9 2 = .ok (.lcmp, 1) := by decide +kernel
theorem dJ9_max_f86c9_3 : decode cJ9_max_f86c9 3 = .ok (.ifCond .lt 7, 3) := by decide +kernel
theorem dJ9_max_f86c9_6 : decode cJ9_max_f86c9 6 = .ok (.lload_n 0, 1) := by decide +kernel
theorem dJ9_max_f86c9_7 : decode cJ9_max_f86c9 7 = .ok (.goto 4, 3) := by decide +kernel
theorem dJ9_max_f86c9_10 : decode cJ9_max_f86c9 10 = .ok (.lload_n 2, 1) := by decide +kernel
theorem dJ9_max_f86c9_11 : decode cJ9_max_f86c9 11 = .ok (.lreturn, 1) := by decide +kernel
set_option maxRecDepth 20000 in
theorem a_J9_max_f86c9_11 {Q : Sg → Int64 → Prop} {X : Sg → String → Prop} (K : MC R p s m args c cJ9_max_f86c9 4 yJ9_max_f86c9.cls D cA tys A n0 s0 0 0 []) (hQ : HQJ p l e R s m args below meth c cJ9_max_f86c9 D cA A n0 s0 QM dm ra jx rm Q) (hX : HX p l e R s m args below meth c 4 D cA A n0 s0 QM dm ra jx rm X) : ∀ (σ : Sg) (u0 : Int64), w_J9_max_f86c9_11 ra jx rm Q X σ u0 → RG σ → Shp dm ra jx rm σ → JJ p l e R s m args below meth c 4 D cA A n0 s0 QM σ 11 [] [.long u0] := by
  intro σ u0 h hGσ hS H locs ls hH hl hc
  have B := K.1
  unfold w_J9_max_f86c9_11 at h
  exact hQ _ _ _ _ _ _ dJ9_max_f86c9_11 hH hc h hGσ hS
set_option maxRecDepth 20000 in
theorem a_J9_max_f86c9_10 {Q : Sg → Int64 → Prop} {X : Sg → String → Prop} (K : MC R p s m args c cJ9_max_f86c9 4 yJ9_max_f86c9.cls D cA tys A n0 s0 0 0 []) (hQ : HQJ p l e R s m args below meth c cJ9_max_f86c9 D cA A n0 s0 QM dm ra jx rm Q) (hX : HX p l e R s m args below meth c 4 D cA A n0 s0 QM dm ra jx rm X) : ∀ (σ : Sg) (v2 : Int64), w_J9_max_f86c9_10 ra jx rm Q X σ v2 → RG σ → Shp dm ra jx rm σ → JJ p l e R s m args below meth c 4 D cA A n0 s0 QM σ 10 [(2, .long v2)] [] := by
  intro σ v2 h hGσ hS H locs ls hH hl hc
  have B := K.1
  unfold w_J9_max_f86c9_10 at h
  refine lv_lload_n B.1 B.2.1 dJ9_max_f86c9_10 rfl (lv_at hl 0 rfl) ?_
  exact a_J9_max_f86c9_11 K hQ hX _ _ h hGσ hS _ _ _ hH (lv_sub (l' := []) hl [] rfl) hc
set_option maxRecDepth 20000 in
theorem a_J9_max_f86c9_6 {Q : Sg → Int64 → Prop} {X : Sg → String → Prop} (K : MC R p s m args c cJ9_max_f86c9 4 yJ9_max_f86c9.cls D cA tys A n0 s0 0 0 []) (hQ : HQJ p l e R s m args below meth c cJ9_max_f86c9 D cA A n0 s0 QM dm ra jx rm Q) (hX : HX p l e R s m args below meth c 4 D cA A n0 s0 QM dm ra jx rm X) : ∀ (σ : Sg) (v0 : Int64), w_J9_max_f86c9_6 ra jx rm Q X σ v0 → RG σ → Shp dm ra jx rm σ → JJ p l e R s m args below meth c 4 D cA A n0 s0 QM σ 6 [(0, .long v0)] [] := by
  intro σ v0 h hGσ hS H locs ls hH hl hc
  have B := K.1
  unfold w_J9_max_f86c9_6 at h
  refine lv_lload_n B.1 B.2.1 dJ9_max_f86c9_6 rfl (lv_at hl 0 rfl) ?_
  refine lv_goto (tgt := 11) B.1 B.2.1 dJ9_max_f86c9_7 (by decide) ?_
  exact a_J9_max_f86c9_11 K hQ hX _ _ h hGσ hS _ _ _ hH (lv_sub (l' := []) hl [] rfl) hc
set_option maxRecDepth 20000 in
theorem a_J9_max_f86c9_0 {Q : Sg → Int64 → Prop} {X : Sg → String → Prop} (K : MC R p s m args c cJ9_max_f86c9 4 yJ9_max_f86c9.cls D cA tys A n0 s0 0 0 []) (hQ : HQJ p l e R s m args below meth c cJ9_max_f86c9 D cA A n0 s0 QM dm ra jx rm Q) (hX : HX p l e R s m args below meth c 4 D cA A n0 s0 QM dm ra jx rm X) : ∀ (σ : Sg) (v0 : Int64) (v2 : Int64), w_J9_max_f86c9_0 ra jx rm Q X σ v0 v2 → RG σ → Shp dm ra jx rm σ → JJ p l e R s m args below meth c 4 D cA A n0 s0 QM σ 0 [(0, .long v0), (2, .long v2)] [] := by
  intro σ v0 v2 h hGσ hS H locs ls hH hl hc
  have B := K.1
  unfold w_J9_max_f86c9_0 at h
  refine lv_lload_n B.1 B.2.1 dJ9_max_f86c9_0 rfl (lv_at hl 0 rfl) ?_
  refine lv_lload_n B.1 B.2.1 dJ9_max_f86c9_1 rfl (lv_at hl 1 rfl) ?_
  refine W.lcmp B.1 B.2.1 dJ9_max_f86c9_2 ?_
  refine lv_if_lt (tgt := 10) B.1 B.2.1 dJ9_max_f86c9_3 (by decide) (fun h9 => ?_) (fun h9 => ?_)
  · rw [if_pos ((lg_cmp_lt _ _).mp h9)] at h
    exact a_J9_max_f86c9_10 K hQ hX _ _ h hGσ hS _ _ _ hH (lv_sub (l' := [(2, .long v2)]) hl [1] rfl) hc
  · rw [if_neg (fun q => h9 ((lg_cmp_lt _ _).mpr q))] at h
    exact a_J9_max_f86c9_6 K hQ hX _ _ h hGσ hS _ _ _ hH (lv_sub (l' := [(0, .long v0)]) hl [0] rfl) hc
theorem ok_J9_max_f86c9 (hT : Tys cA tys) {Q : Sg → Int64 → Prop} {X : Sg → String → Prop} (σ : Sg) (v0 : Int64) (v2 : Int64) (hG : RG σ) (hS : Shp dm ra jx rm σ) (h : wp_J9_max_f86c9 ra jx rm v0 v2 σ Q X) : Ok l D cA tys A yJ9_max_f86c9 (.code yJ9_max_f86c9 cJ9_max_f86c9 4 (some .long)) 0 0 [.long v0, .long v2] σ (QnJ dm ra jx rm Q) (QxR dm ra jx rm X) := by
  unfold wp_J9_max_f86c9 at h
  exact ok_J (by decide +kernel) (by exact Nat.le_of_ble_eq_true rfl) hT (fun p e R s m args below meth c K hQ hX H locs ls hH hl hc => a_J9_max_f86c9_0 K hQ hX σ v0 v2 h hG hS H locs ls hH (lv_sub (l' := [(0, .long v0), (2, .long v2)]) hl [0, 1] rfl) hc)
def w_J9_min_f86c9_11 (ra : Nat → Nat) (jx : Nat → Nat → Nat) (rm : Nat) (Q : Sg → Int64 → Prop) (X : Sg → String → Prop) (σ : Sg) (u0 : Int64) : Prop := Q σ u0
def w_J9_min_f86c9_10 (ra : Nat → Nat) (jx : Nat → Nat → Nat) (rm : Nat) (Q : Sg → Int64 → Prop) (X : Sg → String → Prop) (σ : Sg) (v2 : Int64) : Prop := w_J9_min_f86c9_11 ra jx rm Q X σ v2
def w_J9_min_f86c9_6 (ra : Nat → Nat) (jx : Nat → Nat → Nat) (rm : Nat) (Q : Sg → Int64 → Prop) (X : Sg → String → Prop) (σ : Sg) (v0 : Int64) : Prop := w_J9_min_f86c9_11 ra jx rm Q X σ v0
def w_J9_min_f86c9_0 (ra : Nat → Nat) (jx : Nat → Nat → Nat) (rm : Nat) (Q : Sg → Int64 → Prop) (X : Sg → String → Prop) (σ : Sg) (v0 : Int64) (v2 : Int64) : Prop := (if v0 > v2 then w_J9_min_f86c9_10 ra jx rm Q X σ v2 else w_J9_min_f86c9_6 ra jx rm Q X σ v0)
def wp_J9_min_f86c9 (ra : Nat → Nat) (jx : Nat → Nat → Nat) (rm : Nat) (v0 : Int64) (v2 : Int64) (σ : Sg) (Q : Sg → Int64 → Prop) (X : Sg → String → Prop) : Prop := w_J9_min_f86c9_0 ra jx rm Q X σ v0 v2
theorem mj_J9_min_f86c9 {ra : Nat → Nat} {jx : Nat → Nat → Nat} {rm : Nat} {x y : Int64} {σ : Sg} : wp_J9_min_f86c9 ra jx rm x y σ (fun σ' r => σ = σ' ∧ r = minJ x y) (fun _ _ => False) := by
  unfold wp_J9_min_f86c9 w_J9_min_f86c9_0 w_J9_min_f86c9_6 w_J9_min_f86c9_10 w_J9_min_f86c9_11
  unfold minJ
  split <;> split <;> first | exact ⟨rfl, rfl⟩ | (exfalso; rename_i a9 b9; simp only [Int64.lt_iff_toInt_lt, Int64.le_iff_toInt_le, ge_iff_le, gt_iff_lt] at a9 b9; omega)
theorem dJ9_min_f86c9_0 : decode cJ9_min_f86c9 0 = .ok (.lload_n 0, 1) := by decide +kernel
theorem dJ9_min_f86c9_1 : decode cJ9_min_f86c9 1 = .ok (.lload_n 2, 1) := by decide +kernel
theorem dJ9_min_f86c9_2 : decode cJ9_min_f86c9 2 = .ok (.lcmp, 1) := by decide +kernel
theorem dJ9_min_f86c9_3 : decode cJ9_min_f86c9 3 = .ok (.ifCond .gt 7, 3) := by decide +kernel
theorem dJ9_min_f86c9_6 : decode cJ9_min_f86c9 6 = .ok (.lload_n 0, 1) := by decide +kernel
theorem dJ9_min_f86c9_7 : decode cJ9_min_f86c9 7 = .ok (.goto 4, 3) := by decide +kernel
theorem dJ9_min_f86c9_10 : decode cJ9_min_f86c9 10 = .ok (.lload_n 2, 1) := by decide +kernel
theorem dJ9_min_f86c9_11 : decode cJ9_min_f86c9 11 = .ok (.lreturn, 1) := by decide +kernel
set_option maxRecDepth 20000 in
theorem a_J9_min_f86c9_11 {Q : Sg → Int64 → Prop} {X : Sg → String → Prop} (K : MC R p s m args c cJ9_min_f86c9 4 yJ9_min_f86c9.cls D cA tys A n0 s0 0 0 []) (hQ : HQJ p l e R s m args below meth c cJ9_min_f86c9 D cA A n0 s0 QM dm ra jx rm Q) (hX : HX p l e R s m args below meth c 4 D cA A n0 s0 QM dm ra jx rm X) : ∀ (σ : Sg) (u0 : Int64), w_J9_min_f86c9_11 ra jx rm Q X σ u0 → RG σ → Shp dm ra jx rm σ → JJ p l e R s m args below meth c 4 D cA A n0 s0 QM σ 11 [] [.long u0] := by
  intro σ u0 h hGσ hS H locs ls hH hl hc
  have B := K.1
  unfold w_J9_min_f86c9_11 at h
  exact hQ _ _ _ _ _ _ dJ9_min_f86c9_11 hH hc h hGσ hS
set_option maxRecDepth 20000 in
theorem a_J9_min_f86c9_10 {Q : Sg → Int64 → Prop} {X : Sg → String → Prop} (K : MC R p s m args c cJ9_min_f86c9 4 yJ9_min_f86c9.cls D cA tys A n0 s0 0 0 []) (hQ : HQJ p l e R s m args below meth c cJ9_min_f86c9 D cA A n0 s0 QM dm ra jx rm Q) (hX : HX p l e R s m args below meth c 4 D cA A n0 s0 QM dm ra jx rm X) : ∀ (σ : Sg) (v2 : Int64), w_J9_min_f86c9_10 ra jx rm Q X σ v2 → RG σ → Shp dm ra jx rm σ → JJ p l e R s m args below meth c 4 D cA A n0 s0 QM σ 10 [(2, .long v2)] [] := by
  intro σ v2 h hGσ hS H locs ls hH hl hc
  have B := K.1
  unfold w_J9_min_f86c9_10 at h
  refine lv_lload_n B.1 B.2.1 dJ9_min_f86c9_10 rfl (lv_at hl 0 rfl) ?_
  exact a_J9_min_f86c9_11 K hQ hX _ _ h hGσ hS _ _ _ hH (lv_sub (l' := []) hl [] rfl) hc
set_option maxRecDepth 20000 in
theorem a_J9_min_f86c9_6 {Q : Sg → Int64 → Prop} {X : Sg → String → Prop} (K : MC R p s m args c cJ9_min_f86c9 4 yJ9_min_f86c9.cls D cA tys A n0 s0 0 0 []) (hQ : HQJ p l e R s m args below meth c cJ9_min_f86c9 D cA A n0 s0 QM dm ra jx rm Q) (hX : HX p l e R s m args below meth c 4 D cA A n0 s0 QM dm ra jx rm X) : ∀ (σ : Sg) (v0 : Int64), w_J9_min_f86c9_6 ra jx rm Q X σ v0 → RG σ → Shp dm ra jx rm σ → JJ p l e R s m args below meth c 4 D cA A n0 s0 QM σ 6 [(0, .long v0)] [] := by
  intro σ v0 h hGσ hS H locs ls hH hl hc
  have B := K.1
  unfold w_J9_min_f86c9_6 at h
  refine lv_lload_n B.1 B.2.1 dJ9_min_f86c9_6 rfl (lv_at hl 0 rfl) ?_
  refine lv_goto (tgt := 11) B.1 B.2.1 dJ9_min_f86c9_7 (by decide) ?_
  exact a_J9_min_f86c9_11 K hQ hX _ _ h hGσ hS _ _ _ hH (lv_sub (l' := []) hl [] rfl) hc
set_option maxRecDepth 20000 in
theorem a_J9_min_f86c9_0 {Q : Sg → Int64 → Prop} {X : Sg → String → Prop} (K : MC R p s m args c cJ9_min_f86c9 4 yJ9_min_f86c9.cls D cA tys A n0 s0 0 0 []) (hQ : HQJ p l e R s m args below meth c cJ9_min_f86c9 D cA A n0 s0 QM dm ra jx rm Q) (hX : HX p l e R s m args below meth c 4 D cA A n0 s0 QM dm ra jx rm X) : ∀ (σ : Sg) (v0 : Int64) (v2 : Int64), w_J9_min_f86c9_0 ra jx rm Q X σ v0 v2 → RG σ → Shp dm ra jx rm σ → JJ p l e R s m args below meth c 4 D cA A n0 s0 QM σ 0 [(0, .long v0), (2, .long v2)] [] := by
  intro σ v0 v2 h hGσ hS H locs ls hH hl hc
  have B := K.1
  unfold w_J9_min_f86c9_0 at h
  refine lv_lload_n B.1 B.2.1 dJ9_min_f86c9_0 rfl (lv_at hl 0 rfl) ?_
  refine lv_lload_n B.1 B.2.1 dJ9_min_f86c9_1 rfl (lv_at hl 1 rfl) ?_
  refine W.lcmp B.1 B.2.1 dJ9_min_f86c9_2 ?_
  refine lv_if_gt (tgt := 10) B.1 B.2.1 dJ9_min_f86c9_3 (by decide) (fun h9 => ?_) (fun h9 => ?_)
  · rw [if_pos ((lg_cmp_gt _ _).mp h9)] at h
    exact a_J9_min_f86c9_10 K hQ hX _ _ h hGσ hS _ _ _ hH (lv_sub (l' := [(2, .long v2)]) hl [1] rfl) hc
  · rw [if_neg (fun q => h9 ((lg_cmp_gt _ _).mpr q))] at h
    exact a_J9_min_f86c9_6 K hQ hX _ _ h hGσ hS _ _ _ hH (lv_sub (l' := [(0, .long v0)]) hl [0] rfl) hc
theorem ok_J9_min_f86c9 (hT : Tys cA tys) {Q : Sg → Int64 → Prop} {X : Sg → String → Prop} (σ : Sg) (v0 : Int64) (v2 : Int64) (hG : RG σ) (hS : Shp dm ra jx rm σ) (h : wp_J9_min_f86c9 ra jx rm v0 v2 σ Q X) : Ok l D cA tys A yJ9_min_f86c9 (.code yJ9_min_f86c9 cJ9_min_f86c9 4 (some .long)) 0 0 [.long v0, .long v2] σ (QnJ dm ra jx rm Q) (QxR dm ra jx rm X) := by
  unfold wp_J9_min_f86c9 at h
  exact ok_J (by decide +kernel) (by exact Nat.le_of_ble_eq_true rfl) hT (fun p e R s m args below meth c K hQ hX H locs ls hH hl hc => a_J9_min_f86c9_0 K hQ hX σ v0 v2 h hG hS H locs ls hH (lv_sub (l' := [(0, .long v0), (2, .long v2)]) hl [0, 1] rfl) hc)
def w_J0_coder_7d493_14 (ra : Nat → Nat) (jx : Nat → Nat → Nat) (rm : Nat) (Q : Sg → Int → Prop) (X : Sg → String → Prop) (σ : Sg) (v0 : Nat) (u0 : Int) : Prop := ((u0 = 0 ∨ u0 = 1) ∧ Q σ u0)
def w_J0_coder_7d493_13 (ra : Nat → Nat) (jx : Nat → Nat → Nat) (rm : Nat) (Q : Sg → Int → Prop) (X : Sg → String → Prop) (σ : Sg) (v0 : Nat) : Prop := w_J0_coder_7d493_14 ra jx rm Q X σ v0 1
def w_J0_coder_7d493_6 (ra : Nat → Nat) (jx : Nat → Nat → Nat) (rm : Nat) (Q : Sg → Int → Prop) (X : Sg → String → Prop) (σ : Sg) (v0 : Nat) : Prop := w_J0_coder_7d493_14 ra jx rm Q X σ v0 (0 : Int)
def w_J0_coder_7d493_0 (ra : Nat → Nat) (jx : Nat → Nat → Nat) (rm : Nat) (Q : Sg → Int → Prop) (X : Sg → String → Prop) (σ : Sg) (v0 : Nat) : Prop := (if (1 : Int) = 0 then w_J0_coder_7d493_13 ra jx rm Q X σ v0 else w_J0_coder_7d493_6 ra jx rm Q X σ v0)
def wp_J0_coder_7d493 (ra : Nat → Nat) (jx : Nat → Nat → Nat) (rm : Nat) (v0 : Nat) (σ : Sg) (Q : Sg → Int → Prop) (X : Sg → String → Prop) : Prop := w_J0_coder_7d493_0 ra jx rm Q X σ v0
def w_J0_isLatin1_aae02_18 (ra : Nat → Nat) (jx : Nat → Nat → Nat) (rm : Nat) (Q : Sg → Int → Prop) (X : Sg → String → Prop) (σ : Sg) (v0 : Nat) (u0 : Int) : Prop := ((u0 = 0 ∨ u0 = 1) ∧ Q σ u0)
def w_J0_isLatin1_aae02_17 (ra : Nat → Nat) (jx : Nat → Nat → Nat) (rm : Nat) (Q : Sg → Int → Prop) (X : Sg → String → Prop) (σ : Sg) (v0 : Nat) : Prop := w_J0_isLatin1_aae02_18 ra jx rm Q X σ v0 0
def w_J0_isLatin1_aae02_13 (ra : Nat → Nat) (jx : Nat → Nat → Nat) (rm : Nat) (Q : Sg → Int → Prop) (X : Sg → String → Prop) (σ : Sg) (v0 : Nat) : Prop := w_J0_isLatin1_aae02_18 ra jx rm Q X σ v0 1
def w_J0_isLatin1_aae02_6 (ra : Nat → Nat) (jx : Nat → Nat → Nat) (rm : Nat) (Q : Sg → Int → Prop) (X : Sg → String → Prop) (σ : Sg) (v0 : Nat) : Prop := (if (0 : Int) ≠ 0 then w_J0_isLatin1_aae02_17 ra jx rm Q X σ v0 else w_J0_isLatin1_aae02_13 ra jx rm Q X σ v0)
def w_J0_isLatin1_aae02_0 (ra : Nat → Nat) (jx : Nat → Nat → Nat) (rm : Nat) (Q : Sg → Int → Prop) (X : Sg → String → Prop) (σ : Sg) (v0 : Nat) : Prop := (if (1 : Int) = 0 then w_J0_isLatin1_aae02_17 ra jx rm Q X σ v0 else w_J0_isLatin1_aae02_6 ra jx rm Q X σ v0)
def wp_J0_isLatin1_aae02 (ra : Nat → Nat) (jx : Nat → Nat → Nat) (rm : Nat) (v0 : Nat) (σ : Sg) (Q : Sg → Int → Prop) (X : Sg → String → Prop) : Prop := w_J0_isLatin1_aae02_0 ra jx rm Q X σ v0
def w_J0_length_8abf5_0 (ra : Nat → Nat) (jx : Nat → Nat → Nat) (rm : Nat) (Q : Sg → Int → Prop) (X : Sg → String → Prop) (σ : Sg) (v0 : Nat) : Prop := (wp_J0_coder_7d493 ra jx rm v0 σ (fun σ3 r4 => Q σ3 (shrI (bln v0) r4)) X)
def wp_J0_length_8abf5 (ra : Nat → Nat) (jx : Nat → Nat → Nat) (rm : Nat) (v0 : Nat) (σ : Sg) (Q : Sg → Int → Prop) (X : Sg → String → Prop) : Prop := w_J0_length_8abf5_0 ra jx rm Q X σ v0
def w_J3_checkIndex_8e157_9 (ra : Nat → Nat) (jx : Nat → Nat → Nat) (rm : Nat) (Q : Sg → Int → Prop) (X : Sg → String → Prop) (σ : Sg) (v0 : Int) (v1 : Int) (v2 : Option Nat) : Prop := False ∧ False
def w_J3_checkIndex_8e157_16 (ra : Nat → Nat) (jx : Nat → Nat → Nat) (rm : Nat) (Q : Sg → Int → Prop) (X : Sg → String → Prop) (σ : Sg) (v0 : Int) (v1 : Int) (v2 : Option Nat) : Prop := Q σ v0
def w_J3_checkIndex_8e157_4 (ra : Nat → Nat) (jx : Nat → Nat → Nat) (rm : Nat) (Q : Sg → Int → Prop) (X : Sg → String → Prop) (σ : Sg) (v0 : Int) (v1 : Int) (v2 : Option Nat) : Prop := (if v0 < v1 then w_J3_checkIndex_8e157_16 ra jx rm Q X σ v0 v1 v2 else w_J3_checkIndex_8e157_9 ra jx rm Q X σ v0 v1 v2)
def w_J3_checkIndex_8e157_0 (ra : Nat → Nat) (jx : Nat → Nat → Nat) (rm : Nat) (Q : Sg → Int → Prop) (X : Sg → String → Prop) (σ : Sg) (v0 : Int) (v1 : Int) (v2 : Option Nat) : Prop := (if v0 < 0 then w_J3_checkIndex_8e157_9 ra jx rm Q X σ v0 v1 v2 else w_J3_checkIndex_8e157_4 ra jx rm Q X σ v0 v1 v2)
def wp_J3_checkIndex_8e157 (ra : Nat → Nat) (jx : Nat → Nat → Nat) (rm : Nat) (v0 : Int) (v1 : Int) (v2 : Option Nat) (σ : Sg) (Q : Sg → Int → Prop) (X : Sg → String → Prop) : Prop := w_J3_checkIndex_8e157_0 ra jx rm Q X σ v0 v1 v2
def w_J0_checkIndex_df160_0 (ra : Nat → Nat) (jx : Nat → Nat → Nat) (rm : Nat) (Q : Sg → Unit → Prop) (X : Sg → String → Prop) (σ : Sg) (v0 : Int) (v1 : Int) : Prop := ∀ f4 : Option Nat, (wp_J3_checkIndex_8e157 ra jx rm v0 v1 f4 σ (fun σ5 r6 => Q σ5 ()) X)
def wp_J0_checkIndex_df160 (ra : Nat → Nat) (jx : Nat → Nat → Nat) (rm : Nat) (v0 : Int) (v1 : Int) (σ : Sg) (Q : Sg → Unit → Prop) (X : Sg → String → Prop) : Prop := w_J0_checkIndex_df160_0 ra jx rm Q X σ v0 v1
def w_J1_charAt_3b067_0 (ra : Nat → Nat) (jx : Nat → Nat → Nat) (rm : Nat) (Q : Sg → Int → Prop) (X : Sg → String → Prop) (σ : Sg) (v0 : Nat) (v1 : Int) : Prop := (wp_J0_checkIndex_df160 ra jx rm v1 (bln v0) σ (fun σ2 (_ : Unit) => (0 ≤ v1 ∧ v1 < bln v0) ∧ ((0 ≤ ((i32 ((i32 (by_ v0 v1) &&& i32 255).toInt)).toUInt32 % 65536).toInt32.toInt ∧ ((i32 ((i32 (by_ v0 v1) &&& i32 255).toInt)).toUInt32 % 65536).toInt32.toInt < 65536) ∧ Q σ2 (((i32 ((i32 (by_ v0 v1) &&& i32 255).toInt)).toUInt32 % 65536).toInt32.toInt))) X)
def wp_J1_charAt_3b067 (ra : Nat → Nat) (jx : Nat → Nat → Nat) (rm : Nat) (v0 : Nat) (v1 : Int) (σ : Sg) (Q : Sg → Int → Prop) (X : Sg → String → Prop) : Prop := w_J1_charAt_3b067_0 ra jx rm Q X σ v0 v1
def w_J0_charAt_5068e_16 (ra : Nat → Nat) (jx : Nat → Nat → Nat) (rm : Nat) (Q : Sg → Int → Prop) (X : Sg → String → Prop) (σ : Sg) (v0 : Nat) (v1 : Int) : Prop := False ∧ ((0 ≤ 0 ∧ 0 < 65536) ∧ Q σ 0)
def w_J0_charAt_5068e_7 (ra : Nat → Nat) (jx : Nat → Nat → Nat) (rm : Nat) (Q : Sg → Int → Prop) (X : Sg → String → Prop) (σ : Sg) (v0 : Nat) (v1 : Int) : Prop := (wp_J1_charAt_3b067 ra jx rm v0 v1 σ (fun σ7 r8 => ((0 ≤ r8 ∧ r8 < 65536) ∧ Q σ7 r8)) X)
def w_J0_charAt_5068e_0 (ra : Nat → Nat) (jx : Nat → Nat → Nat) (rm : Nat) (Q : Sg → Int → Prop) (X : Sg → String → Prop) (σ : Sg) (v0 : Nat) (v1 : Int) : Prop := (wp_J0_isLatin1_aae02 ra jx rm v0 σ (fun σ5 r6 => (if r6 = 0 then w_J0_charAt_5068e_16 ra jx rm Q X σ5 v0 v1 else w_J0_charAt_5068e_7 ra jx rm Q X σ5 v0 v1)) X)
def wp_J0_charAt_5068e (ra : Nat → Nat) (jx : Nat → Nat → Nat) (rm : Nat) (v0 : Nat) (v1 : Int) (σ : Sg) (Q : Sg → Int → Prop) (X : Sg → String → Prop) : Prop := w_J0_charAt_5068e_0 ra jx rm Q X σ v0 v1
def w_J1_canEncode_9a6ad_16 (ra : Nat → Nat) (jx : Nat → Nat → Nat) (rm : Nat) (Q : Sg → Int → Prop) (X : Sg → String → Prop) (σ : Sg) (v0 : Int) (u0 : Int) : Prop := ((u0 = 0 ∨ u0 = 1) ∧ Q σ u0)
def w_J1_canEncode_9a6ad_15 (ra : Nat → Nat) (jx : Nat → Nat → Nat) (rm : Nat) (Q : Sg → Int → Prop) (X : Sg → String → Prop) (σ : Sg) (v0 : Int) : Prop := w_J1_canEncode_9a6ad_16 ra jx rm Q X σ v0 0
def w_J1_canEncode_9a6ad_11 (ra : Nat → Nat) (jx : Nat → Nat → Nat) (rm : Nat) (Q : Sg → Int → Prop) (X : Sg → String → Prop) (σ : Sg) (v0 : Int) : Prop := w_J1_canEncode_9a6ad_16 ra jx rm Q X σ v0 1
def w_J1_canEncode_9a6ad_4 (ra : Nat → Nat) (jx : Nat → Nat → Nat) (rm : Nat) (Q : Sg → Int → Prop) (X : Sg → String → Prop) (σ : Sg) (v0 : Int) : Prop := (if v0 > 255 then w_J1_canEncode_9a6ad_15 ra jx rm Q X σ v0 else w_J1_canEncode_9a6ad_11 ra jx rm Q X σ v0)
def w_J1_canEncode_9a6ad_0 (ra : Nat → Nat) (jx : Nat → Nat → Nat) (rm : Nat) (Q : Sg → Int → Prop) (X : Sg → String → Prop) (σ : Sg) (v0 : Int) : Prop := (if v0 < 0 then w_J1_canEncode_9a6ad_15 ra jx rm Q X σ v0 else w_J1_canEncode_9a6ad_4 ra jx rm Q X σ v0)
def wp_J1_canEncode_9a6ad (ra : Nat → Nat) (jx : Nat → Nat → Nat) (rm : Nat) (v0 : Int) (σ : Sg) (Q : Sg → Int → Prop) (X : Sg → String → Prop) : Prop := w_J1_canEncode_9a6ad_0 ra jx rm Q X σ v0
def w_J1_indexOfChar_4cfef_31 (ra : Nat → Nat) (jx : Nat → Nat → Nat) (rm : Nat) (Q : Sg → Int → Prop) (X : Sg → String → Prop) (σ : Sg) (v0 : Nat) (v1 : Int) (v2 : Int) (v3 : Int) (v4 : Int) (v5 : Int) : Prop := Q σ (-1)
def w_J1_indexOfChar_4cfef_25 (ra : Nat → Nat) (jx : Nat → Nat → Nat) (rm : Nat) (K7 : Sg → Nat → Int → Int → Int → Int → Int → Prop) (Q : Sg → Int → Prop) (X : Sg → String → Prop) (σ : Sg) (v0 : Nat) (v1 : Int) (v2 : Int) (v3 : Int) (v4 : Int) (v5 : Int) : Prop := rng (v5 + 1) ∧ K7 σ v0 v1 v2 v3 v4 (v5 + 1)
def w_J1_indexOfChar_4cfef_22 (ra : Nat → Nat) (jx : Nat → Nat → Nat) (rm : Nat) (Q : Sg → Int → Prop) (X : Sg → String → Prop) (σ : Sg) (v0 : Nat) (v1 : Int) (v2 : Int) (v3 : Int) (v4 : Int) (v5 : Int) : Prop := Q σ v5
def w_J1_indexOfChar_4cfef_13 (ra : Nat → Nat) (jx : Nat → Nat → Nat) (rm : Nat) (K7 : Sg → Nat → Int → Int → Int → Int → Int → Prop) (Q : Sg → Int → Prop) (X : Sg → String → Prop) (σ : Sg) (v0 : Nat) (v1 : Int) (v2 : Int) (v3 : Int) (v4 : Int) (v5 : Int) : Prop := (0 ≤ v5 ∧ v5 < bln v0) ∧ (if (by_ v0 v5) ≠ v4 then w_J1_indexOfChar_4cfef_25 ra jx rm K7 Q X σ v0 v1 v2 v3 v4 v5 else w_J1_indexOfChar_4cfef_22 ra jx rm Q X σ v0 v1 v2 v3 v4 v5)
def w_J1_indexOfChar_4cfef_7 (ra : Nat → Nat) (jx : Nat → Nat → Nat) (rm : Nat) (K7 : Sg → Nat → Int → Int → Int → Int → Int → Prop) (Q : Sg → Int → Prop) (X : Sg → String → Prop) (σ : Sg) (v0 : Nat) (v1 : Int) (v2 : Int) (v3 : Int) (v4 : Int) (v5 : Int) : Prop := (if v5 ≥ v3 then w_J1_indexOfChar_4cfef_31 ra jx rm Q X σ v0 v1 v2 v3 v4 v5 else w_J1_indexOfChar_4cfef_13 ra jx rm K7 Q X σ v0 v1 v2 v3 v4 v5)
def wl_J1_indexOfChar_4cfef_7 (ra : Nat → Nat) (jx : Nat → Nat → Nat) (rm : Nat) (Q : Sg → Int → Prop) (X : Sg → String → Prop) : Nat → Sg → Nat → Int → Int → Int → Int → Int → Prop
  | 0, _, _, _, _, _, _, _ => False
  | n + 1, σ, x0, x1, x2, x3, x4, x5 => w_J1_indexOfChar_4cfef_7 ra jx rm (wl_J1_indexOfChar_4cfef_7 ra jx rm Q X n) Q X σ x0 x1 x2 x3 x4 x5
def w_J1_indexOfChar_4cfef_0 (ra : Nat → Nat) (jx : Nat → Nat → Nat) (rm : Nat) (Q : Sg → Int → Prop) (X : Sg → String → Prop) (σ : Sg) (v0 : Nat) (v1 : Int) (v2 : Int) (v3 : Int) : Prop := (∃ n, wl_J1_indexOfChar_4cfef_7 ra jx rm Q X n σ v0 v1 v2 v3 ((i32 v1).toInt8.toInt32.toInt) v2)
def wp_J1_indexOfChar_4cfef (ra : Nat → Nat) (jx : Nat → Nat → Nat) (rm : Nat) (v0 : Nat) (v1 : Int) (v2 : Int) (v3 : Int) (σ : Sg) (Q : Sg → Int → Prop) (X : Sg → String → Prop) : Prop := w_J1_indexOfChar_4cfef_0 ra jx rm Q X σ v0 v1 v2 v3
def w_J9_max_7cf53_10 (ra : Nat → Nat) (jx : Nat → Nat → Nat) (rm : Nat) (Q : Sg → Int → Prop) (X : Sg → String → Prop) (σ : Sg) (u0 : Int) : Prop := Q σ u0
def w_J9_max_7cf53_9 (ra : Nat → Nat) (jx : Nat → Nat → Nat) (rm : Nat) (Q : Sg → Int → Prop) (X : Sg → String → Prop) (σ : Sg) (v1 : Int) : Prop := w_J9_max_7cf53_10 ra jx rm Q X σ v1
def w_J9_max_7cf53_5 (ra : Nat → Nat) (jx : Nat → Nat → Nat) (rm : Nat) (Q : Sg → Int → Prop) (X : Sg → String → Prop) (σ : Sg) (v0 : Int) : Prop := w_J9_max_7cf53_10 ra jx rm Q X σ v0
def w_J9_max_7cf53_0 (ra : Nat → Nat) (jx : Nat → Nat → Nat) (rm : Nat) (Q : Sg → Int → Prop) (X : Sg → String → Prop) (σ : Sg) (v0 : Int) (v1 : Int) : Prop := (if v0 < v1 then w_J9_max_7cf53_9 ra jx rm Q X σ v1 else w_J9_max_7cf53_5 ra jx rm Q X σ v0)
def wp_J9_max_7cf53 (ra : Nat → Nat) (jx : Nat → Nat → Nat) (rm : Nat) (v0 : Int) (v1 : Int) (σ : Sg) (Q : Sg → Int → Prop) (X : Sg → String → Prop) : Prop := w_J9_max_7cf53_0 ra jx rm Q X σ v0 v1
def w_J9_min_7cf53_10 (ra : Nat → Nat) (jx : Nat → Nat → Nat) (rm : Nat) (Q : Sg → Int → Prop) (X : Sg → String → Prop) (σ : Sg) (u0 : Int) : Prop := Q σ u0
def w_J9_min_7cf53_9 (ra : Nat → Nat) (jx : Nat → Nat → Nat) (rm : Nat) (Q : Sg → Int → Prop) (X : Sg → String → Prop) (σ : Sg) (v1 : Int) : Prop := w_J9_min_7cf53_10 ra jx rm Q X σ v1
def w_J9_min_7cf53_5 (ra : Nat → Nat) (jx : Nat → Nat → Nat) (rm : Nat) (Q : Sg → Int → Prop) (X : Sg → String → Prop) (σ : Sg) (v0 : Int) : Prop := w_J9_min_7cf53_10 ra jx rm Q X σ v0
def w_J9_min_7cf53_0 (ra : Nat → Nat) (jx : Nat → Nat → Nat) (rm : Nat) (Q : Sg → Int → Prop) (X : Sg → String → Prop) (σ : Sg) (v0 : Int) (v1 : Int) : Prop := (if v0 > v1 then w_J9_min_7cf53_9 ra jx rm Q X σ v1 else w_J9_min_7cf53_5 ra jx rm Q X σ v0)
def wp_J9_min_7cf53 (ra : Nat → Nat) (jx : Nat → Nat → Nat) (rm : Nat) (v0 : Int) (v1 : Int) (σ : Sg) (Q : Sg → Int → Prop) (X : Sg → String → Prop) : Prop := w_J9_min_7cf53_0 ra jx rm Q X σ v0 v1
def w_J1_indexOf_4cfef_29 (ra : Nat → Nat) (jx : Nat → Nat → Nat) (rm : Nat) (Q : Sg → Int → Prop) (X : Sg → String → Prop) (σ : Sg) (v0 : Nat) (v1 : Int) (v2 : Int) (v3 : Int) : Prop := (wp_J1_indexOfChar_4cfef ra jx rm v0 v1 v2 v3 σ (fun σ15 r16 => Q σ15 r16) X)
def w_J1_indexOf_4cfef_27 (ra : Nat → Nat) (jx : Nat → Nat → Nat) (rm : Nat) (Q : Sg → Int → Prop) (X : Sg → String → Prop) (σ : Sg) (v0 : Nat) (v1 : Int) (v2 : Int) (v3 : Int) : Prop := Q σ (-1)
def w_J1_indexOf_4cfef_9 (ra : Nat → Nat) (jx : Nat → Nat → Nat) (rm : Nat) (Q : Sg → Int → Prop) (X : Sg → String → Prop) (σ : Sg) (v0 : Nat) (v1 : Int) (v2 : Int) (v3 : Int) : Prop := (wp_J9_max_7cf53 ra jx rm v2 0 σ (fun σ11 r12 => (wp_J9_min_7cf53 ra jx rm v3 (bln v0) σ11 (fun σ13 r14 => (if r12 < r14 then w_J1_indexOf_4cfef_29 ra jx rm Q X σ13 v0 v1 r12 r14 else w_J1_indexOf_4cfef_27 ra jx rm Q X σ13 v0 v1 r12 r14)) X)) X)
def w_J1_indexOf_4cfef_7 (ra : Nat → Nat) (jx : Nat → Nat → Nat) (rm : Nat) (Q : Sg → Int → Prop) (X : Sg → String → Prop) (σ : Sg) (v0 : Nat) (v1 : Int) (v2 : Int) (v3 : Int) : Prop := Q σ (-1)
def w_J1_indexOf_4cfef_0 (ra : Nat → Nat) (jx : Nat → Nat → Nat) (rm : Nat) (Q : Sg → Int → Prop) (X : Sg → String → Prop) (σ : Sg) (v0 : Nat) (v1 : Int) (v2 : Int) (v3 : Int) : Prop := (wp_J1_canEncode_9a6ad ra jx rm v1 σ (fun σ9 r10 => (if r10 ≠ 0 then w_J1_indexOf_4cfef_9 ra jx rm Q X σ9 v0 v1 v2 v3 else w_J1_indexOf_4cfef_7 ra jx rm Q X σ9 v0 v1 v2 v3)) X)
def wp_J1_indexOf_4cfef (ra : Nat → Nat) (jx : Nat → Nat → Nat) (rm : Nat) (v0 : Nat) (v1 : Int) (v2 : Int) (v3 : Int) (σ : Sg) (Q : Sg → Int → Prop) (X : Sg → String → Prop) : Prop := w_J1_indexOf_4cfef_0 ra jx rm Q X σ v0 v1 v2 v3
def w_J0_indexOf_7cf53_36 (ra : Nat → Nat) (jx : Nat → Nat → Nat) (rm : Nat) (Q : Sg → Int → Prop) (X : Sg → String → Prop) (σ : Sg) (v0 : Nat) (v1 : Int) (v2 : Int) (u0 : Int) : Prop := Q σ u0
def w_J0_indexOf_7cf53_23 (ra : Nat → Nat) (jx : Nat → Nat → Nat) (rm : Nat) (Q : Sg → Int → Prop) (X : Sg → String → Prop) (σ : Sg) (v0 : Nat) (v1 : Int) (v2 : Int) : Prop := (wp_J0_length_8abf5 ra jx rm v0 σ (fun σ15 r16 => False ∧ w_J0_indexOf_7cf53_36 ra jx rm Q X σ15 v0 v1 v2 0) X)
def w_J0_indexOf_7cf53_7 (ra : Nat → Nat) (jx : Nat → Nat → Nat) (rm : Nat) (Q : Sg → Int → Prop) (X : Sg → String → Prop) (σ : Sg) (v0 : Nat) (v1 : Int) (v2 : Int) : Prop := (wp_J0_length_8abf5 ra jx rm v0 σ (fun σ11 r12 => (wp_J1_indexOf_4cfef ra jx rm v0 v1 v2 r12 σ11 (fun σ13 r14 => w_J0_indexOf_7cf53_36 ra jx rm Q X σ13 v0 v1 v2 r14) X)) X)
def w_J0_indexOf_7cf53_0 (ra : Nat → Nat) (jx : Nat → Nat → Nat) (rm : Nat) (Q : Sg → Int → Prop) (X : Sg → String → Prop) (σ : Sg) (v0 : Nat) (v1 : Int) (v2 : Int) : Prop := (wp_J0_isLatin1_aae02 ra jx rm v0 σ (fun σ9 r10 => (if r10 = 0 then w_J0_indexOf_7cf53_23 ra jx rm Q X σ9 v0 v1 v2 else w_J0_indexOf_7cf53_7 ra jx rm Q X σ9 v0 v1 v2)) X)
def wp_J0_indexOf_7cf53 (ra : Nat → Nat) (jx : Nat → Nat → Nat) (rm : Nat) (v0 : Nat) (v1 : Int) (v2 : Int) (σ : Sg) (Q : Sg → Int → Prop) (X : Sg → String → Prop) : Prop := w_J0_indexOf_7cf53_0 ra jx rm Q X σ v0 v1 v2
def w_J0_indexOf_0f7a4_0 (ra : Nat → Nat) (jx : Nat → Nat → Nat) (rm : Nat) (Q : Sg → Int → Prop) (X : Sg → String → Prop) (σ : Sg) (v0 : Nat) (v1 : Int) : Prop := (wp_J0_indexOf_7cf53 ra jx rm v0 v1 0 σ (fun σ3 r4 => Q σ3 r4) X)
def wp_J0_indexOf_0f7a4 (ra : Nat → Nat) (jx : Nat → Nat → Nat) (rm : Nat) (v0 : Nat) (v1 : Int) (σ : Sg) (Q : Sg → Int → Prop) (X : Sg → String → Prop) : Prop := w_J0_indexOf_0f7a4_0 ra jx rm Q X σ v0 v1
end M55
/-! constant strings: rows over them -/
section STR
variable {p : Program} {l : Launch} {e : Env} {R : Room} {s : State} {m : MethodId} {args : Array Value} {below : List Frame} {meth : Method} {c : Code} {cc : ByteArray} {nL : Nat} {own : String} {D : va_G} {cA : Nat → ClassId} {tys : List (ClassId × FieldType)} {A : Nat → Prop} {cells slots : Nat} {Q : State → Prop} {σ : Sg} {pc : Nat} {ls : Array Slot} {H : Heap} {locs : List Loc} {rest : List Value} {n0 s0 : Nat} {lo : List (Nat × Value)} {Qn : Sg → Option Value → Prop} {Qx : Sg → String → Prop} {y : MethodName} {bytes : ByteArray} {maxL fr lw index : Nat} {ret : Option FieldType}
theorem sf_of (B : Cx p s m args c cc nL own D cA tys A) {n : Nat} (h : strOK n) : va_O "java/lang/String" (cA (1000 + n)) A s s.heap ∧ va_OF "java/lang/String" "coder" "B" (.int 0) (cA (1000 + n)) A s s.heap ∧ va_OF "java/lang/String" "value" "[B" (.ref (cA (2000 + n))) (cA (1000 + n)) A s s.heap ∧ va_T .byte (cA (2000 + n)) (bs n).length (fun j => .int ((bs n).getD j 0)) A s s.heap := by
  obtain ⟨q, hq, rfl⟩ := h
  rw [bs_of q hq]
  exact (B.2.2.2.2.2.2.2.2.2.2.1 q hq).2
theorem s_val (B : Cx p s m args c cc nL own D cA tys A) (hH : Hd D cA A s σ H locs) {n : Nat} (h : strOK n) (hlink : (Cond.fieldLink own index "java/lang/String" "value" "[B").before args s = true) (hd : decode cc pc = .ok (.getfield index, 3)) (k : W p l e R s m args below meth c H locs cells slots Q (F0 m (pc + 3) ls (.ref (cA (2000 + n)) :: rest))) : W p l e R s m args below meth c H locs cells slots Q (F0 m pc ls (.ref (cA (1000 + n)) :: rest)) :=
  vk_getf (v := .ref (cA (2000 + n))) B.1 B.2.1 (sf_of B h).2.2.1 hH.2.2 B.2.2.1 hlink (fun _ h9 => h9) hd k
theorem s_cod (B : Cx p s m args c cc nL own D cA tys A) (hH : Hd D cA A s σ H locs) {n : Nat} (h : strOK n) (hlink : (Cond.fieldLink own index "java/lang/String" "coder" "B").before args s = true) (hd : decode cc pc = .ok (.getfield index, 3)) (k : W p l e R s m args below meth c H locs cells slots Q (F0 m (pc + 3) ls (.int (i32 0) :: rest))) : W p l e R s m args below meth c H locs cells slots Q (F0 m pc ls (.ref (cA (1000 + n)) :: rest)) :=
  vk_getf (v := .int 0) B.1 B.2.1 (sf_of B h).2.1 hH.2.2 B.2.2.1 hlink (fun _ h9 => h9) hd k
theorem y_len (B : Cx p s m args c cc nL own D cA tys A) (hH : Hd D cA A s σ H locs) {n : Nat} (h : strOK n) (hd : decode cc pc = .ok (.arraylength, 1)) (k : W p l e R s m args below meth c H locs cells slots Q (F0 m (pc + 1) ls (.int (i32 (bln n)) :: rest))) : W p l e R s m args below meth c H locs cells slots Q (F0 m pc ls (.ref (cA (2000 + n)) :: rest)) :=
  va_tlen (v := i32 (bln n)) B.1 B.2.1 (sf_of B h).2.2.2 hH.2.2 (by unfold bln; rw [i32_nI]; rfl) hd k
theorem y_ald (B : Cx p s m args c cc nL own D cA tys A) (hH : Hd D cA A s σ H locs) {n : Nat} (h : strOK n) {i : Int} (hi : 0 ≤ i ∧ i < bln n) (hd : decode cc pc = .ok (.baload, 1)) (k : W p l e R s m args below meth c H locs cells slots Q (F0 m (pc + 1) ls (.int (i32 (by_ n i)) :: rest))) : W p l e R s m args below meth c H locs cells slots Q (F0 m pc ls (.int (i32 i) :: .ref (cA (2000 + n)) :: rest)) := by
  have hb : (bs n).length < 200 := by obtain ⟨q, hq, rfl⟩ := h; exact bs_lt q hq
  have h2 : i < ((bs n).length : Int) := hi.2
  refine va_tb (v := .int (i32 (by_ n i))) B.1 B.2.1 (sf_of B h).2.2.2 hH.2.2 (i32_in hi.1 h2 (by omega)) ?_ hd k
  rw [i32_clamp hi.1 (by omega)]
  unfold by_
  rw [i32_self]
theorem h_getsQ (B : Cx p s m args c cc nL own D cA tys A) (hH : Hd D cA A s σ H locs) {C n d : String} (hZ : va_Zq C n d A s s.heap) (hlink : (Cond.fieldLink own index C n d).before args s = true) (hd : decode cc pc = .ok (.getstatic index, 3)) (k : ∀ r : Option Nat, W p l e R s m args below meth c H locs cells slots Q (F0 m (pc + 3) ls (va_rf r :: rest))) : W p l e R s m args below meth c H locs cells slots Q (F0 m pc ls rest) := by
  rcases hZ with h | ⟨t, h⟩
  · exact va_gets (v := .null) B.1 B.2.1 h hH.2.2 B.2.2.1 hlink (fun _ h9 => h9) hd (k none)
  · exact va_gets (v := .ref t) B.1 B.2.1 h hH.2.2 B.2.2.1 hlink (fun _ h9 => h9) hd (k (some t))
theorem xs_recv (B : Cx p s m args c cc nL own D cA tys A) (hH : Hd D cA A s σ H locs) {n : Nat} (h : strOK n) : ∃ cell : Cell, H[cA (1000 + n)]? = some cell ∧ cell.vm.isStatics = false ∧ s.vm.findClass RJ0 = some cell.cls := by
  obtain ⟨cell, h1, h2, h3, -⟩ := (sf_of B h).1.kept hH.2.2.2.1
  exact ⟨cell, h1, h2, h3⟩
/-- invokevirtual of a thing outside of the world -/
theorem c_VS (B : Cx p s m args c cc nL own D cA tys A) (hH : Hd D cA A s σ H locs) (hl : lv_has ls nL lo) (hc : CB n0 s0 σ) (hR : Rm R n0 s0) {C : String} {b : Nat} {As : List Value} (hO : Ok l D cA tys A y (.code y bytes maxL ret) fr lw (.ref b :: As) σ Qn Qx) (hw : ∀ w ∈ [Cond.methodLink own index y, .instanceMethod y, .selects C y y, .initialized C, .code y bytes maxL ret], w ∈ WAL) (n : Nat) (hd0 : y.cls = C ∧ y.cls ≠ "java/lang/invoke/MethodHandle" ∧ y.cls ≠ "java/lang/invoke/VarHandle" ∧ (parseMethodDescriptor y.desc).map (fun d => d.parameters.length) = some n) (hrm : fr + 1 ≤ R.frames ∧ 8 + (maxL + 11) + lw ≤ R.locals)
    (hrecv : ∃ cell : Cell, H[b]? = some cell ∧ cell.vm.isStatics = false ∧ s.vm.findClass C = some cell.cls) (hn : As.length = n) {st0 : List Value} (hst : st0 = As.reverse ++ .ref b :: rest) (hW : (rest.map fun v => v.category).sum ≤ 8) (hd : decode cc pc = .ok (.invokevirtual index, 3))
    (k : ∀ (σ' : Sg) (v : Option Value), Qn σ' v → JJ p l e R s m args below meth c nL D cA A n0 s0 Q σ' (pc + 3) lo (v.toList ++ rest)) (kx : ∀ (σ' : Sg) (E : String), Qx σ' E → JX p l e R s m args below meth c nL D cA A n0 s0 Q σ' E pc lo rest) :
    W p l e R s m args below meth c H locs (gc σ - n0) (gs σ - s0) Q (F0 m pc ls st0) := by
  subst hst
  refine j_after (a := (Value.ref b :: As).toArray) (vx_runV (As := As) (rest := rest) (b := b) (C := C) ⟨B.1, B.2.1, B.2.2.2.2.2.1, B.2.2.1, B.2.2.2.1⟩ hO (cwV n B.2.2.2.1 (wal_good (wal_app (fun w h => hw w (by simp only [List.mem_cons, List.not_mem_nil, or_false] at h ⊢; rcases h with h | h | h | h <;> simp [h])) (wal_self (hw _ (by simp))))) rfl rfl rfl hd0 hrm) ⟨pw_blind _, hrecv, fun U hU hW => pw_here B hH hc _ U hU hW⟩ rfl hn hl.1 rfl (lv_room hW) hd ⟨?_, ?_⟩) hH hl hc k kx
  · have h1 := hc.1; have h2 := hc.2.2.1; rw [hR.1]; omega
  · have h1 := hc.2.1; have h2 := hc.2.2.2; rw [hR.2]; omega
end STR
section STP
variable {dm : List Nat × Nat × Nat} {ra : Nat → Nat} {jx : Nat → Nat → Nat} {rm : Nat} {n : Nat} {i : Int} {σ : Sg} {X : Sg → String → Prop}
theorem shr0 {x : Int} (h : rng x) : shrI x 0 = x := by
  unfold shrI
  rw [show (i32 0 &&& 31 : Int32) = 0 by decide, Int32.shiftRight_zero, i32_toInt h]
theorem jl_lat {Q : Sg → Int → Prop} (h : Q σ 1) : wp_J0_isLatin1_aae02 ra jx rm n σ Q X := by
  unfold wp_J0_isLatin1_aae02 w_J0_isLatin1_aae02_0
  rw [if_neg (by decide)]
  unfold w_J0_isLatin1_aae02_6
  rw [if_neg (by decide)]
  unfold w_J0_isLatin1_aae02_13 w_J0_isLatin1_aae02_18
  exact ⟨Or.inr rfl, h⟩
theorem jl_len {Q : Sg → Int → Prop} (hs : strOK n) (h : Q σ (bln n)) : wp_J0_length_8abf5 ra jx rm n σ Q X := by
  unfold wp_J0_length_8abf5 w_J0_length_8abf5_0 wp_J0_coder_7d493 w_J0_coder_7d493_0
  rw [if_neg (by decide)]
  unfold w_J0_coder_7d493_6 w_J0_coder_7d493_14
  refine ⟨Or.inl rfl, ?_⟩
  try dsimp only
  rw [shr0 (rng_bl hs)]
  exact h
/-- the char at i -/
def chI (n : Nat) (i : Int) : Int := ((i32 ((i32 (by_ n i) &&& i32 255).toInt)).toUInt32 % 65536).toInt32.toInt
theorem chI_b : 0 ≤ chI n i ∧ chI n i < 65536 := by
  unfold chI
  rw [i32_self, show i32 255 = (255 : Int32) by decide, sc_c2]
  obtain ⟨j, hj, e⟩ := pk_andE (i32 (by_ n i)) (m := 255) 8 (by decide)
  rw [e, ← i32_nI, i32_toInt ⟨by omega, by omega⟩]
  omega
theorem jl_char {Q : Sg → Int → Prop} (hi : 0 ≤ i ∧ i < bln n) (h : Q σ (chI n i)) : wp_J0_charAt_5068e ra jx rm n i σ Q X := by
  unfold wp_J0_charAt_5068e w_J0_charAt_5068e_0
  refine jl_lat ?_
  try dsimp only
  rw [if_neg (by decide)]
  unfold w_J0_charAt_5068e_7 wp_J1_charAt_3b067 w_J1_charAt_3b067_0 wp_J0_checkIndex_df160 w_J0_checkIndex_df160_0
  intro f
  unfold wp_J3_checkIndex_8e157 w_J3_checkIndex_8e157_0
  rw [if_neg (by omega)]
  unfold w_J3_checkIndex_8e157_4
  rw [if_pos hi.2]
  unfold w_J3_checkIndex_8e157_16
  try dsimp only
  have hb := chI_b (n := n) (i := i)
  unfold chI at hb h
  exact ⟨hi, hb, hb, h⟩
theorem jl_loop {Q : Sg → Int → Prop} (hs : strOK n) (h : ∀ r, rng r → Q σ r) (v1 v2 v4 : Int) : ∀ (k : Nat) (v5 : Int), 0 ≤ v5 → v5 ≤ bln n → (bln n - v5).toNat = k → wl_J1_indexOfChar_4cfef_7 ra jx rm Q X (k + 1) σ n v1 v2 (bln n) v4 v5 := by
  have hb := rng_bl hs
  unfold rng at hb
  intro k
  induction k with
  | zero =>
    intro v5 h0 h1 h2
    show w_J1_indexOfChar_4cfef_7 ra jx rm _ Q X σ n v1 v2 (bln n) v4 v5
    unfold w_J1_indexOfChar_4cfef_7
    rw [if_pos (by omega)]
    exact h _ (by unfold rng; omega)
  | succ k ih =>
    intro v5 h0 h1 h2
    show w_J1_indexOfChar_4cfef_7 ra jx rm _ Q X σ n v1 v2 (bln n) v4 v5
    unfold w_J1_indexOfChar_4cfef_7
    rw [if_neg (by omega)]
    unfold w_J1_indexOfChar_4cfef_13
    refine ⟨⟨h0, by omega⟩, ?_⟩
    split
    · unfold w_J1_indexOfChar_4cfef_25
      exact ⟨by unfold rng; omega, ih (v5 + 1) (by omega) (by omega) (by omega)⟩
    · unfold w_J1_indexOfChar_4cfef_22
      exact h _ (by unfold rng; omega)
theorem jl_idx {Q : Sg → Int → Prop} {v : Int} (hs : strOK n) (hv : rng v) (h : ∀ r, rng r → Q σ r) : wp_J0_indexOf_0f7a4 ra jx rm n v σ Q X := by
  have hb := rng_bl hs
  have hn : (0 : Int) ≤ bln n := by unfold bln; omega
  unfold wp_J0_indexOf_0f7a4 w_J0_indexOf_0f7a4_0 wp_J0_indexOf_7cf53 w_J0_indexOf_7cf53_0
  refine jl_lat ?_
  try dsimp only
  rw [if_neg (by decide)]
  unfold w_J0_indexOf_7cf53_7
  refine jl_len hs ?_
  try dsimp only
  have hf : ∀ r, rng r → w_J0_indexOf_7cf53_36 ra jx rm (fun σ3 r4 => Q σ3 r4) X σ n v 0 r := fun r hr => h r hr
  have h9 : w_J1_indexOf_4cfef_9 ra jx rm (fun σ13 r14 => w_J0_indexOf_7cf53_36 ra jx rm (fun σ3 r4 => Q σ3 r4) X σ13 n v 0 r14) X σ n v 0 (bln n) := by
    unfold w_J1_indexOf_4cfef_9 wp_J9_max_7cf53 w_J9_max_7cf53_0
    rw [if_neg (by decide)]
    unfold w_J9_max_7cf53_5 w_J9_max_7cf53_10 wp_J9_min_7cf53 w_J9_min_7cf53_0
    dsimp only
    rw [if_neg (by omega)]
    unfold w_J9_min_7cf53_5 w_J9_min_7cf53_10
    try dsimp only
    split
    · unfold w_J1_indexOf_4cfef_29 wp_J1_indexOfChar_4cfef w_J1_indexOfChar_4cfef_0
      exact ⟨_, jl_loop (Q := fun σ15 r16 => w_J0_indexOf_7cf53_36 ra jx rm (fun σ3 r4 => Q σ3 r4) X σ15 n v 0 r16) hs hf _ _ _ _ 0 (by omega) hn rfl⟩
    · unfold w_J1_indexOf_4cfef_27
      exact hf _ (by unfold rng; omega)
  have h7 : w_J1_indexOf_4cfef_7 ra jx rm (fun σ13 r14 => w_J0_indexOf_7cf53_36 ra jx rm (fun σ3 r4 => Q σ3 r4) X σ13 n v 0 r14) X σ n v 0 (bln n) := by
    unfold w_J1_indexOf_4cfef_7
    exact hf _ (by unfold rng; omega)
  unfold wp_J1_indexOf_4cfef w_J1_indexOf_4cfef_0 wp_J1_canEncode_9a6ad w_J1_canEncode_9a6ad_0
  split
  · unfold w_J1_canEncode_9a6ad_15 w_J1_canEncode_9a6ad_16
    refine ⟨Or.inl rfl, ?_⟩
    try dsimp only
    rw [if_neg (by decide)]
    exact h7
  · unfold w_J1_canEncode_9a6ad_4
    split
    · unfold w_J1_canEncode_9a6ad_15 w_J1_canEncode_9a6ad_16
      refine ⟨Or.inl rfl, ?_⟩
      try dsimp only
      rw [if_neg (by decide)]
      exact h7
    · unfold w_J1_canEncode_9a6ad_11 w_J1_canEncode_9a6ad_16
      refine ⟨Or.inr rfl, ?_⟩
      try dsimp only
      rw [if_pos (by decide)]
      exact h9
/-- the name of the first k chars -/
def nvk (n : Nat) : Nat → Int64
  | 0 => 0
  | k + 1 => (nvk n k <<< ((i32 8).toInt64 &&& 63)) ||| (Int64.ofInt (chI n k))
def strK (n : Nat) : Prop := strOK n ∧ sl n = bln n ∧ nv n = nvk n (bs n).length
end STP
theorem st_69 : strOK 69 ∧ True := ⟨⟨_, List.mem_of_getElem? (l := stL) (i := 0) rfl, rfl⟩, trivial⟩
theorem st_162 : strK 162 := ⟨⟨_, List.mem_of_getElem? (l := stL) (i := 1) rfl, rfl⟩, by decide +kernel, by decide +kernel⟩
theorem st_198 : strK 198 := ⟨⟨_, List.mem_of_getElem? (l := stL) (i := 2) rfl, rfl⟩, by decide +kernel, by decide +kernel⟩
theorem st_237 : strK 237 := ⟨⟨_, List.mem_of_getElem? (l := stL) (i := 3) rfl, rfl⟩, by decide +kernel, by decide +kernel⟩
theorem st_244 : strK 244 := ⟨⟨_, List.mem_of_getElem? (l := stL) (i := 4) rfl, rfl⟩, by decide +kernel, by decide +kernel⟩
theorem st_249 : strK 249 := ⟨⟨_, List.mem_of_getElem? (l := stL) (i := 5) rfl, rfl⟩, by decide +kernel, by decide +kernel⟩
theorem st_252 : strK 252 := ⟨⟨_, List.mem_of_getElem? (l := stL) (i := 6) rfl, rfl⟩, by decide +kernel, by decide +kernel⟩
theorem st_254 : strK 254 := ⟨⟨_, List.mem_of_getElem? (l := stL) (i := 7) rfl, rfl⟩, by decide +kernel, by decide +kernel⟩
theorem st_256 : strK 256 := ⟨⟨_, List.mem_of_getElem? (l := stL) (i := 8) rfl, rfl⟩, by decide +kernel, by decide +kernel⟩
theorem st_257 : strK 257 := ⟨⟨_, List.mem_of_getElem? (l := stL) (i := 9) rfl, rfl⟩, by decide +kernel, by decide +kernel⟩
theorem st_259 : strK 259 := ⟨⟨_, List.mem_of_getElem? (l := stL) (i := 10) rfl, rfl⟩, by decide +kernel, by decide +kernel⟩
theorem st_267 : strK 267 := ⟨⟨_, List.mem_of_getElem? (l := stL) (i := 11) rfl, rfl⟩, by decide +kernel, by decide +kernel⟩
theorem st_268 : strK 268 := ⟨⟨_, List.mem_of_getElem? (l := stL) (i := 12) rfl, rfl⟩, by decide +kernel, by decide +kernel⟩
theorem st_270 : strK 270 := ⟨⟨_, List.mem_of_getElem? (l := stL) (i := 13) rfl, rfl⟩, by decide +kernel, by decide +kernel⟩
theorem st_272 : strK 272 := ⟨⟨_, List.mem_of_getElem? (l := stL) (i := 14) rfl, rfl⟩, by decide +kernel, by decide +kernel⟩
theorem st_275 : strK 275 := ⟨⟨_, List.mem_of_getElem? (l := stL) (i := 15) rfl, rfl⟩, by decide +kernel, by decide +kernel⟩
theorem st_277 : strK 277 := ⟨⟨_, List.mem_of_getElem? (l := stL) (i := 16) rfl, rfl⟩, by decide +kernel, by decide +kernel⟩
theorem st_281 : strK 281 := ⟨⟨_, List.mem_of_getElem? (l := stL) (i := 17) rfl, rfl⟩, by decide +kernel, by decide +kernel⟩
theorem st_283 : strK 283 := ⟨⟨_, List.mem_of_getElem? (l := stL) (i := 18) rfl, rfl⟩, by decide +kernel, by decide +kernel⟩
theorem st_287 : strK 287 := ⟨⟨_, List.mem_of_getElem? (l := stL) (i := 19) rfl, rfl⟩, by decide +kernel, by decide +kernel⟩
theorem st_291 : strK 291 := ⟨⟨_, List.mem_of_getElem? (l := stL) (i := 20) rfl, rfl⟩, by decide +kernel, by decide +kernel⟩
theorem st_295 : strK 295 := ⟨⟨_, List.mem_of_getElem? (l := stL) (i := 21) rfl, rfl⟩, by decide +kernel, by decide +kernel⟩
theorem st_304 : strK 304 := ⟨⟨_, List.mem_of_getElem? (l := stL) (i := 22) rfl, rfl⟩, by decide +kernel, by decide +kernel⟩
theorem st_306 : strK 306 := ⟨⟨_, List.mem_of_getElem? (l := stL) (i := 23) rfl, rfl⟩, by decide +kernel, by decide +kernel⟩
theorem st_310 : strK 310 := ⟨⟨_, List.mem_of_getElem? (l := stL) (i := 24) rfl, rfl⟩, by decide +kernel, by decide +kernel⟩
theorem st_312 : strK 312 := ⟨⟨_, List.mem_of_getElem? (l := stL) (i := 25) rfl, rfl⟩, by decide +kernel, by decide +kernel⟩
theorem st_319 : strK 319 := ⟨⟨_, List.mem_of_getElem? (l := stL) (i := 26) rfl, rfl⟩, by decide +kernel, by decide +kernel⟩
theorem st_967 : strOK 967 ∧ True := ⟨⟨_, List.mem_of_getElem? (l := stL) (i := 27) rfl, rfl⟩, trivial⟩
section M55
variable {p : Program} {l : Launch} {e : Env} {R : Room} {s : State} {m : MethodId} {args : Array Value} {below : List Frame} {meth : Method} {c : Code} {D : va_G} {cA : Nat → ClassId} {tys : List (ClassId × FieldType)} {A : Nat → Prop} {n0 s0 : Nat} {QM : State → Prop} {dm : List Nat × Nat × Nat} {ra : Nat → Nat} {jx : Nat → Nat → Nat} {rm : Nat}

theorem dJ0_coder_7d493_0 : decode cJ0_coder_7d493 0 = .ok (.getstatic 38, 3) := by decide +kernel
theorem dJ0_coder_7d493_3 : decode cJ0_coder_7d493 3 = .ok (.ifCond .eq 10, 3) := by decide +kernel
theorem dJ0_coder_7d493_6 : decode cJ0_coder_7d493 6 = .ok (.aload_n 0, 1) := by decide +kernel
theorem dJ0_coder_7d493_7 : decode cJ0_coder_7d493 7 = .ok (.getfield 15, 3) := by decide +kernel
theorem dJ0_coder_7d493_10 : decode cJ0_coder_7d493 10 = .ok (.goto 4, 3) := by decide +kernel
theorem dJ0_coder_7d493_13 : decode cJ0_coder_7d493 13 = .ok (.iconst 1, 1) := by decide +kernel
theorem dJ0_coder_7d493_14 : decode cJ0_coder_7d493 14 = .ok (.ireturn, 1) := by decide +kernel
set_option maxRecDepth 20000 in
theorem a_J0_coder_7d493_14 {Q : Sg → Int → Prop} {X : Sg → String → Prop} (K : MC R p s m args c cJ0_coder_7d493 1 yJ0_coder_7d493.cls D cA tys A n0 s0 0 0 []) (hQ : HQZ p l e R s m args below meth c cJ0_coder_7d493 D cA A n0 s0 QM dm ra jx rm Q) (hX : HX p l e R s m args below meth c 1 D cA A n0 s0 QM dm ra jx rm X) : ∀ (σ : Sg) (v0 : Nat) (u0 : Int) (g0 : strOK v0) (gu0 : rng u0), w_J0_coder_7d493_14 ra jx rm Q X σ v0 u0 → RG σ → Shp dm ra jx rm σ → JJ p l e R s m args below meth c 1 D cA A n0 s0 QM σ 14 [(0, .ref (cA (1000 + v0)))] [.int (i32 u0)] := by
  intro σ v0 u0 g0 gu0 h hGσ hS H locs ls hH hl hc
  have B := K.1
  unfold w_J0_coder_7d493_14 at h
  obtain ⟨qz, h⟩ := h
  exact hQ _ _ _ _ _ _ gu0 qz dJ0_coder_7d493_14 hH hc h hGσ hS
set_option maxRecDepth 20000 in
theorem a_J0_coder_7d493_13 {Q : Sg → Int → Prop} {X : Sg → String → Prop} (K : MC R p s m args c cJ0_coder_7d493 1 yJ0_coder_7d493.cls D cA tys A n0 s0 0 0 []) (hQ : HQZ p l e R s m args below meth c cJ0_coder_7d493 D cA A n0 s0 QM dm ra jx rm Q) (hX : HX p l e R s m args below meth c 1 D cA A n0 s0 QM dm ra jx rm X) : ∀ (σ : Sg) (v0 : Nat) (g0 : strOK v0), w_J0_coder_7d493_13 ra jx rm Q X σ v0 → RG σ → Shp dm ra jx rm σ → JJ p l e R s m args below meth c 1 D cA A n0 s0 QM σ 13 [(0, .ref (cA (1000 + v0)))] [] := by
  intro σ v0 g0 h hGσ hS H locs ls hH hl hc
  have B := K.1
  unfold w_J0_coder_7d493_13 at h
  refine lv_iconst (v := i32 1) B.1 B.2.1 dJ0_coder_7d493_13 (by decide) ?_
  exact a_J0_coder_7d493_14 K hQ hX _ _ _ g0 (by unfold rng; omega) h hGσ hS _ _ _ hH (lv_sub (l' := [(0, .ref (cA (1000 + v0)))]) hl [0] rfl) hc
set_option maxRecDepth 20000 in
theorem a_J0_coder_7d493_6 {Q : Sg → Int → Prop} {X : Sg → String → Prop} (K : MC R p s m args c cJ0_coder_7d493 1 yJ0_coder_7d493.cls D cA tys A n0 s0 0 0 []) (hQ : HQZ p l e R s m args below meth c cJ0_coder_7d493 D cA A n0 s0 QM dm ra jx rm Q) (hX : HX p l e R s m args below meth c 1 D cA A n0 s0 QM dm ra jx rm X) : ∀ (σ : Sg) (v0 : Nat) (g0 : strOK v0), w_J0_coder_7d493_6 ra jx rm Q X σ v0 → RG σ → Shp dm ra jx rm σ → JJ p l e R s m args below meth c 1 D cA A n0 s0 QM σ 6 [(0, .ref (cA (1000 + v0)))] [] := by
  intro σ v0 g0 h hGσ hS H locs ls hH hl hc
  have B := K.1
  unfold w_J0_coder_7d493_6 at h
  refine lv_aload_n B.1 B.2.1 dJ0_coder_7d493_6 rfl (lv_at hl 0 rfl) ?_
  refine s_cod B hH g0 (B.2.2.2.1 _ wf_J0_15) dJ0_coder_7d493_7 ?_
  refine lv_goto (tgt := 14) B.1 B.2.1 dJ0_coder_7d493_10 (by decide) ?_
  exact a_J0_coder_7d493_14 K hQ hX _ _ _ g0 (by unfold rng; omega) h hGσ hS _ _ _ hH (lv_sub (l' := [(0, .ref (cA (1000 + v0)))]) hl [0] rfl) hc
set_option maxRecDepth 20000 in
theorem a_J0_coder_7d493_0 {Q : Sg → Int → Prop} {X : Sg → String → Prop} (K : MC R p s m args c cJ0_coder_7d493 1 yJ0_coder_7d493.cls D cA tys A n0 s0 0 0 []) (hQ : HQZ p l e R s m args below meth c cJ0_coder_7d493 D cA A n0 s0 QM dm ra jx rm Q) (hX : HX p l e R s m args below meth c 1 D cA A n0 s0 QM dm ra jx rm X) : ∀ (σ : Sg) (v0 : Nat) (g0 : strOK v0), w_J0_coder_7d493_0 ra jx rm Q X σ v0 → RG σ → Shp dm ra jx rm σ → JJ p l e R s m args below meth c 1 D cA A n0 s0 QM σ 0 [(0, .ref (cA (1000 + v0)))] [] := by
  intro σ v0 g0 h hGσ hS H locs ls hH hl hc
  have B := K.1
  unfold w_J0_coder_7d493_0 at h
  refine va_gets (v := .int (i32 1)) B.1 B.2.1 B.2.2.2.2.2.2.2.2.2.2.2.1 hH.2.2 B.2.2.1 (B.2.2.2.1 _ wf_J0_38) (fun _ h9 => h9) dJ0_coder_7d493_0 ?_
  refine lv_if_eq (tgt := 13) B.1 B.2.1 dJ0_coder_7d493_3 (by decide) (fun h9 => ?_) (fun h9 => ?_)
  · rw [if_pos ((z_eq (by unfold rng; omega)).mp h9)] at h
    exact a_J0_coder_7d493_13 K hQ hX _ _ g0 h hGσ hS _ _ _ hH (lv_sub (l' := [(0, .ref (cA (1000 + v0)))]) hl [0] rfl) hc
  · rw [if_neg (fun q => h9 ((z_eq (by unfold rng; omega)).mpr q))] at h
    exact a_J0_coder_7d493_6 K hQ hX _ _ g0 h hGσ hS _ _ _ hH (lv_sub (l' := [(0, .ref (cA (1000 + v0)))]) hl [0] rfl) hc
theorem ok_J0_coder_7d493 (hT : Tys cA tys) {Q : Sg → Int → Prop} {X : Sg → String → Prop} (σ : Sg) (v0 : Nat) (g0 : strOK v0) (hG : RG σ) (hS : Shp dm ra jx rm σ) (h : wp_J0_coder_7d493 ra jx rm v0 σ Q X) : Ok l D cA tys A yJ0_coder_7d493 (.code yJ0_coder_7d493 cJ0_coder_7d493 1 (some .byte)) 0 0 [.ref (cA (1000 + v0))] σ (QnZ dm ra jx rm Q) (QxR dm ra jx rm X) := by
  unfold wp_J0_coder_7d493 at h
  exact ok_B (plainFor_of_name (by decide)) (by exact Nat.le_of_ble_eq_true rfl) hT (fun p e R s m args below meth c K hQ hX H locs ls hH hl hc => a_J0_coder_7d493_0 K hQ hX σ v0 g0 h hG hS H locs ls hH (lv_sub (l' := [(0, .ref (cA (1000 + v0)))]) hl [0] rfl) hc)
theorem dJ0_isLatin1_aae02_0 : decode cJ0_isLatin1_aae02 0 = .ok (.getstatic 38, 3) := by decide +kernel
theorem dJ0_isLatin1_aae02_3 : decode cJ0_isLatin1_aae02 3 = .ok (.ifCond .eq 14, 3) := by decide +kernel
theorem dJ0_isLatin1_aae02_6 : decode cJ0_isLatin1_aae02 6 = .ok (.aload_n 0, 1) := by decide +kernel
theorem dJ0_isLatin1_aae02_7 : decode cJ0_isLatin1_aae02 7 = .ok (.getfield 15, 3) := by decide +kernel
theorem dJ0_isLatin1_aae02_10 : decode cJ0_isLatin1_aae02 10 = .ok (.ifCond .ne 7, 3) := by decide +kernel
theorem dJ0_isLatin1_aae02_13 : decode cJ0_isLatin1_aae02 13 = .ok (.iconst 1, 1) := by decide +kernel
theorem dJ0_isLatin1_aae02_14 : decode cJ0_isLatin1_aae02 14 = .ok (.goto 4, 3) := by decide +kernel
theorem dJ0_isLatin1_aae02_17 : decode cJ0_isLatin1_aae02 17 = .ok (.iconst 0, 1) := by decide +kernel
theorem dJ0_isLatin1_aae02_18 : decode cJ0_isLatin1_aae02 18 = .ok (.ireturn, 1) := by decide +kernel
set_option maxRecDepth 20000 in
theorem a_J0_isLatin1_aae02_18 {Q : Sg → Int → Prop} {X : Sg → String → Prop} (K : MC R p s m args c cJ0_isLatin1_aae02 1 yJ0_isLatin1_aae02.cls D cA tys A n0 s0 0 0 []) (hQ : HQZ p l e R s m args below meth c cJ0_isLatin1_aae02 D cA A n0 s0 QM dm ra jx rm Q) (hX : HX p l e R s m args below meth c 1 D cA A n0 s0 QM dm ra jx rm X) : ∀ (σ : Sg) (v0 : Nat) (u0 : Int) (g0 : strOK v0) (gu0 : rng u0), w_J0_isLatin1_aae02_18 ra jx rm Q X σ v0 u0 → RG σ → Shp dm ra jx rm σ → JJ p l e R s m args below meth c 1 D cA A n0 s0 QM σ 18 [(0, .ref (cA (1000 + v0)))] [.int (i32 u0)] := by
  intro σ v0 u0 g0 gu0 h hGσ hS H locs ls hH hl hc
  have B := K.1
  unfold w_J0_isLatin1_aae02_18 at h
  obtain ⟨qz, h⟩ := h
  exact hQ _ _ _ _ _ _ gu0 qz dJ0_isLatin1_aae02_18 hH hc h hGσ hS
set_option maxRecDepth 20000 in
theorem a_J0_isLatin1_aae02_17 {Q : Sg → Int → Prop} {X : Sg → String → Prop} (K : MC R p s m args c cJ0_isLatin1_aae02 1 yJ0_isLatin1_aae02.cls D cA tys A n0 s0 0 0 []) (hQ : HQZ p l e R s m args below meth c cJ0_isLatin1_aae02 D cA A n0 s0 QM dm ra jx rm Q) (hX : HX p l e R s m args below meth c 1 D cA A n0 s0 QM dm ra jx rm X) : ∀ (σ : Sg) (v0 : Nat) (g0 : strOK v0), w_J0_isLatin1_aae02_17 ra jx rm Q X σ v0 → RG σ → Shp dm ra jx rm σ → JJ p l e R s m args below meth c 1 D cA A n0 s0 QM σ 17 [(0, .ref (cA (1000 + v0)))] [] := by
  intro σ v0 g0 h hGσ hS H locs ls hH hl hc
  have B := K.1
  unfold w_J0_isLatin1_aae02_17 at h
  refine lv_iconst (v := i32 0) B.1 B.2.1 dJ0_isLatin1_aae02_17 (by decide) ?_
  exact a_J0_isLatin1_aae02_18 K hQ hX _ _ _ g0 (by unfold rng; omega) h hGσ hS _ _ _ hH (lv_sub (l' := [(0, .ref (cA (1000 + v0)))]) hl [0] rfl) hc
set_option maxRecDepth 20000 in
theorem a_J0_isLatin1_aae02_13 {Q : Sg → Int → Prop} {X : Sg → String → Prop} (K : MC R p s m args c cJ0_isLatin1_aae02 1 yJ0_isLatin1_aae02.cls D cA tys A n0 s0 0 0 []) (hQ : HQZ p l e R s m args below meth c cJ0_isLatin1_aae02 D cA A n0 s0 QM dm ra jx rm Q) (hX : HX p l e R s m args below meth c 1 D cA A n0 s0 QM dm ra jx rm X) : ∀ (σ : Sg) (v0 : Nat) (g0 : strOK v0), w_J0_isLatin1_aae02_13 ra jx rm Q X σ v0 → RG σ → Shp dm ra jx rm σ → JJ p l e R s m args below meth c 1 D cA A n0 s0 QM σ 13 [(0, .ref (cA (1000 + v0)))] [] := by
  intro σ v0 g0 h hGσ hS H locs ls hH hl hc
  have B := K.1
  unfold w_J0_isLatin1_aae02_13 at h
  refine lv_iconst (v := i32 1) B.1 B.2.1 dJ0_isLatin1_aae02_13 (by decide) ?_
  refine lv_goto (tgt := 18) B.1 B.2.1 dJ0_isLatin1_aae02_14 (by decide) ?_
  exact a_J0_isLatin1_aae02_18 K hQ hX _ _ _ g0 (by unfold rng; omega) h hGσ hS _ _ _ hH (lv_sub (l' := [(0, .ref (cA (1000 + v0)))]) hl [0] rfl) hc
set_option maxRecDepth 20000 in
theorem a_J0_isLatin1_aae02_6 {Q : Sg → Int → Prop} {X : Sg → String → Prop} (K : MC R p s m args c cJ0_isLatin1_aae02 1 yJ0_isLatin1_aae02.cls D cA tys A n0 s0 0 0 []) (hQ : HQZ p l e R s m args below meth c cJ0_isLatin1_aae02 D cA A n0 s0 QM dm ra jx rm Q) (hX : HX p l e R s m args below meth c 1 D cA A n0 s0 QM dm ra jx rm X) : ∀ (σ : Sg) (v0 : Nat) (g0 : strOK v0), w_J0_isLatin1_aae02_6 ra jx rm Q X σ v0 → RG σ → Shp dm ra jx rm σ → JJ p l e R s m args below meth c 1 D cA A n0 s0 QM σ 6 [(0, .ref (cA (1000 + v0)))] [] := by
  intro σ v0 g0 h hGσ hS H locs ls hH hl hc
  have B := K.1
  unfold w_J0_isLatin1_aae02_6 at h
  refine lv_aload_n B.1 B.2.1 dJ0_isLatin1_aae02_6 rfl (lv_at hl 0 rfl) ?_
  refine s_cod B hH g0 (B.2.2.2.1 _ wf_J0_15) dJ0_isLatin1_aae02_7 ?_
  refine lv_if_ne (tgt := 17) B.1 B.2.1 dJ0_isLatin1_aae02_10 (by decide) (fun h9 => ?_) (fun h9 => ?_)
  · rw [if_pos (fun q => h9 ((z_eq (by unfold rng; omega)).mpr q))] at h
    exact a_J0_isLatin1_aae02_17 K hQ hX _ _ g0 h hGσ hS _ _ _ hH (lv_sub (l' := [(0, .ref (cA (1000 + v0)))]) hl [0] rfl) hc
  · rw [if_neg (fun q => q ((z_eq (by unfold rng; omega)).mp h9))] at h
    exact a_J0_isLatin1_aae02_13 K hQ hX _ _ g0 h hGσ hS _ _ _ hH (lv_sub (l' := [(0, .ref (cA (1000 + v0)))]) hl [0] rfl) hc
set_option maxRecDepth 20000 in
theorem a_J0_isLatin1_aae02_0 {Q : Sg → Int → Prop} {X : Sg → String → Prop} (K : MC R p s m args c cJ0_isLatin1_aae02 1 yJ0_isLatin1_aae02.cls D cA tys A n0 s0 0 0 []) (hQ : HQZ p l e R s m args below meth c cJ0_isLatin1_aae02 D cA A n0 s0 QM dm ra jx rm Q) (hX : HX p l e R s m args below meth c 1 D cA A n0 s0 QM dm ra jx rm X) : ∀ (σ : Sg) (v0 : Nat) (g0 : strOK v0), w_J0_isLatin1_aae02_0 ra jx rm Q X σ v0 → RG σ → Shp dm ra jx rm σ → JJ p l e R s m args below meth c 1 D cA A n0 s0 QM σ 0 [(0, .ref (cA (1000 + v0)))] [] := by
  intro σ v0 g0 h hGσ hS H locs ls hH hl hc
  have B := K.1
  unfold w_J0_isLatin1_aae02_0 at h
  refine va_gets (v := .int (i32 1)) B.1 B.2.1 B.2.2.2.2.2.2.2.2.2.2.2.1 hH.2.2 B.2.2.1 (B.2.2.2.1 _ wf_J0_38) (fun _ h9 => h9) dJ0_isLatin1_aae02_0 ?_
  refine lv_if_eq (tgt := 17) B.1 B.2.1 dJ0_isLatin1_aae02_3 (by decide) (fun h9 => ?_) (fun h9 => ?_)
  · rw [if_pos ((z_eq (by unfold rng; omega)).mp h9)] at h
    exact a_J0_isLatin1_aae02_17 K hQ hX _ _ g0 h hGσ hS _ _ _ hH (lv_sub (l' := [(0, .ref (cA (1000 + v0)))]) hl [0] rfl) hc
  · rw [if_neg (fun q => h9 ((z_eq (by unfold rng; omega)).mpr q))] at h
    exact a_J0_isLatin1_aae02_6 K hQ hX _ _ g0 h hGσ hS _ _ _ hH (lv_sub (l' := [(0, .ref (cA (1000 + v0)))]) hl [0] rfl) hc
theorem ok_J0_isLatin1_aae02 (hT : Tys cA tys) {Q : Sg → Int → Prop} {X : Sg → String → Prop} (σ : Sg) (v0 : Nat) (g0 : strOK v0) (hG : RG σ) (hS : Shp dm ra jx rm σ) (h : wp_J0_isLatin1_aae02 ra jx rm v0 σ Q X) : Ok l D cA tys A yJ0_isLatin1_aae02 (.code yJ0_isLatin1_aae02 cJ0_isLatin1_aae02 1 (some .boolean)) 0 0 [.ref (cA (1000 + v0))] σ (QnZ dm ra jx rm Q) (QxR dm ra jx rm X) := by
  unfold wp_J0_isLatin1_aae02 at h
  exact ok_Z (plainFor_of_name (by decide)) (by exact Nat.le_of_ble_eq_true rfl) hT (fun p e R s m args below meth c K hQ hX H locs ls hH hl hc => a_J0_isLatin1_aae02_0 K hQ hX σ v0 g0 h hG hS H locs ls hH (lv_sub (l' := [(0, .ref (cA (1000 + v0)))]) hl [0] rfl) hc)
theorem dJ0_length_8abf5_0 : decode cJ0_length_8abf5 0 = .ok (.aload_n 0, 1) := by decide +kernel
theorem dJ0_length_8abf5_1 : decode cJ0_length_8abf5 1 = .ok (.getfield 9, 3) := by decide +kernel
theorem dJ0_length_8abf5_4 : decode cJ0_length_8abf5 4 = .ok (.arraylength, 1) := by decide +kernel
theorem dJ0_length_8abf5_5 : decode cJ0_length_8abf5 5 = .ok (.aload_n 0, 1) := by decide +kernel
theorem dJ0_length_8abf5_6 : decode cJ0_length_8abf5 6 = .ok (.invokevirtual 335, 3) := by decide +kernel
theorem dJ0_length_8abf5_9 : decode cJ0_length_8abf5 9 = .ok (.ishr, 1) := by decide +kernel
theorem dJ0_length_8abf5_10 : decode cJ0_length_8abf5 10 = .ok (.ireturn, 1) := by decide +kernel
set_option maxRecDepth 20000 in
theorem a_J0_length_8abf5_0 {Q : Sg → Int → Prop} {X : Sg → String → Prop} (K : MC R p s m args c cJ0_length_8abf5 1 yJ0_length_8abf5.cls D cA tys A n0 s0 1 20 []) (hQ : HQI p l e R s m args below meth c cJ0_length_8abf5 D cA A n0 s0 QM dm ra jx rm Q) (hX : HX p l e R s m args below meth c 1 D cA A n0 s0 QM dm ra jx rm X) : ∀ (σ : Sg) (v0 : Nat) (g0 : strOK v0), w_J0_length_8abf5_0 ra jx rm Q X σ v0 → RG σ → Shp dm ra jx rm σ → JJ p l e R s m args below meth c 1 D cA A n0 s0 QM σ 0 [(0, .ref (cA (1000 + v0)))] [] := by
  intro σ v0 g0 h hGσ hS H locs ls hH hl hc
  have B := K.1
  unfold w_J0_length_8abf5_0 at h
  refine lv_aload_n B.1 B.2.1 dJ0_length_8abf5_0 rfl (lv_at hl 0 rfl) ?_
  refine s_val B hH g0 (B.2.2.2.1 _ wf_J0_9) dJ0_length_8abf5_1 ?_
  refine y_len B hH g0 dJ0_length_8abf5_4 ?_
  refine lv_aload_n B.1 B.2.1 dJ0_length_8abf5_5 rfl (lv_at hl 0 rfl) ?_
  refine c_VS B hH hl hc K.2.2.1 (C := RJ0) (As := []) (ok_J0_coder_7d493 (dm := dm) (ra := ra) (jx := jx) (rm := rm) K.2.1 σ v0 g0 hGσ hS h) wc_J0_335 0 hd_J0_coder_7d493 ⟨Nat.le_trans (Nat.le_of_ble_eq_true rfl) K.2.2.2.1, Nat.le_trans (Nat.le_of_ble_eq_true rfl) K.2.2.2.2.1⟩ (xs_recv B hH g0) rfl (rest := [.int (i32 (bln v0))]) rfl (Nat.le_of_ble_eq_true rfl) dJ0_length_8abf5_6 (fun σ5 w hq => ?_) (fun σ9 E9 hx9 => hX σ9 E9 _ _ _ (tb_out K.2.2.2.2.2 rfl) hx9.1 hx9.2.1 hx9.2.2)
  obtain ⟨r6, rfl, ⟨gr6, gzr6⟩, h, hGσ5, hS⟩ := hq
  intro H locs ls hH hl hc
  refine W.eq (g2 := F0 m 9 ls [.int (i32 r6), .int (i32 (bln v0))]) (rfl) ?_
  try dsimp only at h
  refine lv_ishr B.1 B.2.1 dJ0_length_8abf5_9 ?_
  refine W.eq (g2 := F0 m 10 ls [.int (i32 (shrI (bln v0) r6))]) (by unfold shrI; rw [i32_self]) ?_
  exact hQ _ _ _ _ _ _ (rng_shrI _ _) dJ0_length_8abf5_10 hH hc h hGσ5 hS
theorem ok_J0_length_8abf5 (hT : Tys cA tys) {Q : Sg → Int → Prop} {X : Sg → String → Prop} (σ : Sg) (v0 : Nat) (g0 : strOK v0) (hG : RG σ) (hS : Shp dm ra jx rm σ) (h : wp_J0_length_8abf5 ra jx rm v0 σ Q X) : Ok l D cA tys A yJ0_length_8abf5 (.code yJ0_length_8abf5 cJ0_length_8abf5 1 (some .int)) 1 20 [.ref (cA (1000 + v0))] σ (QnI dm ra jx rm Q) (QxR dm ra jx rm X) := by
  unfold wp_J0_length_8abf5 at h
  exact ok_I (plainFor_of_name (by decide)) (by exact Nat.le_of_ble_eq_true rfl) hT (fun p e R s m args below meth c K hQ hX H locs ls hH hl hc => a_J0_length_8abf5_0 K hQ hX σ v0 g0 h hG hS H locs ls hH (lv_sub (l' := [(0, .ref (cA (1000 + v0)))]) hl [0] rfl) hc)
theorem dJ3_checkIndex_8e157_0 : decode cJ3_checkIndex_8e157 0 = .ok (.iload_n 0, 1) := by decide +kernel
theorem dJ3_checkIndex_8e157_1 : decode cJ3_checkIndex_8e157 1 = .ok (.ifCond .lt 8, 3) := by decide +kernel
theorem dJ3_checkIndex_8e157_4 : decode cJ3_checkIndex_8e157 4 = .ok (.iload_n 0, 1) := by decide +kernel
theorem dJ3_checkIndex_8e157_5 : decode cJ3_checkIndex_8e157 5 = .ok (.iload_n 1, 1) := by decide +kernel
theorem dJ3_checkIndex_8e157_6 : decode cJ3_checkIndex_8e157 6 = .ok (.if_icmp .lt 10, 3) := by decide +kernel
theorem dJ3_checkIndex_8e157_16 : decode cJ3_checkIndex_8e157 16 = .ok (.iload_n 0, 1) := by decide +kernel
theorem dJ3_checkIndex_8e157_17 : decode cJ3_checkIndex_8e157 17 = .ok (.ireturn, 1) := by decide +kernel
set_option maxRecDepth 20000 in
theorem a_J3_checkIndex_8e157_9 {Q : Sg → Int → Prop} {X : Sg → String → Prop} (K : MC R p s m args c cJ3_checkIndex_8e157 3 yJ3_checkIndex_8e157.cls D cA tys A n0 s0 0 0 []) (hQ : HQI p l e R s m args below meth c cJ3_checkIndex_8e157 D cA A n0 s0 QM dm ra jx rm Q) (hX : HX p l e R s m args below meth c 3 D cA A n0 s0 QM dm ra jx rm X) : ∀ (σ : Sg) (v0 : Int) (v1 : Int) (v2 : Option Nat) (g0 : rng v0) (g1 : rng v1), w_J3_checkIndex_8e157_9 ra jx rm Q X σ v0 v1 v2 → RG σ → Shp dm ra jx rm σ → JJ p l e R s m args below meth c 3 D cA A n0 s0 QM σ 9 [(0, .int (i32 v0)), (1, .int (i32 v1)), (2, va_rf v2)] [] := by
  intro σ v0 v1 v2 g0 g1 h hGσ hS H locs ls hH hl hc
  have B := K.1
  unfold w_J3_checkIndex_8e157_9 at h
  exact h.1.elim
set_option maxRecDepth 20000 in
theorem a_J3_checkIndex_8e157_16 {Q : Sg → Int → Prop} {X : Sg → String → Prop} (K : MC R p s m args c cJ3_checkIndex_8e157 3 yJ3_checkIndex_8e157.cls D cA tys A n0 s0 0 0 []) (hQ : HQI p l e R s m args below meth c cJ3_checkIndex_8e157 D cA A n0 s0 QM dm ra jx rm Q) (hX : HX p l e R s m args below meth c 3 D cA A n0 s0 QM dm ra jx rm X) : ∀ (σ : Sg) (v0 : Int) (v1 : Int) (v2 : Option Nat) (g0 : rng v0) (g1 : rng v1), w_J3_checkIndex_8e157_16 ra jx rm Q X σ v0 v1 v2 → RG σ → Shp dm ra jx rm σ → JJ p l e R s m args below meth c 3 D cA A n0 s0 QM σ 16 [(0, .int (i32 v0)), (1, .int (i32 v1)), (2, va_rf v2)] [] := by
  intro σ v0 v1 v2 g0 g1 h hGσ hS H locs ls hH hl hc
  have B := K.1
  unfold w_J3_checkIndex_8e157_16 at h
  refine lv_iload_n B.1 B.2.1 dJ3_checkIndex_8e157_16 rfl (lv_at hl 0 rfl) ?_
  exact hQ _ _ _ _ _ _ g0 dJ3_checkIndex_8e157_17 hH hc h hGσ hS
set_option maxRecDepth 20000 in
theorem a_J3_checkIndex_8e157_4 {Q : Sg → Int → Prop} {X : Sg → String → Prop} (K : MC R p s m args c cJ3_checkIndex_8e157 3 yJ3_checkIndex_8e157.cls D cA tys A n0 s0 0 0 []) (hQ : HQI p l e R s m args below meth c cJ3_checkIndex_8e157 D cA A n0 s0 QM dm ra jx rm Q) (hX : HX p l e R s m args below meth c 3 D cA A n0 s0 QM dm ra jx rm X) : ∀ (σ : Sg) (v0 : Int) (v1 : Int) (v2 : Option Nat) (g0 : rng v0) (g1 : rng v1), w_J3_checkIndex_8e157_4 ra jx rm Q X σ v0 v1 v2 → RG σ → Shp dm ra jx rm σ → JJ p l e R s m args below meth c 3 D cA A n0 s0 QM σ 4 [(0, .int (i32 v0)), (1, .int (i32 v1)), (2, va_rf v2)] [] := by
  intro σ v0 v1 v2 g0 g1 h hGσ hS H locs ls hH hl hc
  have B := K.1
  unfold w_J3_checkIndex_8e157_4 at h
  refine lv_iload_n B.1 B.2.1 dJ3_checkIndex_8e157_4 rfl (lv_at hl 0 rfl) ?_
  refine lv_iload_n B.1 B.2.1 dJ3_checkIndex_8e157_5 rfl (lv_at hl 1 rfl) ?_
  refine lv_icmp_lt (tgt := 16) B.1 B.2.1 dJ3_checkIndex_8e157_6 (by decide) (fun h9 => ?_) (fun h9 => ?_)
  · rw [if_pos ((i32_lt g0 g1).mp h9)] at h
    exact a_J3_checkIndex_8e157_16 K hQ hX _ _ _ _ g0 g1 h hGσ hS _ _ _ hH (lv_sub (l' := [(0, .int (i32 v0)), (1, .int (i32 v1)), (2, va_rf v2)]) hl [0, 1, 2] rfl) hc
  · rw [if_neg (fun q => h9 ((i32_lt g0 g1).mpr q))] at h
    exact a_J3_checkIndex_8e157_9 K hQ hX _ _ _ _ g0 g1 h hGσ hS _ _ _ hH (lv_sub (l' := [(0, .int (i32 v0)), (1, .int (i32 v1)), (2, va_rf v2)]) hl [0, 1, 2] rfl) hc
set_option maxRecDepth 20000 in
theorem a_J3_checkIndex_8e157_0 {Q : Sg → Int → Prop} {X : Sg → String → Prop} (K : MC R p s m args c cJ3_checkIndex_8e157 3 yJ3_checkIndex_8e157.cls D cA tys A n0 s0 0 0 []) (hQ : HQI p l e R s m args below meth c cJ3_checkIndex_8e157 D cA A n0 s0 QM dm ra jx rm Q) (hX : HX p l e R s m args below meth c 3 D cA A n0 s0 QM dm ra jx rm X) : ∀ (σ : Sg) (v0 : Int) (v1 : Int) (v2 : Option Nat) (g0 : rng v0) (g1 : rng v1), w_J3_checkIndex_8e157_0 ra jx rm Q X σ v0 v1 v2 → RG σ → Shp dm ra jx rm σ → JJ p l e R s m args below meth c 3 D cA A n0 s0 QM σ 0 [(0, .int (i32 v0)), (1, .int (i32 v1)), (2, va_rf v2)] [] := by
  intro σ v0 v1 v2 g0 g1 h hGσ hS H locs ls hH hl hc
  have B := K.1
  unfold w_J3_checkIndex_8e157_0 at h
  refine lv_iload_n B.1 B.2.1 dJ3_checkIndex_8e157_0 rfl (lv_at hl 0 rfl) ?_
  refine lv_if_lt (tgt := 9) B.1 B.2.1 dJ3_checkIndex_8e157_1 (by decide) (fun h9 => ?_) (fun h9 => ?_)
  · rw [if_pos ((z_lt g0).mp h9)] at h
    exact a_J3_checkIndex_8e157_9 K hQ hX _ _ _ _ g0 g1 h hGσ hS _ _ _ hH (lv_sub (l' := [(0, .int (i32 v0)), (1, .int (i32 v1)), (2, va_rf v2)]) hl [0, 1, 2] rfl) hc
  · rw [if_neg (fun q => h9 ((z_lt g0).mpr q))] at h
    exact a_J3_checkIndex_8e157_4 K hQ hX _ _ _ _ g0 g1 h hGσ hS _ _ _ hH (lv_sub (l' := [(0, .int (i32 v0)), (1, .int (i32 v1)), (2, va_rf v2)]) hl [0, 1, 2] rfl) hc
theorem ok_J3_checkIndex_8e157 (hT : Tys cA tys) {Q : Sg → Int → Prop} {X : Sg → String → Prop} (σ : Sg) (v0 : Int) (v1 : Int) (v2 : Option Nat) (g0 : rng v0) (g1 : rng v1) (hG : RG σ) (hS : Shp dm ra jx rm σ) (h : wp_J3_checkIndex_8e157 ra jx rm v0 v1 v2 σ Q X) : Ok l D cA tys A yJ3_checkIndex_8e157 (.code yJ3_checkIndex_8e157 cJ3_checkIndex_8e157 3 (some .int)) 0 0 [.int (i32 v0), .int (i32 v1), va_rf v2] σ (QnI dm ra jx rm Q) (QxR dm ra jx rm X) := by
  unfold wp_J3_checkIndex_8e157 at h
  exact ok_I (plainFor_of_name (by decide)) (by cases v2 <;> exact Nat.le_of_ble_eq_true rfl) hT (fun p e R s m args below meth c K hQ hX H locs ls hH hl hc => a_J3_checkIndex_8e157_0 K hQ hX σ v0 v1 v2 g0 g1 h hG hS H locs ls hH (lv_sub (l' := [(0, .int (i32 v0)), (1, .int (i32 v1)), (2, va_rf v2)]) hl [0, 1, 2] (by cases v2 <;> rfl)) hc)
theorem dJ0_checkIndex_df160_0 : decode cJ0_checkIndex_df160 0 = .ok (.iload_n 0, 1) := by decide +kernel
theorem dJ0_checkIndex_df160_1 : decode cJ0_checkIndex_df160 1 = .ok (.iload_n 1, 1) := by decide +kernel
theorem dJ0_checkIndex_df160_2 : decode cJ0_checkIndex_df160 2 = .ok (.getstatic 1053, 3) := by decide +kernel
theorem dJ0_checkIndex_df160_5 : decode cJ0_checkIndex_df160 5 = .ok (.invokestatic 1059, 3) := by decide +kernel
theorem dJ0_checkIndex_df160_8 : decode cJ0_checkIndex_df160 8 = .ok (.pop, 1) := by decide +kernel
theorem dJ0_checkIndex_df160_9 : decode cJ0_checkIndex_df160 9 = .ok (.return_, 1) := by decide +kernel
set_option maxRecDepth 20000 in
theorem a_J0_checkIndex_df160_0 {Q : Sg → Unit → Prop} {X : Sg → String → Prop} (K : MC R p s m args c cJ0_checkIndex_df160 2 yJ0_checkIndex_df160.cls D cA tys A n0 s0 1 22 []) (hQ : HQV p l e R s m args below meth c cJ0_checkIndex_df160 D cA A n0 s0 QM dm ra jx rm Q) (hX : HX p l e R s m args below meth c 2 D cA A n0 s0 QM dm ra jx rm X) : ∀ (σ : Sg) (v0 : Int) (v1 : Int) (g0 : rng v0) (g1 : rng v1), w_J0_checkIndex_df160_0 ra jx rm Q X σ v0 v1 → RG σ → Shp dm ra jx rm σ → JJ p l e R s m args below meth c 2 D cA A n0 s0 QM σ 0 [(0, .int (i32 v0)), (1, .int (i32 v1))] [] := by
  intro σ v0 v1 g0 g1 h hGσ hS H locs ls hH hl hc
  have B := K.1
  unfold w_J0_checkIndex_df160_0 at h
  refine lv_iload_n B.1 B.2.1 dJ0_checkIndex_df160_0 rfl (lv_at hl 0 rfl) ?_
  refine lv_iload_n B.1 B.2.1 dJ0_checkIndex_df160_1 rfl (lv_at hl 1 rfl) ?_
  refine h_getsQ B hH B.2.2.2.2.2.2.2.2.2.2.2.2.1 (B.2.2.2.1 _ wf_J0_1053) dJ0_checkIndex_df160_2 (fun f7 => ?_)
  have h := h f7
  refine c_S B hH hl hc K.2.2.1 (As := [.int (i32 v0), .int (i32 v1), va_rf f7]) (ok_J3_checkIndex_8e157 (dm := dm) (ra := ra) (jx := jx) (rm := rm) K.2.1 σ v0 v1 f7 g0 g1 hGσ hS h) wc_J0_1059 3 hd_J3_checkIndex_8e157 ⟨Nat.le_trans (Nat.le_of_ble_eq_true rfl) K.2.2.2.1, Nat.le_trans (Nat.le_of_ble_eq_true rfl) K.2.2.2.2.1⟩ rfl (rest := []) rfl (Nat.le_of_ble_eq_true rfl) dJ0_checkIndex_df160_5 (fun σ8 w hq => ?_) (fun σ9 E9 hx9 => hX σ9 E9 _ _ _ (tb_out K.2.2.2.2.2 rfl) hx9.1 hx9.2.1 hx9.2.2)
  obtain ⟨r9, rfl, gr9, h, hGσ8, hS⟩ := hq
  intro H locs ls hH hl hc
  refine W.eq (g2 := F0 m 8 ls [.int (i32 r9)]) (rfl) ?_
  try dsimp only at h
  refine lv_pop B.1 B.2.1 dJ0_checkIndex_df160_8 rfl ?_
  exact hQ _ _ _ _ _ dJ0_checkIndex_df160_9 hH hc h hGσ8 hS
theorem ok_J0_checkIndex_df160 (hT : Tys cA tys) {Q : Sg → Unit → Prop} {X : Sg → String → Prop} (σ : Sg) (v0 : Int) (v1 : Int) (g0 : rng v0) (g1 : rng v1) (hG : RG σ) (hS : Shp dm ra jx rm σ) (h : wp_J0_checkIndex_df160 ra jx rm v0 v1 σ Q X) : Ok l D cA tys A yJ0_checkIndex_df160 (.code yJ0_checkIndex_df160 cJ0_checkIndex_df160 2 none) 1 22 [.int (i32 v0), .int (i32 v1)] σ (QnV dm ra jx rm Q) (QxR dm ra jx rm X) := by
  unfold wp_J0_checkIndex_df160 at h
  exact ok_V (plainFor_of_name (by decide)) (by exact Nat.le_of_ble_eq_true rfl) hT (fun p e R s m args below meth c K hQ hX H locs ls hH hl hc => a_J0_checkIndex_df160_0 K hQ hX σ v0 v1 g0 g1 h hG hS H locs ls hH (lv_sub (l' := [(0, .int (i32 v0)), (1, .int (i32 v1))]) hl [0, 1] rfl) hc)
theorem dJ1_charAt_3b067_0 : decode cJ1_charAt_3b067 0 = .ok (.iload_n 1, 1) := by decide +kernel
theorem dJ1_charAt_3b067_1 : decode cJ1_charAt_3b067 1 = .ok (.aload_n 0, 1) := by decide +kernel
theorem dJ1_charAt_3b067_2 : decode cJ1_charAt_3b067 2 = .ok (.arraylength, 1) := by decide +kernel
theorem dJ1_charAt_3b067_3 : decode cJ1_charAt_3b067 3 = .ok (.invokestatic 9, 3) := by decide +kernel
theorem dJ1_charAt_3b067_6 : decode cJ1_charAt_3b067 6 = .ok (.aload_n 0, 1) := by decide +kernel
theorem dJ1_charAt_3b067_7 : decode cJ1_charAt_3b067 7 = .ok (.iload_n 1, 1) := by decide +kernel
theorem dJ1_charAt_3b067_8 : decode cJ1_charAt_3b067 8 = .ok (.baload, 1) := by decide +kernel
theorem dJ1_charAt_3b067_9 : decode cJ1_charAt_3b067 9 = .ok (.sipush 255, 3) := by decide +kernel
theorem dJ1_charAt_3b067_12 : decode cJ1_charAt_3b067 12 = .ok (.iand, 1) := by decide +kernel
theorem dJ1_charAt_3b067_13 : decode cJ1_charAt_3b067 13 = .ok (.i2c, 1) := by decide +kernel
theorem dJ1_charAt_3b067_14 : decode cJ1_charAt_3b067 14 = .ok (.ireturn, 1) := by decide +kernel
set_option maxRecDepth 20000 in
theorem a_J1_charAt_3b067_0 {Q : Sg → Int → Prop} {X : Sg → String → Prop} (K : MC R p s m args c cJ1_charAt_3b067 2 yJ1_charAt_3b067.cls D cA tys A n0 s0 2 43 []) (hQ : HQC p l e R s m args below meth c cJ1_charAt_3b067 D cA A n0 s0 QM dm ra jx rm Q) (hX : HX p l e R s m args below meth c 2 D cA A n0 s0 QM dm ra jx rm X) : ∀ (σ : Sg) (v0 : Nat) (v1 : Int) (g0 : strOK v0) (g1 : rng v1), w_J1_charAt_3b067_0 ra jx rm Q X σ v0 v1 → RG σ → Shp dm ra jx rm σ → JJ p l e R s m args below meth c 2 D cA A n0 s0 QM σ 0 [(0, .ref (cA (2000 + v0))), (1, .int (i32 v1))] [] := by
  intro σ v0 v1 g0 g1 h hGσ hS H locs ls hH hl hc
  have B := K.1
  unfold w_J1_charAt_3b067_0 at h
  refine lv_iload_n B.1 B.2.1 dJ1_charAt_3b067_0 rfl (lv_at hl 1 rfl) ?_
  refine lv_aload_n B.1 B.2.1 dJ1_charAt_3b067_1 rfl (lv_at hl 0 rfl) ?_
  refine y_len B hH g0 dJ1_charAt_3b067_2 ?_
  refine c_S B hH hl hc K.2.2.1 (As := [.int (i32 v1), .int (i32 (bln v0))]) (ok_J0_checkIndex_df160 (dm := dm) (ra := ra) (jx := jx) (rm := rm) K.2.1 σ v1 (bln v0) g1 (rng_bl g0) hGσ hS h) wc_J1_9 2 hd_J0_checkIndex_df160 ⟨Nat.le_trans (Nat.le_of_ble_eq_true rfl) K.2.2.2.1, Nat.le_trans (Nat.le_of_ble_eq_true rfl) K.2.2.2.2.1⟩ rfl (rest := []) rfl (Nat.le_of_ble_eq_true rfl) dJ1_charAt_3b067_3 (fun σ3 w hq => ?_) (fun σ9 E9 hx9 => hX σ9 E9 _ _ _ (tb_out K.2.2.2.2.2 rfl) hx9.1 hx9.2.1 hx9.2.2)
  obtain ⟨rfl, h, hGσ3, hS⟩ := hq
  intro H locs ls hH hl hc
  refine W.eq (g2 := F0 m 6 ls []) (rfl) ?_
  try dsimp only at h
  refine lv_aload_n B.1 B.2.1 dJ1_charAt_3b067_6 rfl (lv_at hl 0 rfl) ?_
  refine lv_iload_n B.1 B.2.1 dJ1_charAt_3b067_7 rfl (lv_at hl 1 rfl) ?_
  obtain ⟨q1, h⟩ := h
  refine y_ald B hH g0 q1 dJ1_charAt_3b067_8 ?_
  refine lv_sipush (v := i32 255) B.1 B.2.1 dJ1_charAt_3b067_9 (by decide) ?_
  refine lv_iand B.1 B.2.1 dJ1_charAt_3b067_12 ?_
  refine W.eq (g2 := F0 m 13 ls [.int (i32 ((i32 (by_ v0 v1) &&& i32 255).toInt))]) (by simp only [i32_self]) ?_
  refine lv_i2c B.1 B.2.1 dJ1_charAt_3b067_13 rfl ?_
  refine W.eq (g2 := F0 m 14 ls [.int (i32 (((i32 ((i32 (by_ v0 v1) &&& i32 255).toInt)).toUInt32 % 65536).toInt32.toInt))]) (by simp only [i32_self]) ?_
  obtain ⟨qz, h⟩ := h
  exact hQ _ _ _ _ _ _ (rng_toInt _) qz dJ1_charAt_3b067_14 hH hc h hGσ3 hS
theorem ok_J1_charAt_3b067 (hT : Tys cA tys) {Q : Sg → Int → Prop} {X : Sg → String → Prop} (σ : Sg) (v0 : Nat) (v1 : Int) (g0 : strOK v0) (g1 : rng v1) (hG : RG σ) (hS : Shp dm ra jx rm σ) (h : wp_J1_charAt_3b067 ra jx rm v0 v1 σ Q X) : Ok l D cA tys A yJ1_charAt_3b067 (.code yJ1_charAt_3b067 cJ1_charAt_3b067 2 (some .char)) 2 43 [.ref (cA (2000 + v0)), .int (i32 v1)] σ (QnC dm ra jx rm Q) (QxR dm ra jx rm X) := by
  unfold wp_J1_charAt_3b067 at h
  exact ok_C (plainFor_of_name (by decide)) (by exact Nat.le_of_ble_eq_true rfl) hT (fun p e R s m args below meth c K hQ hX H locs ls hH hl hc => a_J1_charAt_3b067_0 K hQ hX σ v0 v1 g0 g1 h hG hS H locs ls hH (lv_sub (l' := [(0, .ref (cA (2000 + v0))), (1, .int (i32 v1))]) hl [0, 1] rfl) hc)
theorem dJ0_charAt_5068e_0 : decode cJ0_charAt_5068e 0 = .ok (.aload_n 0, 1) := by decide +kernel
theorem dJ0_charAt_5068e_1 : decode cJ0_charAt_5068e 1 = .ok (.invokevirtual 492, 3) := by decide +kernel
theorem dJ0_charAt_5068e_4 : decode cJ0_charAt_5068e 4 = .ok (.ifCond .eq 12, 3) := by decide +kernel
theorem dJ0_charAt_5068e_7 : decode cJ0_charAt_5068e 7 = .ok (.aload_n 0, 1) := by decide +kernel
theorem dJ0_charAt_5068e_8 : decode cJ0_charAt_5068e 8 = .ok (.getfield 9, 3) := by decide +kernel
theorem dJ0_charAt_5068e_11 : decode cJ0_charAt_5068e 11 = .ok (.iload_n 1, 1) := by decide +kernel
theorem dJ0_charAt_5068e_12 : decode cJ0_charAt_5068e 12 = .ok (.invokestatic 495, 3) := by decide +kernel
theorem dJ0_charAt_5068e_15 : decode cJ0_charAt_5068e 15 = .ok (.ireturn, 1) := by decide +kernel
set_option maxRecDepth 20000 in
theorem a_J0_charAt_5068e_16 {Q : Sg → Int → Prop} {X : Sg → String → Prop} (K : MC R p s m args c cJ0_charAt_5068e 2 yJ0_charAt_5068e.cls D cA tys A n0 s0 3 64 []) (hQ : HQC p l e R s m args below meth c cJ0_charAt_5068e D cA A n0 s0 QM dm ra jx rm Q) (hX : HX p l e R s m args below meth c 2 D cA A n0 s0 QM dm ra jx rm X) : ∀ (σ : Sg) (v0 : Nat) (v1 : Int) (g0 : strOK v0) (g1 : rng v1), w_J0_charAt_5068e_16 ra jx rm Q X σ v0 v1 → RG σ → Shp dm ra jx rm σ → JJ p l e R s m args below meth c 2 D cA A n0 s0 QM σ 16 [(0, .ref (cA (1000 + v0))), (1, .int (i32 v1))] [] := by
  intro σ v0 v1 g0 g1 h hGσ hS H locs ls hH hl hc
  have B := K.1
  unfold w_J0_charAt_5068e_16 at h
  exact h.1.elim
set_option maxRecDepth 20000 in
theorem a_J0_charAt_5068e_7 {Q : Sg → Int → Prop} {X : Sg → String → Prop} (K : MC R p s m args c cJ0_charAt_5068e 2 yJ0_charAt_5068e.cls D cA tys A n0 s0 3 64 []) (hQ : HQC p l e R s m args below meth c cJ0_charAt_5068e D cA A n0 s0 QM dm ra jx rm Q) (hX : HX p l e R s m args below meth c 2 D cA A n0 s0 QM dm ra jx rm X) : ∀ (σ : Sg) (v0 : Nat) (v1 : Int) (g0 : strOK v0) (g1 : rng v1), w_J0_charAt_5068e_7 ra jx rm Q X σ v0 v1 → RG σ → Shp dm ra jx rm σ → JJ p l e R s m args below meth c 2 D cA A n0 s0 QM σ 7 [(0, .ref (cA (1000 + v0))), (1, .int (i32 v1))] [] := by
  intro σ v0 v1 g0 g1 h hGσ hS H locs ls hH hl hc
  have B := K.1
  unfold w_J0_charAt_5068e_7 at h
  refine lv_aload_n B.1 B.2.1 dJ0_charAt_5068e_7 rfl (lv_at hl 0 rfl) ?_
  refine s_val B hH g0 (B.2.2.2.1 _ wf_J0_9) dJ0_charAt_5068e_8 ?_
  refine lv_iload_n B.1 B.2.1 dJ0_charAt_5068e_11 rfl (lv_at hl 1 rfl) ?_
  refine c_S B hH hl hc K.2.2.1 (As := [.ref (cA (2000 + v0)), .int (i32 v1)]) (ok_J1_charAt_3b067 (dm := dm) (ra := ra) (jx := jx) (rm := rm) K.2.1 σ v0 v1 g0 g1 hGσ hS h) wc_J0_495 2 hd_J1_charAt_3b067 ⟨Nat.le_trans (Nat.le_of_ble_eq_true rfl) K.2.2.2.1, Nat.le_trans (Nat.le_of_ble_eq_true rfl) K.2.2.2.2.1⟩ rfl (rest := []) rfl (Nat.le_of_ble_eq_true rfl) dJ0_charAt_5068e_12 (fun σ9 w hq => ?_) (fun σ9 E9 hx9 => hX σ9 E9 _ _ _ (tb_out K.2.2.2.2.2 rfl) hx9.1 hx9.2.1 hx9.2.2)
  obtain ⟨r10, rfl, ⟨gr10, gzr10⟩, h, hGσ9, hS⟩ := hq
  intro H locs ls hH hl hc
  refine W.eq (g2 := F0 m 15 ls [.int (i32 r10)]) (rfl) ?_
  try dsimp only at h
  obtain ⟨qz, h⟩ := h
  exact hQ _ _ _ _ _ _ gr10 qz dJ0_charAt_5068e_15 hH hc h hGσ9 hS
set_option maxRecDepth 20000 in
theorem a_J0_charAt_5068e_0 {Q : Sg → Int → Prop} {X : Sg → String → Prop} (K : MC R p s m args c cJ0_charAt_5068e 2 yJ0_charAt_5068e.cls D cA tys A n0 s0 3 64 []) (hQ : HQC p l e R s m args below meth c cJ0_charAt_5068e D cA A n0 s0 QM dm ra jx rm Q) (hX : HX p l e R s m args below meth c 2 D cA A n0 s0 QM dm ra jx rm X) : ∀ (σ : Sg) (v0 : Nat) (v1 : Int) (g0 : strOK v0) (g1 : rng v1), w_J0_charAt_5068e_0 ra jx rm Q X σ v0 v1 → RG σ → Shp dm ra jx rm σ → JJ p l e R s m args below meth c 2 D cA A n0 s0 QM σ 0 [(0, .ref (cA (1000 + v0))), (1, .int (i32 v1))] [] := by
  intro σ v0 v1 g0 g1 h hGσ hS H locs ls hH hl hc
  have B := K.1
  unfold w_J0_charAt_5068e_0 at h
  refine lv_aload_n B.1 B.2.1 dJ0_charAt_5068e_0 rfl (lv_at hl 0 rfl) ?_
  refine c_VS B hH hl hc K.2.2.1 (C := RJ0) (As := []) (ok_J0_isLatin1_aae02 (dm := dm) (ra := ra) (jx := jx) (rm := rm) K.2.1 σ v0 g0 hGσ hS h) wc_J0_492 0 hd_J0_isLatin1_aae02 ⟨Nat.le_trans (Nat.le_of_ble_eq_true rfl) K.2.2.2.1, Nat.le_trans (Nat.le_of_ble_eq_true rfl) K.2.2.2.2.1⟩ (xs_recv B hH g0) rfl (rest := []) rfl (Nat.le_of_ble_eq_true rfl) dJ0_charAt_5068e_1 (fun σ11 w hq => ?_) (fun σ9 E9 hx9 => hX σ9 E9 _ _ _ (tb_out K.2.2.2.2.2 rfl) hx9.1 hx9.2.1 hx9.2.2)
  obtain ⟨r12, rfl, ⟨gr12, gzr12⟩, h, hGσ11, hS⟩ := hq
  intro H locs ls hH hl hc
  refine W.eq (g2 := F0 m 4 ls [.int (i32 r12)]) (rfl) ?_
  try dsimp only at h
  refine lv_if_eq (tgt := 16) B.1 B.2.1 dJ0_charAt_5068e_4 (by decide) (fun h9 => ?_) (fun h9 => ?_)
  · rw [if_pos ((z_eq gr12).mp h9)] at h
    exact a_J0_charAt_5068e_16 K hQ hX _ _ _ g0 g1 h hGσ11 hS _ _ _ hH (lv_sub (l' := [(0, .ref (cA (1000 + v0))), (1, .int (i32 v1))]) hl [0, 1] rfl) hc
  · rw [if_neg (fun q => h9 ((z_eq gr12).mpr q))] at h
    exact a_J0_charAt_5068e_7 K hQ hX _ _ _ g0 g1 h hGσ11 hS _ _ _ hH (lv_sub (l' := [(0, .ref (cA (1000 + v0))), (1, .int (i32 v1))]) hl [0, 1] rfl) hc
theorem ok_J0_charAt_5068e (hT : Tys cA tys) {Q : Sg → Int → Prop} {X : Sg → String → Prop} (σ : Sg) (v0 : Nat) (v1 : Int) (g0 : strOK v0) (g1 : rng v1) (hG : RG σ) (hS : Shp dm ra jx rm σ) (h : wp_J0_charAt_5068e ra jx rm v0 v1 σ Q X) : Ok l D cA tys A yJ0_charAt_5068e (.code yJ0_charAt_5068e cJ0_charAt_5068e 2 (some .char)) 3 64 [.ref (cA (1000 + v0)), .int (i32 v1)] σ (QnC dm ra jx rm Q) (QxR dm ra jx rm X) := by
  unfold wp_J0_charAt_5068e at h
  exact ok_C (plainFor_of_name (by decide)) (by exact Nat.le_of_ble_eq_true rfl) hT (fun p e R s m args below meth c K hQ hX H locs ls hH hl hc => a_J0_charAt_5068e_0 K hQ hX σ v0 v1 g0 g1 h hG hS H locs ls hH (lv_sub (l' := [(0, .ref (cA (1000 + v0))), (1, .int (i32 v1))]) hl [0, 1] rfl) hc)
theorem dJ1_canEncode_9a6ad_0 : decode cJ1_canEncode_9a6ad 0 = .ok (.iload_n 0, 1) := by decide +kernel
theorem dJ1_canEncode_9a6ad_1 : decode cJ1_canEncode_9a6ad 1 = .ok (.ifCond .lt 14, 3) := by decide +kernel
theorem dJ1_canEncode_9a6ad_4 : decode cJ1_canEncode_9a6ad 4 = .ok (.iload_n 0, 1) := by decide +kernel
theorem dJ1_canEncode_9a6ad_5 : decode cJ1_canEncode_9a6ad 5 = .ok (.sipush 255, 3) := by decide +kernel
theorem dJ1_canEncode_9a6ad_8 : decode cJ1_canEncode_9a6ad 8 = .ok (.if_icmp .gt 7, 3) := by decide +kernel
theorem dJ1_canEncode_9a6ad_11 : decode cJ1_canEncode_9a6ad 11 = .ok (.iconst 1, 1) := by decide +kernel
theorem dJ1_canEncode_9a6ad_12 : decode cJ1_canEncode_9a6ad 12 = .ok (.goto 4, 3) := by decide +kernel
theorem dJ1_canEncode_9a6ad_15 : decode cJ1_canEncode_9a6ad 15 = .ok (.iconst 0, 1) := by decide +kernel
theorem dJ1_canEncode_9a6ad_16 : decode cJ1_canEncode_9a6ad 16 = .ok (.ireturn, 1) := by decide +kernel
set_option maxRecDepth 20000 in
theorem a_J1_canEncode_9a6ad_16 {Q : Sg → Int → Prop} {X : Sg → String → Prop} (K : MC R p s m args c cJ1_canEncode_9a6ad 1 yJ1_canEncode_9a6ad.cls D cA tys A n0 s0 0 0 []) (hQ : HQZ p l e R s m args below meth c cJ1_canEncode_9a6ad D cA A n0 s0 QM dm ra jx rm Q) (hX : HX p l e R s m args below meth c 1 D cA A n0 s0 QM dm ra jx rm X) : ∀ (σ : Sg) (v0 : Int) (u0 : Int) (g0 : rng v0) (gu0 : rng u0), w_J1_canEncode_9a6ad_16 ra jx rm Q X σ v0 u0 → RG σ → Shp dm ra jx rm σ → JJ p l e R s m args below meth c 1 D cA A n0 s0 QM σ 16 [(0, .int (i32 v0))] [.int (i32 u0)] := by
  intro σ v0 u0 g0 gu0 h hGσ hS H locs ls hH hl hc
  have B := K.1
  unfold w_J1_canEncode_9a6ad_16 at h
  obtain ⟨qz, h⟩ := h
  exact hQ _ _ _ _ _ _ gu0 qz dJ1_canEncode_9a6ad_16 hH hc h hGσ hS
set_option maxRecDepth 20000 in
theorem a_J1_canEncode_9a6ad_15 {Q : Sg → Int → Prop} {X : Sg → String → Prop} (K : MC R p s m args c cJ1_canEncode_9a6ad 1 yJ1_canEncode_9a6ad.cls D cA tys A n0 s0 0 0 []) (hQ : HQZ p l e R s m args below meth c cJ1_canEncode_9a6ad D cA A n0 s0 QM dm ra jx rm Q) (hX : HX p l e R s m args below meth c 1 D cA A n0 s0 QM dm ra jx rm X) : ∀ (σ : Sg) (v0 : Int) (g0 : rng v0), w_J1_canEncode_9a6ad_15 ra jx rm Q X σ v0 → RG σ → Shp dm ra jx rm σ → JJ p l e R s m args below meth c 1 D cA A n0 s0 QM σ 15 [(0, .int (i32 v0))] [] := by
  intro σ v0 g0 h hGσ hS H locs ls hH hl hc
  have B := K.1
  unfold w_J1_canEncode_9a6ad_15 at h
  refine lv_iconst (v := i32 0) B.1 B.2.1 dJ1_canEncode_9a6ad_15 (by decide) ?_
  exact a_J1_canEncode_9a6ad_16 K hQ hX _ _ _ g0 (by unfold rng; omega) h hGσ hS _ _ _ hH (lv_sub (l' := [(0, .int (i32 v0))]) hl [0] rfl) hc
set_option maxRecDepth 20000 in
theorem a_J1_canEncode_9a6ad_11 {Q : Sg → Int → Prop} {X : Sg → String → Prop} (K : MC R p s m args c cJ1_canEncode_9a6ad 1 yJ1_canEncode_9a6ad.cls D cA tys A n0 s0 0 0 []) (hQ : HQZ p l e R s m args below meth c cJ1_canEncode_9a6ad D cA A n0 s0 QM dm ra jx rm Q) (hX : HX p l e R s m args below meth c 1 D cA A n0 s0 QM dm ra jx rm X) : ∀ (σ : Sg) (v0 : Int) (g0 : rng v0), w_J1_canEncode_9a6ad_11 ra jx rm Q X σ v0 → RG σ → Shp dm ra jx rm σ → JJ p l e R s m args below meth c 1 D cA A n0 s0 QM σ 11 [(0, .int (i32 v0))] [] := by
  intro σ v0 g0 h hGσ hS H locs ls hH hl hc
  have B := K.1
  unfold w_J1_canEncode_9a6ad_11 at h
  refine lv_iconst (v := i32 1) B.1 B.2.1 dJ1_canEncode_9a6ad_11 (by decide) ?_
  refine lv_goto (tgt := 16) B.1 B.2.1 dJ1_canEncode_9a6ad_12 (by decide) ?_
  exact a_J1_canEncode_9a6ad_16 K hQ hX _ _ _ g0 (by unfold rng; omega) h hGσ hS _ _ _ hH (lv_sub (l' := [(0, .int (i32 v0))]) hl [0] rfl) hc
set_option maxRecDepth 20000 in
theorem a_J1_canEncode_9a6ad_4 {Q : Sg → Int → Prop} {X : Sg → String → Prop} (K : MC R p s m args c cJ1_canEncode_9a6ad 1 yJ1_canEncode_9a6ad.cls D cA tys A n0 s0 0 0 []) (hQ : HQZ p l e R s m args below meth c cJ1_canEncode_9a6ad D cA A n0 s0 QM dm ra jx rm Q) (hX : HX p l e R s m args below meth c 1 D cA A n0 s0 QM dm ra jx rm X) : ∀ (σ : Sg) (v0 : Int) (g0 : rng v0), w_J1_canEncode_9a6ad_4 ra jx rm Q X σ v0 → RG σ → Shp dm ra jx rm σ → JJ p l e R s m args below meth c 1 D cA A n0 s0 QM σ 4 [(0, .int (i32 v0))] [] := by
  intro σ v0 g0 h hGσ hS H locs ls hH hl hc
  have B := K.1
  unfold w_J1_canEncode_9a6ad_4 at h
  refine lv_iload_n B.1 B.2.1 dJ1_canEncode_9a6ad_4 rfl (lv_at hl 0 rfl) ?_
  refine lv_sipush (v := i32 255) B.1 B.2.1 dJ1_canEncode_9a6ad_5 (by decide) ?_
  refine lv_icmp_gt (tgt := 15) B.1 B.2.1 dJ1_canEncode_9a6ad_8 (by decide) (fun h9 => ?_) (fun h9 => ?_)
  · rw [if_pos ((i32_lt (by unfold rng; omega) g0).mp h9)] at h
    exact a_J1_canEncode_9a6ad_15 K hQ hX _ _ g0 h hGσ hS _ _ _ hH (lv_sub (l' := [(0, .int (i32 v0))]) hl [0] rfl) hc
  · rw [if_neg (fun q => h9 ((i32_lt (by unfold rng; omega) g0).mpr q))] at h
    exact a_J1_canEncode_9a6ad_11 K hQ hX _ _ g0 h hGσ hS _ _ _ hH (lv_sub (l' := [(0, .int (i32 v0))]) hl [0] rfl) hc
set_option maxRecDepth 20000 in
theorem a_J1_canEncode_9a6ad_0 {Q : Sg → Int → Prop} {X : Sg → String → Prop} (K : MC R p s m args c cJ1_canEncode_9a6ad 1 yJ1_canEncode_9a6ad.cls D cA tys A n0 s0 0 0 []) (hQ : HQZ p l e R s m args below meth c cJ1_canEncode_9a6ad D cA A n0 s0 QM dm ra jx rm Q) (hX : HX p l e R s m args below meth c 1 D cA A n0 s0 QM dm ra jx rm X) : ∀ (σ : Sg) (v0 : Int) (g0 : rng v0), w_J1_canEncode_9a6ad_0 ra jx rm Q X σ v0 → RG σ → Shp dm ra jx rm σ → JJ p l e R s m args below meth c 1 D cA A n0 s0 QM σ 0 [(0, .int (i32 v0))] [] := by
  intro σ v0 g0 h hGσ hS H locs ls hH hl hc
  have B := K.1
  unfold w_J1_canEncode_9a6ad_0 at h
  refine lv_iload_n B.1 B.2.1 dJ1_canEncode_9a6ad_0 rfl (lv_at hl 0 rfl) ?_
  refine lv_if_lt (tgt := 15) B.1 B.2.1 dJ1_canEncode_9a6ad_1 (by decide) (fun h9 => ?_) (fun h9 => ?_)
  · rw [if_pos ((z_lt g0).mp h9)] at h
    exact a_J1_canEncode_9a6ad_15 K hQ hX _ _ g0 h hGσ hS _ _ _ hH (lv_sub (l' := [(0, .int (i32 v0))]) hl [0] rfl) hc
  · rw [if_neg (fun q => h9 ((z_lt g0).mpr q))] at h
    exact a_J1_canEncode_9a6ad_4 K hQ hX _ _ g0 h hGσ hS _ _ _ hH (lv_sub (l' := [(0, .int (i32 v0))]) hl [0] rfl) hc
theorem ok_J1_canEncode_9a6ad (hT : Tys cA tys) {Q : Sg → Int → Prop} {X : Sg → String → Prop} (σ : Sg) (v0 : Int) (g0 : rng v0) (hG : RG σ) (hS : Shp dm ra jx rm σ) (h : wp_J1_canEncode_9a6ad ra jx rm v0 σ Q X) : Ok l D cA tys A yJ1_canEncode_9a6ad (.code yJ1_canEncode_9a6ad cJ1_canEncode_9a6ad 1 (some .boolean)) 0 0 [.int (i32 v0)] σ (QnZ dm ra jx rm Q) (QxR dm ra jx rm X) := by
  unfold wp_J1_canEncode_9a6ad at h
  exact ok_Z (plainFor_of_name (by decide)) (by exact Nat.le_of_ble_eq_true rfl) hT (fun p e R s m args below meth c K hQ hX H locs ls hH hl hc => a_J1_canEncode_9a6ad_0 K hQ hX σ v0 g0 h hG hS H locs ls hH (lv_sub (l' := [(0, .int (i32 v0))]) hl [0] rfl) hc)
theorem dJ1_indexOfChar_4cfef_0 : decode cJ1_indexOfChar_4cfef 0 = .ok (.iload_n 1, 1) := by decide +kernel
theorem dJ1_indexOfChar_4cfef_1 : decode cJ1_indexOfChar_4cfef 1 = .ok (.i2b, 1) := by decide +kernel
theorem dJ1_indexOfChar_4cfef_2 : decode cJ1_indexOfChar_4cfef 2 = .ok (.istore 4, 2) := by decide +kernel
theorem dJ1_indexOfChar_4cfef_4 : decode cJ1_indexOfChar_4cfef 4 = .ok (.iload_n 2, 1) := by decide +kernel
theorem dJ1_indexOfChar_4cfef_5 : decode cJ1_indexOfChar_4cfef 5 = .ok (.istore 5, 2) := by decide +kernel
theorem dJ1_indexOfChar_4cfef_7 : decode cJ1_indexOfChar_4cfef 7 = .ok (.iload 5, 2) := by decide +kernel
theorem dJ1_indexOfChar_4cfef_9 : decode cJ1_indexOfChar_4cfef 9 = .ok (.iload_n 3, 1) := by decide +kernel
theorem dJ1_indexOfChar_4cfef_10 : decode cJ1_indexOfChar_4cfef 10 = .ok (.if_icmp .ge 21, 3) := by decide +kernel
theorem dJ1_indexOfChar_4cfef_13 : decode cJ1_indexOfChar_4cfef 13 = .ok (.aload_n 0, 1) := by decide +kernel
theorem dJ1_indexOfChar_4cfef_14 : decode cJ1_indexOfChar_4cfef 14 = .ok (.iload 5, 2) := by decide +kernel
theorem dJ1_indexOfChar_4cfef_16 : decode cJ1_indexOfChar_4cfef 16 = .ok (.baload, 1) := by decide +kernel
theorem dJ1_indexOfChar_4cfef_17 : decode cJ1_indexOfChar_4cfef 17 = .ok (.iload 4, 2) := by decide +kernel
theorem dJ1_indexOfChar_4cfef_19 : decode cJ1_indexOfChar_4cfef 19 = .ok (.if_icmp .ne 6, 3) := by decide +kernel
theorem dJ1_indexOfChar_4cfef_22 : decode cJ1_indexOfChar_4cfef 22 = .ok (.iload 5, 2) := by decide +kernel
theorem dJ1_indexOfChar_4cfef_24 : decode cJ1_indexOfChar_4cfef 24 = .ok (.ireturn, 1) := by decide +kernel
theorem dJ1_indexOfChar_4cfef_25 : decode cJ1_indexOfChar_4cfef 25 = .ok (.iinc 5 1, 3) := by decide +kernel
theorem dJ1_indexOfChar_4cfef_28 : decode cJ1_indexOfChar_4cfef 28 = .ok (.goto (-21), 3) := by decide +kernel
theorem dJ1_indexOfChar_4cfef_31 : decode cJ1_indexOfChar_4cfef 31 = .ok (.iconst (-1), 1) := by decide +kernel
theorem dJ1_indexOfChar_4cfef_32 : decode cJ1_indexOfChar_4cfef 32 = .ok (.ireturn, 1) := by decide +kernel
set_option maxRecDepth 20000 in
theorem a_J1_indexOfChar_4cfef_31 {Q : Sg → Int → Prop} {X : Sg → String → Prop} (K : MC R p s m args c cJ1_indexOfChar_4cfef 6 yJ1_indexOfChar_4cfef.cls D cA tys A n0 s0 0 0 []) (hQ : HQI p l e R s m args below meth c cJ1_indexOfChar_4cfef D cA A n0 s0 QM dm ra jx rm Q) (hX : HX p l e R s m args below meth c 6 D cA A n0 s0 QM dm ra jx rm X) : ∀ (σ : Sg) (v0 : Nat) (v1 : Int) (v2 : Int) (v3 : Int) (v4 : Int) (v5 : Int) (g0 : strOK v0) (g1 : rng v1) (g2 : rng v2) (g3 : rng v3) (g4 : rng v4) (g5 : rng v5), w_J1_indexOfChar_4cfef_31 ra jx rm Q X σ v0 v1 v2 v3 v4 v5 → RG σ → Shp dm ra jx rm σ → JJ p l e R s m args below meth c 6 D cA A n0 s0 QM σ 31 [(0, .ref (cA (2000 + v0))), (1, .int (i32 v1)), (2, .int (i32 v2)), (3, .int (i32 v3)), (4, .int (i32 v4)), (5, .int (i32 v5))] [] := by
  intro σ v0 v1 v2 v3 v4 v5 g0 g1 g2 g3 g4 g5 h hGσ hS H locs ls hH hl hc
  have B := K.1
  unfold w_J1_indexOfChar_4cfef_31 at h
  refine lv_iconst (v := i32 (-1)) B.1 B.2.1 dJ1_indexOfChar_4cfef_31 (by decide) ?_
  exact hQ _ _ _ _ _ _ (by unfold rng; omega) dJ1_indexOfChar_4cfef_32 hH hc h hGσ hS
set_option maxRecDepth 20000 in
theorem a_J1_indexOfChar_4cfef_25 {Q : Sg → Int → Prop} {X : Sg → String → Prop} (K : MC R p s m args c cJ1_indexOfChar_4cfef 6 yJ1_indexOfChar_4cfef.cls D cA tys A n0 s0 0 0 []) (hQ : HQI p l e R s m args below meth c cJ1_indexOfChar_4cfef D cA A n0 s0 QM dm ra jx rm Q) (hX : HX p l e R s m args below meth c 6 D cA A n0 s0 QM dm ra jx rm X) {K7 : Sg → Nat → Int → Int → Int → Int → Int → Prop} (hK7 : ∀ (σ : Sg) (v0 : Nat) (v1 : Int) (v2 : Int) (v3 : Int) (v4 : Int) (v5 : Int) (g0 : strOK v0) (g1 : rng v1) (g2 : rng v2) (g3 : rng v3) (g4 : rng v4) (g5 : rng v5), K7 σ v0 v1 v2 v3 v4 v5 → RG σ → Shp dm ra jx rm σ → JJ p l e R s m args below meth c 6 D cA A n0 s0 QM σ 7 [(0, .ref (cA (2000 + v0))), (1, .int (i32 v1)), (2, .int (i32 v2)), (3, .int (i32 v3)), (4, .int (i32 v4)), (5, .int (i32 v5))] []) : ∀ (σ : Sg) (v0 : Nat) (v1 : Int) (v2 : Int) (v3 : Int) (v4 : Int) (v5 : Int) (g0 : strOK v0) (g1 : rng v1) (g2 : rng v2) (g3 : rng v3) (g4 : rng v4) (g5 : rng v5), w_J1_indexOfChar_4cfef_25 ra jx rm K7 Q X σ v0 v1 v2 v3 v4 v5 → RG σ → Shp dm ra jx rm σ → JJ p l e R s m args below meth c 6 D cA A n0 s0 QM σ 25 [(0, .ref (cA (2000 + v0))), (1, .int (i32 v1)), (2, .int (i32 v2)), (3, .int (i32 v3)), (4, .int (i32 v4)), (5, .int (i32 v5))] [] := by
  intro σ v0 v1 v2 v3 v4 v5 g0 g1 g2 g3 g4 g5 h hGσ hS H locs ls hH hl hc
  have B := K.1
  unfold w_J1_indexOfChar_4cfef_25 at h
  obtain ⟨q1, h⟩ := h
  refine lv_iinc (k := 5) (v := i32 (v5 + 1)) (lv' := [(5, .int (i32 (v5 + 1))), (0, .ref (cA (2000 + v0))), (1, .int (i32 v1)), (2, .int (i32 v2)), (3, .int (i32 v3)), (4, .int (i32 v4))]) B.1 B.2.1 dJ1_indexOfChar_4cfef_25 hl rfl (i32_add _ _) (by decide) rfl (fun ls hl => ?_)
  refine lv_goto (tgt := 7) B.1 B.2.1 dJ1_indexOfChar_4cfef_28 (by decide) ?_
  exact hK7 _ _ _ _ _ _ _ g0 g1 g2 g3 g4 q1 h hGσ hS _ _ _ hH (lv_sub (l' := [(0, .ref (cA (2000 + v0))), (1, .int (i32 v1)), (2, .int (i32 v2)), (3, .int (i32 v3)), (4, .int (i32 v4)), (5, .int (i32 (v5 + 1)))]) hl [1, 2, 3, 4, 5, 0] rfl) hc
set_option maxRecDepth 20000 in
theorem a_J1_indexOfChar_4cfef_22 {Q : Sg → Int → Prop} {X : Sg → String → Prop} (K : MC R p s m args c cJ1_indexOfChar_4cfef 6 yJ1_indexOfChar_4cfef.cls D cA tys A n0 s0 0 0 []) (hQ : HQI p l e R s m args below meth c cJ1_indexOfChar_4cfef D cA A n0 s0 QM dm ra jx rm Q) (hX : HX p l e R s m args below meth c 6 D cA A n0 s0 QM dm ra jx rm X) : ∀ (σ : Sg) (v0 : Nat) (v1 : Int) (v2 : Int) (v3 : Int) (v4 : Int) (v5 : Int) (g0 : strOK v0) (g1 : rng v1) (g2 : rng v2) (g3 : rng v3) (g4 : rng v4) (g5 : rng v5), w_J1_indexOfChar_4cfef_22 ra jx rm Q X σ v0 v1 v2 v3 v4 v5 → RG σ → Shp dm ra jx rm σ → JJ p l e R s m args below meth c 6 D cA A n0 s0 QM σ 22 [(0, .ref (cA (2000 + v0))), (1, .int (i32 v1)), (2, .int (i32 v2)), (3, .int (i32 v3)), (4, .int (i32 v4)), (5, .int (i32 v5))] [] := by
  intro σ v0 v1 v2 v3 v4 v5 g0 g1 g2 g3 g4 g5 h hGσ hS H locs ls hH hl hc
  have B := K.1
  unfold w_J1_indexOfChar_4cfef_22 at h
  refine lv_iload B.1 B.2.1 dJ1_indexOfChar_4cfef_22 (lv_at hl 5 rfl) ?_
  exact hQ _ _ _ _ _ _ g5 dJ1_indexOfChar_4cfef_24 hH hc h hGσ hS
set_option maxRecDepth 20000 in
theorem a_J1_indexOfChar_4cfef_13 {Q : Sg → Int → Prop} {X : Sg → String → Prop} (K : MC R p s m args c cJ1_indexOfChar_4cfef 6 yJ1_indexOfChar_4cfef.cls D cA tys A n0 s0 0 0 []) (hQ : HQI p l e R s m args below meth c cJ1_indexOfChar_4cfef D cA A n0 s0 QM dm ra jx rm Q) (hX : HX p l e R s m args below meth c 6 D cA A n0 s0 QM dm ra jx rm X) {K7 : Sg → Nat → Int → Int → Int → Int → Int → Prop} (hK7 : ∀ (σ : Sg) (v0 : Nat) (v1 : Int) (v2 : Int) (v3 : Int) (v4 : Int) (v5 : Int) (g0 : strOK v0) (g1 : rng v1) (g2 : rng v2) (g3 : rng v3) (g4 : rng v4) (g5 : rng v5), K7 σ v0 v1 v2 v3 v4 v5 → RG σ → Shp dm ra jx rm σ → JJ p l e R s m args below meth c 6 D cA A n0 s0 QM σ 7 [(0, .ref (cA (2000 + v0))), (1, .int (i32 v1)), (2, .int (i32 v2)), (3, .int (i32 v3)), (4, .int (i32 v4)), (5, .int (i32 v5))] []) : ∀ (σ : Sg) (v0 : Nat) (v1 : Int) (v2 : Int) (v3 : Int) (v4 : Int) (v5 : Int) (g0 : strOK v0) (g1 : rng v1) (g2 : rng v2) (g3 : rng v3) (g4 : rng v4) (g5 : rng v5), w_J1_indexOfChar_4cfef_13 ra jx rm K7 Q X σ v0 v1 v2 v3 v4 v5 → RG σ → Shp dm ra jx rm σ → JJ p l e R s m args below meth c 6 D cA A n0 s0 QM σ 13 [(0, .ref (cA (2000 + v0))), (1, .int (i32 v1)), (2, .int (i32 v2)), (3, .int (i32 v3)), (4, .int (i32 v4)), (5, .int (i32 v5))] [] := by
  intro σ v0 v1 v2 v3 v4 v5 g0 g1 g2 g3 g4 g5 h hGσ hS H locs ls hH hl hc
  have B := K.1
  unfold w_J1_indexOfChar_4cfef_13 at h
  refine lv_aload_n B.1 B.2.1 dJ1_indexOfChar_4cfef_13 rfl (lv_at hl 0 rfl) ?_
  refine lv_iload B.1 B.2.1 dJ1_indexOfChar_4cfef_14 (lv_at hl 5 rfl) ?_
  obtain ⟨q1, h⟩ := h
  refine y_ald B hH g0 q1 dJ1_indexOfChar_4cfef_16 ?_
  refine lv_iload B.1 B.2.1 dJ1_indexOfChar_4cfef_17 (lv_at hl 4 rfl) ?_
  refine lv_icmp_ne (tgt := 25) B.1 B.2.1 dJ1_indexOfChar_4cfef_19 (by decide) (fun h9 => ?_) (fun h9 => ?_)
  · rw [if_pos (fun q => h9 ((i32_eq (rng_by_ _ _) g4).mpr q))] at h
    exact a_J1_indexOfChar_4cfef_25 K hQ hX hK7 _ _ _ _ _ _ _ g0 g1 g2 g3 g4 g5 h hGσ hS _ _ _ hH (lv_sub (l' := [(0, .ref (cA (2000 + v0))), (1, .int (i32 v1)), (2, .int (i32 v2)), (3, .int (i32 v3)), (4, .int (i32 v4)), (5, .int (i32 v5))]) hl [0, 1, 2, 3, 4, 5] rfl) hc
  · rw [if_neg (fun q => q ((i32_eq (rng_by_ _ _) g4).mp h9))] at h
    exact a_J1_indexOfChar_4cfef_22 K hQ hX _ _ _ _ _ _ _ g0 g1 g2 g3 g4 g5 h hGσ hS _ _ _ hH (lv_sub (l' := [(0, .ref (cA (2000 + v0))), (1, .int (i32 v1)), (2, .int (i32 v2)), (3, .int (i32 v3)), (4, .int (i32 v4)), (5, .int (i32 v5))]) hl [0, 1, 2, 3, 4, 5] rfl) hc
set_option maxRecDepth 20000 in
theorem a_J1_indexOfChar_4cfef_7 {Q : Sg → Int → Prop} {X : Sg → String → Prop} (K : MC R p s m args c cJ1_indexOfChar_4cfef 6 yJ1_indexOfChar_4cfef.cls D cA tys A n0 s0 0 0 []) (hQ : HQI p l e R s m args below meth c cJ1_indexOfChar_4cfef D cA A n0 s0 QM dm ra jx rm Q) (hX : HX p l e R s m args below meth c 6 D cA A n0 s0 QM dm ra jx rm X) {K7 : Sg → Nat → Int → Int → Int → Int → Int → Prop} (hK7 : ∀ (σ : Sg) (v0 : Nat) (v1 : Int) (v2 : Int) (v3 : Int) (v4 : Int) (v5 : Int) (g0 : strOK v0) (g1 : rng v1) (g2 : rng v2) (g3 : rng v3) (g4 : rng v4) (g5 : rng v5), K7 σ v0 v1 v2 v3 v4 v5 → RG σ → Shp dm ra jx rm σ → JJ p l e R s m args below meth c 6 D cA A n0 s0 QM σ 7 [(0, .ref (cA (2000 + v0))), (1, .int (i32 v1)), (2, .int (i32 v2)), (3, .int (i32 v3)), (4, .int (i32 v4)), (5, .int (i32 v5))] []) : ∀ (σ : Sg) (v0 : Nat) (v1 : Int) (v2 : Int) (v3 : Int) (v4 : Int) (v5 : Int) (g0 : strOK v0) (g1 : rng v1) (g2 : rng v2) (g3 : rng v3) (g4 : rng v4) (g5 : rng v5), w_J1_indexOfChar_4cfef_7 ra jx rm K7 Q X σ v0 v1 v2 v3 v4 v5 → RG σ → Shp dm ra jx rm σ → JJ p l e R s m args below meth c 6 D cA A n0 s0 QM σ 7 [(0, .ref (cA (2000 + v0))), (1, .int (i32 v1)), (2, .int (i32 v2)), (3, .int (i32 v3)), (4, .int (i32 v4)), (5, .int (i32 v5))] [] := by
  intro σ v0 v1 v2 v3 v4 v5 g0 g1 g2 g3 g4 g5 h hGσ hS H locs ls hH hl hc
  have B := K.1
  unfold w_J1_indexOfChar_4cfef_7 at h
  refine lv_iload B.1 B.2.1 dJ1_indexOfChar_4cfef_7 (lv_at hl 5 rfl) ?_
  refine lv_iload_n B.1 B.2.1 dJ1_indexOfChar_4cfef_9 rfl (lv_at hl 3 rfl) ?_
  refine lv_icmp_ge (tgt := 31) B.1 B.2.1 dJ1_indexOfChar_4cfef_10 (by decide) (fun h9 => ?_) (fun h9 => ?_)
  · rw [if_pos ((i32_le g3 g5).mp h9)] at h
    exact a_J1_indexOfChar_4cfef_31 K hQ hX _ _ _ _ _ _ _ g0 g1 g2 g3 g4 g5 h hGσ hS _ _ _ hH (lv_sub (l' := [(0, .ref (cA (2000 + v0))), (1, .int (i32 v1)), (2, .int (i32 v2)), (3, .int (i32 v3)), (4, .int (i32 v4)), (5, .int (i32 v5))]) hl [0, 1, 2, 3, 4, 5] rfl) hc
  · rw [if_neg (fun q => h9 ((i32_le g3 g5).mpr q))] at h
    exact a_J1_indexOfChar_4cfef_13 K hQ hX hK7 _ _ _ _ _ _ _ g0 g1 g2 g3 g4 g5 h hGσ hS _ _ _ hH (lv_sub (l' := [(0, .ref (cA (2000 + v0))), (1, .int (i32 v1)), (2, .int (i32 v2)), (3, .int (i32 v3)), (4, .int (i32 v4)), (5, .int (i32 v5))]) hl [0, 1, 2, 3, 4, 5] rfl) hc
theorem al_J1_indexOfChar_4cfef_7 {Q : Sg → Int → Prop} {X : Sg → String → Prop} (K : MC R p s m args c cJ1_indexOfChar_4cfef 6 yJ1_indexOfChar_4cfef.cls D cA tys A n0 s0 0 0 []) (hQ : HQI p l e R s m args below meth c cJ1_indexOfChar_4cfef D cA A n0 s0 QM dm ra jx rm Q) (hX : HX p l e R s m args below meth c 6 D cA A n0 s0 QM dm ra jx rm X) : ∀ (n : Nat), ∀ (σ : Sg) (v0 : Nat) (v1 : Int) (v2 : Int) (v3 : Int) (v4 : Int) (v5 : Int) (g0 : strOK v0) (g1 : rng v1) (g2 : rng v2) (g3 : rng v3) (g4 : rng v4) (g5 : rng v5), wl_J1_indexOfChar_4cfef_7 ra jx rm Q X n σ v0 v1 v2 v3 v4 v5 → RG σ → Shp dm ra jx rm σ → JJ p l e R s m args below meth c 6 D cA A n0 s0 QM σ 7 [(0, .ref (cA (2000 + v0))), (1, .int (i32 v1)), (2, .int (i32 v2)), (3, .int (i32 v3)), (4, .int (i32 v4)), (5, .int (i32 v5))] [] := by
  intro n
  induction n with
  | zero => intro σ v0 v1 v2 v3 v4 v5 g0 g1 g2 g3 g4 g5 h; exact h.elim
  | succ n ih => exact fun σ v0 v1 v2 v3 v4 v5 g0 g1 g2 g3 g4 g5 h => a_J1_indexOfChar_4cfef_7 K hQ hX ih σ v0 v1 v2 v3 v4 v5 g0 g1 g2 g3 g4 g5 h
set_option maxRecDepth 20000 in
theorem a_J1_indexOfChar_4cfef_0 {Q : Sg → Int → Prop} {X : Sg → String → Prop} (K : MC R p s m args c cJ1_indexOfChar_4cfef 6 yJ1_indexOfChar_4cfef.cls D cA tys A n0 s0 0 0 []) (hQ : HQI p l e R s m args below meth c cJ1_indexOfChar_4cfef D cA A n0 s0 QM dm ra jx rm Q) (hX : HX p l e R s m args below meth c 6 D cA A n0 s0 QM dm ra jx rm X) : ∀ (σ : Sg) (v0 : Nat) (v1 : Int) (v2 : Int) (v3 : Int) (g0 : strOK v0) (g1 : rng v1) (g2 : rng v2) (g3 : rng v3), w_J1_indexOfChar_4cfef_0 ra jx rm Q X σ v0 v1 v2 v3 → RG σ → Shp dm ra jx rm σ → JJ p l e R s m args below meth c 6 D cA A n0 s0 QM σ 0 [(0, .ref (cA (2000 + v0))), (1, .int (i32 v1)), (2, .int (i32 v2)), (3, .int (i32 v3))] [] := by
  intro σ v0 v1 v2 v3 g0 g1 g2 g3 h hGσ hS H locs ls hH hl hc
  have B := K.1
  unfold w_J1_indexOfChar_4cfef_0 at h
  refine lv_iload_n B.1 B.2.1 dJ1_indexOfChar_4cfef_0 rfl (lv_at hl 1 rfl) ?_
  refine lv_i2b B.1 B.2.1 dJ1_indexOfChar_4cfef_1 rfl ?_
  refine W.eq (g2 := F0 m 2 ls [.int (i32 ((i32 v1).toInt8.toInt32.toInt))]) (by simp only [i32_self]) ?_
  refine lv_istore (lv' := [(4, .int (i32 ((i32 v1).toInt8.toInt32.toInt))), (0, .ref (cA (2000 + v0))), (1, .int (i32 v1)), (2, .int (i32 v2)), (3, .int (i32 v3))]) B.1 B.2.1 dJ1_indexOfChar_4cfef_2 hl (by decide) rfl (fun ls hl => ?_)
  refine lv_iload_n B.1 B.2.1 dJ1_indexOfChar_4cfef_4 rfl (lv_at hl 3 rfl) ?_
  refine lv_istore (lv' := [(5, .int (i32 v2)), (4, .int (i32 ((i32 v1).toInt8.toInt32.toInt))), (0, .ref (cA (2000 + v0))), (1, .int (i32 v1)), (2, .int (i32 v2)), (3, .int (i32 v3))]) B.1 B.2.1 dJ1_indexOfChar_4cfef_5 hl (by decide) rfl (fun ls hl => ?_)
  obtain ⟨n9, h⟩ := h
  exact al_J1_indexOfChar_4cfef_7 K hQ hX n9 _ _ _ _ _ _ _ g0 g1 g2 g3 (rng_toInt _) g2 h hGσ hS _ _ _ hH (lv_sub (l' := [(0, .ref (cA (2000 + v0))), (1, .int (i32 v1)), (2, .int (i32 v2)), (3, .int (i32 v3)), (4, .int (i32 ((i32 v1).toInt8.toInt32.toInt))), (5, .int (i32 v2))]) hl [2, 3, 4, 5, 1, 0] rfl) hc
theorem ok_J1_indexOfChar_4cfef (hT : Tys cA tys) {Q : Sg → Int → Prop} {X : Sg → String → Prop} (σ : Sg) (v0 : Nat) (v1 : Int) (v2 : Int) (v3 : Int) (g0 : strOK v0) (g1 : rng v1) (g2 : rng v2) (g3 : rng v3) (hG : RG σ) (hS : Shp dm ra jx rm σ) (h : wp_J1_indexOfChar_4cfef ra jx rm v0 v1 v2 v3 σ Q X) : Ok l D cA tys A yJ1_indexOfChar_4cfef (.code yJ1_indexOfChar_4cfef cJ1_indexOfChar_4cfef 6 (some .int)) 0 0 [.ref (cA (2000 + v0)), .int (i32 v1), .int (i32 v2), .int (i32 v3)] σ (QnI dm ra jx rm Q) (QxR dm ra jx rm X) := by
  unfold wp_J1_indexOfChar_4cfef at h
  exact ok_I (plainFor_of_name (by decide)) (by exact Nat.le_of_ble_eq_true rfl) hT (fun p e R s m args below meth c K hQ hX H locs ls hH hl hc => a_J1_indexOfChar_4cfef_0 K hQ hX σ v0 v1 v2 v3 g0 g1 g2 g3 h hG hS H locs ls hH (lv_sub (l' := [(0, .ref (cA (2000 + v0))), (1, .int (i32 v1)), (2, .int (i32 v2)), (3, .int (i32 v3))]) hl [0, 1, 2, 3] rfl) hc)
theorem dJ9_max_7cf53_0 : decode cJ9_max_7cf53 0 = .ok (.iload_n 0, 1) := by decide +kernel
theorem dJ9_max_7cf53_1 : decode cJ9_max_7cf53 1 = .ok (.iload_n 1, 1) := by decide +kernel
theorem dJ9_max_7cf53_2 : decode cJ9_max_7cf53 2 = .ok (.if_icmp .lt 7, 3) := by decide +kernel
theorem dJ9_max_7cf53_5 : decode cJ9_max_7cf53 5 = .ok (.iload_n 0, 1) := by decide +kernel
theorem dJ9_max_7cf53_6 : decode cJ9_max_7cf53 6 = .ok (.goto 4, 3) := by decide +kernel
theorem dJ9_max_7cf53_9 : decode cJ9_max_7cf53 9 = .ok (.iload_n 1, 1) := by decide +kernel
theorem dJ9_max_7cf53_10 : decode cJ9_max_7cf53 10 = .ok (.ireturn, 1) := by decide +kernel
set_option maxRecDepth 20000 in
theorem a_J9_max_7cf53_10 {Q : Sg → Int → Prop} {X : Sg → String → Prop} (K : MC R p s m args c cJ9_max_7cf53 2 yJ9_max_7cf53.cls D cA tys A n0 s0 0 0 []) (hQ : HQI p l e R s m args below meth c cJ9_max_7cf53 D cA A n0 s0 QM dm ra jx rm Q) (hX : HX p l e R s m args below meth c 2 D cA A n0 s0 QM dm ra jx rm X) : ∀ (σ : Sg) (u0 : Int) (gu0 : rng u0), w_J9_max_7cf53_10 ra jx rm Q X σ u0 → RG σ → Shp dm ra jx rm σ → JJ p l e R s m args below meth c 2 D cA A n0 s0 QM σ 10 [] [.int (i32 u0)] := by
  intro σ u0 gu0 h hGσ hS H locs ls hH hl hc
  have B := K.1
  unfold w_J9_max_7cf53_10 at h
  exact hQ _ _ _ _ _ _ gu0 dJ9_max_7cf53_10 hH hc h hGσ hS
set_option maxRecDepth 20000 in
theorem a_J9_max_7cf53_9 {Q : Sg → Int → Prop} {X : Sg → String → Prop} (K : MC R p s m args c cJ9_max_7cf53 2 yJ9_max_7cf53.cls D cA tys A n0 s0 0 0 []) (hQ : HQI p l e R s m args below meth c cJ9_max_7cf53 D cA A n0 s0 QM dm ra jx rm Q) (hX : HX p l e R s m args below meth c 2 D cA A n0 s0 QM dm ra jx rm X) : ∀ (σ : Sg) (v1 : Int) (g1 : rng v1), w_J9_max_7cf53_9 ra jx rm Q X σ v1 → RG σ → Shp dm ra jx rm σ → JJ p l e R s m args below meth c 2 D cA A n0 s0 QM σ 9 [(1, .int (i32 v1))] [] := by
  intro σ v1 g1 h hGσ hS H locs ls hH hl hc
  have B := K.1
  unfold w_J9_max_7cf53_9 at h
  refine lv_iload_n B.1 B.2.1 dJ9_max_7cf53_9 rfl (lv_at hl 0 rfl) ?_
  exact a_J9_max_7cf53_10 K hQ hX _ _ g1 h hGσ hS _ _ _ hH (lv_sub (l' := []) hl [] rfl) hc
set_option maxRecDepth 20000 in
theorem a_J9_max_7cf53_5 {Q : Sg → Int → Prop} {X : Sg → String → Prop} (K : MC R p s m args c cJ9_max_7cf53 2 yJ9_max_7cf53.cls D cA tys A n0 s0 0 0 []) (hQ : HQI p l e R s m args below meth c cJ9_max_7cf53 D cA A n0 s0 QM dm ra jx rm Q) (hX : HX p l e R s m args below meth c 2 D cA A n0 s0 QM dm ra jx rm X) : ∀ (σ : Sg) (v0 : Int) (g0 : rng v0), w_J9_max_7cf53_5 ra jx rm Q X σ v0 → RG σ → Shp dm ra jx rm σ → JJ p l e R s m args below meth c 2 D cA A n0 s0 QM σ 5 [(0, .int (i32 v0))] [] := by
  intro σ v0 g0 h hGσ hS H locs ls hH hl hc
  have B := K.1
  unfold w_J9_max_7cf53_5 at h
  refine lv_iload_n B.1 B.2.1 dJ9_max_7cf53_5 rfl (lv_at hl 0 rfl) ?_
  refine lv_goto (tgt := 10) B.1 B.2.1 dJ9_max_7cf53_6 (by decide) ?_
  exact a_J9_max_7cf53_10 K hQ hX _ _ g0 h hGσ hS _ _ _ hH (lv_sub (l' := []) hl [] rfl) hc
set_option maxRecDepth 20000 in
theorem a_J9_max_7cf53_0 {Q : Sg → Int → Prop} {X : Sg → String → Prop} (K : MC R p s m args c cJ9_max_7cf53 2 yJ9_max_7cf53.cls D cA tys A n0 s0 0 0 []) (hQ : HQI p l e R s m args below meth c cJ9_max_7cf53 D cA A n0 s0 QM dm ra jx rm Q) (hX : HX p l e R s m args below meth c 2 D cA A n0 s0 QM dm ra jx rm X) : ∀ (σ : Sg) (v0 : Int) (v1 : Int) (g0 : rng v0) (g1 : rng v1), w_J9_max_7cf53_0 ra jx rm Q X σ v0 v1 → RG σ → Shp dm ra jx rm σ → JJ p l e R s m args below meth c 2 D cA A n0 s0 QM σ 0 [(0, .int (i32 v0)), (1, .int (i32 v1))] [] := by
  intro σ v0 v1 g0 g1 h hGσ hS H locs ls hH hl hc
  have B := K.1
  unfold w_J9_max_7cf53_0 at h
  refine lv_iload_n B.1 B.2.1 dJ9_max_7cf53_0 rfl (lv_at hl 0 rfl) ?_
  refine lv_iload_n B.1 B.2.1 dJ9_max_7cf53_1 rfl (lv_at hl 1 rfl) ?_
  refine lv_icmp_lt (tgt := 9) B.1 B.2.1 dJ9_max_7cf53_2 (by decide) (fun h9 => ?_) (fun h9 => ?_)
  · rw [if_pos ((i32_lt g0 g1).mp h9)] at h
    exact a_J9_max_7cf53_9 K hQ hX _ _ g1 h hGσ hS _ _ _ hH (lv_sub (l' := [(1, .int (i32 v1))]) hl [1] rfl) hc
  · rw [if_neg (fun q => h9 ((i32_lt g0 g1).mpr q))] at h
    exact a_J9_max_7cf53_5 K hQ hX _ _ g0 h hGσ hS _ _ _ hH (lv_sub (l' := [(0, .int (i32 v0))]) hl [0] rfl) hc
theorem ok_J9_max_7cf53 (hT : Tys cA tys) {Q : Sg → Int → Prop} {X : Sg → String → Prop} (σ : Sg) (v0 : Int) (v1 : Int) (g0 : rng v0) (g1 : rng v1) (hG : RG σ) (hS : Shp dm ra jx rm σ) (h : wp_J9_max_7cf53 ra jx rm v0 v1 σ Q X) : Ok l D cA tys A yJ9_max_7cf53 (.code yJ9_max_7cf53 cJ9_max_7cf53 2 (some .int)) 0 0 [.int (i32 v0), .int (i32 v1)] σ (QnI dm ra jx rm Q) (QxR dm ra jx rm X) := by
  unfold wp_J9_max_7cf53 at h
  exact ok_I (by decide +kernel) (by exact Nat.le_of_ble_eq_true rfl) hT (fun p e R s m args below meth c K hQ hX H locs ls hH hl hc => a_J9_max_7cf53_0 K hQ hX σ v0 v1 g0 g1 h hG hS H locs ls hH (lv_sub (l' := [(0, .int (i32 v0)), (1, .int (i32 v1))]) hl [0, 1] rfl) hc)
theorem dJ9_min_7cf53_0 : decode cJ9_min_7cf53 0 = .ok (.iload_n 0, 1) := by decide +kernel
theorem dJ9_min_7cf53_1 : decode cJ9_min_7cf53 1 = .ok (.iload_n 1, 1) := by decide +kernel
theorem dJ9_min_7cf53_2 : decode cJ9_min_7cf53 2 = .ok (.if_icmp .gt 7, 3) := by decide +kernel
theorem dJ9_min_7cf53_5 : decode cJ9_min_7cf53 5 = .ok (.iload_n 0, 1) := by decide +kernel
theorem dJ9_min_7cf53_6 : decode cJ9_min_7cf53 6 = .ok (.goto 4, 3) := by decide +kernel
theorem dJ9_min_7cf53_9 : decode cJ9_min_7cf53 9 = .ok (.iload_n 1, 1) := by decide +kernel
theorem dJ9_min_7cf53_10 : decode cJ9_min_7cf53 10 = .ok (.ireturn, 1) := by decide +kernel
set_option maxRecDepth 20000 in
theorem a_J9_min_7cf53_10 {Q : Sg → Int → Prop} {X : Sg → String → Prop} (K : MC R p s m args c cJ9_min_7cf53 2 yJ9_min_7cf53.cls D cA tys A n0 s0 0 0 []) (hQ : HQI p l e R s m args below meth c cJ9_min_7cf53 D cA A n0 s0 QM dm ra jx rm Q) (hX : HX p l e R s m args below meth c 2 D cA A n0 s0 QM dm ra jx rm X) : ∀ (σ : Sg) (u0 : Int) (gu0 : rng u0), w_J9_min_7cf53_10 ra jx rm Q X σ u0 → RG σ → Shp dm ra jx rm σ → JJ p l e R s m args below meth c 2 D cA A n0 s0 QM σ 10 [] [.int (i32 u0)] := by
  intro σ u0 gu0 h hGσ hS H locs ls hH hl hc
  have B := K.1
  unfold w_J9_min_7cf53_10 at h
  exact hQ _ _ _ _ _ _ gu0 dJ9_min_7cf53_10 hH hc h hGσ hS
set_option maxRecDepth 20000 in
theorem a_J9_min_7cf53_9 {Q : Sg → Int → Prop} {X : Sg → String → Prop} (K : MC R p s m args c cJ9_min_7cf53 2 yJ9_min_7cf53.cls D cA tys A n0 s0 0 0 []) (hQ : HQI p l e R s m args below meth c cJ9_min_7cf53 D cA A n0 s0 QM dm ra jx rm Q) (hX : HX p l e R s m args below meth c 2 D cA A n0 s0 QM dm ra jx rm X) : ∀ (σ : Sg) (v1 : Int) (g1 : rng v1), w_J9_min_7cf53_9 ra jx rm Q X σ v1 → RG σ → Shp dm ra jx rm σ → JJ p l e R s m args below meth c 2 D cA A n0 s0 QM σ 9 [(1, .int (i32 v1))] [] := by
  intro σ v1 g1 h hGσ hS H locs ls hH hl hc
  have B := K.1
  unfold w_J9_min_7cf53_9 at h
  refine lv_iload_n B.1 B.2.1 dJ9_min_7cf53_9 rfl (lv_at hl 0 rfl) ?_
  exact a_J9_min_7cf53_10 K hQ hX _ _ g1 h hGσ hS _ _ _ hH (lv_sub (l' := []) hl [] rfl) hc
set_option maxRecDepth 20000 in
theorem a_J9_min_7cf53_5 {Q : Sg → Int → Prop} {X : Sg → String → Prop} (K : MC R p s m args c cJ9_min_7cf53 2 yJ9_min_7cf53.cls D cA tys A n0 s0 0 0 []) (hQ : HQI p l e R s m args below meth c cJ9_min_7cf53 D cA A n0 s0 QM dm ra jx rm Q) (hX : HX p l e R s m args below meth c 2 D cA A n0 s0 QM dm ra jx rm X) : ∀ (σ : Sg) (v0 : Int) (g0 : rng v0), w_J9_min_7cf53_5 ra jx rm Q X σ v0 → RG σ → Shp dm ra jx rm σ → JJ p l e R s m args below meth c 2 D cA A n0 s0 QM σ 5 [(0, .int (i32 v0))] [] := by
  intro σ v0 g0 h hGσ hS H locs ls hH hl hc
  have B := K.1
  unfold w_J9_min_7cf53_5 at h
  refine lv_iload_n B.1 B.2.1 dJ9_min_7cf53_5 rfl (lv_at hl 0 rfl) ?_
  refine lv_goto (tgt := 10) B.1 B.2.1 dJ9_min_7cf53_6 (by decide) ?_
  exact a_J9_min_7cf53_10 K hQ hX _ _ g0 h hGσ hS _ _ _ hH (lv_sub (l' := []) hl [] rfl) hc
set_option maxRecDepth 20000 in
theorem a_J9_min_7cf53_0 {Q : Sg → Int → Prop} {X : Sg → String → Prop} (K : MC R p s m args c cJ9_min_7cf53 2 yJ9_min_7cf53.cls D cA tys A n0 s0 0 0 []) (hQ : HQI p l e R s m args below meth c cJ9_min_7cf53 D cA A n0 s0 QM dm ra jx rm Q) (hX : HX p l e R s m args below meth c 2 D cA A n0 s0 QM dm ra jx rm X) : ∀ (σ : Sg) (v0 : Int) (v1 : Int) (g0 : rng v0) (g1 : rng v1), w_J9_min_7cf53_0 ra jx rm Q X σ v0 v1 → RG σ → Shp dm ra jx rm σ → JJ p l e R s m args below meth c 2 D cA A n0 s0 QM σ 0 [(0, .int (i32 v0)), (1, .int (i32 v1))] [] := by
  intro σ v0 v1 g0 g1 h hGσ hS H locs ls hH hl hc
  have B := K.1
  unfold w_J9_min_7cf53_0 at h
  refine lv_iload_n B.1 B.2.1 dJ9_min_7cf53_0 rfl (lv_at hl 0 rfl) ?_
  refine lv_iload_n B.1 B.2.1 dJ9_min_7cf53_1 rfl (lv_at hl 1 rfl) ?_
  refine lv_icmp_gt (tgt := 9) B.1 B.2.1 dJ9_min_7cf53_2 (by decide) (fun h9 => ?_) (fun h9 => ?_)
  · rw [if_pos ((i32_lt g1 g0).mp h9)] at h
    exact a_J9_min_7cf53_9 K hQ hX _ _ g1 h hGσ hS _ _ _ hH (lv_sub (l' := [(1, .int (i32 v1))]) hl [1] rfl) hc
  · rw [if_neg (fun q => h9 ((i32_lt g1 g0).mpr q))] at h
    exact a_J9_min_7cf53_5 K hQ hX _ _ g0 h hGσ hS _ _ _ hH (lv_sub (l' := [(0, .int (i32 v0))]) hl [0] rfl) hc
theorem ok_J9_min_7cf53 (hT : Tys cA tys) {Q : Sg → Int → Prop} {X : Sg → String → Prop} (σ : Sg) (v0 : Int) (v1 : Int) (g0 : rng v0) (g1 : rng v1) (hG : RG σ) (hS : Shp dm ra jx rm σ) (h : wp_J9_min_7cf53 ra jx rm v0 v1 σ Q X) : Ok l D cA tys A yJ9_min_7cf53 (.code yJ9_min_7cf53 cJ9_min_7cf53 2 (some .int)) 0 0 [.int (i32 v0), .int (i32 v1)] σ (QnI dm ra jx rm Q) (QxR dm ra jx rm X) := by
  unfold wp_J9_min_7cf53 at h
  exact ok_I (by decide +kernel) (by exact Nat.le_of_ble_eq_true rfl) hT (fun p e R s m args below meth c K hQ hX H locs ls hH hl hc => a_J9_min_7cf53_0 K hQ hX σ v0 v1 g0 g1 h hG hS H locs ls hH (lv_sub (l' := [(0, .int (i32 v0)), (1, .int (i32 v1))]) hl [0, 1] rfl) hc)
theorem dJ1_indexOf_4cfef_0 : decode cJ1_indexOf_4cfef 0 = .ok (.iload_n 1, 1) := by decide +kernel
theorem dJ1_indexOf_4cfef_1 : decode cJ1_indexOf_4cfef 1 = .ok (.invokestatic 88, 3) := by decide +kernel
theorem dJ1_indexOf_4cfef_4 : decode cJ1_indexOf_4cfef 4 = .ok (.ifCond .ne 5, 3) := by decide +kernel
theorem dJ1_indexOf_4cfef_7 : decode cJ1_indexOf_4cfef 7 = .ok (.iconst (-1), 1) := by decide +kernel
theorem dJ1_indexOf_4cfef_8 : decode cJ1_indexOf_4cfef 8 = .ok (.ireturn, 1) := by decide +kernel
theorem dJ1_indexOf_4cfef_9 : decode cJ1_indexOf_4cfef 9 = .ok (.iload_n 2, 1) := by decide +kernel
theorem dJ1_indexOf_4cfef_10 : decode cJ1_indexOf_4cfef 10 = .ok (.iconst 0, 1) := by decide +kernel
theorem dJ1_indexOf_4cfef_11 : decode cJ1_indexOf_4cfef 11 = .ok (.invokestatic 92, 3) := by decide +kernel
theorem dJ1_indexOf_4cfef_14 : decode cJ1_indexOf_4cfef 14 = .ok (.istore_n 2, 1) := by decide +kernel
theorem dJ1_indexOf_4cfef_15 : decode cJ1_indexOf_4cfef 15 = .ok (.iload_n 3, 1) := by decide +kernel
theorem dJ1_indexOf_4cfef_16 : decode cJ1_indexOf_4cfef 16 = .ok (.aload_n 0, 1) := by decide +kernel
theorem dJ1_indexOf_4cfef_17 : decode cJ1_indexOf_4cfef 17 = .ok (.arraylength, 1) := by decide +kernel
theorem dJ1_indexOf_4cfef_18 : decode cJ1_indexOf_4cfef 18 = .ok (.invokestatic 38, 3) := by decide +kernel
theorem dJ1_indexOf_4cfef_21 : decode cJ1_indexOf_4cfef 21 = .ok (.istore_n 3, 1) := by decide +kernel
theorem dJ1_indexOf_4cfef_22 : decode cJ1_indexOf_4cfef 22 = .ok (.iload_n 2, 1) := by decide +kernel
theorem dJ1_indexOf_4cfef_23 : decode cJ1_indexOf_4cfef 23 = .ok (.iload_n 3, 1) := by decide +kernel
theorem dJ1_indexOf_4cfef_24 : decode cJ1_indexOf_4cfef 24 = .ok (.if_icmp .lt 5, 3) := by decide +kernel
theorem dJ1_indexOf_4cfef_27 : decode cJ1_indexOf_4cfef 27 = .ok (.iconst (-1), 1) := by decide +kernel
theorem dJ1_indexOf_4cfef_28 : decode cJ1_indexOf_4cfef 28 = .ok (.ireturn, 1) := by decide +kernel
theorem dJ1_indexOf_4cfef_29 : decode cJ1_indexOf_4cfef 29 = .ok (.aload_n 0, 1) := by decide +kernel
theorem dJ1_indexOf_4cfef_30 : decode cJ1_indexOf_4cfef 30 = .ok (.iload_n 1, 1) := by decide +kernel
theorem dJ1_indexOf_4cfef_31 : decode cJ1_indexOf_4cfef 31 = .ok (.iload_n 2, 1) := by decide +kernel
theorem dJ1_indexOf_4cfef_32 : decode cJ1_indexOf_4cfef 32 = .ok (.iload_n 3, 1) := by decide +kernel
theorem dJ1_indexOf_4cfef_33 : decode cJ1_indexOf_4cfef 33 = .ok (.invokestatic 95, 3) := by decide +kernel
theorem dJ1_indexOf_4cfef_36 : decode cJ1_indexOf_4cfef 36 = .ok (.ireturn, 1) := by decide +kernel
set_option maxRecDepth 20000 in
theorem a_J1_indexOf_4cfef_29 {Q : Sg → Int → Prop} {X : Sg → String → Prop} (K : MC R p s m args c cJ1_indexOf_4cfef 4 yJ1_indexOf_4cfef.cls D cA tys A n0 s0 1 25 []) (hQ : HQI p l e R s m args below meth c cJ1_indexOf_4cfef D cA A n0 s0 QM dm ra jx rm Q) (hX : HX p l e R s m args below meth c 4 D cA A n0 s0 QM dm ra jx rm X) : ∀ (σ : Sg) (v0 : Nat) (v1 : Int) (v2 : Int) (v3 : Int) (g0 : strOK v0) (g1 : rng v1) (g2 : rng v2) (g3 : rng v3), w_J1_indexOf_4cfef_29 ra jx rm Q X σ v0 v1 v2 v3 → RG σ → Shp dm ra jx rm σ → JJ p l e R s m args below meth c 4 D cA A n0 s0 QM σ 29 [(0, .ref (cA (2000 + v0))), (1, .int (i32 v1)), (2, .int (i32 v2)), (3, .int (i32 v3))] [] := by
  intro σ v0 v1 v2 v3 g0 g1 g2 g3 h hGσ hS H locs ls hH hl hc
  have B := K.1
  unfold w_J1_indexOf_4cfef_29 at h
  refine lv_aload_n B.1 B.2.1 dJ1_indexOf_4cfef_29 rfl (lv_at hl 0 rfl) ?_
  refine lv_iload_n B.1 B.2.1 dJ1_indexOf_4cfef_30 rfl (lv_at hl 1 rfl) ?_
  refine lv_iload_n B.1 B.2.1 dJ1_indexOf_4cfef_31 rfl (lv_at hl 2 rfl) ?_
  refine lv_iload_n B.1 B.2.1 dJ1_indexOf_4cfef_32 rfl (lv_at hl 3 rfl) ?_
  refine c_S B hH hl hc K.2.2.1 (As := [.ref (cA (2000 + v0)), .int (i32 v1), .int (i32 v2), .int (i32 v3)]) (ok_J1_indexOfChar_4cfef (dm := dm) (ra := ra) (jx := jx) (rm := rm) K.2.1 σ v0 v1 v2 v3 g0 g1 g2 g3 hGσ hS h) wc_J1_95 4 hd_J1_indexOfChar_4cfef ⟨Nat.le_trans (Nat.le_of_ble_eq_true rfl) K.2.2.2.1, Nat.le_trans (Nat.le_of_ble_eq_true rfl) K.2.2.2.2.1⟩ rfl (rest := []) rfl (Nat.le_of_ble_eq_true rfl) dJ1_indexOf_4cfef_33 (fun σ17 w hq => ?_) (fun σ9 E9 hx9 => hX σ9 E9 _ _ _ (tb_out K.2.2.2.2.2 rfl) hx9.1 hx9.2.1 hx9.2.2)
  obtain ⟨r18, rfl, gr18, h, hGσ17, hS⟩ := hq
  intro H locs ls hH hl hc
  refine W.eq (g2 := F0 m 36 ls [.int (i32 r18)]) (rfl) ?_
  try dsimp only at h
  exact hQ _ _ _ _ _ _ gr18 dJ1_indexOf_4cfef_36 hH hc h hGσ17 hS
set_option maxRecDepth 20000 in
theorem a_J1_indexOf_4cfef_27 {Q : Sg → Int → Prop} {X : Sg → String → Prop} (K : MC R p s m args c cJ1_indexOf_4cfef 4 yJ1_indexOf_4cfef.cls D cA tys A n0 s0 1 25 []) (hQ : HQI p l e R s m args below meth c cJ1_indexOf_4cfef D cA A n0 s0 QM dm ra jx rm Q) (hX : HX p l e R s m args below meth c 4 D cA A n0 s0 QM dm ra jx rm X) : ∀ (σ : Sg) (v0 : Nat) (v1 : Int) (v2 : Int) (v3 : Int) (g0 : strOK v0) (g1 : rng v1) (g2 : rng v2) (g3 : rng v3), w_J1_indexOf_4cfef_27 ra jx rm Q X σ v0 v1 v2 v3 → RG σ → Shp dm ra jx rm σ → JJ p l e R s m args below meth c 4 D cA A n0 s0 QM σ 27 [(0, .ref (cA (2000 + v0))), (1, .int (i32 v1)), (2, .int (i32 v2)), (3, .int (i32 v3))] [] := by
  intro σ v0 v1 v2 v3 g0 g1 g2 g3 h hGσ hS H locs ls hH hl hc
  have B := K.1
  unfold w_J1_indexOf_4cfef_27 at h
  refine lv_iconst (v := i32 (-1)) B.1 B.2.1 dJ1_indexOf_4cfef_27 (by decide) ?_
  exact hQ _ _ _ _ _ _ (by unfold rng; omega) dJ1_indexOf_4cfef_28 hH hc h hGσ hS
set_option maxRecDepth 20000 in
theorem a_J1_indexOf_4cfef_9 {Q : Sg → Int → Prop} {X : Sg → String → Prop} (K : MC R p s m args c cJ1_indexOf_4cfef 4 yJ1_indexOf_4cfef.cls D cA tys A n0 s0 1 25 []) (hQ : HQI p l e R s m args below meth c cJ1_indexOf_4cfef D cA A n0 s0 QM dm ra jx rm Q) (hX : HX p l e R s m args below meth c 4 D cA A n0 s0 QM dm ra jx rm X) : ∀ (σ : Sg) (v0 : Nat) (v1 : Int) (v2 : Int) (v3 : Int) (g0 : strOK v0) (g1 : rng v1) (g2 : rng v2) (g3 : rng v3), w_J1_indexOf_4cfef_9 ra jx rm Q X σ v0 v1 v2 v3 → RG σ → Shp dm ra jx rm σ → JJ p l e R s m args below meth c 4 D cA A n0 s0 QM σ 9 [(0, .ref (cA (2000 + v0))), (1, .int (i32 v1)), (2, .int (i32 v2)), (3, .int (i32 v3))] [] := by
  intro σ v0 v1 v2 v3 g0 g1 g2 g3 h hGσ hS H locs ls hH hl hc
  have B := K.1
  unfold w_J1_indexOf_4cfef_9 at h
  refine lv_iload_n B.1 B.2.1 dJ1_indexOf_4cfef_9 rfl (lv_at hl 2 rfl) ?_
  refine lv_iconst (v := i32 0) B.1 B.2.1 dJ1_indexOf_4cfef_10 (by decide) ?_
  refine c_S B hH hl hc K.2.2.1 (As := [.int (i32 v2), .int (i32 0)]) (ok_J9_max_7cf53 (dm := dm) (ra := ra) (jx := jx) (rm := rm) K.2.1 σ v2 0 g2 (by unfold rng; omega) hGσ hS h) wc_J1_92 2 hd_J9_max_7cf53 ⟨Nat.le_trans (Nat.le_of_ble_eq_true rfl) K.2.2.2.1, Nat.le_trans (Nat.le_of_ble_eq_true rfl) K.2.2.2.2.1⟩ rfl (rest := []) rfl (Nat.le_of_ble_eq_true rfl) dJ1_indexOf_4cfef_11 (fun σ19 w hq => ?_) (fun σ9 E9 hx9 => hX σ9 E9 _ _ _ (tb_out K.2.2.2.2.2 rfl) hx9.1 hx9.2.1 hx9.2.2)
  obtain ⟨r20, rfl, gr20, h, hGσ19, hS⟩ := hq
  intro H locs ls hH hl hc
  refine W.eq (g2 := F0 m 14 ls [.int (i32 r20)]) (rfl) ?_
  try dsimp only at h
  refine lv_istore_n (lv' := [(2, .int (i32 r20)), (0, .ref (cA (2000 + v0))), (1, .int (i32 v1)), (3, .int (i32 v3))]) B.1 B.2.1 dJ1_indexOf_4cfef_14 rfl hl (by decide) rfl (fun ls hl => ?_)
  refine lv_iload_n B.1 B.2.1 dJ1_indexOf_4cfef_15 rfl (lv_at hl 3 rfl) ?_
  refine lv_aload_n B.1 B.2.1 dJ1_indexOf_4cfef_16 rfl (lv_at hl 1 rfl) ?_
  refine y_len B hH g0 dJ1_indexOf_4cfef_17 ?_
  refine c_S B hH hl hc K.2.2.1 (As := [.int (i32 v3), .int (i32 (bln v0))]) (ok_J9_min_7cf53 (dm := dm) (ra := ra) (jx := jx) (rm := rm) K.2.1 σ19 v3 (bln v0) g3 (rng_bl g0) hGσ19 hS h) wc_J1_38 2 hd_J9_min_7cf53 ⟨Nat.le_trans (Nat.le_of_ble_eq_true rfl) K.2.2.2.1, Nat.le_trans (Nat.le_of_ble_eq_true rfl) K.2.2.2.2.1⟩ rfl (rest := []) rfl (Nat.le_of_ble_eq_true rfl) dJ1_indexOf_4cfef_18 (fun σ21 w hq => ?_) (fun σ9 E9 hx9 => hX σ9 E9 _ _ _ (tb_out K.2.2.2.2.2 rfl) hx9.1 hx9.2.1 hx9.2.2)
  obtain ⟨r22, rfl, gr22, h, hGσ21, hS⟩ := hq
  intro H locs ls hH hl hc
  refine W.eq (g2 := F0 m 21 ls [.int (i32 r22)]) (rfl) ?_
  try dsimp only at h
  refine lv_istore_n (lv' := [(3, .int (i32 r22)), (2, .int (i32 r20)), (0, .ref (cA (2000 + v0))), (1, .int (i32 v1))]) B.1 B.2.1 dJ1_indexOf_4cfef_21 rfl hl (by decide) rfl (fun ls hl => ?_)
  refine lv_iload_n B.1 B.2.1 dJ1_indexOf_4cfef_22 rfl (lv_at hl 1 rfl) ?_
  refine lv_iload_n B.1 B.2.1 dJ1_indexOf_4cfef_23 rfl (lv_at hl 0 rfl) ?_
  refine lv_icmp_lt (tgt := 29) B.1 B.2.1 dJ1_indexOf_4cfef_24 (by decide) (fun h9 => ?_) (fun h9 => ?_)
  · rw [if_pos ((i32_lt gr20 gr22).mp h9)] at h
    exact a_J1_indexOf_4cfef_29 K hQ hX _ _ _ _ _ g0 g1 gr20 gr22 h hGσ21 hS _ _ _ hH (lv_sub (l' := [(0, .ref (cA (2000 + v0))), (1, .int (i32 v1)), (2, .int (i32 r20)), (3, .int (i32 r22))]) hl [2, 3, 1, 0] rfl) hc
  · rw [if_neg (fun q => h9 ((i32_lt gr20 gr22).mpr q))] at h
    exact a_J1_indexOf_4cfef_27 K hQ hX _ _ _ _ _ g0 g1 gr20 gr22 h hGσ21 hS _ _ _ hH (lv_sub (l' := [(0, .ref (cA (2000 + v0))), (1, .int (i32 v1)), (2, .int (i32 r20)), (3, .int (i32 r22))]) hl [2, 3, 1, 0] rfl) hc
set_option maxRecDepth 20000 in
theorem a_J1_indexOf_4cfef_7 {Q : Sg → Int → Prop} {X : Sg → String → Prop} (K : MC R p s m args c cJ1_indexOf_4cfef 4 yJ1_indexOf_4cfef.cls D cA tys A n0 s0 1 25 []) (hQ : HQI p l e R s m args below meth c cJ1_indexOf_4cfef D cA A n0 s0 QM dm ra jx rm Q) (hX : HX p l e R s m args below meth c 4 D cA A n0 s0 QM dm ra jx rm X) : ∀ (σ : Sg) (v0 : Nat) (v1 : Int) (v2 : Int) (v3 : Int) (g0 : strOK v0) (g1 : rng v1) (g2 : rng v2) (g3 : rng v3), w_J1_indexOf_4cfef_7 ra jx rm Q X σ v0 v1 v2 v3 → RG σ → Shp dm ra jx rm σ → JJ p l e R s m args below meth c 4 D cA A n0 s0 QM σ 7 [(0, .ref (cA (2000 + v0))), (1, .int (i32 v1)), (2, .int (i32 v2)), (3, .int (i32 v3))] [] := by
  intro σ v0 v1 v2 v3 g0 g1 g2 g3 h hGσ hS H locs ls hH hl hc
  have B := K.1
  unfold w_J1_indexOf_4cfef_7 at h
  refine lv_iconst (v := i32 (-1)) B.1 B.2.1 dJ1_indexOf_4cfef_7 (by decide) ?_
  exact hQ _ _ _ _ _ _ (by unfold rng; omega) dJ1_indexOf_4cfef_8 hH hc h hGσ hS
set_option maxRecDepth 20000 in
theorem a_J1_indexOf_4cfef_0 {Q : Sg → Int → Prop} {X : Sg → String → Prop} (K : MC R p s m args c cJ1_indexOf_4cfef 4 yJ1_indexOf_4cfef.cls D cA tys A n0 s0 1 25 []) (hQ : HQI p l e R s m args below meth c cJ1_indexOf_4cfef D cA A n0 s0 QM dm ra jx rm Q) (hX : HX p l e R s m args below meth c 4 D cA A n0 s0 QM dm ra jx rm X) : ∀ (σ : Sg) (v0 : Nat) (v1 : Int) (v2 : Int) (v3 : Int) (g0 : strOK v0) (g1 : rng v1) (g2 : rng v2) (g3 : rng v3), w_J1_indexOf_4cfef_0 ra jx rm Q X σ v0 v1 v2 v3 → RG σ → Shp dm ra jx rm σ → JJ p l e R s m args below meth c 4 D cA A n0 s0 QM σ 0 [(0, .ref (cA (2000 + v0))), (1, .int (i32 v1)), (2, .int (i32 v2)), (3, .int (i32 v3))] [] := by
  intro σ v0 v1 v2 v3 g0 g1 g2 g3 h hGσ hS H locs ls hH hl hc
  have B := K.1
  unfold w_J1_indexOf_4cfef_0 at h
  refine lv_iload_n B.1 B.2.1 dJ1_indexOf_4cfef_0 rfl (lv_at hl 1 rfl) ?_
  refine c_S B hH hl hc K.2.2.1 (As := [.int (i32 v1)]) (ok_J1_canEncode_9a6ad (dm := dm) (ra := ra) (jx := jx) (rm := rm) K.2.1 σ v1 g1 hGσ hS h) wc_J1_88 1 hd_J1_canEncode_9a6ad ⟨Nat.le_trans (Nat.le_of_ble_eq_true rfl) K.2.2.2.1, Nat.le_trans (Nat.le_of_ble_eq_true rfl) K.2.2.2.2.1⟩ rfl (rest := []) rfl (Nat.le_of_ble_eq_true rfl) dJ1_indexOf_4cfef_1 (fun σ23 w hq => ?_) (fun σ9 E9 hx9 => hX σ9 E9 _ _ _ (tb_out K.2.2.2.2.2 rfl) hx9.1 hx9.2.1 hx9.2.2)
  obtain ⟨r24, rfl, ⟨gr24, gzr24⟩, h, hGσ23, hS⟩ := hq
  intro H locs ls hH hl hc
  refine W.eq (g2 := F0 m 4 ls [.int (i32 r24)]) (rfl) ?_
  try dsimp only at h
  refine lv_if_ne (tgt := 9) B.1 B.2.1 dJ1_indexOf_4cfef_4 (by decide) (fun h9 => ?_) (fun h9 => ?_)
  · rw [if_pos (fun q => h9 ((z_eq gr24).mpr q))] at h
    exact a_J1_indexOf_4cfef_9 K hQ hX _ _ _ _ _ g0 g1 g2 g3 h hGσ23 hS _ _ _ hH (lv_sub (l' := [(0, .ref (cA (2000 + v0))), (1, .int (i32 v1)), (2, .int (i32 v2)), (3, .int (i32 v3))]) hl [0, 1, 2, 3] rfl) hc
  · rw [if_neg (fun q => q ((z_eq gr24).mp h9))] at h
    exact a_J1_indexOf_4cfef_7 K hQ hX _ _ _ _ _ g0 g1 g2 g3 h hGσ23 hS _ _ _ hH (lv_sub (l' := [(0, .ref (cA (2000 + v0))), (1, .int (i32 v1)), (2, .int (i32 v2)), (3, .int (i32 v3))]) hl [0, 1, 2, 3] rfl) hc
theorem ok_J1_indexOf_4cfef (hT : Tys cA tys) {Q : Sg → Int → Prop} {X : Sg → String → Prop} (σ : Sg) (v0 : Nat) (v1 : Int) (v2 : Int) (v3 : Int) (g0 : strOK v0) (g1 : rng v1) (g2 : rng v2) (g3 : rng v3) (hG : RG σ) (hS : Shp dm ra jx rm σ) (h : wp_J1_indexOf_4cfef ra jx rm v0 v1 v2 v3 σ Q X) : Ok l D cA tys A yJ1_indexOf_4cfef (.code yJ1_indexOf_4cfef cJ1_indexOf_4cfef 4 (some .int)) 1 25 [.ref (cA (2000 + v0)), .int (i32 v1), .int (i32 v2), .int (i32 v3)] σ (QnI dm ra jx rm Q) (QxR dm ra jx rm X) := by
  unfold wp_J1_indexOf_4cfef at h
  exact ok_I (plainFor_of_name (by decide)) (by exact Nat.le_of_ble_eq_true rfl) hT (fun p e R s m args below meth c K hQ hX H locs ls hH hl hc => a_J1_indexOf_4cfef_0 K hQ hX σ v0 v1 v2 v3 g0 g1 g2 g3 h hG hS H locs ls hH (lv_sub (l' := [(0, .ref (cA (2000 + v0))), (1, .int (i32 v1)), (2, .int (i32 v2)), (3, .int (i32 v3))]) hl [0, 1, 2, 3] rfl) hc)
theorem dJ0_indexOf_7cf53_0 : decode cJ0_indexOf_7cf53 0 = .ok (.aload_n 0, 1) := by decide +kernel
theorem dJ0_indexOf_7cf53_1 : decode cJ0_indexOf_7cf53 1 = .ok (.invokevirtual 492, 3) := by decide +kernel
theorem dJ0_indexOf_7cf53_4 : decode cJ0_indexOf_7cf53 4 = .ok (.ifCond .eq 19, 3) := by decide +kernel
theorem dJ0_indexOf_7cf53_7 : decode cJ0_indexOf_7cf53 7 = .ok (.aload_n 0, 1) := by decide +kernel
theorem dJ0_indexOf_7cf53_8 : decode cJ0_indexOf_7cf53 8 = .ok (.getfield 9, 3) := by decide +kernel
theorem dJ0_indexOf_7cf53_11 : decode cJ0_indexOf_7cf53 11 = .ok (.iload_n 1, 1) := by decide +kernel
theorem dJ0_indexOf_7cf53_12 : decode cJ0_indexOf_7cf53 12 = .ok (.iload_n 2, 1) := by decide +kernel
theorem dJ0_indexOf_7cf53_13 : decode cJ0_indexOf_7cf53 13 = .ok (.aload_n 0, 1) := by decide +kernel
theorem dJ0_indexOf_7cf53_14 : decode cJ0_indexOf_7cf53 14 = .ok (.invokevirtual 505, 3) := by decide +kernel
theorem dJ0_indexOf_7cf53_17 : decode cJ0_indexOf_7cf53 17 = .ok (.invokestatic 637, 3) := by decide +kernel
theorem dJ0_indexOf_7cf53_20 : decode cJ0_indexOf_7cf53 20 = .ok (.goto 16, 3) := by decide +kernel
theorem dJ0_indexOf_7cf53_23 : decode cJ0_indexOf_7cf53 23 = .ok (.aload_n 0, 1) := by decide +kernel
theorem dJ0_indexOf_7cf53_24 : decode cJ0_indexOf_7cf53 24 = .ok (.getfield 9, 3) := by decide +kernel
theorem dJ0_indexOf_7cf53_27 : decode cJ0_indexOf_7cf53 27 = .ok (.iload_n 1, 1) := by decide +kernel
theorem dJ0_indexOf_7cf53_28 : decode cJ0_indexOf_7cf53 28 = .ok (.iload_n 2, 1) := by decide +kernel
theorem dJ0_indexOf_7cf53_29 : decode cJ0_indexOf_7cf53 29 = .ok (.aload_n 0, 1) := by decide +kernel
theorem dJ0_indexOf_7cf53_30 : decode cJ0_indexOf_7cf53 30 = .ok (.invokevirtual 505, 3) := by decide +kernel
theorem dJ0_indexOf_7cf53_36 : decode cJ0_indexOf_7cf53 36 = .ok (.ireturn, 1) := by decide +kernel
set_option maxRecDepth 20000 in
theorem a_J0_indexOf_7cf53_36 {Q : Sg → Int → Prop} {X : Sg → String → Prop} (K : MC R p s m args c cJ0_indexOf_7cf53 3 yJ0_indexOf_7cf53.cls D cA tys A n0 s0 2 48 []) (hQ : HQI p l e R s m args below meth c cJ0_indexOf_7cf53 D cA A n0 s0 QM dm ra jx rm Q) (hX : HX p l e R s m args below meth c 3 D cA A n0 s0 QM dm ra jx rm X) : ∀ (σ : Sg) (v0 : Nat) (v1 : Int) (v2 : Int) (u0 : Int) (g0 : strOK v0) (g1 : rng v1) (g2 : rng v2) (gu0 : rng u0), w_J0_indexOf_7cf53_36 ra jx rm Q X σ v0 v1 v2 u0 → RG σ → Shp dm ra jx rm σ → JJ p l e R s m args below meth c 3 D cA A n0 s0 QM σ 36 [(0, .ref (cA (1000 + v0))), (1, .int (i32 v1)), (2, .int (i32 v2))] [.int (i32 u0)] := by
  intro σ v0 v1 v2 u0 g0 g1 g2 gu0 h hGσ hS H locs ls hH hl hc
  have B := K.1
  unfold w_J0_indexOf_7cf53_36 at h
  exact hQ _ _ _ _ _ _ gu0 dJ0_indexOf_7cf53_36 hH hc h hGσ hS
set_option maxRecDepth 20000 in
theorem a_J0_indexOf_7cf53_23 {Q : Sg → Int → Prop} {X : Sg → String → Prop} (K : MC R p s m args c cJ0_indexOf_7cf53 3 yJ0_indexOf_7cf53.cls D cA tys A n0 s0 2 48 []) (hQ : HQI p l e R s m args below meth c cJ0_indexOf_7cf53 D cA A n0 s0 QM dm ra jx rm Q) (hX : HX p l e R s m args below meth c 3 D cA A n0 s0 QM dm ra jx rm X) : ∀ (σ : Sg) (v0 : Nat) (v1 : Int) (v2 : Int) (g0 : strOK v0) (g1 : rng v1) (g2 : rng v2), w_J0_indexOf_7cf53_23 ra jx rm Q X σ v0 v1 v2 → RG σ → Shp dm ra jx rm σ → JJ p l e R s m args below meth c 3 D cA A n0 s0 QM σ 23 [(0, .ref (cA (1000 + v0))), (1, .int (i32 v1)), (2, .int (i32 v2))] [] := by
  intro σ v0 v1 v2 g0 g1 g2 h hGσ hS H locs ls hH hl hc
  have B := K.1
  unfold w_J0_indexOf_7cf53_23 at h
  refine lv_aload_n B.1 B.2.1 dJ0_indexOf_7cf53_23 rfl (lv_at hl 0 rfl) ?_
  refine s_val B hH g0 (B.2.2.2.1 _ wf_J0_9) dJ0_indexOf_7cf53_24 ?_
  refine lv_iload_n B.1 B.2.1 dJ0_indexOf_7cf53_27 rfl (lv_at hl 1 rfl) ?_
  refine lv_iload_n B.1 B.2.1 dJ0_indexOf_7cf53_28 rfl (lv_at hl 2 rfl) ?_
  refine lv_aload_n B.1 B.2.1 dJ0_indexOf_7cf53_29 rfl (lv_at hl 0 rfl) ?_
  refine c_VS B hH hl hc K.2.2.1 (C := RJ0) (As := []) (ok_J0_length_8abf5 (dm := dm) (ra := ra) (jx := jx) (rm := rm) K.2.1 σ v0 g0 hGσ hS h) wc_J0_505 0 hd_J0_length_8abf5 ⟨Nat.le_trans (Nat.le_of_ble_eq_true rfl) K.2.2.2.1, Nat.le_trans (Nat.le_of_ble_eq_true rfl) K.2.2.2.2.1⟩ (xs_recv B hH g0) rfl (rest := [.int (i32 v2), .int (i32 v1), .ref (cA (2000 + v0))]) rfl (Nat.le_of_ble_eq_true rfl) dJ0_indexOf_7cf53_30 (fun σ17 w hq => ?_) (fun σ9 E9 hx9 => hX σ9 E9 _ _ _ (tb_out K.2.2.2.2.2 rfl) hx9.1 hx9.2.1 hx9.2.2)
  obtain ⟨r18, rfl, gr18, h, hGσ17, hS⟩ := hq
  intro H locs ls hH hl hc
  refine W.eq (g2 := F0 m 33 ls [.int (i32 r18), .int (i32 v2), .int (i32 v1), .ref (cA (2000 + v0))]) (rfl) ?_
  try dsimp only at h
  exact h.1.elim
set_option maxRecDepth 20000 in
theorem a_J0_indexOf_7cf53_7 {Q : Sg → Int → Prop} {X : Sg → String → Prop} (K : MC R p s m args c cJ0_indexOf_7cf53 3 yJ0_indexOf_7cf53.cls D cA tys A n0 s0 2 48 []) (hQ : HQI p l e R s m args below meth c cJ0_indexOf_7cf53 D cA A n0 s0 QM dm ra jx rm Q) (hX : HX p l e R s m args below meth c 3 D cA A n0 s0 QM dm ra jx rm X) : ∀ (σ : Sg) (v0 : Nat) (v1 : Int) (v2 : Int) (g0 : strOK v0) (g1 : rng v1) (g2 : rng v2), w_J0_indexOf_7cf53_7 ra jx rm Q X σ v0 v1 v2 → RG σ → Shp dm ra jx rm σ → JJ p l e R s m args below meth c 3 D cA A n0 s0 QM σ 7 [(0, .ref (cA (1000 + v0))), (1, .int (i32 v1)), (2, .int (i32 v2))] [] := by
  intro σ v0 v1 v2 g0 g1 g2 h hGσ hS H locs ls hH hl hc
  have B := K.1
  unfold w_J0_indexOf_7cf53_7 at h
  refine lv_aload_n B.1 B.2.1 dJ0_indexOf_7cf53_7 rfl (lv_at hl 0 rfl) ?_
  refine s_val B hH g0 (B.2.2.2.1 _ wf_J0_9) dJ0_indexOf_7cf53_8 ?_
  refine lv_iload_n B.1 B.2.1 dJ0_indexOf_7cf53_11 rfl (lv_at hl 1 rfl) ?_
  refine lv_iload_n B.1 B.2.1 dJ0_indexOf_7cf53_12 rfl (lv_at hl 2 rfl) ?_
  refine lv_aload_n B.1 B.2.1 dJ0_indexOf_7cf53_13 rfl (lv_at hl 0 rfl) ?_
  refine c_VS B hH hl hc K.2.2.1 (C := RJ0) (As := []) (ok_J0_length_8abf5 (dm := dm) (ra := ra) (jx := jx) (rm := rm) K.2.1 σ v0 g0 hGσ hS h) wc_J0_505 0 hd_J0_length_8abf5 ⟨Nat.le_trans (Nat.le_of_ble_eq_true rfl) K.2.2.2.1, Nat.le_trans (Nat.le_of_ble_eq_true rfl) K.2.2.2.2.1⟩ (xs_recv B hH g0) rfl (rest := [.int (i32 v2), .int (i32 v1), .ref (cA (2000 + v0))]) rfl (Nat.le_of_ble_eq_true rfl) dJ0_indexOf_7cf53_14 (fun σ19 w hq => ?_) (fun σ9 E9 hx9 => hX σ9 E9 _ _ _ (tb_out K.2.2.2.2.2 rfl) hx9.1 hx9.2.1 hx9.2.2)
  obtain ⟨r20, rfl, gr20, h, hGσ19, hS⟩ := hq
  intro H locs ls hH hl hc
  refine W.eq (g2 := F0 m 17 ls [.int (i32 r20), .int (i32 v2), .int (i32 v1), .ref (cA (2000 + v0))]) (rfl) ?_
  try dsimp only at h
  refine c_S B hH hl hc K.2.2.1 (As := [.ref (cA (2000 + v0)), .int (i32 v1), .int (i32 v2), .int (i32 r20)]) (ok_J1_indexOf_4cfef (dm := dm) (ra := ra) (jx := jx) (rm := rm) K.2.1 σ19 v0 v1 v2 r20 g0 g1 g2 gr20 hGσ19 hS h) wc_J0_637 4 hd_J1_indexOf_4cfef ⟨Nat.le_trans (Nat.le_of_ble_eq_true rfl) K.2.2.2.1, Nat.le_trans (Nat.le_of_ble_eq_true rfl) K.2.2.2.2.1⟩ rfl (rest := []) rfl (Nat.le_of_ble_eq_true rfl) dJ0_indexOf_7cf53_17 (fun σ21 w hq => ?_) (fun σ9 E9 hx9 => hX σ9 E9 _ _ _ (tb_out K.2.2.2.2.2 rfl) hx9.1 hx9.2.1 hx9.2.2)
  obtain ⟨r22, rfl, gr22, h, hGσ21, hS⟩ := hq
  intro H locs ls hH hl hc
  refine W.eq (g2 := F0 m 20 ls [.int (i32 r22)]) (rfl) ?_
  try dsimp only at h
  refine lv_goto (tgt := 36) B.1 B.2.1 dJ0_indexOf_7cf53_20 (by decide) ?_
  exact a_J0_indexOf_7cf53_36 K hQ hX _ _ _ _ _ g0 g1 g2 gr22 h hGσ21 hS _ _ _ hH (lv_sub (l' := [(0, .ref (cA (1000 + v0))), (1, .int (i32 v1)), (2, .int (i32 v2))]) hl [0, 1, 2] rfl) hc
set_option maxRecDepth 20000 in
theorem a_J0_indexOf_7cf53_0 {Q : Sg → Int → Prop} {X : Sg → String → Prop} (K : MC R p s m args c cJ0_indexOf_7cf53 3 yJ0_indexOf_7cf53.cls D cA tys A n0 s0 2 48 []) (hQ : HQI p l e R s m args below meth c cJ0_indexOf_7cf53 D cA A n0 s0 QM dm ra jx rm Q) (hX : HX p l e R s m args below meth c 3 D cA A n0 s0 QM dm ra jx rm X) : ∀ (σ : Sg) (v0 : Nat) (v1 : Int) (v2 : Int) (g0 : strOK v0) (g1 : rng v1) (g2 : rng v2), w_J0_indexOf_7cf53_0 ra jx rm Q X σ v0 v1 v2 → RG σ → Shp dm ra jx rm σ → JJ p l e R s m args below meth c 3 D cA A n0 s0 QM σ 0 [(0, .ref (cA (1000 + v0))), (1, .int (i32 v1)), (2, .int (i32 v2))] [] := by
  intro σ v0 v1 v2 g0 g1 g2 h hGσ hS H locs ls hH hl hc
  have B := K.1
  unfold w_J0_indexOf_7cf53_0 at h
  refine lv_aload_n B.1 B.2.1 dJ0_indexOf_7cf53_0 rfl (lv_at hl 0 rfl) ?_
  refine c_VS B hH hl hc K.2.2.1 (C := RJ0) (As := []) (ok_J0_isLatin1_aae02 (dm := dm) (ra := ra) (jx := jx) (rm := rm) K.2.1 σ v0 g0 hGσ hS h) wc_J0_492 0 hd_J0_isLatin1_aae02 ⟨Nat.le_trans (Nat.le_of_ble_eq_true rfl) K.2.2.2.1, Nat.le_trans (Nat.le_of_ble_eq_true rfl) K.2.2.2.2.1⟩ (xs_recv B hH g0) rfl (rest := []) rfl (Nat.le_of_ble_eq_true rfl) dJ0_indexOf_7cf53_1 (fun σ23 w hq => ?_) (fun σ9 E9 hx9 => hX σ9 E9 _ _ _ (tb_out K.2.2.2.2.2 rfl) hx9.1 hx9.2.1 hx9.2.2)
  obtain ⟨r24, rfl, ⟨gr24, gzr24⟩, h, hGσ23, hS⟩ := hq
  intro H locs ls hH hl hc
  refine W.eq (g2 := F0 m 4 ls [.int (i32 r24)]) (rfl) ?_
  try dsimp only at h
  refine lv_if_eq (tgt := 23) B.1 B.2.1 dJ0_indexOf_7cf53_4 (by decide) (fun h9 => ?_) (fun h9 => ?_)
  · rw [if_pos ((z_eq gr24).mp h9)] at h
    exact a_J0_indexOf_7cf53_23 K hQ hX _ _ _ _ g0 g1 g2 h hGσ23 hS _ _ _ hH (lv_sub (l' := [(0, .ref (cA (1000 + v0))), (1, .int (i32 v1)), (2, .int (i32 v2))]) hl [0, 1, 2] rfl) hc
  · rw [if_neg (fun q => h9 ((z_eq gr24).mpr q))] at h
    exact a_J0_indexOf_7cf53_7 K hQ hX _ _ _ _ g0 g1 g2 h hGσ23 hS _ _ _ hH (lv_sub (l' := [(0, .ref (cA (1000 + v0))), (1, .int (i32 v1)), (2, .int (i32 v2))]) hl [0, 1, 2] rfl) hc
theorem ok_J0_indexOf_7cf53 (hT : Tys cA tys) {Q : Sg → Int → Prop} {X : Sg → String → Prop} (σ : Sg) (v0 : Nat) (v1 : Int) (v2 : Int) (g0 : strOK v0) (g1 : rng v1) (g2 : rng v2) (hG : RG σ) (hS : Shp dm ra jx rm σ) (h : wp_J0_indexOf_7cf53 ra jx rm v0 v1 v2 σ Q X) : Ok l D cA tys A yJ0_indexOf_7cf53 (.code yJ0_indexOf_7cf53 cJ0_indexOf_7cf53 3 (some .int)) 2 48 [.ref (cA (1000 + v0)), .int (i32 v1), .int (i32 v2)] σ (QnI dm ra jx rm Q) (QxR dm ra jx rm X) := by
  unfold wp_J0_indexOf_7cf53 at h
  exact ok_I (plainFor_of_name (by decide)) (by exact Nat.le_of_ble_eq_true rfl) hT (fun p e R s m args below meth c K hQ hX H locs ls hH hl hc => a_J0_indexOf_7cf53_0 K hQ hX σ v0 v1 v2 g0 g1 g2 h hG hS H locs ls hH (lv_sub (l' := [(0, .ref (cA (1000 + v0))), (1, .int (i32 v1)), (2, .int (i32 v2))]) hl [0, 1, 2] rfl) hc)
theorem dJ0_indexOf_0f7a4_0 : decode cJ0_indexOf_0f7a4 0 = .ok (.aload_n 0, 1) := by decide +kernel
theorem dJ0_indexOf_0f7a4_1 : decode cJ0_indexOf_0f7a4 1 = .ok (.iload_n 1, 1) := by decide +kernel
theorem dJ0_indexOf_0f7a4_2 : decode cJ0_indexOf_0f7a4 2 = .ok (.iconst 0, 1) := by decide +kernel
theorem dJ0_indexOf_0f7a4_3 : decode cJ0_indexOf_0f7a4 3 = .ok (.invokevirtual 633, 3) := by decide +kernel
theorem dJ0_indexOf_0f7a4_6 : decode cJ0_indexOf_0f7a4 6 = .ok (.ireturn, 1) := by decide +kernel
set_option maxRecDepth 20000 in
theorem a_J0_indexOf_0f7a4_0 {Q : Sg → Int → Prop} {X : Sg → String → Prop} (K : MC R p s m args c cJ0_indexOf_0f7a4 2 yJ0_indexOf_0f7a4.cls D cA tys A n0 s0 3 70 []) (hQ : HQI p l e R s m args below meth c cJ0_indexOf_0f7a4 D cA A n0 s0 QM dm ra jx rm Q) (hX : HX p l e R s m args below meth c 2 D cA A n0 s0 QM dm ra jx rm X) : ∀ (σ : Sg) (v0 : Nat) (v1 : Int) (g0 : strOK v0) (g1 : rng v1), w_J0_indexOf_0f7a4_0 ra jx rm Q X σ v0 v1 → RG σ → Shp dm ra jx rm σ → JJ p l e R s m args below meth c 2 D cA A n0 s0 QM σ 0 [(0, .ref (cA (1000 + v0))), (1, .int (i32 v1))] [] := by
  intro σ v0 v1 g0 g1 h hGσ hS H locs ls hH hl hc
  have B := K.1
  unfold w_J0_indexOf_0f7a4_0 at h
  refine lv_aload_n B.1 B.2.1 dJ0_indexOf_0f7a4_0 rfl (lv_at hl 0 rfl) ?_
  refine lv_iload_n B.1 B.2.1 dJ0_indexOf_0f7a4_1 rfl (lv_at hl 1 rfl) ?_
  refine lv_iconst (v := i32 0) B.1 B.2.1 dJ0_indexOf_0f7a4_2 (by decide) ?_
  refine c_VS B hH hl hc K.2.2.1 (C := RJ0) (As := [.int (i32 v1), .int (i32 0)]) (ok_J0_indexOf_7cf53 (dm := dm) (ra := ra) (jx := jx) (rm := rm) K.2.1 σ v0 v1 0 g0 g1 (by unfold rng; omega) hGσ hS h) wc_J0_633 2 hd_J0_indexOf_7cf53 ⟨Nat.le_trans (Nat.le_of_ble_eq_true rfl) K.2.2.2.1, Nat.le_trans (Nat.le_of_ble_eq_true rfl) K.2.2.2.2.1⟩ (xs_recv B hH g0) rfl (rest := []) rfl (Nat.le_of_ble_eq_true rfl) dJ0_indexOf_0f7a4_3 (fun σ5 w hq => ?_) (fun σ9 E9 hx9 => hX σ9 E9 _ _ _ (tb_out K.2.2.2.2.2 rfl) hx9.1 hx9.2.1 hx9.2.2)
  obtain ⟨r6, rfl, gr6, h, hGσ5, hS⟩ := hq
  intro H locs ls hH hl hc
  refine W.eq (g2 := F0 m 6 ls [.int (i32 r6)]) (rfl) ?_
  try dsimp only at h
  exact hQ _ _ _ _ _ _ gr6 dJ0_indexOf_0f7a4_6 hH hc h hGσ5 hS
theorem ok_J0_indexOf_0f7a4 (hT : Tys cA tys) {Q : Sg → Int → Prop} {X : Sg → String → Prop} (σ : Sg) (v0 : Nat) (v1 : Int) (g0 : strOK v0) (g1 : rng v1) (hG : RG σ) (hS : Shp dm ra jx rm σ) (h : wp_J0_indexOf_0f7a4 ra jx rm v0 v1 σ Q X) : Ok l D cA tys A yJ0_indexOf_0f7a4 (.code yJ0_indexOf_0f7a4 cJ0_indexOf_0f7a4 2 (some .int)) 3 70 [.ref (cA (1000 + v0)), .int (i32 v1)] σ (QnI dm ra jx rm Q) (QxR dm ra jx rm X) := by
  unfold wp_J0_indexOf_0f7a4 at h
  exact ok_I (plainFor_of_name (by decide)) (by exact Nat.le_of_ble_eq_true rfl) hT (fun p e R s m args below meth c K hQ hX H locs ls hH hl hc => a_J0_indexOf_0f7a4_0 K hQ hX σ v0 v1 g0 g1 h hG hS H locs ls hH (lv_sub (l' := [(0, .ref (cA (1000 + v0))), (1, .int (i32 v1))]) hl [0, 1] rfl) hc)
def w_X16_nameOf_30 (ra : Nat → Nat) (jx : Nat → Nat → Nat) (rm : Nat) (Q : Sg → Int64 → Prop) (X : Sg → String → Prop) (σ : Sg) (v1 : Int64) : Prop := Q σ v1
def w_X16_nameOf_12 (ra : Nat → Nat) (jx : Nat → Nat → Nat) (rm : Nat) (K4 : Sg → Nat → Int64 → Int → Prop) (Q : Sg → Int64 → Prop) (X : Sg → String → Prop) (σ : Sg) (v0 : Nat) (v1 : Int64) (v3 : Int) : Prop := (wp_J0_charAt_5068e ra jx rm v0 v3 σ (fun σ7 r8 => rng (v3 + 1) ∧ K4 σ7 v0 ((v1 <<< ((i32 8).toInt64 &&& 63)) ||| (Int64.ofInt r8)) (v3 + 1)) X)
def w_X16_nameOf_4 (ra : Nat → Nat) (jx : Nat → Nat → Nat) (rm : Nat) (K4 : Sg → Nat → Int64 → Int → Prop) (Q : Sg → Int64 → Prop) (X : Sg → String → Prop) (σ : Sg) (v0 : Nat) (v1 : Int64) (v3 : Int) : Prop := (wp_J0_length_8abf5 ra jx rm v0 σ (fun σ5 r6 => (if v3 ≥ r6 then w_X16_nameOf_30 ra jx rm Q X σ5 v1 else w_X16_nameOf_12 ra jx rm K4 Q X σ5 v0 v1 v3)) X)
def wl_X16_nameOf_4 (ra : Nat → Nat) (jx : Nat → Nat → Nat) (rm : Nat) (Q : Sg → Int64 → Prop) (X : Sg → String → Prop) : Nat → Sg → Nat → Int64 → Int → Prop
  | 0, _, _, _, _ => False
  | n + 1, σ, x0, x1, x2 => w_X16_nameOf_4 ra jx rm (wl_X16_nameOf_4 ra jx rm Q X n) Q X σ x0 x1 x2
def w_X16_nameOf_0 (ra : Nat → Nat) (jx : Nat → Nat → Nat) (rm : Nat) (Q : Sg → Int64 → Prop) (X : Sg → String → Prop) (σ : Sg) (v0 : Nat) : Prop := (∃ n, wl_X16_nameOf_4 ra jx rm Q X n σ v0 0 0)
def wpn_X16_nameOf (ra : Nat → Nat) (jx : Nat → Nat → Nat) (rm : Nat) (v0 : Nat) (σ : Sg) (Q : Sg → Int64 → Prop) (X : Sg → String → Prop) : Prop := w_X16_nameOf_0 ra jx rm Q X σ v0
theorem dX16_nameOf_0 : decode cX16_nameOf 0 = .ok (.lconst 0, 1) := by decide +kernel
theorem dX16_nameOf_1 : decode cX16_nameOf 1 = .ok (.lstore_n 1, 1) := by decide +kernel
theorem dX16_nameOf_2 : decode cX16_nameOf 2 = .ok (.iconst 0, 1) := by decide +kernel
theorem dX16_nameOf_3 : decode cX16_nameOf 3 = .ok (.istore_n 3, 1) := by decide +kernel
theorem dX16_nameOf_4 : decode cX16_nameOf 4 = .ok (.iload_n 3, 1) := by decide +kernel
theorem dX16_nameOf_5 : decode cX16_nameOf 5 = .ok (.aload_n 0, 1) := by decide +kernel
theorem dX16_nameOf_6 : decode cX16_nameOf 6 = .ok (.invokevirtual 87, 3) := by decide +kernel
theorem dX16_nameOf_9 : decode cX16_nameOf 9 = .ok (.if_icmp .ge 21, 3) := by decide +kernel
theorem dX16_nameOf_12 : decode cX16_nameOf 12 = .ok (.lload_n 1, 1) := by decide +kernel
theorem dX16_nameOf_13 : decode cX16_nameOf 13 = .ok (.bipush 8, 2) := by decide +kernel
theorem dX16_nameOf_15 : decode cX16_nameOf 15 = .ok (.lshl, 1) := by decide +kernel
theorem dX16_nameOf_16 : decode cX16_nameOf 16 = .ok (.aload_n 0, 1) := by decide +kernel
theorem dX16_nameOf_17 : decode cX16_nameOf 17 = .ok (.iload_n 3, 1) := by decide +kernel
theorem dX16_nameOf_18 : decode cX16_nameOf 18 = .ok (.invokevirtual 91, 3) := by decide +kernel
theorem dX16_nameOf_21 : decode cX16_nameOf 21 = .ok (.i2l, 1) := by decide +kernel
theorem dX16_nameOf_22 : decode cX16_nameOf 22 = .ok (.lor, 1) := by decide +kernel
theorem dX16_nameOf_23 : decode cX16_nameOf 23 = .ok (.lstore_n 1, 1) := by decide +kernel
theorem dX16_nameOf_24 : decode cX16_nameOf 24 = .ok (.iinc 3 1, 3) := by decide +kernel
theorem dX16_nameOf_27 : decode cX16_nameOf 27 = .ok (.goto (-23), 3) := by decide +kernel
theorem dX16_nameOf_30 : decode cX16_nameOf 30 = .ok (.lload_n 1, 1) := by decide +kernel
theorem dX16_nameOf_31 : decode cX16_nameOf 31 = .ok (.lreturn, 1) := by decide +kernel
set_option maxRecDepth 20000 in
theorem a_X16_nameOf_30 {Q : Sg → Int64 → Prop} {X : Sg → String → Prop} (K : MC R p s m args c cX16_nameOf 4 RX16 D cA tys A n0 s0 4 85 []) (hQ : HQJ p l e R s m args below meth c cX16_nameOf D cA A n0 s0 QM dm ra jx rm Q) (hX : HX p l e R s m args below meth c 4 D cA A n0 s0 QM dm ra jx rm X) : ∀ (σ : Sg) (v1 : Int64), w_X16_nameOf_30 ra jx rm Q X σ v1 → RG σ → Shp dm ra jx rm σ → JJ p l e R s m args below meth c 4 D cA A n0 s0 QM σ 30 [(1, .long v1)] [] := by
  intro σ v1 h hGσ hS H locs ls hH hl hc
  have B := K.1
  unfold w_X16_nameOf_30 at h
  refine lv_lload_n B.1 B.2.1 dX16_nameOf_30 rfl (lv_at hl 0 rfl) ?_
  exact hQ _ _ _ _ _ _ dX16_nameOf_31 hH hc h hGσ hS
set_option maxRecDepth 20000 in
theorem a_X16_nameOf_12 {Q : Sg → Int64 → Prop} {X : Sg → String → Prop} (K : MC R p s m args c cX16_nameOf 4 RX16 D cA tys A n0 s0 4 85 []) (hQ : HQJ p l e R s m args below meth c cX16_nameOf D cA A n0 s0 QM dm ra jx rm Q) (hX : HX p l e R s m args below meth c 4 D cA A n0 s0 QM dm ra jx rm X) {K4 : Sg → Nat → Int64 → Int → Prop} (hK4 : ∀ (σ : Sg) (v0 : Nat) (v1 : Int64) (v3 : Int) (g0 : strK v0) (g3 : rng v3), K4 σ v0 v1 v3 → RG σ → Shp dm ra jx rm σ → JJ p l e R s m args below meth c 4 D cA A n0 s0 QM σ 4 [(0, .ref (cA (1000 + v0))), (1, .long v1), (3, .int (i32 v3))] []) : ∀ (σ : Sg) (v0 : Nat) (v1 : Int64) (v3 : Int) (g0 : strK v0) (g3 : rng v3), w_X16_nameOf_12 ra jx rm K4 Q X σ v0 v1 v3 → RG σ → Shp dm ra jx rm σ → JJ p l e R s m args below meth c 4 D cA A n0 s0 QM σ 12 [(0, .ref (cA (1000 + v0))), (1, .long v1), (3, .int (i32 v3))] [] := by
  intro σ v0 v1 v3 g0 g3 h hGσ hS H locs ls hH hl hc
  have B := K.1
  unfold w_X16_nameOf_12 at h
  refine lv_lload_n B.1 B.2.1 dX16_nameOf_12 rfl (lv_at hl 1 rfl) ?_
  refine lv_bipush (v := i32 8) B.1 B.2.1 dX16_nameOf_13 (by decide) ?_
  refine lv_lshl B.1 B.2.1 dX16_nameOf_15 rfl ?_
  refine lv_aload_n B.1 B.2.1 dX16_nameOf_16 rfl (lv_at hl 0 rfl) ?_
  refine lv_iload_n B.1 B.2.1 dX16_nameOf_17 rfl (lv_at hl 2 rfl) ?_
  refine c_VS B hH hl hc K.2.2.1 (C := RJ0) (As := [.int (i32 v3)]) (ok_J0_charAt_5068e (dm := dm) (ra := ra) (jx := jx) (rm := rm) K.2.1 σ v0 v3 g0.1 g3 hGσ hS h) wc_X16_91 1 hd_J0_charAt_5068e ⟨Nat.le_trans (Nat.le_of_ble_eq_true rfl) K.2.2.2.1, Nat.le_trans (Nat.le_of_ble_eq_true rfl) K.2.2.2.2.1⟩ (xs_recv B hH g0.1) rfl (rest := [.long (v1 <<< ((i32 8).toInt64 &&& 63))]) rfl (Nat.le_of_ble_eq_true rfl) dX16_nameOf_18 (fun σ9 w hq => ?_) (fun σ9 E9 hx9 => hX σ9 E9 _ _ _ (tb_out K.2.2.2.2.2 rfl) hx9.1 hx9.2.1 hx9.2.2)
  obtain ⟨r10, rfl, ⟨gr10, gzr10⟩, h, hGσ9, hS⟩ := hq
  intro H locs ls hH hl hc
  refine W.eq (g2 := F0 m 21 ls [.int (i32 r10), .long (v1 <<< ((i32 8).toInt64 &&& 63))]) (rfl) ?_
  try dsimp only at h
  refine lv_i2l B.1 B.2.1 dX16_nameOf_21 (i32_i64 gr10) ?_
  refine lv_lor B.1 B.2.1 dX16_nameOf_22 ?_
  refine lv_lstore_n (lv' := [(1, .long ((v1 <<< ((i32 8).toInt64 &&& 63)) ||| (Int64.ofInt r10))), (0, .ref (cA (1000 + v0))), (3, .int (i32 v3))]) B.1 B.2.1 dX16_nameOf_23 rfl hl (by decide) rfl (fun ls hl => ?_)
  obtain ⟨q1, h⟩ := h
  refine lv_iinc (k := 2) (v := i32 (v3 + 1)) (lv' := [(3, .int (i32 (v3 + 1))), (1, .long ((v1 <<< ((i32 8).toInt64 &&& 63)) ||| (Int64.ofInt r10))), (0, .ref (cA (1000 + v0)))]) B.1 B.2.1 dX16_nameOf_24 hl rfl (i32_add _ _) (by decide) rfl (fun ls hl => ?_)
  refine lv_goto (tgt := 4) B.1 B.2.1 dX16_nameOf_27 (by decide) ?_
  exact hK4 _ _ _ _ g0 q1 h hGσ9 hS _ _ _ hH (lv_sub (l' := [(0, .ref (cA (1000 + v0))), (1, .long ((v1 <<< ((i32 8).toInt64 &&& 63)) ||| (Int64.ofInt r10))), (3, .int (i32 (v3 + 1)))]) hl [2, 1, 0] rfl) hc
set_option maxRecDepth 20000 in
theorem a_X16_nameOf_4 {Q : Sg → Int64 → Prop} {X : Sg → String → Prop} (K : MC R p s m args c cX16_nameOf 4 RX16 D cA tys A n0 s0 4 85 []) (hQ : HQJ p l e R s m args below meth c cX16_nameOf D cA A n0 s0 QM dm ra jx rm Q) (hX : HX p l e R s m args below meth c 4 D cA A n0 s0 QM dm ra jx rm X) {K4 : Sg → Nat → Int64 → Int → Prop} (hK4 : ∀ (σ : Sg) (v0 : Nat) (v1 : Int64) (v3 : Int) (g0 : strK v0) (g3 : rng v3), K4 σ v0 v1 v3 → RG σ → Shp dm ra jx rm σ → JJ p l e R s m args below meth c 4 D cA A n0 s0 QM σ 4 [(0, .ref (cA (1000 + v0))), (1, .long v1), (3, .int (i32 v3))] []) : ∀ (σ : Sg) (v0 : Nat) (v1 : Int64) (v3 : Int) (g0 : strK v0) (g3 : rng v3), w_X16_nameOf_4 ra jx rm K4 Q X σ v0 v1 v3 → RG σ → Shp dm ra jx rm σ → JJ p l e R s m args below meth c 4 D cA A n0 s0 QM σ 4 [(0, .ref (cA (1000 + v0))), (1, .long v1), (3, .int (i32 v3))] [] := by
  intro σ v0 v1 v3 g0 g3 h hGσ hS H locs ls hH hl hc
  have B := K.1
  unfold w_X16_nameOf_4 at h
  refine lv_iload_n B.1 B.2.1 dX16_nameOf_4 rfl (lv_at hl 2 rfl) ?_
  refine lv_aload_n B.1 B.2.1 dX16_nameOf_5 rfl (lv_at hl 0 rfl) ?_
  refine c_VS B hH hl hc K.2.2.1 (C := RJ0) (As := []) (ok_J0_length_8abf5 (dm := dm) (ra := ra) (jx := jx) (rm := rm) K.2.1 σ v0 g0.1 hGσ hS h) wc_X16_87 0 hd_J0_length_8abf5 ⟨Nat.le_trans (Nat.le_of_ble_eq_true rfl) K.2.2.2.1, Nat.le_trans (Nat.le_of_ble_eq_true rfl) K.2.2.2.2.1⟩ (xs_recv B hH g0.1) rfl (rest := [.int (i32 v3)]) rfl (Nat.le_of_ble_eq_true rfl) dX16_nameOf_6 (fun σ11 w hq => ?_) (fun σ9 E9 hx9 => hX σ9 E9 _ _ _ (tb_out K.2.2.2.2.2 rfl) hx9.1 hx9.2.1 hx9.2.2)
  obtain ⟨r12, rfl, gr12, h, hGσ11, hS⟩ := hq
  intro H locs ls hH hl hc
  refine W.eq (g2 := F0 m 9 ls [.int (i32 r12), .int (i32 v3)]) (rfl) ?_
  try dsimp only at h
  refine lv_icmp_ge (tgt := 30) B.1 B.2.1 dX16_nameOf_9 (by decide) (fun h9 => ?_) (fun h9 => ?_)
  · rw [if_pos ((i32_le gr12 g3).mp h9)] at h
    exact a_X16_nameOf_30 K hQ hX _ _ h hGσ11 hS _ _ _ hH (lv_sub (l' := [(1, .long v1)]) hl [1] rfl) hc
  · rw [if_neg (fun q => h9 ((i32_le gr12 g3).mpr q))] at h
    exact a_X16_nameOf_12 K hQ hX hK4 _ _ _ _ g0 g3 h hGσ11 hS _ _ _ hH (lv_sub (l' := [(0, .ref (cA (1000 + v0))), (1, .long v1), (3, .int (i32 v3))]) hl [0, 1, 2] rfl) hc
theorem al_X16_nameOf_4 {Q : Sg → Int64 → Prop} {X : Sg → String → Prop} (K : MC R p s m args c cX16_nameOf 4 RX16 D cA tys A n0 s0 4 85 []) (hQ : HQJ p l e R s m args below meth c cX16_nameOf D cA A n0 s0 QM dm ra jx rm Q) (hX : HX p l e R s m args below meth c 4 D cA A n0 s0 QM dm ra jx rm X) : ∀ (n : Nat), ∀ (σ : Sg) (v0 : Nat) (v1 : Int64) (v3 : Int) (g0 : strK v0) (g3 : rng v3), wl_X16_nameOf_4 ra jx rm Q X n σ v0 v1 v3 → RG σ → Shp dm ra jx rm σ → JJ p l e R s m args below meth c 4 D cA A n0 s0 QM σ 4 [(0, .ref (cA (1000 + v0))), (1, .long v1), (3, .int (i32 v3))] [] := by
  intro n
  induction n with
  | zero => intro σ v0 v1 v3 g0 g3 h; exact h.elim
  | succ n ih => exact fun σ v0 v1 v3 g0 g3 h => a_X16_nameOf_4 K hQ hX ih σ v0 v1 v3 g0 g3 h
set_option maxRecDepth 20000 in
theorem a_X16_nameOf_0 {Q : Sg → Int64 → Prop} {X : Sg → String → Prop} (K : MC R p s m args c cX16_nameOf 4 RX16 D cA tys A n0 s0 4 85 []) (hQ : HQJ p l e R s m args below meth c cX16_nameOf D cA A n0 s0 QM dm ra jx rm Q) (hX : HX p l e R s m args below meth c 4 D cA A n0 s0 QM dm ra jx rm X) : ∀ (σ : Sg) (v0 : Nat) (g0 : strK v0), w_X16_nameOf_0 ra jx rm Q X σ v0 → RG σ → Shp dm ra jx rm σ → JJ p l e R s m args below meth c 4 D cA A n0 s0 QM σ 0 [(0, .ref (cA (1000 + v0)))] [] := by
  intro σ v0 g0 h hGσ hS H locs ls hH hl hc
  have B := K.1
  unfold w_X16_nameOf_0 at h
  refine lv_lconst (v := 0) B.1 B.2.1 dX16_nameOf_0 (by decide) ?_
  refine lv_lstore_n (lv' := [(1, .long 0), (0, .ref (cA (1000 + v0)))]) B.1 B.2.1 dX16_nameOf_1 rfl hl (by decide) rfl (fun ls hl => ?_)
  refine lv_iconst (v := i32 0) B.1 B.2.1 dX16_nameOf_2 (by decide) ?_
  refine lv_istore_n (lv' := [(3, .int (i32 0)), (1, .long 0), (0, .ref (cA (1000 + v0)))]) B.1 B.2.1 dX16_nameOf_3 rfl hl (by decide) rfl (fun ls hl => ?_)
  obtain ⟨n9, h⟩ := h
  exact al_X16_nameOf_4 K hQ hX n9 _ _ _ _ g0 (by unfold rng; omega) h hGσ hS _ _ _ hH (lv_sub (l' := [(0, .ref (cA (1000 + v0))), (1, .long 0), (3, .int (i32 0))]) hl [2, 1, 0] rfl) hc
theorem ok_X16_nameOfn (hT : Tys cA tys) {Q : Sg → Int64 → Prop} {X : Sg → String → Prop} (σ : Sg) (v0 : Nat) (g0 : strK v0) (hG : RG σ) (hS : Shp dm ra jx rm σ) (h : wpn_X16_nameOf ra jx rm v0 σ Q X) : Ok l D cA tys A yX16_nameOf (.code yX16_nameOf cX16_nameOf 4 (some .long)) 4 85 [.ref (cA (1000 + v0))] σ (QnJ dm ra jx rm Q) (QxR dm ra jx rm X) := by
  unfold wpn_X16_nameOf at h
  exact ok_J (plainFor_of_name (by decide)) (by exact Nat.le_of_ble_eq_true rfl) hT (fun p e R s m args below meth c K hQ hX H locs ls hH hl hc => a_X16_nameOf_0 K hQ hX σ v0 g0 h hG hS H locs ls hH (lv_sub (l' := [(0, .ref (cA (1000 + v0)))]) hl [0] rfl) hc)
theorem jl_name {n : Nat} {σ : Sg} {Q : Sg → Int64 → Prop} {X : Sg → String → Prop} (hs : strK n) (h : Q σ (nv n)) : wpn_X16_nameOf ra jx rm n σ Q X := by
  have hb := rng_bl hs.1
  unfold rng at hb
  have hl : ∀ (k j : Nat), j + k = (bs n).length → wl_X16_nameOf_4 ra jx rm Q X (k + 1) σ n (nvk n j) j := by
    intro k
    induction k with
    | zero =>
      intro j e
      show w_X16_nameOf_4 ra jx rm _ Q X σ n (nvk n j) j
      unfold w_X16_nameOf_4
      refine jl_len hs.1 ?_
      try dsimp only
      rw [if_pos (by unfold bln; omega)]
      unfold w_X16_nameOf_30
      have ej : j = (bs n).length := by omega
      rw [ej, ← hs.2.2]
      exact h
    | succ k ih =>
      intro j e
      show w_X16_nameOf_4 ra jx rm _ Q X σ n (nvk n j) j
      unfold w_X16_nameOf_4
      refine jl_len hs.1 ?_
      try dsimp only
      rw [if_neg (by unfold bln; omega)]
      unfold w_X16_nameOf_12
      refine jl_char ⟨by omega, by unfold bln; omega⟩ ?_
      try dsimp only
      refine ⟨by unfold rng; unfold bln at hb; omega, ?_⟩
      have := ih (j + 1) (by omega)
      rw [show ((j + 1 : Nat) : Int) = (j : Int) + 1 by omega] at this
      exact this
  unfold wpn_X16_nameOf w_X16_nameOf_0
  exact ⟨_, hl (bs n).length 0 (by omega)⟩
theorem ok_X16_nameOf (hT : Tys cA tys) {Q : Sg → Int64 → Prop} {X : Sg → String → Prop} (σ : Sg) (v0 : Nat) (g0 : strK v0) (hG : RG σ) (hS : Shp dm ra jx rm σ) (h : wp_X16_nameOf ra jx rm v0 σ Q X) : Ok l D cA tys A yX16_nameOf (.code yX16_nameOf cX16_nameOf 4 (some .long)) 4 85 [.ref (cA (1000 + v0))] σ (QnJ dm ra jx rm Q) (QxR dm ra jx rm X) := ok_X16_nameOfn hT σ v0 g0 hG hS (jl_name g0 h)

theorem dX15_add_0 : decode cX15_add 0 = .ok (.aload_n 0, 1) := by decide +kernel
theorem dX15_add_1 : decode cX15_add 1 = .ok (.getfield 32, 3) := by decide +kernel
theorem dX15_add_4 : decode cX15_add 4 = .ok (.bipush 9, 2) := by decide +kernel
theorem dX15_add_6 : decode cX15_add 6 = .ok (.iload_n 1, 1) := by decide +kernel
theorem dX15_add_7 : decode cX15_add 7 = .ok (.imul, 1) := by decide +kernel
theorem dX15_add_8 : decode cX15_add 8 = .ok (.aload_n 0, 1) := by decide +kernel
theorem dX15_add_9 : decode cX15_add 9 = .ok (.getfield 29, 3) := by decide +kernel
theorem dX15_add_12 : decode cX15_add 12 = .ok (.iload_n 1, 1) := by decide +kernel
theorem dX15_add_13 : decode cX15_add 13 = .ok (.iaload, 1) := by decide +kernel
theorem dX15_add_14 : decode cX15_add 14 = .ok (.iadd, 1) := by decide +kernel
theorem dX15_add_15 : decode cX15_add 15 = .ok (.lload_n 2, 1) := by decide +kernel
theorem dX15_add_16 : decode cX15_add 16 = .ok (.lastore, 1) := by decide +kernel
theorem dX15_add_17 : decode cX15_add 17 = .ok (.aload_n 0, 1) := by decide +kernel
theorem dX15_add_18 : decode cX15_add 18 = .ok (.getfield 29, 3) := by decide +kernel
theorem dX15_add_21 : decode cX15_add 21 = .ok (.iload_n 1, 1) := by decide +kernel
theorem dX15_add_22 : decode cX15_add 22 = .ok (.dup2, 1) := by decide +kernel
theorem dX15_add_23 : decode cX15_add 23 = .ok (.iaload, 1) := by decide +kernel
theorem dX15_add_24 : decode cX15_add 24 = .ok (.iconst 1, 1) := by decide +kernel
theorem dX15_add_25 : decode cX15_add 25 = .ok (.iadd, 1) := by decide +kernel
theorem dX15_add_26 : decode cX15_add 26 = .ok (.iastore, 1) := by decide +kernel
theorem dX15_add_27 : decode cX15_add 27 = .ok (.return_, 1) := by decide +kernel
set_option maxRecDepth 20000 in
theorem a_X15_add_0 {Q : Sg → Unit → Prop} {X : Sg → String → Prop} {jm : Nat} (K : MC R p s m args c cX15_add 4 RX15 D cA tys A n0 s0 0 0 []) (hj : jm = ra 15 ∨ jm = ra 16) (hQ : HQV p l e R s m args below meth c cX15_add D cA A n0 s0 QM dm ra jx rm Q) (hX : HX p l e R s m args below meth c 4 D cA A n0 s0 QM dm ra jx rm X) : ∀ (σ : Sg) (v1 : Int) (v2 : Int64) (g1 : rng v1), w_X15_add_0 ra jx rm jm Q X σ v1 v2 → RG σ → Shp dm ra jx rm σ → JJ p l e R s m args below meth c 4 D cA A n0 s0 QM σ 0 [(0, .ref jm), (1, .int (i32 v1)), (2, .long v2)] [] := by
  intro σ v1 v2 g1 h hGσ hS H locs ls hH hl hc
  have B := K.1
  unfold w_X15_add_0 at h
  refine lv_aload_n B.1 B.2.1 dX15_add_0 rfl (lv_at hl 0 rfl) ?_
  refine j_arr B hH hS hj 7 (kd := 101) (n := 144) (by decide) (by decide) wf_X15_32 rfl rfl dX15_add_1 ?_
  refine lv_bipush (v := i32 9) B.1 B.2.1 dX15_add_4 (by decide) ?_
  refine lv_iload_n B.1 B.2.1 dX15_add_6 rfl (lv_at hl 1 rfl) ?_
  obtain ⟨q1, h⟩ := h
  refine lv_imul B.1 B.2.1 dX15_add_7 ?_
  rw [i32_mul]
  refine lv_aload_n B.1 B.2.1 dX15_add_8 rfl (lv_at hl 0 rfl) ?_
  refine j_arr B hH hS hj 6 (kd := 100) (n := 16) (by decide) (by decide) wf_X15_29 rfl rfl dX15_add_9 ?_
  refine lv_iload_n B.1 B.2.1 dX15_add_12 rfl (lv_at hl 1 rfl) ?_
  obtain ⟨q2, h⟩ := h
  refine x_iald B K.2.1 hH (hS.ja hj (k := 6) (kd := 100) (n := 16) (by decide)) (by decide) q2 dX15_add_13 ?_
  obtain ⟨q3, h⟩ := h
  refine lv_iadd B.1 B.2.1 dX15_add_14 ?_
  rw [i32_add]
  refine lv_lload_n B.1 B.2.1 dX15_add_15 rfl (lv_at hl 2 rfl) ?_
  obtain ⟨q4, h⟩ := h
  obtain ⟨σ5, eσ5⟩ : ∃ z, z = pJ σ (jx jm 7) ((9 * v1) + (gI σ (jx jm 6) v1.toNat)).toNat v2 := ⟨_, rfl⟩
  have h := h σ5 eσ5
  refine x_last B K.2.1 hH (hS.ja hj (k := 7) (kd := 101) (n := 144) (by decide)) (by decide) q4 dX15_add_16 (fun H locs hH => ?_)
  have hH : Hd D cA A s (pJ σ (jx jm 7) ((9 * v1) + (gI σ (jx jm 6) v1.toNat)).toNat v2) H locs := hH
  rw [← eσ5] at hH
  have hGσ5 : RG σ5 := by rw [eσ5]; exact hGσ.pJ
  have hS : Shp dm ra jx rm σ5 := by rw [eσ5]; exact hS
  have hc : CB n0 s0 σ5 := by rw [eσ5]; exact hc
  rw [show gc σ = gc σ5 by rw [eσ5], show gs σ = gs σ5 by rw [eσ5]]
  refine lv_aload_n B.1 B.2.1 dX15_add_17 rfl (lv_at hl 0 rfl) ?_
  refine j_arr B hH hS hj 6 (kd := 100) (n := 16) (by decide) (by decide) wf_X15_29 rfl rfl dX15_add_18 ?_
  refine lv_iload_n B.1 B.2.1 dX15_add_21 rfl (lv_at hl 1 rfl) ?_
  refine lv_dup2_11 B.1 B.2.1 dX15_add_22 rfl rfl ?_
  obtain ⟨q6, h⟩ := h
  refine x_iald B K.2.1 hH (hS.ja hj (k := 6) (kd := 100) (n := 16) (by decide)) (by decide) q6 dX15_add_23 ?_
  refine lv_iconst (v := i32 1) B.1 B.2.1 dX15_add_24 (by decide) ?_
  obtain ⟨q7, h⟩ := h
  refine lv_iadd B.1 B.2.1 dX15_add_25 ?_
  rw [i32_add]
  obtain ⟨q8, h⟩ := h
  obtain ⟨σ6, eσ6⟩ : ∃ z, z = pI σ5 (jx jm 6) v1.toNat ((gI σ5 (jx jm 6) v1.toNat) + 1) := ⟨_, rfl⟩
  have h := h σ6 eσ6
  refine x_iast B K.2.1 hH (hS.ja hj (k := 6) (kd := 100) (n := 16) (by decide)) (by decide) q8 dX15_add_26 (fun H locs hH => ?_)
  have hH : Hd D cA A s (pI σ5 (jx jm 6) v1.toNat ((gI σ5 (jx jm 6) v1.toNat) + 1)) H locs := hH
  rw [← eσ6] at hH
  have hGσ6 : RG σ6 := by rw [eσ6]; exact hGσ5.pI q7
  have hS : Shp dm ra jx rm σ6 := by rw [eσ6]; exact hS
  have hc : CB n0 s0 σ6 := by rw [eσ6]; exact hc
  rw [show gc σ5 = gc σ6 by rw [eσ6], show gs σ5 = gs σ6 by rw [eσ6]]
  exact hQ _ _ _ _ _ dX15_add_27 hH hc h hGσ6 hS
theorem ok_X15_add {jm : Nat} (hj : jm = ra 15 ∨ jm = ra 16) (hT : Tys cA tys) {Q : Sg → Unit → Prop} {X : Sg → String → Prop} (σ : Sg) (v1 : Int) (v2 : Int64) (g1 : rng v1) (hG : RG σ) (hS : Shp dm ra jx rm σ) (h : wp_X15_add ra jx rm jm v1 v2 σ Q X) : Ok l D cA tys A yX15_add (.code yX15_add cX15_add 4 none) 0 0 [.ref jm, .int (i32 v1), .long v2] σ (QnV dm ra jx rm Q) (QxR dm ra jx rm X) := by
  unfold wp_X15_add at h
  exact ok_V (plainFor_of_name (by decide)) (by exact Nat.le_of_ble_eq_true rfl) hT (fun p e R s m args below meth c K hQ hX H locs ls hH hl hc => a_X15_add_0 K hj hQ hX σ v1 v2 g1 h hG hS H locs ls hH (lv_sub (l' := [(0, .ref jm), (1, .int (i32 v1)), (2, .long v2)]) hl [0, 1, 2] rfl) hc)
theorem dX15_clear_0 : decode cX15_clear 0 = .ok (.aload_n 0, 1) := by decide +kernel
theorem dX15_clear_1 : decode cX15_clear 1 = .ok (.iconst 0, 1) := by decide +kernel
theorem dX15_clear_2 : decode cX15_clear 2 = .ok (.putfield 65, 3) := by decide +kernel
theorem dX15_clear_5 : decode cX15_clear 5 = .ok (.aload_n 0, 1) := by decide +kernel
theorem dX15_clear_6 : decode cX15_clear 6 = .ok (.iconst 0, 1) := by decide +kernel
theorem dX15_clear_7 : decode cX15_clear 7 = .ok (.putfield 69, 3) := by decide +kernel
theorem dX15_clear_10 : decode cX15_clear 10 = .ok (.aload_n 0, 1) := by decide +kernel
theorem dX15_clear_11 : decode cX15_clear 11 = .ok (.iconst 0, 1) := by decide +kernel
theorem dX15_clear_12 : decode cX15_clear 12 = .ok (.putfield 72, 3) := by decide +kernel
theorem dX15_clear_15 : decode cX15_clear 15 = .ok (.iconst 0, 1) := by decide +kernel
theorem dX15_clear_16 : decode cX15_clear 16 = .ok (.istore_n 1, 1) := by decide +kernel
theorem dX15_clear_17 : decode cX15_clear 17 = .ok (.iload_n 1, 1) := by decide +kernel
theorem dX15_clear_18 : decode cX15_clear 18 = .ok (.iconst 4, 1) := by decide +kernel
theorem dX15_clear_19 : decode cX15_clear 19 = .ok (.if_icmp .ge 16, 3) := by decide +kernel
theorem dX15_clear_22 : decode cX15_clear 22 = .ok (.aload_n 0, 1) := by decide +kernel
theorem dX15_clear_23 : decode cX15_clear 23 = .ok (.getfield 62, 3) := by decide +kernel
theorem dX15_clear_26 : decode cX15_clear 26 = .ok (.iload_n 1, 1) := by decide +kernel
theorem dX15_clear_27 : decode cX15_clear 27 = .ok (.iconst (-1), 1) := by decide +kernel
theorem dX15_clear_28 : decode cX15_clear 28 = .ok (.iastore, 1) := by decide +kernel
theorem dX15_clear_29 : decode cX15_clear 29 = .ok (.iinc 1 1, 3) := by decide +kernel
theorem dX15_clear_32 : decode cX15_clear 32 = .ok (.goto (-15), 3) := by decide +kernel
theorem dX15_clear_35 : decode cX15_clear 35 = .ok (.return_, 1) := by decide +kernel
set_option maxRecDepth 20000 in
theorem a_X15_clear_35 {Q : Sg → Unit → Prop} {X : Sg → String → Prop} {jm : Nat} (K : MC R p s m args c cX15_clear 2 RX15 D cA tys A n0 s0 0 0 []) (hj : jm = ra 15 ∨ jm = ra 16) (hQ : HQV p l e R s m args below meth c cX15_clear D cA A n0 s0 QM dm ra jx rm Q) (hX : HX p l e R s m args below meth c 2 D cA A n0 s0 QM dm ra jx rm X) : ∀ (σ : Sg), w_X15_clear_35 ra jx rm jm Q X σ → RG σ → Shp dm ra jx rm σ → JJ p l e R s m args below meth c 2 D cA A n0 s0 QM σ 35 [(0, .ref jm)] [] := by
  intro σ h hGσ hS H locs ls hH hl hc
  have B := K.1
  unfold w_X15_clear_35 at h
  exact hQ _ _ _ _ _ dX15_clear_35 hH hc h hGσ hS
set_option maxRecDepth 20000 in
theorem a_X15_clear_22 {Q : Sg → Unit → Prop} {X : Sg → String → Prop} {jm : Nat} (K : MC R p s m args c cX15_clear 2 RX15 D cA tys A n0 s0 0 0 []) (hj : jm = ra 15 ∨ jm = ra 16) (hQ : HQV p l e R s m args below meth c cX15_clear D cA A n0 s0 QM dm ra jx rm Q) (hX : HX p l e R s m args below meth c 2 D cA A n0 s0 QM dm ra jx rm X) {K17 : Sg → Int → Prop} (hK17 : ∀ (σ : Sg) (v1 : Int) (g1 : rng v1), K17 σ v1 → RG σ → Shp dm ra jx rm σ → JJ p l e R s m args below meth c 2 D cA A n0 s0 QM σ 17 [(0, .ref jm), (1, .int (i32 v1))] []) : ∀ (σ : Sg) (v1 : Int) (g1 : rng v1), w_X15_clear_22 ra jx rm jm K17 Q X σ v1 → RG σ → Shp dm ra jx rm σ → JJ p l e R s m args below meth c 2 D cA A n0 s0 QM σ 22 [(0, .ref jm), (1, .int (i32 v1))] [] := by
  intro σ v1 g1 h hGσ hS H locs ls hH hl hc
  have B := K.1
  unfold w_X15_clear_22 at h
  refine lv_aload_n B.1 B.2.1 dX15_clear_22 rfl (lv_at hl 0 rfl) ?_
  refine j_arr B hH hS hj 18 (kd := 100) (n := 4) (by decide) (by decide) wf_X15_62 rfl rfl dX15_clear_23 ?_
  refine lv_iload_n B.1 B.2.1 dX15_clear_26 rfl (lv_at hl 1 rfl) ?_
  refine lv_iconst (v := i32 (-1)) B.1 B.2.1 dX15_clear_27 (by decide) ?_
  obtain ⟨q1, h⟩ := h
  obtain ⟨σ9, eσ9⟩ : ∃ z, z = pI σ (jx jm 18) v1.toNat (-1) := ⟨_, rfl⟩
  have h := h σ9 eσ9
  refine x_iast B K.2.1 hH (hS.ja hj (k := 18) (kd := 100) (n := 4) (by decide)) (by decide) q1 dX15_clear_28 (fun H locs hH => ?_)
  have hH : Hd D cA A s (pI σ (jx jm 18) v1.toNat (-1)) H locs := hH
  rw [← eσ9] at hH
  have hGσ9 : RG σ9 := by rw [eσ9]; exact hGσ.pI (by unfold rng; omega)
  have hS : Shp dm ra jx rm σ9 := by rw [eσ9]; exact hS
  have hc : CB n0 s0 σ9 := by rw [eσ9]; exact hc
  rw [show gc σ = gc σ9 by rw [eσ9], show gs σ = gs σ9 by rw [eσ9]]
  obtain ⟨q3, h⟩ := h
  refine lv_iinc (k := 1) (v := i32 (v1 + 1)) (lv' := [(1, .int (i32 (v1 + 1))), (0, .ref jm)]) B.1 B.2.1 dX15_clear_29 hl rfl (i32_add _ _) (by decide) rfl (fun ls hl => ?_)
  refine lv_goto (tgt := 17) B.1 B.2.1 dX15_clear_32 (by decide) ?_
  exact hK17 _ _ q3 h hGσ9 hS _ _ _ hH (lv_sub (l' := [(0, .ref jm), (1, .int (i32 (v1 + 1)))]) hl [1, 0] rfl) hc
set_option maxRecDepth 20000 in
theorem a_X15_clear_17 {Q : Sg → Unit → Prop} {X : Sg → String → Prop} {jm : Nat} (K : MC R p s m args c cX15_clear 2 RX15 D cA tys A n0 s0 0 0 []) (hj : jm = ra 15 ∨ jm = ra 16) (hQ : HQV p l e R s m args below meth c cX15_clear D cA A n0 s0 QM dm ra jx rm Q) (hX : HX p l e R s m args below meth c 2 D cA A n0 s0 QM dm ra jx rm X) {K17 : Sg → Int → Prop} (hK17 : ∀ (σ : Sg) (v1 : Int) (g1 : rng v1), K17 σ v1 → RG σ → Shp dm ra jx rm σ → JJ p l e R s m args below meth c 2 D cA A n0 s0 QM σ 17 [(0, .ref jm), (1, .int (i32 v1))] []) : ∀ (σ : Sg) (v1 : Int) (g1 : rng v1), w_X15_clear_17 ra jx rm jm K17 Q X σ v1 → RG σ → Shp dm ra jx rm σ → JJ p l e R s m args below meth c 2 D cA A n0 s0 QM σ 17 [(0, .ref jm), (1, .int (i32 v1))] [] := by
  intro σ v1 g1 h hGσ hS H locs ls hH hl hc
  have B := K.1
  unfold w_X15_clear_17 at h
  refine lv_iload_n B.1 B.2.1 dX15_clear_17 rfl (lv_at hl 1 rfl) ?_
  refine lv_iconst (v := i32 4) B.1 B.2.1 dX15_clear_18 (by decide) ?_
  refine lv_icmp_ge (tgt := 35) B.1 B.2.1 dX15_clear_19 (by decide) (fun h9 => ?_) (fun h9 => ?_)
  · rw [if_pos ((i32_le (by unfold rng; omega) g1).mp h9)] at h
    exact a_X15_clear_35 K hj hQ hX _ h hGσ hS _ _ _ hH (lv_sub (l' := [(0, .ref jm)]) hl [0] rfl) hc
  · rw [if_neg (fun q => h9 ((i32_le (by unfold rng; omega) g1).mpr q))] at h
    exact a_X15_clear_22 K hj hQ hX hK17 _ _ g1 h hGσ hS _ _ _ hH (lv_sub (l' := [(0, .ref jm), (1, .int (i32 v1))]) hl [0, 1] rfl) hc
theorem al_X15_clear_17 {Q : Sg → Unit → Prop} {X : Sg → String → Prop} {jm : Nat} (K : MC R p s m args c cX15_clear 2 RX15 D cA tys A n0 s0 0 0 []) (hj : jm = ra 15 ∨ jm = ra 16) (hQ : HQV p l e R s m args below meth c cX15_clear D cA A n0 s0 QM dm ra jx rm Q) (hX : HX p l e R s m args below meth c 2 D cA A n0 s0 QM dm ra jx rm X) : ∀ (n : Nat), ∀ (σ : Sg) (v1 : Int) (g1 : rng v1), wl_X15_clear_17 ra jx rm jm Q X n σ v1 → RG σ → Shp dm ra jx rm σ → JJ p l e R s m args below meth c 2 D cA A n0 s0 QM σ 17 [(0, .ref jm), (1, .int (i32 v1))] [] := by
  intro n
  induction n with
  | zero => intro σ v1 g1 h; exact h.elim
  | succ n ih => exact fun σ v1 g1 h => a_X15_clear_17 K hj hQ hX ih σ v1 g1 h
set_option maxRecDepth 20000 in
theorem a_X15_clear_0 {Q : Sg → Unit → Prop} {X : Sg → String → Prop} {jm : Nat} (K : MC R p s m args c cX15_clear 2 RX15 D cA tys A n0 s0 0 0 []) (hj : jm = ra 15 ∨ jm = ra 16) (hQ : HQV p l e R s m args below meth c cX15_clear D cA A n0 s0 QM dm ra jx rm Q) (hX : HX p l e R s m args below meth c 2 D cA A n0 s0 QM dm ra jx rm X) : ∀ (σ : Sg), w_X15_clear_0 ra jx rm jm Q X σ → RG σ → Shp dm ra jx rm σ → JJ p l e R s m args below meth c 2 D cA A n0 s0 QM σ 0 [(0, .ref jm)] [] := by
  intro σ h hGσ hS H locs ls hH hl hc
  have B := K.1
  unfold w_X15_clear_0 at h
  refine lv_aload_n B.1 B.2.1 dX15_clear_0 rfl (lv_at hl 0 rfl) ?_
  refine lv_iconst (v := i32 0) B.1 B.2.1 dX15_clear_1 (by decide) ?_
  obtain ⟨σ10, eσ10⟩ : ∃ z, z = pI σ jm 0 0 := ⟨_, rfl⟩
  have h := h σ10 eσ10
  refine j_puti B hH hS hj 0 (ty := .int) (by decide) wf_X15_65 rfl rfl rfl rfl rfl rfl dX15_clear_2 (fun H locs hH => ?_)
  have hH : Hd D cA A s (pI σ jm 0 0) H locs := hH
  rw [← eσ10] at hH
  have hGσ10 : RG σ10 := by rw [eσ10]; exact hGσ.pI (by unfold rng; omega)
  have hS : Shp dm ra jx rm σ10 := by rw [eσ10]; exact hS
  have hc : CB n0 s0 σ10 := by rw [eσ10]; exact hc
  rw [show gc σ = gc σ10 by rw [eσ10], show gs σ = gs σ10 by rw [eσ10]]
  refine lv_aload_n B.1 B.2.1 dX15_clear_5 rfl (lv_at hl 0 rfl) ?_
  refine lv_iconst (v := i32 0) B.1 B.2.1 dX15_clear_6 (by decide) ?_
  obtain ⟨σ11, eσ11⟩ : ∃ z, z = pI σ10 jm 1 0 := ⟨_, rfl⟩
  have h := h σ11 eσ11
  refine j_puti B hH hS hj 1 (ty := .int) (by decide) wf_X15_69 rfl rfl rfl rfl rfl rfl dX15_clear_7 (fun H locs hH => ?_)
  have hH : Hd D cA A s (pI σ10 jm 1 0) H locs := hH
  rw [← eσ11] at hH
  have hGσ11 : RG σ11 := by rw [eσ11]; exact hGσ10.pI (by unfold rng; omega)
  have hS : Shp dm ra jx rm σ11 := by rw [eσ11]; exact hS
  have hc : CB n0 s0 σ11 := by rw [eσ11]; exact hc
  rw [show gc σ10 = gc σ11 by rw [eσ11], show gs σ10 = gs σ11 by rw [eσ11]]
  refine lv_aload_n B.1 B.2.1 dX15_clear_10 rfl (lv_at hl 0 rfl) ?_
  refine lv_iconst (v := i32 0) B.1 B.2.1 dX15_clear_11 (by decide) ?_
  obtain ⟨σ12, eσ12⟩ : ∃ z, z = pI σ11 jm 17 0 := ⟨_, rfl⟩
  have h := h σ12 eσ12
  refine j_puti B hH hS hj 17 (ty := .int) (by decide) wf_X15_72 rfl rfl rfl rfl rfl rfl dX15_clear_12 (fun H locs hH => ?_)
  have hH : Hd D cA A s (pI σ11 jm 17 0) H locs := hH
  rw [← eσ12] at hH
  have hGσ12 : RG σ12 := by rw [eσ12]; exact hGσ11.pI (by unfold rng; omega)
  have hS : Shp dm ra jx rm σ12 := by rw [eσ12]; exact hS
  have hc : CB n0 s0 σ12 := by rw [eσ12]; exact hc
  rw [show gc σ11 = gc σ12 by rw [eσ12], show gs σ11 = gs σ12 by rw [eσ12]]
  refine lv_iconst (v := i32 0) B.1 B.2.1 dX15_clear_15 (by decide) ?_
  refine lv_istore_n (lv' := [(1, .int (i32 0)), (0, .ref jm)]) B.1 B.2.1 dX15_clear_16 rfl hl (by decide) rfl (fun ls hl => ?_)
  obtain ⟨n9, h⟩ := h
  exact al_X15_clear_17 K hj hQ hX n9 _ _ (by unfold rng; omega) h hGσ12 hS _ _ _ hH (lv_sub (l' := [(0, .ref jm), (1, .int (i32 0))]) hl [1, 0] rfl) hc
theorem ok_X15_clear {jm : Nat} (hj : jm = ra 15 ∨ jm = ra 16) (hT : Tys cA tys) {Q : Sg → Unit → Prop} {X : Sg → String → Prop} (σ : Sg) (hG : RG σ) (hS : Shp dm ra jx rm σ) (h : wp_X15_clear ra jx rm jm σ Q X) : Ok l D cA tys A yX15_clear (.code yX15_clear cX15_clear 2 none) 0 0 [.ref jm] σ (QnV dm ra jx rm Q) (QxR dm ra jx rm X) := by
  unfold wp_X15_clear at h
  exact ok_V (plainFor_of_name (by decide)) (by exact Nat.le_of_ble_eq_true rfl) hT (fun p e R s m args below meth c K hQ hX H locs ls hH hl hc => a_X15_clear_0 K hj hQ hX σ h hG hS H locs ls hH (lv_sub (l' := [(0, .ref jm)]) hl [0] rfl) hc)
theorem dX15_column_0 : decode cX15_column 0 = .ok (.iconst (-1), 1) := by decide +kernel
theorem dX15_column_1 : decode cX15_column 1 = .ok (.istore 4, 2) := by decide +kernel
theorem dX15_column_3 : decode cX15_column 3 = .ok (.iconst 0, 1) := by decide +kernel
theorem dX15_column_4 : decode cX15_column 4 = .ok (.istore 5, 2) := by decide +kernel
theorem dX15_column_6 : decode cX15_column 6 = .ok (.iload 5, 2) := by decide +kernel
theorem dX15_column_8 : decode cX15_column 8 = .ok (.aload_n 0, 1) := by decide +kernel
theorem dX15_column_9 : decode cX15_column 9 = .ok (.getfield 29, 3) := by decide +kernel
theorem dX15_column_12 : decode cX15_column 12 = .ok (.iload_n 1, 1) := by decide +kernel
theorem dX15_column_13 : decode cX15_column 13 = .ok (.iaload, 1) := by decide +kernel
theorem dX15_column_14 : decode cX15_column 14 = .ok (.if_icmp .ge 35, 3) := by decide +kernel
theorem dX15_column_17 : decode cX15_column 17 = .ok (.aload_n 0, 1) := by decide +kernel
theorem dX15_column_18 : decode cX15_column 18 = .ok (.getfield 32, 3) := by decide +kernel
theorem dX15_column_21 : decode cX15_column 21 = .ok (.bipush 9, 2) := by decide +kernel
theorem dX15_column_23 : decode cX15_column 23 = .ok (.iload_n 1, 1) := by decide +kernel
theorem dX15_column_24 : decode cX15_column 24 = .ok (.imul, 1) := by decide +kernel
theorem dX15_column_25 : decode cX15_column 25 = .ok (.iload 5, 2) := by decide +kernel
theorem dX15_column_27 : decode cX15_column 27 = .ok (.iadd, 1) := by decide +kernel
theorem dX15_column_28 : decode cX15_column 28 = .ok (.laload, 1) := by decide +kernel
theorem dX15_column_29 : decode cX15_column 29 = .ok (.lload_n 2, 1) := by decide +kernel
theorem dX15_column_30 : decode cX15_column 30 = .ok (.lcmp, 1) := by decide +kernel
theorem dX15_column_31 : decode cX15_column 31 = .ok (.ifCond .ne 8, 3) := by decide +kernel
theorem dX15_column_34 : decode cX15_column 34 = .ok (.iload 5, 2) := by decide +kernel
theorem dX15_column_36 : decode cX15_column 36 = .ok (.goto 5, 3) := by decide +kernel
theorem dX15_column_39 : decode cX15_column 39 = .ok (.iload 4, 2) := by decide +kernel
theorem dX15_column_41 : decode cX15_column 41 = .ok (.istore 4, 2) := by decide +kernel
theorem dX15_column_43 : decode cX15_column 43 = .ok (.iinc 5 1, 3) := by decide +kernel
theorem dX15_column_46 : decode cX15_column 46 = .ok (.goto (-40), 3) := by decide +kernel
theorem dX15_column_49 : decode cX15_column 49 = .ok (.iload 4, 2) := by decide +kernel
theorem dX15_column_51 : decode cX15_column 51 = .ok (.ireturn, 1) := by decide +kernel
set_option maxRecDepth 20000 in
theorem a_X15_column_49 {Q : Sg → Int → Prop} {X : Sg → String → Prop} {jm : Nat} (K : MC R p s m args c cX15_column 6 RX15 D cA tys A n0 s0 0 0 []) (hj : jm = ra 15 ∨ jm = ra 16) (hQ : HQI p l e R s m args below meth c cX15_column D cA A n0 s0 QM dm ra jx rm Q) (hX : HX p l e R s m args below meth c 6 D cA A n0 s0 QM dm ra jx rm X) : ∀ (σ : Sg) (v4 : Int) (g4 : rng v4), w_X15_column_49 ra jx rm jm Q X σ v4 → RG σ → Shp dm ra jx rm σ → JJ p l e R s m args below meth c 6 D cA A n0 s0 QM σ 49 [(0, .ref jm), (4, .int (i32 v4))] [] := by
  intro σ v4 g4 h hGσ hS H locs ls hH hl hc
  have B := K.1
  unfold w_X15_column_49 at h
  refine lv_iload B.1 B.2.1 dX15_column_49 (lv_at hl 1 rfl) ?_
  exact hQ _ _ _ _ _ _ g4 dX15_column_51 hH hc h hGσ hS
set_option maxRecDepth 20000 in
theorem a_X15_column_41 {Q : Sg → Int → Prop} {X : Sg → String → Prop} {jm : Nat} (K : MC R p s m args c cX15_column 6 RX15 D cA tys A n0 s0 0 0 []) (hj : jm = ra 15 ∨ jm = ra 16) (hQ : HQI p l e R s m args below meth c cX15_column D cA A n0 s0 QM dm ra jx rm Q) (hX : HX p l e R s m args below meth c 6 D cA A n0 s0 QM dm ra jx rm X) {K6 : Sg → Int → Int64 → Int → Int → Prop} (hK6 : ∀ (σ : Sg) (v1 : Int) (v2 : Int64) (v4 : Int) (v5 : Int) (g1 : rng v1) (g4 : rng v4) (g5 : rng v5), K6 σ v1 v2 v4 v5 → RG σ → Shp dm ra jx rm σ → JJ p l e R s m args below meth c 6 D cA A n0 s0 QM σ 6 [(0, .ref jm), (1, .int (i32 v1)), (2, .long v2), (4, .int (i32 v4)), (5, .int (i32 v5))] []) : ∀ (σ : Sg) (v1 : Int) (v2 : Int64) (v5 : Int) (u0 : Int) (g1 : rng v1) (g5 : rng v5) (gu0 : rng u0), w_X15_column_41 ra jx rm jm K6 Q X σ v1 v2 v5 u0 → RG σ → Shp dm ra jx rm σ → JJ p l e R s m args below meth c 6 D cA A n0 s0 QM σ 41 [(0, .ref jm), (1, .int (i32 v1)), (2, .long v2), (5, .int (i32 v5))] [.int (i32 u0)] := by
  intro σ v1 v2 v5 u0 g1 g5 gu0 h hGσ hS H locs ls hH hl hc
  have B := K.1
  unfold w_X15_column_41 at h
  refine lv_istore (lv' := [(4, .int (i32 u0)), (0, .ref jm), (1, .int (i32 v1)), (2, .long v2), (5, .int (i32 v5))]) B.1 B.2.1 dX15_column_41 hl (by decide) rfl (fun ls hl => ?_)
  obtain ⟨q1, h⟩ := h
  refine lv_iinc (k := 4) (v := i32 (v5 + 1)) (lv' := [(5, .int (i32 (v5 + 1))), (4, .int (i32 u0)), (0, .ref jm), (1, .int (i32 v1)), (2, .long v2)]) B.1 B.2.1 dX15_column_43 hl rfl (i32_add _ _) (by decide) rfl (fun ls hl => ?_)
  refine lv_goto (tgt := 6) B.1 B.2.1 dX15_column_46 (by decide) ?_
  exact hK6 _ _ _ _ _ g1 gu0 q1 h hGσ hS _ _ _ hH (lv_sub (l' := [(0, .ref jm), (1, .int (i32 v1)), (2, .long v2), (4, .int (i32 u0)), (5, .int (i32 (v5 + 1)))]) hl [2, 3, 4, 1, 0] rfl) hc
set_option maxRecDepth 20000 in
theorem a_X15_column_39 {Q : Sg → Int → Prop} {X : Sg → String → Prop} {jm : Nat} (K : MC R p s m args c cX15_column 6 RX15 D cA tys A n0 s0 0 0 []) (hj : jm = ra 15 ∨ jm = ra 16) (hQ : HQI p l e R s m args below meth c cX15_column D cA A n0 s0 QM dm ra jx rm Q) (hX : HX p l e R s m args below meth c 6 D cA A n0 s0 QM dm ra jx rm X) {K6 : Sg → Int → Int64 → Int → Int → Prop} (hK6 : ∀ (σ : Sg) (v1 : Int) (v2 : Int64) (v4 : Int) (v5 : Int) (g1 : rng v1) (g4 : rng v4) (g5 : rng v5), K6 σ v1 v2 v4 v5 → RG σ → Shp dm ra jx rm σ → JJ p l e R s m args below meth c 6 D cA A n0 s0 QM σ 6 [(0, .ref jm), (1, .int (i32 v1)), (2, .long v2), (4, .int (i32 v4)), (5, .int (i32 v5))] []) : ∀ (σ : Sg) (v1 : Int) (v2 : Int64) (v4 : Int) (v5 : Int) (g1 : rng v1) (g4 : rng v4) (g5 : rng v5), w_X15_column_39 ra jx rm jm K6 Q X σ v1 v2 v4 v5 → RG σ → Shp dm ra jx rm σ → JJ p l e R s m args below meth c 6 D cA A n0 s0 QM σ 39 [(0, .ref jm), (1, .int (i32 v1)), (2, .long v2), (4, .int (i32 v4)), (5, .int (i32 v5))] [] := by
  intro σ v1 v2 v4 v5 g1 g4 g5 h hGσ hS H locs ls hH hl hc
  have B := K.1
  unfold w_X15_column_39 at h
  refine lv_iload B.1 B.2.1 dX15_column_39 (lv_at hl 3 rfl) ?_
  exact a_X15_column_41 K hj hQ hX hK6 _ _ _ _ _ g1 g5 g4 h hGσ hS _ _ _ hH (lv_sub (l' := [(0, .ref jm), (1, .int (i32 v1)), (2, .long v2), (5, .int (i32 v5))]) hl [0, 1, 2, 4] rfl) hc
set_option maxRecDepth 20000 in
theorem a_X15_column_34 {Q : Sg → Int → Prop} {X : Sg → String → Prop} {jm : Nat} (K : MC R p s m args c cX15_column 6 RX15 D cA tys A n0 s0 0 0 []) (hj : jm = ra 15 ∨ jm = ra 16) (hQ : HQI p l e R s m args below meth c cX15_column D cA A n0 s0 QM dm ra jx rm Q) (hX : HX p l e R s m args below meth c 6 D cA A n0 s0 QM dm ra jx rm X) {K6 : Sg → Int → Int64 → Int → Int → Prop} (hK6 : ∀ (σ : Sg) (v1 : Int) (v2 : Int64) (v4 : Int) (v5 : Int) (g1 : rng v1) (g4 : rng v4) (g5 : rng v5), K6 σ v1 v2 v4 v5 → RG σ → Shp dm ra jx rm σ → JJ p l e R s m args below meth c 6 D cA A n0 s0 QM σ 6 [(0, .ref jm), (1, .int (i32 v1)), (2, .long v2), (4, .int (i32 v4)), (5, .int (i32 v5))] []) : ∀ (σ : Sg) (v1 : Int) (v2 : Int64) (v5 : Int) (g1 : rng v1) (g5 : rng v5), w_X15_column_34 ra jx rm jm K6 Q X σ v1 v2 v5 → RG σ → Shp dm ra jx rm σ → JJ p l e R s m args below meth c 6 D cA A n0 s0 QM σ 34 [(0, .ref jm), (1, .int (i32 v1)), (2, .long v2), (5, .int (i32 v5))] [] := by
  intro σ v1 v2 v5 g1 g5 h hGσ hS H locs ls hH hl hc
  have B := K.1
  unfold w_X15_column_34 at h
  refine lv_iload B.1 B.2.1 dX15_column_34 (lv_at hl 3 rfl) ?_
  refine lv_goto (tgt := 41) B.1 B.2.1 dX15_column_36 (by decide) ?_
  exact a_X15_column_41 K hj hQ hX hK6 _ _ _ _ _ g1 g5 g5 h hGσ hS _ _ _ hH (lv_sub (l' := [(0, .ref jm), (1, .int (i32 v1)), (2, .long v2), (5, .int (i32 v5))]) hl [0, 1, 2, 3] rfl) hc
set_option maxRecDepth 20000 in
theorem a_X15_column_17 {Q : Sg → Int → Prop} {X : Sg → String → Prop} {jm : Nat} (K : MC R p s m args c cX15_column 6 RX15 D cA tys A n0 s0 0 0 []) (hj : jm = ra 15 ∨ jm = ra 16) (hQ : HQI p l e R s m args below meth c cX15_column D cA A n0 s0 QM dm ra jx rm Q) (hX : HX p l e R s m args below meth c 6 D cA A n0 s0 QM dm ra jx rm X) {K6 : Sg → Int → Int64 → Int → Int → Prop} (hK6 : ∀ (σ : Sg) (v1 : Int) (v2 : Int64) (v4 : Int) (v5 : Int) (g1 : rng v1) (g4 : rng v4) (g5 : rng v5), K6 σ v1 v2 v4 v5 → RG σ → Shp dm ra jx rm σ → JJ p l e R s m args below meth c 6 D cA A n0 s0 QM σ 6 [(0, .ref jm), (1, .int (i32 v1)), (2, .long v2), (4, .int (i32 v4)), (5, .int (i32 v5))] []) : ∀ (σ : Sg) (v1 : Int) (v2 : Int64) (v4 : Int) (v5 : Int) (g1 : rng v1) (g4 : rng v4) (g5 : rng v5), w_X15_column_17 ra jx rm jm K6 Q X σ v1 v2 v4 v5 → RG σ → Shp dm ra jx rm σ → JJ p l e R s m args below meth c 6 D cA A n0 s0 QM σ 17 [(0, .ref jm), (1, .int (i32 v1)), (2, .long v2), (4, .int (i32 v4)), (5, .int (i32 v5))] [] := by
  intro σ v1 v2 v4 v5 g1 g4 g5 h hGσ hS H locs ls hH hl hc
  have B := K.1
  unfold w_X15_column_17 at h
  refine lv_aload_n B.1 B.2.1 dX15_column_17 rfl (lv_at hl 0 rfl) ?_
  refine j_arr B hH hS hj 7 (kd := 101) (n := 144) (by decide) (by decide) wf_X15_32 rfl rfl dX15_column_18 ?_
  refine lv_bipush (v := i32 9) B.1 B.2.1 dX15_column_21 (by decide) ?_
  refine lv_iload_n B.1 B.2.1 dX15_column_23 rfl (lv_at hl 1 rfl) ?_
  obtain ⟨q1, h⟩ := h
  refine lv_imul B.1 B.2.1 dX15_column_24 ?_
  rw [i32_mul]
  refine lv_iload B.1 B.2.1 dX15_column_25 (lv_at hl 4 rfl) ?_
  obtain ⟨q2, h⟩ := h
  refine lv_iadd B.1 B.2.1 dX15_column_27 ?_
  rw [i32_add]
  obtain ⟨q3, h⟩ := h
  refine x_lald B K.2.1 hH (hS.ja hj (k := 7) (kd := 101) (n := 144) (by decide)) (by decide) q3 dX15_column_28 ?_
  refine lv_lload_n B.1 B.2.1 dX15_column_29 rfl (lv_at hl 2 rfl) ?_
  refine W.lcmp B.1 B.2.1 dX15_column_30 ?_
  refine lv_if_ne (tgt := 39) B.1 B.2.1 dX15_column_31 (by decide) (fun h9 => ?_) (fun h9 => ?_)
  · rw [if_pos (fun q => h9 ((lg_cmp_eq _ _).mpr q))] at h
    exact a_X15_column_39 K hj hQ hX hK6 _ _ _ _ _ g1 g4 g5 h hGσ hS _ _ _ hH (lv_sub (l' := [(0, .ref jm), (1, .int (i32 v1)), (2, .long v2), (4, .int (i32 v4)), (5, .int (i32 v5))]) hl [0, 1, 2, 3, 4] rfl) hc
  · rw [if_neg (fun q => q ((lg_cmp_eq _ _).mp h9))] at h
    exact a_X15_column_34 K hj hQ hX hK6 _ _ _ _ g1 g5 h hGσ hS _ _ _ hH (lv_sub (l' := [(0, .ref jm), (1, .int (i32 v1)), (2, .long v2), (5, .int (i32 v5))]) hl [0, 1, 2, 4] rfl) hc
set_option maxRecDepth 20000 in
theorem a_X15_column_6 {Q : Sg → Int → Prop} {X : Sg → String → Prop} {jm : Nat} (K : MC R p s m args c cX15_column 6 RX15 D cA tys A n0 s0 0 0 []) (hj : jm = ra 15 ∨ jm = ra 16) (hQ : HQI p l e R s m args below meth c cX15_column D cA A n0 s0 QM dm ra jx rm Q) (hX : HX p l e R s m args below meth c 6 D cA A n0 s0 QM dm ra jx rm X) {K6 : Sg → Int → Int64 → Int → Int → Prop} (hK6 : ∀ (σ : Sg) (v1 : Int) (v2 : Int64) (v4 : Int) (v5 : Int) (g1 : rng v1) (g4 : rng v4) (g5 : rng v5), K6 σ v1 v2 v4 v5 → RG σ → Shp dm ra jx rm σ → JJ p l e R s m args below meth c 6 D cA A n0 s0 QM σ 6 [(0, .ref jm), (1, .int (i32 v1)), (2, .long v2), (4, .int (i32 v4)), (5, .int (i32 v5))] []) : ∀ (σ : Sg) (v1 : Int) (v2 : Int64) (v4 : Int) (v5 : Int) (g1 : rng v1) (g4 : rng v4) (g5 : rng v5), w_X15_column_6 ra jx rm jm K6 Q X σ v1 v2 v4 v5 → RG σ → Shp dm ra jx rm σ → JJ p l e R s m args below meth c 6 D cA A n0 s0 QM σ 6 [(0, .ref jm), (1, .int (i32 v1)), (2, .long v2), (4, .int (i32 v4)), (5, .int (i32 v5))] [] := by
  intro σ v1 v2 v4 v5 g1 g4 g5 h hGσ hS H locs ls hH hl hc
  have B := K.1
  unfold w_X15_column_6 at h
  refine lv_iload B.1 B.2.1 dX15_column_6 (lv_at hl 4 rfl) ?_
  refine lv_aload_n B.1 B.2.1 dX15_column_8 rfl (lv_at hl 0 rfl) ?_
  refine j_arr B hH hS hj 6 (kd := 100) (n := 16) (by decide) (by decide) wf_X15_29 rfl rfl dX15_column_9 ?_
  refine lv_iload_n B.1 B.2.1 dX15_column_12 rfl (lv_at hl 1 rfl) ?_
  obtain ⟨q1, h⟩ := h
  refine x_iald B K.2.1 hH (hS.ja hj (k := 6) (kd := 100) (n := 16) (by decide)) (by decide) q1 dX15_column_13 ?_
  refine lv_icmp_ge (tgt := 49) B.1 B.2.1 dX15_column_14 (by decide) (fun h9 => ?_) (fun h9 => ?_)
  · rw [if_pos ((i32_le (hGσ _ _) g5).mp h9)] at h
    exact a_X15_column_49 K hj hQ hX _ _ g4 h hGσ hS _ _ _ hH (lv_sub (l' := [(0, .ref jm), (4, .int (i32 v4))]) hl [0, 3] rfl) hc
  · rw [if_neg (fun q => h9 ((i32_le (hGσ _ _) g5).mpr q))] at h
    exact a_X15_column_17 K hj hQ hX hK6 _ _ _ _ _ g1 g4 g5 h hGσ hS _ _ _ hH (lv_sub (l' := [(0, .ref jm), (1, .int (i32 v1)), (2, .long v2), (4, .int (i32 v4)), (5, .int (i32 v5))]) hl [0, 1, 2, 3, 4] rfl) hc
theorem al_X15_column_6 {Q : Sg → Int → Prop} {X : Sg → String → Prop} {jm : Nat} (K : MC R p s m args c cX15_column 6 RX15 D cA tys A n0 s0 0 0 []) (hj : jm = ra 15 ∨ jm = ra 16) (hQ : HQI p l e R s m args below meth c cX15_column D cA A n0 s0 QM dm ra jx rm Q) (hX : HX p l e R s m args below meth c 6 D cA A n0 s0 QM dm ra jx rm X) : ∀ (n : Nat), ∀ (σ : Sg) (v1 : Int) (v2 : Int64) (v4 : Int) (v5 : Int) (g1 : rng v1) (g4 : rng v4) (g5 : rng v5), wl_X15_column_6 ra jx rm jm Q X n σ v1 v2 v4 v5 → RG σ → Shp dm ra jx rm σ → JJ p l e R s m args below meth c 6 D cA A n0 s0 QM σ 6 [(0, .ref jm), (1, .int (i32 v1)), (2, .long v2), (4, .int (i32 v4)), (5, .int (i32 v5))] [] := by
  intro n
  induction n with
  | zero => intro σ v1 v2 v4 v5 g1 g4 g5 h; exact h.elim
  | succ n ih => exact fun σ v1 v2 v4 v5 g1 g4 g5 h => a_X15_column_6 K hj hQ hX ih σ v1 v2 v4 v5 g1 g4 g5 h
set_option maxRecDepth 20000 in
theorem a_X15_column_0 {Q : Sg → Int → Prop} {X : Sg → String → Prop} {jm : Nat} (K : MC R p s m args c cX15_column 6 RX15 D cA tys A n0 s0 0 0 []) (hj : jm = ra 15 ∨ jm = ra 16) (hQ : HQI p l e R s m args below meth c cX15_column D cA A n0 s0 QM dm ra jx rm Q) (hX : HX p l e R s m args below meth c 6 D cA A n0 s0 QM dm ra jx rm X) : ∀ (σ : Sg) (v1 : Int) (v2 : Int64) (g1 : rng v1), w_X15_column_0 ra jx rm jm Q X σ v1 v2 → RG σ → Shp dm ra jx rm σ → JJ p l e R s m args below meth c 6 D cA A n0 s0 QM σ 0 [(0, .ref jm), (1, .int (i32 v1)), (2, .long v2)] [] := by
  intro σ v1 v2 g1 h hGσ hS H locs ls hH hl hc
  have B := K.1
  unfold w_X15_column_0 at h
  refine lv_iconst (v := i32 (-1)) B.1 B.2.1 dX15_column_0 (by decide) ?_
  refine lv_istore (lv' := [(4, .int (i32 (-1))), (0, .ref jm), (1, .int (i32 v1)), (2, .long v2)]) B.1 B.2.1 dX15_column_1 hl (by decide) rfl (fun ls hl => ?_)
  refine lv_iconst (v := i32 0) B.1 B.2.1 dX15_column_3 (by decide) ?_
  refine lv_istore (lv' := [(5, .int (i32 0)), (4, .int (i32 (-1))), (0, .ref jm), (1, .int (i32 v1)), (2, .long v2)]) B.1 B.2.1 dX15_column_4 hl (by decide) rfl (fun ls hl => ?_)
  obtain ⟨n9, h⟩ := h
  exact al_X15_column_6 K hj hQ hX n9 _ _ _ _ _ g1 (by unfold rng; omega) (by unfold rng; omega) h hGσ hS _ _ _ hH (lv_sub (l' := [(0, .ref jm), (1, .int (i32 v1)), (2, .long v2), (4, .int (i32 (-1))), (5, .int (i32 0))]) hl [2, 3, 4, 1, 0] rfl) hc
theorem ok_X15_column {jm : Nat} (hj : jm = ra 15 ∨ jm = ra 16) (hT : Tys cA tys) {Q : Sg → Int → Prop} {X : Sg → String → Prop} (σ : Sg) (v1 : Int) (v2 : Int64) (g1 : rng v1) (hG : RG σ) (hS : Shp dm ra jx rm σ) (h : wp_X15_column ra jx rm jm v1 v2 σ Q X) : Ok l D cA tys A yX15_column (.code yX15_column cX15_column 6 (some .int)) 0 0 [.ref jm, .int (i32 v1), .long v2] σ (QnI dm ra jx rm Q) (QxR dm ra jx rm X) := by
  unfold wp_X15_column at h
  exact ok_I (plainFor_of_name (by decide)) (by exact Nat.le_of_ble_eq_true rfl) hT (fun p e R s m args below meth c K hQ hX H locs ls hH hl hc => a_X15_column_0 K hj hQ hX σ v1 v2 g1 h hG hS H locs ls hH (lv_sub (l' := [(0, .ref jm), (1, .int (i32 v1)), (2, .long v2)]) hl [0, 1, 2] rfl) hc)
theorem dX15_copyColumns_0 : decode cX15_copyColumns 0 = .ok (.iconst 0, 1) := by decide +kernel
theorem dX15_copyColumns_1 : decode cX15_copyColumns 1 = .ok (.istore_n 3, 1) := by decide +kernel
theorem dX15_copyColumns_2 : decode cX15_copyColumns 2 = .ok (.iload_n 3, 1) := by decide +kernel
theorem dX15_copyColumns_3 : decode cX15_copyColumns 3 = .ok (.aload_n 0, 1) := by decide +kernel
theorem dX15_copyColumns_4 : decode cX15_copyColumns 4 = .ok (.getfield 29, 3) := by decide +kernel
theorem dX15_copyColumns_7 : decode cX15_copyColumns 7 = .ok (.iload_n 2, 1) := by decide +kernel
theorem dX15_copyColumns_8 : decode cX15_copyColumns 8 = .ok (.iaload, 1) := by decide +kernel
theorem dX15_copyColumns_9 : decode cX15_copyColumns 9 = .ok (.if_icmp .ge 25, 3) := by decide +kernel
theorem dX15_copyColumns_12 : decode cX15_copyColumns 12 = .ok (.aload_n 0, 1) := by decide +kernel
theorem dX15_copyColumns_13 : decode cX15_copyColumns 13 = .ok (.iload_n 1, 1) := by decide +kernel
theorem dX15_copyColumns_14 : decode cX15_copyColumns 14 = .ok (.aload_n 0, 1) := by decide +kernel
theorem dX15_copyColumns_15 : decode cX15_copyColumns 15 = .ok (.getfield 32, 3) := by decide +kernel
theorem dX15_copyColumns_18 : decode cX15_copyColumns 18 = .ok (.bipush 9, 2) := by decide +kernel
theorem dX15_copyColumns_20 : decode cX15_copyColumns 20 = .ok (.iload_n 2, 1) := by decide +kernel
theorem dX15_copyColumns_21 : decode cX15_copyColumns 21 = .ok (.imul, 1) := by decide +kernel
theorem dX15_copyColumns_22 : decode cX15_copyColumns 22 = .ok (.iload_n 3, 1) := by decide +kernel
theorem dX15_copyColumns_23 : decode cX15_copyColumns 23 = .ok (.iadd, 1) := by decide +kernel
theorem dX15_copyColumns_24 : decode cX15_copyColumns 24 = .ok (.laload, 1) := by decide +kernel
theorem dX15_copyColumns_25 : decode cX15_copyColumns 25 = .ok (.invokevirtual 75, 3) := by decide +kernel
theorem dX15_copyColumns_28 : decode cX15_copyColumns 28 = .ok (.iinc 3 1, 3) := by decide +kernel
theorem dX15_copyColumns_31 : decode cX15_copyColumns 31 = .ok (.goto (-29), 3) := by decide +kernel
theorem dX15_copyColumns_34 : decode cX15_copyColumns 34 = .ok (.return_, 1) := by decide +kernel
set_option maxRecDepth 20000 in
theorem a_X15_copyColumns_34 {Q : Sg → Unit → Prop} {X : Sg → String → Prop} {jm : Nat} (K : MC R p s m args c cX15_copyColumns 4 RX15 D cA tys A n0 s0 1 23 []) (hj : jm = ra 15 ∨ jm = ra 16) (hQ : HQV p l e R s m args below meth c cX15_copyColumns D cA A n0 s0 QM dm ra jx rm Q) (hX : HX p l e R s m args below meth c 4 D cA A n0 s0 QM dm ra jx rm X) : ∀ (σ : Sg), w_X15_copyColumns_34 ra jx rm jm Q X σ → RG σ → Shp dm ra jx rm σ → JJ p l e R s m args below meth c 4 D cA A n0 s0 QM σ 34 [(0, .ref jm)] [] := by
  intro σ h hGσ hS H locs ls hH hl hc
  have B := K.1
  unfold w_X15_copyColumns_34 at h
  exact hQ _ _ _ _ _ dX15_copyColumns_34 hH hc h hGσ hS
set_option maxRecDepth 20000 in
theorem a_X15_copyColumns_12 {Q : Sg → Unit → Prop} {X : Sg → String → Prop} {jm : Nat} (K : MC R p s m args c cX15_copyColumns 4 RX15 D cA tys A n0 s0 1 23 []) (hj : jm = ra 15 ∨ jm = ra 16) (hQ : HQV p l e R s m args below meth c cX15_copyColumns D cA A n0 s0 QM dm ra jx rm Q) (hX : HX p l e R s m args below meth c 4 D cA A n0 s0 QM dm ra jx rm X) {K2 : Sg → Int → Int → Int → Prop} (hK2 : ∀ (σ : Sg) (v1 : Int) (v2 : Int) (v3 : Int) (g1 : rng v1) (g2 : rng v2) (g3 : rng v3), K2 σ v1 v2 v3 → RG σ → Shp dm ra jx rm σ → JJ p l e R s m args below meth c 4 D cA A n0 s0 QM σ 2 [(0, .ref jm), (1, .int (i32 v1)), (2, .int (i32 v2)), (3, .int (i32 v3))] []) : ∀ (σ : Sg) (v1 : Int) (v2 : Int) (v3 : Int) (g1 : rng v1) (g2 : rng v2) (g3 : rng v3), w_X15_copyColumns_12 ra jx rm jm K2 Q X σ v1 v2 v3 → RG σ → Shp dm ra jx rm σ → JJ p l e R s m args below meth c 4 D cA A n0 s0 QM σ 12 [(0, .ref jm), (1, .int (i32 v1)), (2, .int (i32 v2)), (3, .int (i32 v3))] [] := by
  intro σ v1 v2 v3 g1 g2 g3 h hGσ hS H locs ls hH hl hc
  have B := K.1
  unfold w_X15_copyColumns_12 at h
  refine lv_aload_n B.1 B.2.1 dX15_copyColumns_12 rfl (lv_at hl 0 rfl) ?_
  refine lv_iload_n B.1 B.2.1 dX15_copyColumns_13 rfl (lv_at hl 1 rfl) ?_
  refine lv_aload_n B.1 B.2.1 dX15_copyColumns_14 rfl (lv_at hl 0 rfl) ?_
  refine j_arr B hH hS hj 7 (kd := 101) (n := 144) (by decide) (by decide) wf_X15_32 rfl rfl dX15_copyColumns_15 ?_
  refine lv_bipush (v := i32 9) B.1 B.2.1 dX15_copyColumns_18 (by decide) ?_
  refine lv_iload_n B.1 B.2.1 dX15_copyColumns_20 rfl (lv_at hl 2 rfl) ?_
  obtain ⟨q1, h⟩ := h
  refine lv_imul B.1 B.2.1 dX15_copyColumns_21 ?_
  rw [i32_mul]
  refine lv_iload_n B.1 B.2.1 dX15_copyColumns_22 rfl (lv_at hl 3 rfl) ?_
  obtain ⟨q2, h⟩ := h
  refine lv_iadd B.1 B.2.1 dX15_copyColumns_23 ?_
  rw [i32_add]
  obtain ⟨q3, h⟩ := h
  refine x_lald B K.2.1 hH (hS.ja hj (k := 7) (kd := 101) (n := 144) (by decide)) (by decide) q3 dX15_copyColumns_24 ?_
  refine c_V B hH hl hc K.2.2.1 (C := RX15) (T := TX15) (N := 20) (ci := 15) (As := [.int (i32 v1), .long (gJ σ (jx jm 7) ((9 * v2) + v3).toNat)]) (ok_X15_add hj K.2.1 σ v1 (gJ σ (jx jm 7) ((9 * v2) + v3).toNat) g1 hGσ hS h) wc_X15_75 2 hd_X15_add ⟨Nat.le_trans (Nat.le_of_ble_eq_true rfl) K.2.2.2.1, Nat.le_trans (Nat.le_of_ble_eq_true rfl) K.2.2.2.2.1⟩ (hS.jb hj).1 (hS.jb hj).2 (by decide) rfl rfl (rest := []) rfl (Nat.le_of_ble_eq_true rfl) dX15_copyColumns_25 (fun σ3 w hq => ?_) (fun σ9 E9 hx9 => hX σ9 E9 _ _ _ (tb_out K.2.2.2.2.2 rfl) hx9.1 hx9.2.1 hx9.2.2)
  obtain ⟨rfl, h, hGσ3, hS⟩ := hq
  intro H locs ls hH hl hc
  refine W.eq (g2 := F0 m 28 ls []) (rfl) ?_
  try dsimp only at h
  obtain ⟨q4, h⟩ := h
  refine lv_iinc (k := 3) (v := i32 (v3 + 1)) (lv' := [(3, .int (i32 (v3 + 1))), (0, .ref jm), (1, .int (i32 v1)), (2, .int (i32 v2))]) B.1 B.2.1 dX15_copyColumns_28 hl rfl (i32_add _ _) (by decide) rfl (fun ls hl => ?_)
  refine lv_goto (tgt := 2) B.1 B.2.1 dX15_copyColumns_31 (by decide) ?_
  exact hK2 _ _ _ _ g1 g2 q4 h hGσ3 hS _ _ _ hH (lv_sub (l' := [(0, .ref jm), (1, .int (i32 v1)), (2, .int (i32 v2)), (3, .int (i32 (v3 + 1)))]) hl [1, 2, 3, 0] rfl) hc
set_option maxRecDepth 20000 in
theorem a_X15_copyColumns_2 {Q : Sg → Unit → Prop} {X : Sg → String → Prop} {jm : Nat} (K : MC R p s m args c cX15_copyColumns 4 RX15 D cA tys A n0 s0 1 23 []) (hj : jm = ra 15 ∨ jm = ra 16) (hQ : HQV p l e R s m args below meth c cX15_copyColumns D cA A n0 s0 QM dm ra jx rm Q) (hX : HX p l e R s m args below meth c 4 D cA A n0 s0 QM dm ra jx rm X) {K2 : Sg → Int → Int → Int → Prop} (hK2 : ∀ (σ : Sg) (v1 : Int) (v2 : Int) (v3 : Int) (g1 : rng v1) (g2 : rng v2) (g3 : rng v3), K2 σ v1 v2 v3 → RG σ → Shp dm ra jx rm σ → JJ p l e R s m args below meth c 4 D cA A n0 s0 QM σ 2 [(0, .ref jm), (1, .int (i32 v1)), (2, .int (i32 v2)), (3, .int (i32 v3))] []) : ∀ (σ : Sg) (v1 : Int) (v2 : Int) (v3 : Int) (g1 : rng v1) (g2 : rng v2) (g3 : rng v3), w_X15_copyColumns_2 ra jx rm jm K2 Q X σ v1 v2 v3 → RG σ → Shp dm ra jx rm σ → JJ p l e R s m args below meth c 4 D cA A n0 s0 QM σ 2 [(0, .ref jm), (1, .int (i32 v1)), (2, .int (i32 v2)), (3, .int (i32 v3))] [] := by
  intro σ v1 v2 v3 g1 g2 g3 h hGσ hS H locs ls hH hl hc
  have B := K.1
  unfold w_X15_copyColumns_2 at h
  refine lv_iload_n B.1 B.2.1 dX15_copyColumns_2 rfl (lv_at hl 3 rfl) ?_
  refine lv_aload_n B.1 B.2.1 dX15_copyColumns_3 rfl (lv_at hl 0 rfl) ?_
  refine j_arr B hH hS hj 6 (kd := 100) (n := 16) (by decide) (by decide) wf_X15_29 rfl rfl dX15_copyColumns_4 ?_
  refine lv_iload_n B.1 B.2.1 dX15_copyColumns_7 rfl (lv_at hl 2 rfl) ?_
  obtain ⟨q1, h⟩ := h
  refine x_iald B K.2.1 hH (hS.ja hj (k := 6) (kd := 100) (n := 16) (by decide)) (by decide) q1 dX15_copyColumns_8 ?_
  refine lv_icmp_ge (tgt := 34) B.1 B.2.1 dX15_copyColumns_9 (by decide) (fun h9 => ?_) (fun h9 => ?_)
  · rw [if_pos ((i32_le (hGσ _ _) g3).mp h9)] at h
    exact a_X15_copyColumns_34 K hj hQ hX _ h hGσ hS _ _ _ hH (lv_sub (l' := [(0, .ref jm)]) hl [0] rfl) hc
  · rw [if_neg (fun q => h9 ((i32_le (hGσ _ _) g3).mpr q))] at h
    exact a_X15_copyColumns_12 K hj hQ hX hK2 _ _ _ _ g1 g2 g3 h hGσ hS _ _ _ hH (lv_sub (l' := [(0, .ref jm), (1, .int (i32 v1)), (2, .int (i32 v2)), (3, .int (i32 v3))]) hl [0, 1, 2, 3] rfl) hc
theorem al_X15_copyColumns_2 {Q : Sg → Unit → Prop} {X : Sg → String → Prop} {jm : Nat} (K : MC R p s m args c cX15_copyColumns 4 RX15 D cA tys A n0 s0 1 23 []) (hj : jm = ra 15 ∨ jm = ra 16) (hQ : HQV p l e R s m args below meth c cX15_copyColumns D cA A n0 s0 QM dm ra jx rm Q) (hX : HX p l e R s m args below meth c 4 D cA A n0 s0 QM dm ra jx rm X) : ∀ (n : Nat), ∀ (σ : Sg) (v1 : Int) (v2 : Int) (v3 : Int) (g1 : rng v1) (g2 : rng v2) (g3 : rng v3), wl_X15_copyColumns_2 ra jx rm jm Q X n σ v1 v2 v3 → RG σ → Shp dm ra jx rm σ → JJ p l e R s m args below meth c 4 D cA A n0 s0 QM σ 2 [(0, .ref jm), (1, .int (i32 v1)), (2, .int (i32 v2)), (3, .int (i32 v3))] [] := by
  intro n
  induction n with
  | zero => intro σ v1 v2 v3 g1 g2 g3 h; exact h.elim
  | succ n ih => exact fun σ v1 v2 v3 g1 g2 g3 h => a_X15_copyColumns_2 K hj hQ hX ih σ v1 v2 v3 g1 g2 g3 h
set_option maxRecDepth 20000 in
theorem a_X15_copyColumns_0 {Q : Sg → Unit → Prop} {X : Sg → String → Prop} {jm : Nat} (K : MC R p s m args c cX15_copyColumns 4 RX15 D cA tys A n0 s0 1 23 []) (hj : jm = ra 15 ∨ jm = ra 16) (hQ : HQV p l e R s m args below meth c cX15_copyColumns D cA A n0 s0 QM dm ra jx rm Q) (hX : HX p l e R s m args below meth c 4 D cA A n0 s0 QM dm ra jx rm X) : ∀ (σ : Sg) (v1 : Int) (v2 : Int) (g1 : rng v1) (g2 : rng v2), w_X15_copyColumns_0 ra jx rm jm Q X σ v1 v2 → RG σ → Shp dm ra jx rm σ → JJ p l e R s m args below meth c 4 D cA A n0 s0 QM σ 0 [(0, .ref jm), (1, .int (i32 v1)), (2, .int (i32 v2))] [] := by
  intro σ v1 v2 g1 g2 h hGσ hS H locs ls hH hl hc
  have B := K.1
  unfold w_X15_copyColumns_0 at h
  refine lv_iconst (v := i32 0) B.1 B.2.1 dX15_copyColumns_0 (by decide) ?_
  refine lv_istore_n (lv' := [(3, .int (i32 0)), (0, .ref jm), (1, .int (i32 v1)), (2, .int (i32 v2))]) B.1 B.2.1 dX15_copyColumns_1 rfl hl (by decide) rfl (fun ls hl => ?_)
  obtain ⟨n9, h⟩ := h
  exact al_X15_copyColumns_2 K hj hQ hX n9 _ _ _ _ g1 g2 (by unfold rng; omega) h hGσ hS _ _ _ hH (lv_sub (l' := [(0, .ref jm), (1, .int (i32 v1)), (2, .int (i32 v2)), (3, .int (i32 0))]) hl [1, 2, 3, 0] rfl) hc
theorem ok_X15_copyColumns {jm : Nat} (hj : jm = ra 15 ∨ jm = ra 16) (hT : Tys cA tys) {Q : Sg → Unit → Prop} {X : Sg → String → Prop} (σ : Sg) (v1 : Int) (v2 : Int) (g1 : rng v1) (g2 : rng v2) (hG : RG σ) (hS : Shp dm ra jx rm σ) (h : wp_X15_copyColumns ra jx rm jm v1 v2 σ Q X) : Ok l D cA tys A yX15_copyColumns (.code yX15_copyColumns cX15_copyColumns 4 none) 1 23 [.ref jm, .int (i32 v1), .int (i32 v2)] σ (QnV dm ra jx rm Q) (QxR dm ra jx rm X) := by
  unfold wp_X15_copyColumns at h
  exact ok_V (plainFor_of_name (by decide)) (by exact Nat.le_of_ble_eq_true rfl) hT (fun p e R s m args below meth c K hQ hX H locs ls hH hl hc => a_X15_copyColumns_0 K hj hQ hX σ v1 v2 g1 g2 h hG hS H locs ls hH (lv_sub (l' := [(0, .ref jm), (1, .int (i32 v1)), (2, .int (i32 v2))]) hl [0, 1, 2] rfl) hc)
theorem dX15_find_0 : decode cX15_find 0 = .ok (.iconst (-1), 1) := by decide +kernel
theorem dX15_find_1 : decode cX15_find 1 = .ok (.istore_n 3, 1) := by decide +kernel
theorem dX15_find_2 : decode cX15_find 2 = .ok (.iconst 0, 1) := by decide +kernel
theorem dX15_find_3 : decode cX15_find 3 = .ok (.istore 4, 2) := by decide +kernel
theorem dX15_find_5 : decode cX15_find 5 = .ok (.iload 4, 2) := by decide +kernel
theorem dX15_find_7 : decode cX15_find 7 = .ok (.aload_n 0, 1) := by decide +kernel
theorem dX15_find_8 : decode cX15_find 8 = .ok (.getfield 65, 3) := by decide +kernel
theorem dX15_find_11 : decode cX15_find 11 = .ok (.if_icmp .ge 40, 3) := by decide +kernel
theorem dX15_find_14 : decode cX15_find 14 = .ok (.aload_n 0, 1) := by decide +kernel
theorem dX15_find_15 : decode cX15_find 15 = .ok (.getfield 15, 3) := by decide +kernel
theorem dX15_find_18 : decode cX15_find 18 = .ok (.iload 4, 2) := by decide +kernel
theorem dX15_find_20 : decode cX15_find 20 = .ok (.iaload, 1) := by decide +kernel
theorem dX15_find_21 : decode cX15_find 21 = .ok (.bipush 11, 2) := by decide +kernel
theorem dX15_find_23 : decode cX15_find 23 = .ok (.if_icmp .eq 20, 3) := by decide +kernel
theorem dX15_find_26 : decode cX15_find 26 = .ok (.aload_n 0, 1) := by decide +kernel
theorem dX15_find_27 : decode cX15_find 27 = .ok (.getfield 19, 3) := by decide +kernel
theorem dX15_find_30 : decode cX15_find 30 = .ok (.iload 4, 2) := by decide +kernel
theorem dX15_find_32 : decode cX15_find 32 = .ok (.laload, 1) := by decide +kernel
theorem dX15_find_33 : decode cX15_find 33 = .ok (.lload_n 1, 1) := by decide +kernel
theorem dX15_find_34 : decode cX15_find 34 = .ok (.lcmp, 1) := by decide +kernel
theorem dX15_find_35 : decode cX15_find 35 = .ok (.ifCond .ne 8, 3) := by decide +kernel
theorem dX15_find_38 : decode cX15_find 38 = .ok (.iload 4, 2) := by decide +kernel
theorem dX15_find_40 : decode cX15_find 40 = .ok (.goto 4, 3) := by decide +kernel
theorem dX15_find_43 : decode cX15_find 43 = .ok (.iload_n 3, 1) := by decide +kernel
theorem dX15_find_44 : decode cX15_find 44 = .ok (.istore_n 3, 1) := by decide +kernel
theorem dX15_find_45 : decode cX15_find 45 = .ok (.iinc 4 1, 3) := by decide +kernel
theorem dX15_find_48 : decode cX15_find 48 = .ok (.goto (-43), 3) := by decide +kernel
theorem dX15_find_51 : decode cX15_find 51 = .ok (.iload_n 3, 1) := by decide +kernel
theorem dX15_find_52 : decode cX15_find 52 = .ok (.ireturn, 1) := by decide +kernel
set_option maxRecDepth 20000 in
theorem a_X15_find_51 {Q : Sg → Int → Prop} {X : Sg → String → Prop} {jm : Nat} (K : MC R p s m args c cX15_find 5 RX15 D cA tys A n0 s0 0 0 []) (hj : jm = ra 15 ∨ jm = ra 16) (hQ : HQI p l e R s m args below meth c cX15_find D cA A n0 s0 QM dm ra jx rm Q) (hX : HX p l e R s m args below meth c 5 D cA A n0 s0 QM dm ra jx rm X) : ∀ (σ : Sg) (v3 : Int) (g3 : rng v3), w_X15_find_51 ra jx rm jm Q X σ v3 → RG σ → Shp dm ra jx rm σ → JJ p l e R s m args below meth c 5 D cA A n0 s0 QM σ 51 [(0, .ref jm), (3, .int (i32 v3))] [] := by
  intro σ v3 g3 h hGσ hS H locs ls hH hl hc
  have B := K.1
  unfold w_X15_find_51 at h
  refine lv_iload_n B.1 B.2.1 dX15_find_51 rfl (lv_at hl 1 rfl) ?_
  exact hQ _ _ _ _ _ _ g3 dX15_find_52 hH hc h hGσ hS
set_option maxRecDepth 20000 in
theorem a_X15_find_44 {Q : Sg → Int → Prop} {X : Sg → String → Prop} {jm : Nat} (K : MC R p s m args c cX15_find 5 RX15 D cA tys A n0 s0 0 0 []) (hj : jm = ra 15 ∨ jm = ra 16) (hQ : HQI p l e R s m args below meth c cX15_find D cA A n0 s0 QM dm ra jx rm Q) (hX : HX p l e R s m args below meth c 5 D cA A n0 s0 QM dm ra jx rm X) {K5 : Sg → Int64 → Int → Int → Prop} (hK5 : ∀ (σ : Sg) (v1 : Int64) (v3 : Int) (v4 : Int) (g3 : rng v3) (g4 : rng v4), K5 σ v1 v3 v4 → RG σ → Shp dm ra jx rm σ → JJ p l e R s m args below meth c 5 D cA A n0 s0 QM σ 5 [(0, .ref jm), (1, .long v1), (3, .int (i32 v3)), (4, .int (i32 v4))] []) : ∀ (σ : Sg) (v1 : Int64) (v4 : Int) (u0 : Int) (g4 : rng v4) (gu0 : rng u0), w_X15_find_44 ra jx rm jm K5 Q X σ v1 v4 u0 → RG σ → Shp dm ra jx rm σ → JJ p l e R s m args below meth c 5 D cA A n0 s0 QM σ 44 [(0, .ref jm), (1, .long v1), (4, .int (i32 v4))] [.int (i32 u0)] := by
  intro σ v1 v4 u0 g4 gu0 h hGσ hS H locs ls hH hl hc
  have B := K.1
  unfold w_X15_find_44 at h
  refine lv_istore_n (lv' := [(3, .int (i32 u0)), (0, .ref jm), (1, .long v1), (4, .int (i32 v4))]) B.1 B.2.1 dX15_find_44 rfl hl (by decide) rfl (fun ls hl => ?_)
  obtain ⟨q1, h⟩ := h
  refine lv_iinc (k := 3) (v := i32 (v4 + 1)) (lv' := [(4, .int (i32 (v4 + 1))), (3, .int (i32 u0)), (0, .ref jm), (1, .long v1)]) B.1 B.2.1 dX15_find_45 hl rfl (i32_add _ _) (by decide) rfl (fun ls hl => ?_)
  refine lv_goto (tgt := 5) B.1 B.2.1 dX15_find_48 (by decide) ?_
  exact hK5 _ _ _ _ gu0 q1 h hGσ hS _ _ _ hH (lv_sub (l' := [(0, .ref jm), (1, .long v1), (3, .int (i32 u0)), (4, .int (i32 (v4 + 1)))]) hl [2, 3, 1, 0] rfl) hc
set_option maxRecDepth 20000 in
theorem a_X15_find_43 {Q : Sg → Int → Prop} {X : Sg → String → Prop} {jm : Nat} (K : MC R p s m args c cX15_find 5 RX15 D cA tys A n0 s0 0 0 []) (hj : jm = ra 15 ∨ jm = ra 16) (hQ : HQI p l e R s m args below meth c cX15_find D cA A n0 s0 QM dm ra jx rm Q) (hX : HX p l e R s m args below meth c 5 D cA A n0 s0 QM dm ra jx rm X) {K5 : Sg → Int64 → Int → Int → Prop} (hK5 : ∀ (σ : Sg) (v1 : Int64) (v3 : Int) (v4 : Int) (g3 : rng v3) (g4 : rng v4), K5 σ v1 v3 v4 → RG σ → Shp dm ra jx rm σ → JJ p l e R s m args below meth c 5 D cA A n0 s0 QM σ 5 [(0, .ref jm), (1, .long v1), (3, .int (i32 v3)), (4, .int (i32 v4))] []) : ∀ (σ : Sg) (v1 : Int64) (v3 : Int) (v4 : Int) (g3 : rng v3) (g4 : rng v4), w_X15_find_43 ra jx rm jm K5 Q X σ v1 v3 v4 → RG σ → Shp dm ra jx rm σ → JJ p l e R s m args below meth c 5 D cA A n0 s0 QM σ 43 [(0, .ref jm), (1, .long v1), (3, .int (i32 v3)), (4, .int (i32 v4))] [] := by
  intro σ v1 v3 v4 g3 g4 h hGσ hS H locs ls hH hl hc
  have B := K.1
  unfold w_X15_find_43 at h
  refine lv_iload_n B.1 B.2.1 dX15_find_43 rfl (lv_at hl 2 rfl) ?_
  exact a_X15_find_44 K hj hQ hX hK5 _ _ _ _ g4 g3 h hGσ hS _ _ _ hH (lv_sub (l' := [(0, .ref jm), (1, .long v1), (4, .int (i32 v4))]) hl [0, 1, 3] rfl) hc
set_option maxRecDepth 20000 in
theorem a_X15_find_38 {Q : Sg → Int → Prop} {X : Sg → String → Prop} {jm : Nat} (K : MC R p s m args c cX15_find 5 RX15 D cA tys A n0 s0 0 0 []) (hj : jm = ra 15 ∨ jm = ra 16) (hQ : HQI p l e R s m args below meth c cX15_find D cA A n0 s0 QM dm ra jx rm Q) (hX : HX p l e R s m args below meth c 5 D cA A n0 s0 QM dm ra jx rm X) {K5 : Sg → Int64 → Int → Int → Prop} (hK5 : ∀ (σ : Sg) (v1 : Int64) (v3 : Int) (v4 : Int) (g3 : rng v3) (g4 : rng v4), K5 σ v1 v3 v4 → RG σ → Shp dm ra jx rm σ → JJ p l e R s m args below meth c 5 D cA A n0 s0 QM σ 5 [(0, .ref jm), (1, .long v1), (3, .int (i32 v3)), (4, .int (i32 v4))] []) : ∀ (σ : Sg) (v1 : Int64) (v4 : Int) (g4 : rng v4), w_X15_find_38 ra jx rm jm K5 Q X σ v1 v4 → RG σ → Shp dm ra jx rm σ → JJ p l e R s m args below meth c 5 D cA A n0 s0 QM σ 38 [(0, .ref jm), (1, .long v1), (4, .int (i32 v4))] [] := by
  intro σ v1 v4 g4 h hGσ hS H locs ls hH hl hc
  have B := K.1
  unfold w_X15_find_38 at h
  refine lv_iload B.1 B.2.1 dX15_find_38 (lv_at hl 2 rfl) ?_
  refine lv_goto (tgt := 44) B.1 B.2.1 dX15_find_40 (by decide) ?_
  exact a_X15_find_44 K hj hQ hX hK5 _ _ _ _ g4 g4 h hGσ hS _ _ _ hH (lv_sub (l' := [(0, .ref jm), (1, .long v1), (4, .int (i32 v4))]) hl [0, 1, 2] rfl) hc
set_option maxRecDepth 20000 in
theorem a_X15_find_26 {Q : Sg → Int → Prop} {X : Sg → String → Prop} {jm : Nat} (K : MC R p s m args c cX15_find 5 RX15 D cA tys A n0 s0 0 0 []) (hj : jm = ra 15 ∨ jm = ra 16) (hQ : HQI p l e R s m args below meth c cX15_find D cA A n0 s0 QM dm ra jx rm Q) (hX : HX p l e R s m args below meth c 5 D cA A n0 s0 QM dm ra jx rm X) {K5 : Sg → Int64 → Int → Int → Prop} (hK5 : ∀ (σ : Sg) (v1 : Int64) (v3 : Int) (v4 : Int) (g3 : rng v3) (g4 : rng v4), K5 σ v1 v3 v4 → RG σ → Shp dm ra jx rm σ → JJ p l e R s m args below meth c 5 D cA A n0 s0 QM σ 5 [(0, .ref jm), (1, .long v1), (3, .int (i32 v3)), (4, .int (i32 v4))] []) : ∀ (σ : Sg) (v1 : Int64) (v3 : Int) (v4 : Int) (g3 : rng v3) (g4 : rng v4), w_X15_find_26 ra jx rm jm K5 Q X σ v1 v3 v4 → RG σ → Shp dm ra jx rm σ → JJ p l e R s m args below meth c 5 D cA A n0 s0 QM σ 26 [(0, .ref jm), (1, .long v1), (3, .int (i32 v3)), (4, .int (i32 v4))] [] := by
  intro σ v1 v3 v4 g3 g4 h hGσ hS H locs ls hH hl hc
  have B := K.1
  unfold w_X15_find_26 at h
  refine lv_aload_n B.1 B.2.1 dX15_find_26 rfl (lv_at hl 0 rfl) ?_
  refine j_arr B hH hS hj 3 (kd := 101) (n := 16) (by decide) (by decide) wf_X15_19 rfl rfl dX15_find_27 ?_
  refine lv_iload B.1 B.2.1 dX15_find_30 (lv_at hl 3 rfl) ?_
  obtain ⟨q1, h⟩ := h
  refine x_lald B K.2.1 hH (hS.ja hj (k := 3) (kd := 101) (n := 16) (by decide)) (by decide) q1 dX15_find_32 ?_
  refine lv_lload_n B.1 B.2.1 dX15_find_33 rfl (lv_at hl 1 rfl) ?_
  refine W.lcmp B.1 B.2.1 dX15_find_34 ?_
  refine lv_if_ne (tgt := 43) B.1 B.2.1 dX15_find_35 (by decide) (fun h9 => ?_) (fun h9 => ?_)
  · rw [if_pos (fun q => h9 ((lg_cmp_eq _ _).mpr q))] at h
    exact a_X15_find_43 K hj hQ hX hK5 _ _ _ _ g3 g4 h hGσ hS _ _ _ hH (lv_sub (l' := [(0, .ref jm), (1, .long v1), (3, .int (i32 v3)), (4, .int (i32 v4))]) hl [0, 1, 2, 3] rfl) hc
  · rw [if_neg (fun q => q ((lg_cmp_eq _ _).mp h9))] at h
    exact a_X15_find_38 K hj hQ hX hK5 _ _ _ g4 h hGσ hS _ _ _ hH (lv_sub (l' := [(0, .ref jm), (1, .long v1), (4, .int (i32 v4))]) hl [0, 1, 3] rfl) hc
set_option maxRecDepth 20000 in
theorem a_X15_find_14 {Q : Sg → Int → Prop} {X : Sg → String → Prop} {jm : Nat} (K : MC R p s m args c cX15_find 5 RX15 D cA tys A n0 s0 0 0 []) (hj : jm = ra 15 ∨ jm = ra 16) (hQ : HQI p l e R s m args below meth c cX15_find D cA A n0 s0 QM dm ra jx rm Q) (hX : HX p l e R s m args below meth c 5 D cA A n0 s0 QM dm ra jx rm X) {K5 : Sg → Int64 → Int → Int → Prop} (hK5 : ∀ (σ : Sg) (v1 : Int64) (v3 : Int) (v4 : Int) (g3 : rng v3) (g4 : rng v4), K5 σ v1 v3 v4 → RG σ → Shp dm ra jx rm σ → JJ p l e R s m args below meth c 5 D cA A n0 s0 QM σ 5 [(0, .ref jm), (1, .long v1), (3, .int (i32 v3)), (4, .int (i32 v4))] []) : ∀ (σ : Sg) (v1 : Int64) (v3 : Int) (v4 : Int) (g3 : rng v3) (g4 : rng v4), w_X15_find_14 ra jx rm jm K5 Q X σ v1 v3 v4 → RG σ → Shp dm ra jx rm σ → JJ p l e R s m args below meth c 5 D cA A n0 s0 QM σ 14 [(0, .ref jm), (1, .long v1), (3, .int (i32 v3)), (4, .int (i32 v4))] [] := by
  intro σ v1 v3 v4 g3 g4 h hGσ hS H locs ls hH hl hc
  have B := K.1
  unfold w_X15_find_14 at h
  refine lv_aload_n B.1 B.2.1 dX15_find_14 rfl (lv_at hl 0 rfl) ?_
  refine j_arr B hH hS hj 2 (kd := 100) (n := 16) (by decide) (by decide) wf_X15_15 rfl rfl dX15_find_15 ?_
  refine lv_iload B.1 B.2.1 dX15_find_18 (lv_at hl 3 rfl) ?_
  obtain ⟨q1, h⟩ := h
  refine x_iald B K.2.1 hH (hS.ja hj (k := 2) (kd := 100) (n := 16) (by decide)) (by decide) q1 dX15_find_20 ?_
  refine lv_bipush (v := i32 11) B.1 B.2.1 dX15_find_21 (by decide) ?_
  refine lv_icmp_eq (tgt := 43) B.1 B.2.1 dX15_find_23 (by decide) (fun h9 => ?_) (fun h9 => ?_)
  · rw [if_pos ((i32_eq (hGσ _ _) (by unfold rng; omega)).mp h9)] at h
    exact a_X15_find_43 K hj hQ hX hK5 _ _ _ _ g3 g4 h hGσ hS _ _ _ hH (lv_sub (l' := [(0, .ref jm), (1, .long v1), (3, .int (i32 v3)), (4, .int (i32 v4))]) hl [0, 1, 2, 3] rfl) hc
  · rw [if_neg (fun q => h9 ((i32_eq (hGσ _ _) (by unfold rng; omega)).mpr q))] at h
    exact a_X15_find_26 K hj hQ hX hK5 _ _ _ _ g3 g4 h hGσ hS _ _ _ hH (lv_sub (l' := [(0, .ref jm), (1, .long v1), (3, .int (i32 v3)), (4, .int (i32 v4))]) hl [0, 1, 2, 3] rfl) hc
set_option maxRecDepth 20000 in
theorem a_X15_find_5 {Q : Sg → Int → Prop} {X : Sg → String → Prop} {jm : Nat} (K : MC R p s m args c cX15_find 5 RX15 D cA tys A n0 s0 0 0 []) (hj : jm = ra 15 ∨ jm = ra 16) (hQ : HQI p l e R s m args below meth c cX15_find D cA A n0 s0 QM dm ra jx rm Q) (hX : HX p l e R s m args below meth c 5 D cA A n0 s0 QM dm ra jx rm X) {K5 : Sg → Int64 → Int → Int → Prop} (hK5 : ∀ (σ : Sg) (v1 : Int64) (v3 : Int) (v4 : Int) (g3 : rng v3) (g4 : rng v4), K5 σ v1 v3 v4 → RG σ → Shp dm ra jx rm σ → JJ p l e R s m args below meth c 5 D cA A n0 s0 QM σ 5 [(0, .ref jm), (1, .long v1), (3, .int (i32 v3)), (4, .int (i32 v4))] []) : ∀ (σ : Sg) (v1 : Int64) (v3 : Int) (v4 : Int) (g3 : rng v3) (g4 : rng v4), w_X15_find_5 ra jx rm jm K5 Q X σ v1 v3 v4 → RG σ → Shp dm ra jx rm σ → JJ p l e R s m args below meth c 5 D cA A n0 s0 QM σ 5 [(0, .ref jm), (1, .long v1), (3, .int (i32 v3)), (4, .int (i32 v4))] [] := by
  intro σ v1 v3 v4 g3 g4 h hGσ hS H locs ls hH hl hc
  have B := K.1
  unfold w_X15_find_5 at h
  refine lv_iload B.1 B.2.1 dX15_find_5 (lv_at hl 3 rfl) ?_
  refine lv_aload_n B.1 B.2.1 dX15_find_7 rfl (lv_at hl 0 rfl) ?_
  refine j_geti B hH hS hj 0 (by decide) wf_X15_65 rfl rfl dX15_find_8 ?_
  refine lv_icmp_ge (tgt := 51) B.1 B.2.1 dX15_find_11 (by decide) (fun h9 => ?_) (fun h9 => ?_)
  · rw [if_pos ((i32_le (hGσ _ _) g4).mp h9)] at h
    exact a_X15_find_51 K hj hQ hX _ _ g3 h hGσ hS _ _ _ hH (lv_sub (l' := [(0, .ref jm), (3, .int (i32 v3))]) hl [0, 2] rfl) hc
  · rw [if_neg (fun q => h9 ((i32_le (hGσ _ _) g4).mpr q))] at h
    exact a_X15_find_14 K hj hQ hX hK5 _ _ _ _ g3 g4 h hGσ hS _ _ _ hH (lv_sub (l' := [(0, .ref jm), (1, .long v1), (3, .int (i32 v3)), (4, .int (i32 v4))]) hl [0, 1, 2, 3] rfl) hc
theorem al_X15_find_5 {Q : Sg → Int → Prop} {X : Sg → String → Prop} {jm : Nat} (K : MC R p s m args c cX15_find 5 RX15 D cA tys A n0 s0 0 0 []) (hj : jm = ra 15 ∨ jm = ra 16) (hQ : HQI p l e R s m args below meth c cX15_find D cA A n0 s0 QM dm ra jx rm Q) (hX : HX p l e R s m args below meth c 5 D cA A n0 s0 QM dm ra jx rm X) : ∀ (n : Nat), ∀ (σ : Sg) (v1 : Int64) (v3 : Int) (v4 : Int) (g3 : rng v3) (g4 : rng v4), wl_X15_find_5 ra jx rm jm Q X n σ v1 v3 v4 → RG σ → Shp dm ra jx rm σ → JJ p l e R s m args below meth c 5 D cA A n0 s0 QM σ 5 [(0, .ref jm), (1, .long v1), (3, .int (i32 v3)), (4, .int (i32 v4))] [] := by
  intro n
  induction n with
  | zero => intro σ v1 v3 v4 g3 g4 h; exact h.elim
  | succ n ih => exact fun σ v1 v3 v4 g3 g4 h => a_X15_find_5 K hj hQ hX ih σ v1 v3 v4 g3 g4 h
set_option maxRecDepth 20000 in
theorem a_X15_find_0 {Q : Sg → Int → Prop} {X : Sg → String → Prop} {jm : Nat} (K : MC R p s m args c cX15_find 5 RX15 D cA tys A n0 s0 0 0 []) (hj : jm = ra 15 ∨ jm = ra 16) (hQ : HQI p l e R s m args below meth c cX15_find D cA A n0 s0 QM dm ra jx rm Q) (hX : HX p l e R s m args below meth c 5 D cA A n0 s0 QM dm ra jx rm X) : ∀ (σ : Sg) (v1 : Int64), w_X15_find_0 ra jx rm jm Q X σ v1 → RG σ → Shp dm ra jx rm σ → JJ p l e R s m args below meth c 5 D cA A n0 s0 QM σ 0 [(0, .ref jm), (1, .long v1)] [] := by
  intro σ v1 h hGσ hS H locs ls hH hl hc
  have B := K.1
  unfold w_X15_find_0 at h
  refine lv_iconst (v := i32 (-1)) B.1 B.2.1 dX15_find_0 (by decide) ?_
  refine lv_istore_n (lv' := [(3, .int (i32 (-1))), (0, .ref jm), (1, .long v1)]) B.1 B.2.1 dX15_find_1 rfl hl (by decide) rfl (fun ls hl => ?_)
  refine lv_iconst (v := i32 0) B.1 B.2.1 dX15_find_2 (by decide) ?_
  refine lv_istore (lv' := [(4, .int (i32 0)), (3, .int (i32 (-1))), (0, .ref jm), (1, .long v1)]) B.1 B.2.1 dX15_find_3 hl (by decide) rfl (fun ls hl => ?_)
  obtain ⟨n9, h⟩ := h
  exact al_X15_find_5 K hj hQ hX n9 _ _ _ _ (by unfold rng; omega) (by unfold rng; omega) h hGσ hS _ _ _ hH (lv_sub (l' := [(0, .ref jm), (1, .long v1), (3, .int (i32 (-1))), (4, .int (i32 0))]) hl [2, 3, 1, 0] rfl) hc
theorem ok_X15_find {jm : Nat} (hj : jm = ra 15 ∨ jm = ra 16) (hT : Tys cA tys) {Q : Sg → Int → Prop} {X : Sg → String → Prop} (σ : Sg) (v1 : Int64) (hG : RG σ) (hS : Shp dm ra jx rm σ) (h : wp_X15_find ra jx rm jm v1 σ Q X) : Ok l D cA tys A yX15_find (.code yX15_find cX15_find 5 (some .int)) 0 0 [.ref jm, .long v1] σ (QnI dm ra jx rm Q) (QxR dm ra jx rm X) := by
  unfold wp_X15_find at h
  exact ok_I (plainFor_of_name (by decide)) (by exact Nat.le_of_ble_eq_true rfl) hT (fun p e R s m args below meth c K hQ hX H locs ls hH hl hc => a_X15_find_0 K hj hQ hX σ v1 h hG hS H locs ls hH (lv_sub (l' := [(0, .ref jm), (1, .long v1)]) hl [0, 1] rfl) hc)
theorem dX15_step_0 : decode cX15_step 0 = .ok (.aload_n 0, 1) := by decide +kernel
theorem dX15_step_1 : decode cX15_step 1 = .ok (.getfield 56, 3) := by decide +kernel
theorem dX15_step_4 : decode cX15_step 4 = .ok (.aload_n 0, 1) := by decide +kernel
theorem dX15_step_5 : decode cX15_step 5 = .ok (.getfield 72, 3) := by decide +kernel
theorem dX15_step_8 : decode cX15_step 8 = .ok (.iload_n 1, 1) := by decide +kernel
theorem dX15_step_9 : decode cX15_step 9 = .ok (.iastore, 1) := by decide +kernel
theorem dX15_step_10 : decode cX15_step 10 = .ok (.aload_n 0, 1) := by decide +kernel
theorem dX15_step_11 : decode cX15_step 11 = .ok (.getfield 59, 3) := by decide +kernel
theorem dX15_step_14 : decode cX15_step 14 = .ok (.aload_n 0, 1) := by decide +kernel
theorem dX15_step_15 : decode cX15_step 15 = .ok (.getfield 72, 3) := by decide +kernel
theorem dX15_step_18 : decode cX15_step 18 = .ok (.lload_n 2, 1) := by decide +kernel
theorem dX15_step_19 : decode cX15_step 19 = .ok (.lastore, 1) := by decide +kernel
theorem dX15_step_20 : decode cX15_step 20 = .ok (.aload_n 0, 1) := by decide +kernel
theorem dX15_step_21 : decode cX15_step 21 = .ok (.dup, 1) := by decide +kernel
theorem dX15_step_22 : decode cX15_step 22 = .ok (.getfield 72, 3) := by decide +kernel
theorem dX15_step_25 : decode cX15_step 25 = .ok (.iconst 1, 1) := by decide +kernel
theorem dX15_step_26 : decode cX15_step 26 = .ok (.iadd, 1) := by decide +kernel
theorem dX15_step_27 : decode cX15_step 27 = .ok (.putfield 72, 3) := by decide +kernel
theorem dX15_step_30 : decode cX15_step 30 = .ok (.aload_n 0, 1) := by decide +kernel
theorem dX15_step_31 : decode cX15_step 31 = .ok (.getfield 72, 3) := by decide +kernel
theorem dX15_step_34 : decode cX15_step 34 = .ok (.iconst 1, 1) := by decide +kernel
theorem dX15_step_35 : decode cX15_step 35 = .ok (.isub, 1) := by decide +kernel
theorem dX15_step_36 : decode cX15_step 36 = .ok (.ireturn, 1) := by decide +kernel
set_option maxRecDepth 20000 in
theorem a_X15_step_0 {Q : Sg → Int → Prop} {X : Sg → String → Prop} {jm : Nat} (K : MC R p s m args c cX15_step 4 RX15 D cA tys A n0 s0 0 0 []) (hj : jm = ra 15 ∨ jm = ra 16) (hQ : HQI p l e R s m args below meth c cX15_step D cA A n0 s0 QM dm ra jx rm Q) (hX : HX p l e R s m args below meth c 4 D cA A n0 s0 QM dm ra jx rm X) : ∀ (σ : Sg) (v1 : Int) (v2 : Int64) (g1 : rng v1), w_X15_step_0 ra jx rm jm Q X σ v1 v2 → RG σ → Shp dm ra jx rm σ → JJ p l e R s m args below meth c 4 D cA A n0 s0 QM σ 0 [(0, .ref jm), (1, .int (i32 v1)), (2, .long v2)] [] := by
  intro σ v1 v2 g1 h hGσ hS H locs ls hH hl hc
  have B := K.1
  unfold w_X15_step_0 at h
  refine lv_aload_n B.1 B.2.1 dX15_step_0 rfl (lv_at hl 0 rfl) ?_
  refine j_arr B hH hS hj 15 (kd := 100) (n := 6000) (by decide) (by decide) wf_X15_56 rfl rfl dX15_step_1 ?_
  refine lv_aload_n B.1 B.2.1 dX15_step_4 rfl (lv_at hl 0 rfl) ?_
  refine j_geti B hH hS hj 17 (by decide) wf_X15_72 rfl rfl dX15_step_5 ?_
  refine lv_iload_n B.1 B.2.1 dX15_step_8 rfl (lv_at hl 1 rfl) ?_
  obtain ⟨q1, h⟩ := h
  obtain ⟨σ7, eσ7⟩ : ∃ z, z = pI σ (jx jm 15) (gI σ jm 17).toNat v1 := ⟨_, rfl⟩
  have h := h σ7 eσ7
  refine x_iast B K.2.1 hH (hS.ja hj (k := 15) (kd := 100) (n := 6000) (by decide)) (by decide) q1 dX15_step_9 (fun H locs hH => ?_)
  have hH : Hd D cA A s (pI σ (jx jm 15) (gI σ jm 17).toNat v1) H locs := hH
  rw [← eσ7] at hH
  have hGσ7 : RG σ7 := by rw [eσ7]; exact hGσ.pI g1
  have hS : Shp dm ra jx rm σ7 := by rw [eσ7]; exact hS
  have hc : CB n0 s0 σ7 := by rw [eσ7]; exact hc
  rw [show gc σ = gc σ7 by rw [eσ7], show gs σ = gs σ7 by rw [eσ7]]
  refine lv_aload_n B.1 B.2.1 dX15_step_10 rfl (lv_at hl 0 rfl) ?_
  refine j_arr B hH hS hj 16 (kd := 101) (n := 6000) (by decide) (by decide) wf_X15_59 rfl rfl dX15_step_11 ?_
  refine lv_aload_n B.1 B.2.1 dX15_step_14 rfl (lv_at hl 0 rfl) ?_
  refine j_geti B hH hS hj 17 (by decide) wf_X15_72 rfl rfl dX15_step_15 ?_
  refine lv_lload_n B.1 B.2.1 dX15_step_18 rfl (lv_at hl 2 rfl) ?_
  obtain ⟨q3, h⟩ := h
  obtain ⟨σ8, eσ8⟩ : ∃ z, z = pJ σ7 (jx jm 16) (gI σ7 jm 17).toNat v2 := ⟨_, rfl⟩
  have h := h σ8 eσ8
  refine x_last B K.2.1 hH (hS.ja hj (k := 16) (kd := 101) (n := 6000) (by decide)) (by decide) q3 dX15_step_19 (fun H locs hH => ?_)
  have hH : Hd D cA A s (pJ σ7 (jx jm 16) (gI σ7 jm 17).toNat v2) H locs := hH
  rw [← eσ8] at hH
  have hGσ8 : RG σ8 := by rw [eσ8]; exact hGσ7.pJ
  have hS : Shp dm ra jx rm σ8 := by rw [eσ8]; exact hS
  have hc : CB n0 s0 σ8 := by rw [eσ8]; exact hc
  rw [show gc σ7 = gc σ8 by rw [eσ8], show gs σ7 = gs σ8 by rw [eσ8]]
  refine lv_aload_n B.1 B.2.1 dX15_step_20 rfl (lv_at hl 0 rfl) ?_
  refine lv_dup B.1 B.2.1 dX15_step_21 rfl ?_
  refine j_geti B hH hS hj 17 (by decide) wf_X15_72 rfl rfl dX15_step_22 ?_
  refine lv_iconst (v := i32 1) B.1 B.2.1 dX15_step_25 (by decide) ?_
  obtain ⟨q5, h⟩ := h
  refine lv_iadd B.1 B.2.1 dX15_step_26 ?_
  rw [i32_add]
  obtain ⟨σ9, eσ9⟩ : ∃ z, z = pI σ8 jm 17 (gI σ8 jm 17 + 1) := ⟨_, rfl⟩
  have h := h σ9 eσ9
  refine j_puti B hH hS hj 17 (ty := .int) (by decide) wf_X15_72 rfl rfl rfl rfl rfl rfl dX15_step_27 (fun H locs hH => ?_)
  have hH : Hd D cA A s (pI σ8 jm 17 (gI σ8 jm 17 + 1)) H locs := hH
  rw [← eσ9] at hH
  have hGσ9 : RG σ9 := by rw [eσ9]; exact hGσ8.pI q5
  have hS : Shp dm ra jx rm σ9 := by rw [eσ9]; exact hS
  have hc : CB n0 s0 σ9 := by rw [eσ9]; exact hc
  rw [show gc σ8 = gc σ9 by rw [eσ9], show gs σ8 = gs σ9 by rw [eσ9]]
  refine lv_aload_n B.1 B.2.1 dX15_step_30 rfl (lv_at hl 0 rfl) ?_
  refine j_geti B hH hS hj 17 (by decide) wf_X15_72 rfl rfl dX15_step_31 ?_
  refine lv_iconst (v := i32 1) B.1 B.2.1 dX15_step_34 (by decide) ?_
  obtain ⟨q7, h⟩ := h
  refine lv_isub B.1 B.2.1 dX15_step_35 ?_
  rw [i32_sub]
  exact hQ _ _ _ _ _ _ q7 dX15_step_36 hH hc h hGσ9 hS
theorem ok_X15_step {jm : Nat} (hj : jm = ra 15 ∨ jm = ra 16) (hT : Tys cA tys) {Q : Sg → Int → Prop} {X : Sg → String → Prop} (σ : Sg) (v1 : Int) (v2 : Int64) (g1 : rng v1) (hG : RG σ) (hS : Shp dm ra jx rm σ) (h : wp_X15_step ra jx rm jm v1 v2 σ Q X) : Ok l D cA tys A yX15_step (.code yX15_step cX15_step 4 (some .int)) 0 0 [.ref jm, .int (i32 v1), .long v2] σ (QnI dm ra jx rm Q) (QxR dm ra jx rm X) := by
  unfold wp_X15_step at h
  exact ok_I (plainFor_of_name (by decide)) (by exact Nat.le_of_ble_eq_true rfl) hT (fun p e R s m args below meth c K hQ hX H locs ls hH hl hc => a_X15_step_0 K hj hQ hX σ v1 v2 g1 h hG hS H locs ls hH (lv_sub (l' := [(0, .ref jm), (1, .int (i32 v1)), (2, .long v2)]) hl [0, 1, 2] rfl) hc)
theorem dX16_empty_0 : decode cX16_empty 0 = .ok (.iconst 0, 1) := by decide +kernel
theorem dX16_empty_1 : decode cX16_empty 1 = .ok (.istore_n 1, 1) := by decide +kernel
theorem dX16_empty_2 : decode cX16_empty 2 = .ok (.iload_n 1, 1) := by decide +kernel
theorem dX16_empty_3 : decode cX16_empty 3 = .ok (.sipush 12802, 3) := by decide +kernel
theorem dX16_empty_6 : decode cX16_empty 6 = .ok (.if_icmp .ge 31, 3) := by decide +kernel
theorem dX16_empty_9 : decode cX16_empty 9 = .ok (.aload_n 0, 1) := by decide +kernel
theorem dX16_empty_10 : decode cX16_empty 10 = .ok (.getfield 405, 3) := by decide +kernel
theorem dX16_empty_13 : decode cX16_empty 13 = .ok (.iload_n 1, 1) := by decide +kernel
theorem dX16_empty_14 : decode cX16_empty 14 = .ok (.iload_n 1, 1) := by decide +kernel
theorem dX16_empty_15 : decode cX16_empty 15 = .ok (.iconst 1, 1) := by decide +kernel
theorem dX16_empty_16 : decode cX16_empty 16 = .ok (.iadd, 1) := by decide +kernel
theorem dX16_empty_17 : decode cX16_empty 17 = .ok (.sipush 12802, 3) := by decide +kernel
theorem dX16_empty_20 : decode cX16_empty 20 = .ok (.if_icmp .ge 9, 3) := by decide +kernel
theorem dX16_empty_23 : decode cX16_empty 23 = .ok (.iload_n 1, 1) := by decide +kernel
theorem dX16_empty_24 : decode cX16_empty 24 = .ok (.iconst 1, 1) := by decide +kernel
theorem dX16_empty_25 : decode cX16_empty 25 = .ok (.iadd, 1) := by decide +kernel
theorem dX16_empty_26 : decode cX16_empty 26 = .ok (.goto 4, 3) := by decide +kernel
theorem dX16_empty_29 : decode cX16_empty 29 = .ok (.iconst (-1), 1) := by decide +kernel
theorem dX16_empty_30 : decode cX16_empty 30 = .ok (.iastore, 1) := by decide +kernel
theorem dX16_empty_31 : decode cX16_empty 31 = .ok (.iinc 1 1, 3) := by decide +kernel
theorem dX16_empty_34 : decode cX16_empty 34 = .ok (.goto (-32), 3) := by decide +kernel
theorem dX16_empty_37 : decode cX16_empty 37 = .ok (.aload_n 0, 1) := by decide +kernel
theorem dX16_empty_38 : decode cX16_empty 38 = .ok (.iconst 0, 1) := by decide +kernel
theorem dX16_empty_39 : decode cX16_empty 39 = .ok (.putfield 408, 3) := by decide +kernel
theorem dX16_empty_42 : decode cX16_empty 42 = .ok (.aload_n 0, 1) := by decide +kernel
theorem dX16_empty_43 : decode cX16_empty 43 = .ok (.iconst 0, 1) := by decide +kernel
theorem dX16_empty_44 : decode cX16_empty 44 = .ok (.putfield 411, 3) := by decide +kernel
theorem dX16_empty_47 : decode cX16_empty 47 = .ok (.iconst 0, 1) := by decide +kernel
theorem dX16_empty_48 : decode cX16_empty 48 = .ok (.istore_n 1, 1) := by decide +kernel
theorem dX16_empty_49 : decode cX16_empty 49 = .ok (.iload_n 1, 1) := by decide +kernel
theorem dX16_empty_50 : decode cX16_empty 50 = .ok (.bipush 64, 2) := by decide +kernel
theorem dX16_empty_52 : decode cX16_empty 52 = .ok (.if_icmp .ge 74, 3) := by decide +kernel
theorem dX16_empty_55 : decode cX16_empty 55 = .ok (.aload_n 0, 1) := by decide +kernel
theorem dX16_empty_56 : decode cX16_empty 56 = .ok (.getfield 414, 3) := by decide +kernel
theorem dX16_empty_59 : decode cX16_empty 59 = .ok (.iload_n 1, 1) := by decide +kernel
theorem dX16_empty_60 : decode cX16_empty 60 = .ok (.ldc2_w 417, 3) := by decide +kernel
theorem dX16_empty_63 : decode cX16_empty 63 = .ok (.lastore, 1) := by decide +kernel
theorem dX16_empty_64 : decode cX16_empty 64 = .ok (.aload_n 0, 1) := by decide +kernel
theorem dX16_empty_65 : decode cX16_empty 65 = .ok (.getfield 419, 3) := by decide +kernel
theorem dX16_empty_68 : decode cX16_empty 68 = .ok (.iload_n 1, 1) := by decide +kernel
theorem dX16_empty_69 : decode cX16_empty 69 = .ok (.iconst 0, 1) := by decide +kernel
theorem dX16_empty_70 : decode cX16_empty 70 = .ok (.iastore, 1) := by decide +kernel
theorem dX16_empty_71 : decode cX16_empty 71 = .ok (.aload_n 0, 1) := by decide +kernel
theorem dX16_empty_72 : decode cX16_empty 72 = .ok (.getfield 422, 3) := by decide +kernel
theorem dX16_empty_75 : decode cX16_empty 75 = .ok (.iload_n 1, 1) := by decide +kernel
theorem dX16_empty_76 : decode cX16_empty 76 = .ok (.iconst 0, 1) := by decide +kernel
theorem dX16_empty_77 : decode cX16_empty 77 = .ok (.iastore, 1) := by decide +kernel
theorem dX16_empty_78 : decode cX16_empty 78 = .ok (.aload_n 0, 1) := by decide +kernel
theorem dX16_empty_79 : decode cX16_empty 79 = .ok (.getfield 425, 3) := by decide +kernel
theorem dX16_empty_82 : decode cX16_empty 82 = .ok (.iload_n 1, 1) := by decide +kernel
theorem dX16_empty_83 : decode cX16_empty 83 = .ok (.iconst 0, 1) := by decide +kernel
theorem dX16_empty_84 : decode cX16_empty 84 = .ok (.iastore, 1) := by decide +kernel
theorem dX16_empty_85 : decode cX16_empty 85 = .ok (.aload_n 0, 1) := by decide +kernel
theorem dX16_empty_86 : decode cX16_empty 86 = .ok (.getfield 428, 3) := by decide +kernel
theorem dX16_empty_89 : decode cX16_empty 89 = .ok (.iload_n 1, 1) := by decide +kernel
theorem dX16_empty_90 : decode cX16_empty 90 = .ok (.iconst 0, 1) := by decide +kernel
theorem dX16_empty_91 : decode cX16_empty 91 = .ok (.bastore, 1) := by decide +kernel
theorem dX16_empty_92 : decode cX16_empty 92 = .ok (.aload_n 0, 1) := by decide +kernel
theorem dX16_empty_93 : decode cX16_empty 93 = .ok (.getfield 432, 3) := by decide +kernel
theorem dX16_empty_96 : decode cX16_empty 96 = .ok (.iload_n 1, 1) := by decide +kernel
theorem dX16_empty_97 : decode cX16_empty 97 = .ok (.iconst (-1), 1) := by decide +kernel
theorem dX16_empty_98 : decode cX16_empty 98 = .ok (.iastore, 1) := by decide +kernel
theorem dX16_empty_99 : decode cX16_empty 99 = .ok (.aload_n 0, 1) := by decide +kernel
theorem dX16_empty_100 : decode cX16_empty 100 = .ok (.getfield 435, 3) := by decide +kernel
theorem dX16_empty_103 : decode cX16_empty 103 = .ok (.iload_n 1, 1) := by decide +kernel
theorem dX16_empty_104 : decode cX16_empty 104 = .ok (.iconst (-1), 1) := by decide +kernel
theorem dX16_empty_105 : decode cX16_empty 105 = .ok (.iastore, 1) := by decide +kernel
theorem dX16_empty_106 : decode cX16_empty 106 = .ok (.aload_n 0, 1) := by decide +kernel
theorem dX16_empty_107 : decode cX16_empty 107 = .ok (.getfield 438, 3) := by decide +kernel
theorem dX16_empty_110 : decode cX16_empty 110 = .ok (.iload_n 1, 1) := by decide +kernel
theorem dX16_empty_111 : decode cX16_empty 111 = .ok (.iconst (-1), 1) := by decide +kernel
theorem dX16_empty_112 : decode cX16_empty 112 = .ok (.iastore, 1) := by decide +kernel
theorem dX16_empty_113 : decode cX16_empty 113 = .ok (.aload_n 0, 1) := by decide +kernel
theorem dX16_empty_114 : decode cX16_empty 114 = .ok (.getfield 441, 3) := by decide +kernel
theorem dX16_empty_117 : decode cX16_empty 117 = .ok (.iload_n 1, 1) := by decide +kernel
theorem dX16_empty_118 : decode cX16_empty 118 = .ok (.iconst 0, 1) := by decide +kernel
theorem dX16_empty_119 : decode cX16_empty 119 = .ok (.iastore, 1) := by decide +kernel
theorem dX16_empty_120 : decode cX16_empty 120 = .ok (.iinc 1 1, 3) := by decide +kernel
theorem dX16_empty_123 : decode cX16_empty 123 = .ok (.goto (-74), 3) := by decide +kernel
theorem dX16_empty_126 : decode cX16_empty 126 = .ok (.iconst 0, 1) := by decide +kernel
theorem dX16_empty_127 : decode cX16_empty 127 = .ok (.istore_n 1, 1) := by decide +kernel
theorem dX16_empty_128 : decode cX16_empty 128 = .ok (.iload_n 1, 1) := by decide +kernel
theorem dX16_empty_129 : decode cX16_empty 129 = .ok (.bipush 32, 2) := by decide +kernel
theorem dX16_empty_131 : decode cX16_empty 131 = .ok (.if_icmp .ge 16, 3) := by decide +kernel
theorem dX16_empty_134 : decode cX16_empty 134 = .ok (.aload_n 0, 1) := by decide +kernel
theorem dX16_empty_135 : decode cX16_empty 135 = .ok (.getfield 444, 3) := by decide +kernel
theorem dX16_empty_138 : decode cX16_empty 138 = .ok (.iload_n 1, 1) := by decide +kernel
theorem dX16_empty_139 : decode cX16_empty 139 = .ok (.lconst 0, 1) := by decide +kernel
theorem dX16_empty_140 : decode cX16_empty 140 = .ok (.lastore, 1) := by decide +kernel
theorem dX16_empty_141 : decode cX16_empty 141 = .ok (.iinc 1 1, 3) := by decide +kernel
theorem dX16_empty_144 : decode cX16_empty 144 = .ok (.goto (-16), 3) := by decide +kernel
theorem dX16_empty_147 : decode cX16_empty 147 = .ok (.iconst 0, 1) := by decide +kernel
theorem dX16_empty_148 : decode cX16_empty 148 = .ok (.istore_n 1, 1) := by decide +kernel
theorem dX16_empty_149 : decode cX16_empty 149 = .ok (.iload_n 1, 1) := by decide +kernel
theorem dX16_empty_150 : decode cX16_empty 150 = .ok (.sipush 1100, 3) := by decide +kernel
theorem dX16_empty_153 : decode cX16_empty 153 = .ok (.if_icmp .ge 46, 3) := by decide +kernel
theorem dX16_empty_156 : decode cX16_empty 156 = .ok (.aload_n 0, 1) := by decide +kernel
theorem dX16_empty_157 : decode cX16_empty 157 = .ok (.getfield 447, 3) := by decide +kernel
theorem dX16_empty_160 : decode cX16_empty 160 = .ok (.iload_n 1, 1) := by decide +kernel
theorem dX16_empty_161 : decode cX16_empty 161 = .ok (.iconst 0, 1) := by decide +kernel
theorem dX16_empty_162 : decode cX16_empty 162 = .ok (.iastore, 1) := by decide +kernel
theorem dX16_empty_163 : decode cX16_empty 163 = .ok (.aload_n 0, 1) := by decide +kernel
theorem dX16_empty_164 : decode cX16_empty 164 = .ok (.getfield 450, 3) := by decide +kernel
theorem dX16_empty_167 : decode cX16_empty 167 = .ok (.iload_n 1, 1) := by decide +kernel
theorem dX16_empty_168 : decode cX16_empty 168 = .ok (.iconst 0, 1) := by decide +kernel
theorem dX16_empty_169 : decode cX16_empty 169 = .ok (.iastore, 1) := by decide +kernel
theorem dX16_empty_170 : decode cX16_empty 170 = .ok (.aload_n 0, 1) := by decide +kernel
theorem dX16_empty_171 : decode cX16_empty 171 = .ok (.getfield 453, 3) := by decide +kernel
theorem dX16_empty_174 : decode cX16_empty 174 = .ok (.iload_n 1, 1) := by decide +kernel
theorem dX16_empty_175 : decode cX16_empty 175 = .ok (.ldc2_w 417, 3) := by decide +kernel
theorem dX16_empty_178 : decode cX16_empty 178 = .ok (.lastore, 1) := by decide +kernel
theorem dX16_empty_179 : decode cX16_empty 179 = .ok (.aload_n 0, 1) := by decide +kernel
theorem dX16_empty_180 : decode cX16_empty 180 = .ok (.getfield 456, 3) := by decide +kernel
theorem dX16_empty_183 : decode cX16_empty 183 = .ok (.iload_n 1, 1) := by decide +kernel
theorem dX16_empty_184 : decode cX16_empty 184 = .ok (.iconst 0, 1) := by decide +kernel
theorem dX16_empty_185 : decode cX16_empty 185 = .ok (.bastore, 1) := by decide +kernel
theorem dX16_empty_186 : decode cX16_empty 186 = .ok (.aload_n 0, 1) := by decide +kernel
theorem dX16_empty_187 : decode cX16_empty 187 = .ok (.getfield 459, 3) := by decide +kernel
theorem dX16_empty_190 : decode cX16_empty 190 = .ok (.iload_n 1, 1) := by decide +kernel
theorem dX16_empty_191 : decode cX16_empty 191 = .ok (.lconst 0, 1) := by decide +kernel
theorem dX16_empty_192 : decode cX16_empty 192 = .ok (.lastore, 1) := by decide +kernel
theorem dX16_empty_193 : decode cX16_empty 193 = .ok (.iinc 1 1, 3) := by decide +kernel
theorem dX16_empty_196 : decode cX16_empty 196 = .ok (.goto (-47), 3) := by decide +kernel
theorem dX16_empty_199 : decode cX16_empty 199 = .ok (.return_, 1) := by decide +kernel
set_option maxRecDepth 20000 in
theorem a_X16_empty_199 {Q : Sg → Unit → Prop} {X : Sg → String → Prop} (K : MC R p s m args c cX16_empty 2 RX16 D cA tys A n0 s0 0 0 []) (hQ : HQV p l e R s m args below meth c cX16_empty D cA A n0 s0 QM dm ra jx rm Q) (hX : HX p l e R s m args below meth c 2 D cA A n0 s0 QM dm ra jx rm X) : ∀ (σ : Sg), w_X16_empty_199 ra jx rm Q X σ → RG σ → Shp dm ra jx rm σ → JJ p l e R s m args below meth c 2 D cA A n0 s0 QM σ 199 [(0, .ref rm)] [] := by
  intro σ h hGσ hS H locs ls hH hl hc
  have B := K.1
  unfold w_X16_empty_199 at h
  exact hQ _ _ _ _ _ dX16_empty_199 hH hc h hGσ hS
set_option maxRecDepth 20000 in
theorem a_X16_empty_156 {Q : Sg → Unit → Prop} {X : Sg → String → Prop} (K : MC R p s m args c cX16_empty 2 RX16 D cA tys A n0 s0 0 0 []) (hQ : HQV p l e R s m args below meth c cX16_empty D cA A n0 s0 QM dm ra jx rm Q) (hX : HX p l e R s m args below meth c 2 D cA A n0 s0 QM dm ra jx rm X) {K149 : Sg → Int → Prop} (hK149 : ∀ (σ : Sg) (v1 : Int) (g1 : rng v1), K149 σ v1 → RG σ → Shp dm ra jx rm σ → JJ p l e R s m args below meth c 2 D cA A n0 s0 QM σ 149 [(0, .ref rm), (1, .int (i32 v1))] []) : ∀ (σ : Sg) (v1 : Int) (g1 : rng v1), w_X16_empty_156 ra jx rm K149 Q X σ v1 → RG σ → Shp dm ra jx rm σ → JJ p l e R s m args below meth c 2 D cA A n0 s0 QM σ 156 [(0, .ref rm), (1, .int (i32 v1))] [] := by
  intro σ v1 g1 h hGσ hS H locs ls hH hl hc
  have B := K.1
  unfold w_X16_empty_156 at h
  refine lv_aload_n B.1 B.2.1 dX16_empty_156 rfl (lv_at hl 0 rfl) ?_
  refine r_arr B hH hS 54 (kd := 100) (n := 1100) (by decide) (by decide) wf_X16_447 rfl rfl dX16_empty_157 ?_
  refine lv_iload_n B.1 B.2.1 dX16_empty_160 rfl (lv_at hl 1 rfl) ?_
  refine lv_iconst (v := i32 0) B.1 B.2.1 dX16_empty_161 (by decide) ?_
  obtain ⟨q1, h⟩ := h
  obtain ⟨σ37, eσ37⟩ : ∃ z, z = pI σ (ra 54) v1.toNat 0 := ⟨_, rfl⟩
  have h := h σ37 eσ37
  refine x_iast B K.2.1 hH (hS.ar (k := 54) (kd := 100) (n := 1100) (by decide)) (by decide) q1 dX16_empty_162 (fun H locs hH => ?_)
  have hH : Hd D cA A s (pI σ (ra 54) v1.toNat 0) H locs := hH
  rw [← eσ37] at hH
  have hGσ37 : RG σ37 := by rw [eσ37]; exact hGσ.pI (by unfold rng; omega)
  have hS : Shp dm ra jx rm σ37 := by rw [eσ37]; exact hS
  have hc : CB n0 s0 σ37 := by rw [eσ37]; exact hc
  rw [show gc σ = gc σ37 by rw [eσ37], show gs σ = gs σ37 by rw [eσ37]]
  refine lv_aload_n B.1 B.2.1 dX16_empty_163 rfl (lv_at hl 0 rfl) ?_
  refine r_arr B hH hS 55 (kd := 100) (n := 1100) (by decide) (by decide) wf_X16_450 rfl rfl dX16_empty_164 ?_
  refine lv_iload_n B.1 B.2.1 dX16_empty_167 rfl (lv_at hl 1 rfl) ?_
  refine lv_iconst (v := i32 0) B.1 B.2.1 dX16_empty_168 (by decide) ?_
  obtain ⟨q3, h⟩ := h
  obtain ⟨σ38, eσ38⟩ : ∃ z, z = pI σ37 (ra 55) v1.toNat 0 := ⟨_, rfl⟩
  have h := h σ38 eσ38
  refine x_iast B K.2.1 hH (hS.ar (k := 55) (kd := 100) (n := 1100) (by decide)) (by decide) q3 dX16_empty_169 (fun H locs hH => ?_)
  have hH : Hd D cA A s (pI σ37 (ra 55) v1.toNat 0) H locs := hH
  rw [← eσ38] at hH
  have hGσ38 : RG σ38 := by rw [eσ38]; exact hGσ37.pI (by unfold rng; omega)
  have hS : Shp dm ra jx rm σ38 := by rw [eσ38]; exact hS
  have hc : CB n0 s0 σ38 := by rw [eσ38]; exact hc
  rw [show gc σ37 = gc σ38 by rw [eσ38], show gs σ37 = gs σ38 by rw [eσ38]]
  refine lv_aload_n B.1 B.2.1 dX16_empty_170 rfl (lv_at hl 0 rfl) ?_
  refine r_arr B hH hS 56 (kd := 101) (n := 1100) (by decide) (by decide) wf_X16_453 rfl rfl dX16_empty_171 ?_
  refine lv_iload_n B.1 B.2.1 dX16_empty_174 rfl (lv_at hl 1 rfl) ?_
  refine lv_ldc2 B.1 B.2.1 B.2.2.1 (B.2.2.2.1 _ (wk_X16_417)) dX16_empty_175 ?_
  obtain ⟨q5, h⟩ := h
  obtain ⟨σ39, eσ39⟩ : ∃ z, z = pJ σ38 (ra 56) v1.toNat (-1) := ⟨_, rfl⟩
  have h := h σ39 eσ39
  refine x_last B K.2.1 hH (hS.ar (k := 56) (kd := 101) (n := 1100) (by decide)) (by decide) q5 dX16_empty_178 (fun H locs hH => ?_)
  have hH : Hd D cA A s (pJ σ38 (ra 56) v1.toNat (-1)) H locs := hH
  rw [← eσ39] at hH
  have hGσ39 : RG σ39 := by rw [eσ39]; exact hGσ38.pJ
  have hS : Shp dm ra jx rm σ39 := by rw [eσ39]; exact hS
  have hc : CB n0 s0 σ39 := by rw [eσ39]; exact hc
  rw [show gc σ38 = gc σ39 by rw [eσ39], show gs σ38 = gs σ39 by rw [eσ39]]
  refine lv_aload_n B.1 B.2.1 dX16_empty_179 rfl (lv_at hl 0 rfl) ?_
  refine r_arr B hH hS 57 (kd := 103) (n := 1100) (by decide) (by decide) wf_X16_456 rfl rfl dX16_empty_180 ?_
  refine lv_iload_n B.1 B.2.1 dX16_empty_183 rfl (lv_at hl 1 rfl) ?_
  refine lv_iconst (v := i32 0) B.1 B.2.1 dX16_empty_184 (by decide) ?_
  obtain ⟨q7, h⟩ := h
  obtain ⟨σ40, eσ40⟩ : ∃ z, z = pI σ39 (ra 57) v1.toNat (nZ 0) := ⟨_, rfl⟩
  have h := h σ40 eσ40
  refine x_zast B K.2.1 hH (hS.ar (k := 57) (kd := 103) (n := 1100) (by decide)) (by decide) q7 dX16_empty_185 (fun H locs hH => ?_)
  have hH : Hd D cA A s (pI σ39 (ra 57) v1.toNat (nZ 0)) H locs := hH
  rw [← eσ40] at hH
  have hGσ40 : RG σ40 := by rw [eσ40]; exact hGσ39.pI (rng_toInt _)
  have hS : Shp dm ra jx rm σ40 := by rw [eσ40]; exact hS
  have hc : CB n0 s0 σ40 := by rw [eσ40]; exact hc
  rw [show gc σ39 = gc σ40 by rw [eσ40], show gs σ39 = gs σ40 by rw [eσ40]]
  refine lv_aload_n B.1 B.2.1 dX16_empty_186 rfl (lv_at hl 0 rfl) ?_
  refine r_arr B hH hS 58 (kd := 101) (n := 1100) (by decide) (by decide) wf_X16_459 rfl rfl dX16_empty_187 ?_
  refine lv_iload_n B.1 B.2.1 dX16_empty_190 rfl (lv_at hl 1 rfl) ?_
  refine lv_lconst (v := 0) B.1 B.2.1 dX16_empty_191 (by decide) ?_
  obtain ⟨q9, h⟩ := h
  obtain ⟨σ41, eσ41⟩ : ∃ z, z = pJ σ40 (ra 58) v1.toNat 0 := ⟨_, rfl⟩
  have h := h σ41 eσ41
  refine x_last B K.2.1 hH (hS.ar (k := 58) (kd := 101) (n := 1100) (by decide)) (by decide) q9 dX16_empty_192 (fun H locs hH => ?_)
  have hH : Hd D cA A s (pJ σ40 (ra 58) v1.toNat 0) H locs := hH
  rw [← eσ41] at hH
  have hGσ41 : RG σ41 := by rw [eσ41]; exact hGσ40.pJ
  have hS : Shp dm ra jx rm σ41 := by rw [eσ41]; exact hS
  have hc : CB n0 s0 σ41 := by rw [eσ41]; exact hc
  rw [show gc σ40 = gc σ41 by rw [eσ41], show gs σ40 = gs σ41 by rw [eσ41]]
  obtain ⟨q11, h⟩ := h
  refine lv_iinc (k := 1) (v := i32 (v1 + 1)) (lv' := [(1, .int (i32 (v1 + 1))), (0, .ref rm)]) B.1 B.2.1 dX16_empty_193 hl rfl (i32_add _ _) (by decide) rfl (fun ls hl => ?_)
  refine lv_goto (tgt := 149) B.1 B.2.1 dX16_empty_196 (by decide) ?_
  exact hK149 _ _ q11 h hGσ41 hS _ _ _ hH (lv_sub (l' := [(0, .ref rm), (1, .int (i32 (v1 + 1)))]) hl [1, 0] rfl) hc
set_option maxRecDepth 20000 in
theorem a_X16_empty_149 {Q : Sg → Unit → Prop} {X : Sg → String → Prop} (K : MC R p s m args c cX16_empty 2 RX16 D cA tys A n0 s0 0 0 []) (hQ : HQV p l e R s m args below meth c cX16_empty D cA A n0 s0 QM dm ra jx rm Q) (hX : HX p l e R s m args below meth c 2 D cA A n0 s0 QM dm ra jx rm X) {K149 : Sg → Int → Prop} (hK149 : ∀ (σ : Sg) (v1 : Int) (g1 : rng v1), K149 σ v1 → RG σ → Shp dm ra jx rm σ → JJ p l e R s m args below meth c 2 D cA A n0 s0 QM σ 149 [(0, .ref rm), (1, .int (i32 v1))] []) : ∀ (σ : Sg) (v1 : Int) (g1 : rng v1), w_X16_empty_149 ra jx rm K149 Q X σ v1 → RG σ → Shp dm ra jx rm σ → JJ p l e R s m args below meth c 2 D cA A n0 s0 QM σ 149 [(0, .ref rm), (1, .int (i32 v1))] [] := by
  intro σ v1 g1 h hGσ hS H locs ls hH hl hc
  have B := K.1
  unfold w_X16_empty_149 at h
  refine lv_iload_n B.1 B.2.1 dX16_empty_149 rfl (lv_at hl 1 rfl) ?_
  refine lv_sipush (v := i32 1100) B.1 B.2.1 dX16_empty_150 (by decide) ?_
  refine lv_icmp_ge (tgt := 199) B.1 B.2.1 dX16_empty_153 (by decide) (fun h9 => ?_) (fun h9 => ?_)
  · rw [if_pos ((i32_le (by unfold rng; omega) g1).mp h9)] at h
    exact a_X16_empty_199 K hQ hX _ h hGσ hS _ _ _ hH (lv_sub (l' := [(0, .ref rm)]) hl [0] rfl) hc
  · rw [if_neg (fun q => h9 ((i32_le (by unfold rng; omega) g1).mpr q))] at h
    exact a_X16_empty_156 K hQ hX hK149 _ _ g1 h hGσ hS _ _ _ hH (lv_sub (l' := [(0, .ref rm), (1, .int (i32 v1))]) hl [0, 1] rfl) hc
theorem al_X16_empty_149 {Q : Sg → Unit → Prop} {X : Sg → String → Prop} (K : MC R p s m args c cX16_empty 2 RX16 D cA tys A n0 s0 0 0 []) (hQ : HQV p l e R s m args below meth c cX16_empty D cA A n0 s0 QM dm ra jx rm Q) (hX : HX p l e R s m args below meth c 2 D cA A n0 s0 QM dm ra jx rm X) : ∀ (n : Nat), ∀ (σ : Sg) (v1 : Int) (g1 : rng v1), wl_X16_empty_149 ra jx rm Q X n σ v1 → RG σ → Shp dm ra jx rm σ → JJ p l e R s m args below meth c 2 D cA A n0 s0 QM σ 149 [(0, .ref rm), (1, .int (i32 v1))] [] := by
  intro n
  induction n with
  | zero => intro σ v1 g1 h; exact h.elim
  | succ n ih => exact fun σ v1 g1 h => a_X16_empty_149 K hQ hX ih σ v1 g1 h
set_option maxRecDepth 20000 in
theorem a_X16_empty_147 {Q : Sg → Unit → Prop} {X : Sg → String → Prop} (K : MC R p s m args c cX16_empty 2 RX16 D cA tys A n0 s0 0 0 []) (hQ : HQV p l e R s m args below meth c cX16_empty D cA A n0 s0 QM dm ra jx rm Q) (hX : HX p l e R s m args below meth c 2 D cA A n0 s0 QM dm ra jx rm X) : ∀ (σ : Sg), w_X16_empty_147 ra jx rm Q X σ → RG σ → Shp dm ra jx rm σ → JJ p l e R s m args below meth c 2 D cA A n0 s0 QM σ 147 [(0, .ref rm)] [] := by
  intro σ h hGσ hS H locs ls hH hl hc
  have B := K.1
  unfold w_X16_empty_147 at h
  refine lv_iconst (v := i32 0) B.1 B.2.1 dX16_empty_147 (by decide) ?_
  refine lv_istore_n (lv' := [(1, .int (i32 0)), (0, .ref rm)]) B.1 B.2.1 dX16_empty_148 rfl hl (by decide) rfl (fun ls hl => ?_)
  obtain ⟨n9, h⟩ := h
  exact al_X16_empty_149 K hQ hX n9 _ _ (by unfold rng; omega) h hGσ hS _ _ _ hH (lv_sub (l' := [(0, .ref rm), (1, .int (i32 0))]) hl [1, 0] rfl) hc
set_option maxRecDepth 20000 in
theorem a_X16_empty_134 {Q : Sg → Unit → Prop} {X : Sg → String → Prop} (K : MC R p s m args c cX16_empty 2 RX16 D cA tys A n0 s0 0 0 []) (hQ : HQV p l e R s m args below meth c cX16_empty D cA A n0 s0 QM dm ra jx rm Q) (hX : HX p l e R s m args below meth c 2 D cA A n0 s0 QM dm ra jx rm X) {K128 : Sg → Int → Prop} (hK128 : ∀ (σ : Sg) (v1 : Int) (g1 : rng v1), K128 σ v1 → RG σ → Shp dm ra jx rm σ → JJ p l e R s m args below meth c 2 D cA A n0 s0 QM σ 128 [(0, .ref rm), (1, .int (i32 v1))] []) : ∀ (σ : Sg) (v1 : Int) (g1 : rng v1), w_X16_empty_134 ra jx rm K128 Q X σ v1 → RG σ → Shp dm ra jx rm σ → JJ p l e R s m args below meth c 2 D cA A n0 s0 QM σ 134 [(0, .ref rm), (1, .int (i32 v1))] [] := by
  intro σ v1 g1 h hGσ hS H locs ls hH hl hc
  have B := K.1
  unfold w_X16_empty_134 at h
  refine lv_aload_n B.1 B.2.1 dX16_empty_134 rfl (lv_at hl 0 rfl) ?_
  refine r_arr B hH hS 49 (kd := 101) (n := 32) (by decide) (by decide) wf_X16_444 rfl rfl dX16_empty_135 ?_
  refine lv_iload_n B.1 B.2.1 dX16_empty_138 rfl (lv_at hl 1 rfl) ?_
  refine lv_lconst (v := 0) B.1 B.2.1 dX16_empty_139 (by decide) ?_
  obtain ⟨q1, h⟩ := h
  obtain ⟨σ42, eσ42⟩ : ∃ z, z = pJ σ (ra 49) v1.toNat 0 := ⟨_, rfl⟩
  have h := h σ42 eσ42
  refine x_last B K.2.1 hH (hS.ar (k := 49) (kd := 101) (n := 32) (by decide)) (by decide) q1 dX16_empty_140 (fun H locs hH => ?_)
  have hH : Hd D cA A s (pJ σ (ra 49) v1.toNat 0) H locs := hH
  rw [← eσ42] at hH
  have hGσ42 : RG σ42 := by rw [eσ42]; exact hGσ.pJ
  have hS : Shp dm ra jx rm σ42 := by rw [eσ42]; exact hS
  have hc : CB n0 s0 σ42 := by rw [eσ42]; exact hc
  rw [show gc σ = gc σ42 by rw [eσ42], show gs σ = gs σ42 by rw [eσ42]]
  obtain ⟨q3, h⟩ := h
  refine lv_iinc (k := 1) (v := i32 (v1 + 1)) (lv' := [(1, .int (i32 (v1 + 1))), (0, .ref rm)]) B.1 B.2.1 dX16_empty_141 hl rfl (i32_add _ _) (by decide) rfl (fun ls hl => ?_)
  refine lv_goto (tgt := 128) B.1 B.2.1 dX16_empty_144 (by decide) ?_
  exact hK128 _ _ q3 h hGσ42 hS _ _ _ hH (lv_sub (l' := [(0, .ref rm), (1, .int (i32 (v1 + 1)))]) hl [1, 0] rfl) hc
set_option maxRecDepth 20000 in
theorem a_X16_empty_128 {Q : Sg → Unit → Prop} {X : Sg → String → Prop} (K : MC R p s m args c cX16_empty 2 RX16 D cA tys A n0 s0 0 0 []) (hQ : HQV p l e R s m args below meth c cX16_empty D cA A n0 s0 QM dm ra jx rm Q) (hX : HX p l e R s m args below meth c 2 D cA A n0 s0 QM dm ra jx rm X) {K128 : Sg → Int → Prop} (hK128 : ∀ (σ : Sg) (v1 : Int) (g1 : rng v1), K128 σ v1 → RG σ → Shp dm ra jx rm σ → JJ p l e R s m args below meth c 2 D cA A n0 s0 QM σ 128 [(0, .ref rm), (1, .int (i32 v1))] []) : ∀ (σ : Sg) (v1 : Int) (g1 : rng v1), w_X16_empty_128 ra jx rm K128 Q X σ v1 → RG σ → Shp dm ra jx rm σ → JJ p l e R s m args below meth c 2 D cA A n0 s0 QM σ 128 [(0, .ref rm), (1, .int (i32 v1))] [] := by
  intro σ v1 g1 h hGσ hS H locs ls hH hl hc
  have B := K.1
  unfold w_X16_empty_128 at h
  refine lv_iload_n B.1 B.2.1 dX16_empty_128 rfl (lv_at hl 1 rfl) ?_
  refine lv_bipush (v := i32 32) B.1 B.2.1 dX16_empty_129 (by decide) ?_
  refine lv_icmp_ge (tgt := 147) B.1 B.2.1 dX16_empty_131 (by decide) (fun h9 => ?_) (fun h9 => ?_)
  · rw [if_pos ((i32_le (by unfold rng; omega) g1).mp h9)] at h
    exact a_X16_empty_147 K hQ hX _ h hGσ hS _ _ _ hH (lv_sub (l' := [(0, .ref rm)]) hl [0] rfl) hc
  · rw [if_neg (fun q => h9 ((i32_le (by unfold rng; omega) g1).mpr q))] at h
    exact a_X16_empty_134 K hQ hX hK128 _ _ g1 h hGσ hS _ _ _ hH (lv_sub (l' := [(0, .ref rm), (1, .int (i32 v1))]) hl [0, 1] rfl) hc
theorem al_X16_empty_128 {Q : Sg → Unit → Prop} {X : Sg → String → Prop} (K : MC R p s m args c cX16_empty 2 RX16 D cA tys A n0 s0 0 0 []) (hQ : HQV p l e R s m args below meth c cX16_empty D cA A n0 s0 QM dm ra jx rm Q) (hX : HX p l e R s m args below meth c 2 D cA A n0 s0 QM dm ra jx rm X) : ∀ (n : Nat), ∀ (σ : Sg) (v1 : Int) (g1 : rng v1), wl_X16_empty_128 ra jx rm Q X n σ v1 → RG σ → Shp dm ra jx rm σ → JJ p l e R s m args below meth c 2 D cA A n0 s0 QM σ 128 [(0, .ref rm), (1, .int (i32 v1))] [] := by
  intro n
  induction n with
  | zero => intro σ v1 g1 h; exact h.elim
  | succ n ih => exact fun σ v1 g1 h => a_X16_empty_128 K hQ hX ih σ v1 g1 h
set_option maxRecDepth 20000 in
theorem a_X16_empty_126 {Q : Sg → Unit → Prop} {X : Sg → String → Prop} (K : MC R p s m args c cX16_empty 2 RX16 D cA tys A n0 s0 0 0 []) (hQ : HQV p l e R s m args below meth c cX16_empty D cA A n0 s0 QM dm ra jx rm Q) (hX : HX p l e R s m args below meth c 2 D cA A n0 s0 QM dm ra jx rm X) : ∀ (σ : Sg), w_X16_empty_126 ra jx rm Q X σ → RG σ → Shp dm ra jx rm σ → JJ p l e R s m args below meth c 2 D cA A n0 s0 QM σ 126 [(0, .ref rm)] [] := by
  intro σ h hGσ hS H locs ls hH hl hc
  have B := K.1
  unfold w_X16_empty_126 at h
  refine lv_iconst (v := i32 0) B.1 B.2.1 dX16_empty_126 (by decide) ?_
  refine lv_istore_n (lv' := [(1, .int (i32 0)), (0, .ref rm)]) B.1 B.2.1 dX16_empty_127 rfl hl (by decide) rfl (fun ls hl => ?_)
  obtain ⟨n9, h⟩ := h
  exact al_X16_empty_128 K hQ hX n9 _ _ (by unfold rng; omega) h hGσ hS _ _ _ hH (lv_sub (l' := [(0, .ref rm), (1, .int (i32 0))]) hl [1, 0] rfl) hc
set_option maxRecDepth 20000 in
theorem a_X16_empty_55 {Q : Sg → Unit → Prop} {X : Sg → String → Prop} (K : MC R p s m args c cX16_empty 2 RX16 D cA tys A n0 s0 0 0 []) (hQ : HQV p l e R s m args below meth c cX16_empty D cA A n0 s0 QM dm ra jx rm Q) (hX : HX p l e R s m args below meth c 2 D cA A n0 s0 QM dm ra jx rm X) {K49 : Sg → Int → Prop} (hK49 : ∀ (σ : Sg) (v1 : Int) (g1 : rng v1), K49 σ v1 → RG σ → Shp dm ra jx rm σ → JJ p l e R s m args below meth c 2 D cA A n0 s0 QM σ 49 [(0, .ref rm), (1, .int (i32 v1))] []) : ∀ (σ : Sg) (v1 : Int) (g1 : rng v1), w_X16_empty_55 ra jx rm K49 Q X σ v1 → RG σ → Shp dm ra jx rm σ → JJ p l e R s m args below meth c 2 D cA A n0 s0 QM σ 55 [(0, .ref rm), (1, .int (i32 v1))] [] := by
  intro σ v1 g1 h hGσ hS H locs ls hH hl hc
  have B := K.1
  unfold w_X16_empty_55 at h
  refine lv_aload_n B.1 B.2.1 dX16_empty_55 rfl (lv_at hl 0 rfl) ?_
  refine r_arr B hH hS 40 (kd := 101) (n := 64) (by decide) (by decide) wf_X16_414 rfl rfl dX16_empty_56 ?_
  refine lv_iload_n B.1 B.2.1 dX16_empty_59 rfl (lv_at hl 1 rfl) ?_
  refine lv_ldc2 B.1 B.2.1 B.2.2.1 (B.2.2.2.1 _ (wk_X16_417)) dX16_empty_60 ?_
  obtain ⟨q1, h⟩ := h
  obtain ⟨σ43, eσ43⟩ : ∃ z, z = pJ σ (ra 40) v1.toNat (-1) := ⟨_, rfl⟩
  have h := h σ43 eσ43
  refine x_last B K.2.1 hH (hS.ar (k := 40) (kd := 101) (n := 64) (by decide)) (by decide) q1 dX16_empty_63 (fun H locs hH => ?_)
  have hH : Hd D cA A s (pJ σ (ra 40) v1.toNat (-1)) H locs := hH
  rw [← eσ43] at hH
  have hGσ43 : RG σ43 := by rw [eσ43]; exact hGσ.pJ
  have hS : Shp dm ra jx rm σ43 := by rw [eσ43]; exact hS
  have hc : CB n0 s0 σ43 := by rw [eσ43]; exact hc
  rw [show gc σ = gc σ43 by rw [eσ43], show gs σ = gs σ43 by rw [eσ43]]
  refine lv_aload_n B.1 B.2.1 dX16_empty_64 rfl (lv_at hl 0 rfl) ?_
  refine r_arr B hH hS 41 (kd := 100) (n := 64) (by decide) (by decide) wf_X16_419 rfl rfl dX16_empty_65 ?_
  refine lv_iload_n B.1 B.2.1 dX16_empty_68 rfl (lv_at hl 1 rfl) ?_
  refine lv_iconst (v := i32 0) B.1 B.2.1 dX16_empty_69 (by decide) ?_
  obtain ⟨q3, h⟩ := h
  obtain ⟨σ44, eσ44⟩ : ∃ z, z = pI σ43 (ra 41) v1.toNat 0 := ⟨_, rfl⟩
  have h := h σ44 eσ44
  refine x_iast B K.2.1 hH (hS.ar (k := 41) (kd := 100) (n := 64) (by decide)) (by decide) q3 dX16_empty_70 (fun H locs hH => ?_)
  have hH : Hd D cA A s (pI σ43 (ra 41) v1.toNat 0) H locs := hH
  rw [← eσ44] at hH
  have hGσ44 : RG σ44 := by rw [eσ44]; exact hGσ43.pI (by unfold rng; omega)
  have hS : Shp dm ra jx rm σ44 := by rw [eσ44]; exact hS
  have hc : CB n0 s0 σ44 := by rw [eσ44]; exact hc
  rw [show gc σ43 = gc σ44 by rw [eσ44], show gs σ43 = gs σ44 by rw [eσ44]]
  refine lv_aload_n B.1 B.2.1 dX16_empty_71 rfl (lv_at hl 0 rfl) ?_
  refine r_arr B hH hS 42 (kd := 100) (n := 64) (by decide) (by decide) wf_X16_422 rfl rfl dX16_empty_72 ?_
  refine lv_iload_n B.1 B.2.1 dX16_empty_75 rfl (lv_at hl 1 rfl) ?_
  refine lv_iconst (v := i32 0) B.1 B.2.1 dX16_empty_76 (by decide) ?_
  obtain ⟨q5, h⟩ := h
  obtain ⟨σ45, eσ45⟩ : ∃ z, z = pI σ44 (ra 42) v1.toNat 0 := ⟨_, rfl⟩
  have h := h σ45 eσ45
  refine x_iast B K.2.1 hH (hS.ar (k := 42) (kd := 100) (n := 64) (by decide)) (by decide) q5 dX16_empty_77 (fun H locs hH => ?_)
  have hH : Hd D cA A s (pI σ44 (ra 42) v1.toNat 0) H locs := hH
  rw [← eσ45] at hH
  have hGσ45 : RG σ45 := by rw [eσ45]; exact hGσ44.pI (by unfold rng; omega)
  have hS : Shp dm ra jx rm σ45 := by rw [eσ45]; exact hS
  have hc : CB n0 s0 σ45 := by rw [eσ45]; exact hc
  rw [show gc σ44 = gc σ45 by rw [eσ45], show gs σ44 = gs σ45 by rw [eσ45]]
  refine lv_aload_n B.1 B.2.1 dX16_empty_78 rfl (lv_at hl 0 rfl) ?_
  refine r_arr B hH hS 43 (kd := 100) (n := 64) (by decide) (by decide) wf_X16_425 rfl rfl dX16_empty_79 ?_
  refine lv_iload_n B.1 B.2.1 dX16_empty_82 rfl (lv_at hl 1 rfl) ?_
  refine lv_iconst (v := i32 0) B.1 B.2.1 dX16_empty_83 (by decide) ?_
  obtain ⟨q7, h⟩ := h
  obtain ⟨σ46, eσ46⟩ : ∃ z, z = pI σ45 (ra 43) v1.toNat 0 := ⟨_, rfl⟩
  have h := h σ46 eσ46
  refine x_iast B K.2.1 hH (hS.ar (k := 43) (kd := 100) (n := 64) (by decide)) (by decide) q7 dX16_empty_84 (fun H locs hH => ?_)
  have hH : Hd D cA A s (pI σ45 (ra 43) v1.toNat 0) H locs := hH
  rw [← eσ46] at hH
  have hGσ46 : RG σ46 := by rw [eσ46]; exact hGσ45.pI (by unfold rng; omega)
  have hS : Shp dm ra jx rm σ46 := by rw [eσ46]; exact hS
  have hc : CB n0 s0 σ46 := by rw [eσ46]; exact hc
  rw [show gc σ45 = gc σ46 by rw [eσ46], show gs σ45 = gs σ46 by rw [eσ46]]
  refine lv_aload_n B.1 B.2.1 dX16_empty_85 rfl (lv_at hl 0 rfl) ?_
  refine r_arr B hH hS 44 (kd := 103) (n := 64) (by decide) (by decide) wf_X16_428 rfl rfl dX16_empty_86 ?_
  refine lv_iload_n B.1 B.2.1 dX16_empty_89 rfl (lv_at hl 1 rfl) ?_
  refine lv_iconst (v := i32 0) B.1 B.2.1 dX16_empty_90 (by decide) ?_
  obtain ⟨q9, h⟩ := h
  obtain ⟨σ47, eσ47⟩ : ∃ z, z = pI σ46 (ra 44) v1.toNat (nZ 0) := ⟨_, rfl⟩
  have h := h σ47 eσ47
  refine x_zast B K.2.1 hH (hS.ar (k := 44) (kd := 103) (n := 64) (by decide)) (by decide) q9 dX16_empty_91 (fun H locs hH => ?_)
  have hH : Hd D cA A s (pI σ46 (ra 44) v1.toNat (nZ 0)) H locs := hH
  rw [← eσ47] at hH
  have hGσ47 : RG σ47 := by rw [eσ47]; exact hGσ46.pI (rng_toInt _)
  have hS : Shp dm ra jx rm σ47 := by rw [eσ47]; exact hS
  have hc : CB n0 s0 σ47 := by rw [eσ47]; exact hc
  rw [show gc σ46 = gc σ47 by rw [eσ47], show gs σ46 = gs σ47 by rw [eσ47]]
  refine lv_aload_n B.1 B.2.1 dX16_empty_92 rfl (lv_at hl 0 rfl) ?_
  refine r_arr B hH hS 45 (kd := 100) (n := 64) (by decide) (by decide) wf_X16_432 rfl rfl dX16_empty_93 ?_
  refine lv_iload_n B.1 B.2.1 dX16_empty_96 rfl (lv_at hl 1 rfl) ?_
  refine lv_iconst (v := i32 (-1)) B.1 B.2.1 dX16_empty_97 (by decide) ?_
  obtain ⟨q11, h⟩ := h
  obtain ⟨σ48, eσ48⟩ : ∃ z, z = pI σ47 (ra 45) v1.toNat (-1) := ⟨_, rfl⟩
  have h := h σ48 eσ48
  refine x_iast B K.2.1 hH (hS.ar (k := 45) (kd := 100) (n := 64) (by decide)) (by decide) q11 dX16_empty_98 (fun H locs hH => ?_)
  have hH : Hd D cA A s (pI σ47 (ra 45) v1.toNat (-1)) H locs := hH
  rw [← eσ48] at hH
  have hGσ48 : RG σ48 := by rw [eσ48]; exact hGσ47.pI (by unfold rng; omega)
  have hS : Shp dm ra jx rm σ48 := by rw [eσ48]; exact hS
  have hc : CB n0 s0 σ48 := by rw [eσ48]; exact hc
  rw [show gc σ47 = gc σ48 by rw [eσ48], show gs σ47 = gs σ48 by rw [eσ48]]
  refine lv_aload_n B.1 B.2.1 dX16_empty_99 rfl (lv_at hl 0 rfl) ?_
  refine r_arr B hH hS 46 (kd := 100) (n := 64) (by decide) (by decide) wf_X16_435 rfl rfl dX16_empty_100 ?_
  refine lv_iload_n B.1 B.2.1 dX16_empty_103 rfl (lv_at hl 1 rfl) ?_
  refine lv_iconst (v := i32 (-1)) B.1 B.2.1 dX16_empty_104 (by decide) ?_
  obtain ⟨q13, h⟩ := h
  obtain ⟨σ49, eσ49⟩ : ∃ z, z = pI σ48 (ra 46) v1.toNat (-1) := ⟨_, rfl⟩
  have h := h σ49 eσ49
  refine x_iast B K.2.1 hH (hS.ar (k := 46) (kd := 100) (n := 64) (by decide)) (by decide) q13 dX16_empty_105 (fun H locs hH => ?_)
  have hH : Hd D cA A s (pI σ48 (ra 46) v1.toNat (-1)) H locs := hH
  rw [← eσ49] at hH
  have hGσ49 : RG σ49 := by rw [eσ49]; exact hGσ48.pI (by unfold rng; omega)
  have hS : Shp dm ra jx rm σ49 := by rw [eσ49]; exact hS
  have hc : CB n0 s0 σ49 := by rw [eσ49]; exact hc
  rw [show gc σ48 = gc σ49 by rw [eσ49], show gs σ48 = gs σ49 by rw [eσ49]]
  refine lv_aload_n B.1 B.2.1 dX16_empty_106 rfl (lv_at hl 0 rfl) ?_
  refine r_arr B hH hS 47 (kd := 100) (n := 64) (by decide) (by decide) wf_X16_438 rfl rfl dX16_empty_107 ?_
  refine lv_iload_n B.1 B.2.1 dX16_empty_110 rfl (lv_at hl 1 rfl) ?_
  refine lv_iconst (v := i32 (-1)) B.1 B.2.1 dX16_empty_111 (by decide) ?_
  obtain ⟨q15, h⟩ := h
  obtain ⟨σ50, eσ50⟩ : ∃ z, z = pI σ49 (ra 47) v1.toNat (-1) := ⟨_, rfl⟩
  have h := h σ50 eσ50
  refine x_iast B K.2.1 hH (hS.ar (k := 47) (kd := 100) (n := 64) (by decide)) (by decide) q15 dX16_empty_112 (fun H locs hH => ?_)
  have hH : Hd D cA A s (pI σ49 (ra 47) v1.toNat (-1)) H locs := hH
  rw [← eσ50] at hH
  have hGσ50 : RG σ50 := by rw [eσ50]; exact hGσ49.pI (by unfold rng; omega)
  have hS : Shp dm ra jx rm σ50 := by rw [eσ50]; exact hS
  have hc : CB n0 s0 σ50 := by rw [eσ50]; exact hc
  rw [show gc σ49 = gc σ50 by rw [eσ50], show gs σ49 = gs σ50 by rw [eσ50]]
  refine lv_aload_n B.1 B.2.1 dX16_empty_113 rfl (lv_at hl 0 rfl) ?_
  refine r_arr B hH hS 48 (kd := 100) (n := 64) (by decide) (by decide) wf_X16_441 rfl rfl dX16_empty_114 ?_
  refine lv_iload_n B.1 B.2.1 dX16_empty_117 rfl (lv_at hl 1 rfl) ?_
  refine lv_iconst (v := i32 0) B.1 B.2.1 dX16_empty_118 (by decide) ?_
  obtain ⟨q17, h⟩ := h
  obtain ⟨σ51, eσ51⟩ : ∃ z, z = pI σ50 (ra 48) v1.toNat 0 := ⟨_, rfl⟩
  have h := h σ51 eσ51
  refine x_iast B K.2.1 hH (hS.ar (k := 48) (kd := 100) (n := 64) (by decide)) (by decide) q17 dX16_empty_119 (fun H locs hH => ?_)
  have hH : Hd D cA A s (pI σ50 (ra 48) v1.toNat 0) H locs := hH
  rw [← eσ51] at hH
  have hGσ51 : RG σ51 := by rw [eσ51]; exact hGσ50.pI (by unfold rng; omega)
  have hS : Shp dm ra jx rm σ51 := by rw [eσ51]; exact hS
  have hc : CB n0 s0 σ51 := by rw [eσ51]; exact hc
  rw [show gc σ50 = gc σ51 by rw [eσ51], show gs σ50 = gs σ51 by rw [eσ51]]
  obtain ⟨q19, h⟩ := h
  refine lv_iinc (k := 1) (v := i32 (v1 + 1)) (lv' := [(1, .int (i32 (v1 + 1))), (0, .ref rm)]) B.1 B.2.1 dX16_empty_120 hl rfl (i32_add _ _) (by decide) rfl (fun ls hl => ?_)
  refine lv_goto (tgt := 49) B.1 B.2.1 dX16_empty_123 (by decide) ?_
  exact hK49 _ _ q19 h hGσ51 hS _ _ _ hH (lv_sub (l' := [(0, .ref rm), (1, .int (i32 (v1 + 1)))]) hl [1, 0] rfl) hc
set_option maxRecDepth 20000 in
theorem a_X16_empty_49 {Q : Sg → Unit → Prop} {X : Sg → String → Prop} (K : MC R p s m args c cX16_empty 2 RX16 D cA tys A n0 s0 0 0 []) (hQ : HQV p l e R s m args below meth c cX16_empty D cA A n0 s0 QM dm ra jx rm Q) (hX : HX p l e R s m args below meth c 2 D cA A n0 s0 QM dm ra jx rm X) {K49 : Sg → Int → Prop} (hK49 : ∀ (σ : Sg) (v1 : Int) (g1 : rng v1), K49 σ v1 → RG σ → Shp dm ra jx rm σ → JJ p l e R s m args below meth c 2 D cA A n0 s0 QM σ 49 [(0, .ref rm), (1, .int (i32 v1))] []) : ∀ (σ : Sg) (v1 : Int) (g1 : rng v1), w_X16_empty_49 ra jx rm K49 Q X σ v1 → RG σ → Shp dm ra jx rm σ → JJ p l e R s m args below meth c 2 D cA A n0 s0 QM σ 49 [(0, .ref rm), (1, .int (i32 v1))] [] := by
  intro σ v1 g1 h hGσ hS H locs ls hH hl hc
  have B := K.1
  unfold w_X16_empty_49 at h
  refine lv_iload_n B.1 B.2.1 dX16_empty_49 rfl (lv_at hl 1 rfl) ?_
  refine lv_bipush (v := i32 64) B.1 B.2.1 dX16_empty_50 (by decide) ?_
  refine lv_icmp_ge (tgt := 126) B.1 B.2.1 dX16_empty_52 (by decide) (fun h9 => ?_) (fun h9 => ?_)
  · rw [if_pos ((i32_le (by unfold rng; omega) g1).mp h9)] at h
    exact a_X16_empty_126 K hQ hX _ h hGσ hS _ _ _ hH (lv_sub (l' := [(0, .ref rm)]) hl [0] rfl) hc
  · rw [if_neg (fun q => h9 ((i32_le (by unfold rng; omega) g1).mpr q))] at h
    exact a_X16_empty_55 K hQ hX hK49 _ _ g1 h hGσ hS _ _ _ hH (lv_sub (l' := [(0, .ref rm), (1, .int (i32 v1))]) hl [0, 1] rfl) hc
theorem al_X16_empty_49 {Q : Sg → Unit → Prop} {X : Sg → String → Prop} (K : MC R p s m args c cX16_empty 2 RX16 D cA tys A n0 s0 0 0 []) (hQ : HQV p l e R s m args below meth c cX16_empty D cA A n0 s0 QM dm ra jx rm Q) (hX : HX p l e R s m args below meth c 2 D cA A n0 s0 QM dm ra jx rm X) : ∀ (n : Nat), ∀ (σ : Sg) (v1 : Int) (g1 : rng v1), wl_X16_empty_49 ra jx rm Q X n σ v1 → RG σ → Shp dm ra jx rm σ → JJ p l e R s m args below meth c 2 D cA A n0 s0 QM σ 49 [(0, .ref rm), (1, .int (i32 v1))] [] := by
  intro n
  induction n with
  | zero => intro σ v1 g1 h; exact h.elim
  | succ n ih => exact fun σ v1 g1 h => a_X16_empty_49 K hQ hX ih σ v1 g1 h
set_option maxRecDepth 20000 in
theorem a_X16_empty_37 {Q : Sg → Unit → Prop} {X : Sg → String → Prop} (K : MC R p s m args c cX16_empty 2 RX16 D cA tys A n0 s0 0 0 []) (hQ : HQV p l e R s m args below meth c cX16_empty D cA A n0 s0 QM dm ra jx rm Q) (hX : HX p l e R s m args below meth c 2 D cA A n0 s0 QM dm ra jx rm X) : ∀ (σ : Sg), w_X16_empty_37 ra jx rm Q X σ → RG σ → Shp dm ra jx rm σ → JJ p l e R s m args below meth c 2 D cA A n0 s0 QM σ 37 [(0, .ref rm)] [] := by
  intro σ h hGσ hS H locs ls hH hl hc
  have B := K.1
  unfold w_X16_empty_37 at h
  refine lv_aload_n B.1 B.2.1 dX16_empty_37 rfl (lv_at hl 0 rfl) ?_
  refine lv_iconst (v := i32 0) B.1 B.2.1 dX16_empty_38 (by decide) ?_
  obtain ⟨σ52, eσ52⟩ : ∃ z, z = pI σ rm 66 0 := ⟨_, rfl⟩
  have h := h σ52 eσ52
  refine r_puti B hH hS 66 (ty := .int) (by decide) wf_X16_408 rfl rfl rfl rfl rfl rfl dX16_empty_39 (fun H locs hH => ?_)
  have hH : Hd D cA A s (pI σ rm 66 0) H locs := hH
  rw [← eσ52] at hH
  have hGσ52 : RG σ52 := by rw [eσ52]; exact hGσ.pI (by unfold rng; omega)
  have hS : Shp dm ra jx rm σ52 := by rw [eσ52]; exact hS
  have hc : CB n0 s0 σ52 := by rw [eσ52]; exact hc
  rw [show gc σ = gc σ52 by rw [eσ52], show gs σ = gs σ52 by rw [eσ52]]
  refine lv_aload_n B.1 B.2.1 dX16_empty_42 rfl (lv_at hl 0 rfl) ?_
  refine lv_iconst (v := i32 0) B.1 B.2.1 dX16_empty_43 (by decide) ?_
  obtain ⟨σ53, eσ53⟩ : ∃ z, z = pI σ52 rm 67 0 := ⟨_, rfl⟩
  have h := h σ53 eσ53
  refine r_puti B hH hS 67 (ty := .int) (by decide) wf_X16_411 rfl rfl rfl rfl rfl rfl dX16_empty_44 (fun H locs hH => ?_)
  have hH : Hd D cA A s (pI σ52 rm 67 0) H locs := hH
  rw [← eσ53] at hH
  have hGσ53 : RG σ53 := by rw [eσ53]; exact hGσ52.pI (by unfold rng; omega)
  have hS : Shp dm ra jx rm σ53 := by rw [eσ53]; exact hS
  have hc : CB n0 s0 σ53 := by rw [eσ53]; exact hc
  rw [show gc σ52 = gc σ53 by rw [eσ53], show gs σ52 = gs σ53 by rw [eσ53]]
  refine lv_iconst (v := i32 0) B.1 B.2.1 dX16_empty_47 (by decide) ?_
  refine lv_istore_n (lv' := [(1, .int (i32 0)), (0, .ref rm)]) B.1 B.2.1 dX16_empty_48 rfl hl (by decide) rfl (fun ls hl => ?_)
  obtain ⟨n9, h⟩ := h
  exact al_X16_empty_49 K hQ hX n9 _ _ (by unfold rng; omega) h hGσ53 hS _ _ _ hH (lv_sub (l' := [(0, .ref rm), (1, .int (i32 0))]) hl [1, 0] rfl) hc
set_option maxRecDepth 20000 in
theorem a_X16_empty_30 {Q : Sg → Unit → Prop} {X : Sg → String → Prop} (K : MC R p s m args c cX16_empty 2 RX16 D cA tys A n0 s0 0 0 []) (hQ : HQV p l e R s m args below meth c cX16_empty D cA A n0 s0 QM dm ra jx rm Q) (hX : HX p l e R s m args below meth c 2 D cA A n0 s0 QM dm ra jx rm X) {K2 : Sg → Int → Prop} (hK2 : ∀ (σ : Sg) (v1 : Int) (g1 : rng v1), K2 σ v1 → RG σ → Shp dm ra jx rm σ → JJ p l e R s m args below meth c 2 D cA A n0 s0 QM σ 2 [(0, .ref rm), (1, .int (i32 v1))] []) : ∀ (σ : Sg) (v1 : Int) (u0 : Int) (u1 : Int) (g1 : rng v1) (gu0 : rng u0) (gu1 : rng u1), w_X16_empty_30 ra jx rm K2 Q X σ v1 u0 u1 → RG σ → Shp dm ra jx rm σ → JJ p l e R s m args below meth c 2 D cA A n0 s0 QM σ 30 [(0, .ref rm), (1, .int (i32 v1))] [.int (i32 u0), .int (i32 u1), .ref (ra 65)] := by
  intro σ v1 u0 u1 g1 gu0 gu1 h hGσ hS H locs ls hH hl hc
  have B := K.1
  unfold w_X16_empty_30 at h
  obtain ⟨q1, h⟩ := h
  obtain ⟨σ54, eσ54⟩ : ∃ z, z = pI σ (ra 65) u1.toNat u0 := ⟨_, rfl⟩
  have h := h σ54 eσ54
  refine x_iast B K.2.1 hH (hS.ar (k := 65) (kd := 100) (n := 12802) (by decide)) (by decide) q1 dX16_empty_30 (fun H locs hH => ?_)
  have hH : Hd D cA A s (pI σ (ra 65) u1.toNat u0) H locs := hH
  rw [← eσ54] at hH
  have hGσ54 : RG σ54 := by rw [eσ54]; exact hGσ.pI gu0
  have hS : Shp dm ra jx rm σ54 := by rw [eσ54]; exact hS
  have hc : CB n0 s0 σ54 := by rw [eσ54]; exact hc
  rw [show gc σ = gc σ54 by rw [eσ54], show gs σ = gs σ54 by rw [eσ54]]
  obtain ⟨q3, h⟩ := h
  refine lv_iinc (k := 1) (v := i32 (v1 + 1)) (lv' := [(1, .int (i32 (v1 + 1))), (0, .ref rm)]) B.1 B.2.1 dX16_empty_31 hl rfl (i32_add _ _) (by decide) rfl (fun ls hl => ?_)
  refine lv_goto (tgt := 2) B.1 B.2.1 dX16_empty_34 (by decide) ?_
  exact hK2 _ _ q3 h hGσ54 hS _ _ _ hH (lv_sub (l' := [(0, .ref rm), (1, .int (i32 (v1 + 1)))]) hl [1, 0] rfl) hc
set_option maxRecDepth 20000 in
theorem a_X16_empty_29 {Q : Sg → Unit → Prop} {X : Sg → String → Prop} (K : MC R p s m args c cX16_empty 2 RX16 D cA tys A n0 s0 0 0 []) (hQ : HQV p l e R s m args below meth c cX16_empty D cA A n0 s0 QM dm ra jx rm Q) (hX : HX p l e R s m args below meth c 2 D cA A n0 s0 QM dm ra jx rm X) {K2 : Sg → Int → Prop} (hK2 : ∀ (σ : Sg) (v1 : Int) (g1 : rng v1), K2 σ v1 → RG σ → Shp dm ra jx rm σ → JJ p l e R s m args below meth c 2 D cA A n0 s0 QM σ 2 [(0, .ref rm), (1, .int (i32 v1))] []) : ∀ (σ : Sg) (v1 : Int) (u0 : Int) (g1 : rng v1) (gu0 : rng u0), w_X16_empty_29 ra jx rm K2 Q X σ v1 u0 → RG σ → Shp dm ra jx rm σ → JJ p l e R s m args below meth c 2 D cA A n0 s0 QM σ 29 [(0, .ref rm), (1, .int (i32 v1))] [.int (i32 u0), .ref (ra 65)] := by
  intro σ v1 u0 g1 gu0 h hGσ hS H locs ls hH hl hc
  have B := K.1
  unfold w_X16_empty_29 at h
  refine lv_iconst (v := i32 (-1)) B.1 B.2.1 dX16_empty_29 (by decide) ?_
  exact a_X16_empty_30 K hQ hX hK2 _ _ _ _ g1 (by unfold rng; omega) gu0 h hGσ hS _ _ _ hH (lv_sub (l' := [(0, .ref rm), (1, .int (i32 v1))]) hl [0, 1] rfl) hc
set_option maxRecDepth 20000 in
theorem a_X16_empty_23 {Q : Sg → Unit → Prop} {X : Sg → String → Prop} (K : MC R p s m args c cX16_empty 2 RX16 D cA tys A n0 s0 0 0 []) (hQ : HQV p l e R s m args below meth c cX16_empty D cA A n0 s0 QM dm ra jx rm Q) (hX : HX p l e R s m args below meth c 2 D cA A n0 s0 QM dm ra jx rm X) {K2 : Sg → Int → Prop} (hK2 : ∀ (σ : Sg) (v1 : Int) (g1 : rng v1), K2 σ v1 → RG σ → Shp dm ra jx rm σ → JJ p l e R s m args below meth c 2 D cA A n0 s0 QM σ 2 [(0, .ref rm), (1, .int (i32 v1))] []) : ∀ (σ : Sg) (v1 : Int) (u0 : Int) (g1 : rng v1) (gu0 : rng u0), w_X16_empty_23 ra jx rm K2 Q X σ v1 u0 → RG σ → Shp dm ra jx rm σ → JJ p l e R s m args below meth c 2 D cA A n0 s0 QM σ 23 [(0, .ref rm), (1, .int (i32 v1))] [.int (i32 u0), .ref (ra 65)] := by
  intro σ v1 u0 g1 gu0 h hGσ hS H locs ls hH hl hc
  have B := K.1
  unfold w_X16_empty_23 at h
  refine lv_iload_n B.1 B.2.1 dX16_empty_23 rfl (lv_at hl 1 rfl) ?_
  refine lv_iconst (v := i32 1) B.1 B.2.1 dX16_empty_24 (by decide) ?_
  obtain ⟨q1, h⟩ := h
  refine lv_iadd B.1 B.2.1 dX16_empty_25 ?_
  rw [i32_add]
  refine lv_goto (tgt := 30) B.1 B.2.1 dX16_empty_26 (by decide) ?_
  exact a_X16_empty_30 K hQ hX hK2 _ _ _ _ g1 q1 gu0 h hGσ hS _ _ _ hH (lv_sub (l' := [(0, .ref rm), (1, .int (i32 v1))]) hl [0, 1] rfl) hc
set_option maxRecDepth 20000 in
theorem a_X16_empty_9 {Q : Sg → Unit → Prop} {X : Sg → String → Prop} (K : MC R p s m args c cX16_empty 2 RX16 D cA tys A n0 s0 0 0 []) (hQ : HQV p l e R s m args below meth c cX16_empty D cA A n0 s0 QM dm ra jx rm Q) (hX : HX p l e R s m args below meth c 2 D cA A n0 s0 QM dm ra jx rm X) {K2 : Sg → Int → Prop} (hK2 : ∀ (σ : Sg) (v1 : Int) (g1 : rng v1), K2 σ v1 → RG σ → Shp dm ra jx rm σ → JJ p l e R s m args below meth c 2 D cA A n0 s0 QM σ 2 [(0, .ref rm), (1, .int (i32 v1))] []) : ∀ (σ : Sg) (v1 : Int) (g1 : rng v1), w_X16_empty_9 ra jx rm K2 Q X σ v1 → RG σ → Shp dm ra jx rm σ → JJ p l e R s m args below meth c 2 D cA A n0 s0 QM σ 9 [(0, .ref rm), (1, .int (i32 v1))] [] := by
  intro σ v1 g1 h hGσ hS H locs ls hH hl hc
  have B := K.1
  unfold w_X16_empty_9 at h
  refine lv_aload_n B.1 B.2.1 dX16_empty_9 rfl (lv_at hl 0 rfl) ?_
  refine r_arr B hH hS 65 (kd := 100) (n := 12802) (by decide) (by decide) wf_X16_405 rfl rfl dX16_empty_10 ?_
  refine lv_iload_n B.1 B.2.1 dX16_empty_13 rfl (lv_at hl 1 rfl) ?_
  refine lv_iload_n B.1 B.2.1 dX16_empty_14 rfl (lv_at hl 1 rfl) ?_
  refine lv_iconst (v := i32 1) B.1 B.2.1 dX16_empty_15 (by decide) ?_
  obtain ⟨q1, h⟩ := h
  refine lv_iadd B.1 B.2.1 dX16_empty_16 ?_
  rw [i32_add]
  refine lv_sipush (v := i32 12802) B.1 B.2.1 dX16_empty_17 (by decide) ?_
  refine lv_icmp_ge (tgt := 29) B.1 B.2.1 dX16_empty_20 (by decide) (fun h9 => ?_) (fun h9 => ?_)
  · rw [if_pos ((i32_le (by unfold rng; omega) q1).mp h9)] at h
    exact a_X16_empty_29 K hQ hX hK2 _ _ _ g1 g1 h hGσ hS _ _ _ hH (lv_sub (l' := [(0, .ref rm), (1, .int (i32 v1))]) hl [0, 1] rfl) hc
  · rw [if_neg (fun q => h9 ((i32_le (by unfold rng; omega) q1).mpr q))] at h
    exact a_X16_empty_23 K hQ hX hK2 _ _ _ g1 g1 h hGσ hS _ _ _ hH (lv_sub (l' := [(0, .ref rm), (1, .int (i32 v1))]) hl [0, 1] rfl) hc
set_option maxRecDepth 20000 in
theorem a_X16_empty_2 {Q : Sg → Unit → Prop} {X : Sg → String → Prop} (K : MC R p s m args c cX16_empty 2 RX16 D cA tys A n0 s0 0 0 []) (hQ : HQV p l e R s m args below meth c cX16_empty D cA A n0 s0 QM dm ra jx rm Q) (hX : HX p l e R s m args below meth c 2 D cA A n0 s0 QM dm ra jx rm X) {K2 : Sg → Int → Prop} (hK2 : ∀ (σ : Sg) (v1 : Int) (g1 : rng v1), K2 σ v1 → RG σ → Shp dm ra jx rm σ → JJ p l e R s m args below meth c 2 D cA A n0 s0 QM σ 2 [(0, .ref rm), (1, .int (i32 v1))] []) : ∀ (σ : Sg) (v1 : Int) (g1 : rng v1), w_X16_empty_2 ra jx rm K2 Q X σ v1 → RG σ → Shp dm ra jx rm σ → JJ p l e R s m args below meth c 2 D cA A n0 s0 QM σ 2 [(0, .ref rm), (1, .int (i32 v1))] [] := by
  intro σ v1 g1 h hGσ hS H locs ls hH hl hc
  have B := K.1
  unfold w_X16_empty_2 at h
  refine lv_iload_n B.1 B.2.1 dX16_empty_2 rfl (lv_at hl 1 rfl) ?_
  refine lv_sipush (v := i32 12802) B.1 B.2.1 dX16_empty_3 (by decide) ?_
  refine lv_icmp_ge (tgt := 37) B.1 B.2.1 dX16_empty_6 (by decide) (fun h9 => ?_) (fun h9 => ?_)
  · rw [if_pos ((i32_le (by unfold rng; omega) g1).mp h9)] at h
    exact a_X16_empty_37 K hQ hX _ h hGσ hS _ _ _ hH (lv_sub (l' := [(0, .ref rm)]) hl [0] rfl) hc
  · rw [if_neg (fun q => h9 ((i32_le (by unfold rng; omega) g1).mpr q))] at h
    exact a_X16_empty_9 K hQ hX hK2 _ _ g1 h hGσ hS _ _ _ hH (lv_sub (l' := [(0, .ref rm), (1, .int (i32 v1))]) hl [0, 1] rfl) hc
theorem al_X16_empty_2 {Q : Sg → Unit → Prop} {X : Sg → String → Prop} (K : MC R p s m args c cX16_empty 2 RX16 D cA tys A n0 s0 0 0 []) (hQ : HQV p l e R s m args below meth c cX16_empty D cA A n0 s0 QM dm ra jx rm Q) (hX : HX p l e R s m args below meth c 2 D cA A n0 s0 QM dm ra jx rm X) : ∀ (n : Nat), ∀ (σ : Sg) (v1 : Int) (g1 : rng v1), wl_X16_empty_2 ra jx rm Q X n σ v1 → RG σ → Shp dm ra jx rm σ → JJ p l e R s m args below meth c 2 D cA A n0 s0 QM σ 2 [(0, .ref rm), (1, .int (i32 v1))] [] := by
  intro n
  induction n with
  | zero => intro σ v1 g1 h; exact h.elim
  | succ n ih => exact fun σ v1 g1 h => a_X16_empty_2 K hQ hX ih σ v1 g1 h
set_option maxRecDepth 20000 in
theorem a_X16_empty_0 {Q : Sg → Unit → Prop} {X : Sg → String → Prop} (K : MC R p s m args c cX16_empty 2 RX16 D cA tys A n0 s0 0 0 []) (hQ : HQV p l e R s m args below meth c cX16_empty D cA A n0 s0 QM dm ra jx rm Q) (hX : HX p l e R s m args below meth c 2 D cA A n0 s0 QM dm ra jx rm X) : ∀ (σ : Sg), w_X16_empty_0 ra jx rm Q X σ → RG σ → Shp dm ra jx rm σ → JJ p l e R s m args below meth c 2 D cA A n0 s0 QM σ 0 [(0, .ref rm)] [] := by
  intro σ h hGσ hS H locs ls hH hl hc
  have B := K.1
  unfold w_X16_empty_0 at h
  refine lv_iconst (v := i32 0) B.1 B.2.1 dX16_empty_0 (by decide) ?_
  refine lv_istore_n (lv' := [(1, .int (i32 0)), (0, .ref rm)]) B.1 B.2.1 dX16_empty_1 rfl hl (by decide) rfl (fun ls hl => ?_)
  obtain ⟨n9, h⟩ := h
  exact al_X16_empty_2 K hQ hX n9 _ _ (by unfold rng; omega) h hGσ hS _ _ _ hH (lv_sub (l' := [(0, .ref rm), (1, .int (i32 0))]) hl [1, 0] rfl) hc
theorem ok_X16_empty (hT : Tys cA tys) {Q : Sg → Unit → Prop} {X : Sg → String → Prop} (σ : Sg) (hG : RG σ) (hS : Shp dm ra jx rm σ) (h : wp_X16_empty ra jx rm σ Q X) : Ok l D cA tys A yX16_empty (.code yX16_empty cX16_empty 2 none) 0 0 [.ref rm] σ (QnV dm ra jx rm Q) (QxR dm ra jx rm X) := by
  unfold wp_X16_empty at h
  exact ok_V (plainFor_of_name (by decide)) (by exact Nat.le_of_ble_eq_true rfl) hT (fun p e R s m args below meth c K hQ hX H locs ls hH hl hc => a_X16_empty_0 K hQ hX σ h hG hS H locs ls hH (lv_sub (l' := [(0, .ref rm)]) hl [0] rfl) hc)
theorem dX16_channel_0 : decode cX16_channel 0 = .ok (.aload_n 0, 1) := by decide +kernel
theorem dX16_channel_1 : decode cX16_channel 1 = .ok (.getfield 368, 3) := by decide +kernel
theorem dX16_channel_4 : decode cX16_channel 4 = .ok (.aload_n 0, 1) := by decide +kernel
theorem dX16_channel_5 : decode cX16_channel 5 = .ok (.getfield 371, 3) := by decide +kernel
theorem dX16_channel_8 : decode cX16_channel 8 = .ok (.iload_n 1, 1) := by decide +kernel
theorem dX16_channel_9 : decode cX16_channel 9 = .ok (.iastore, 1) := by decide +kernel
theorem dX16_channel_10 : decode cX16_channel 10 = .ok (.aload_n 0, 1) := by decide +kernel
theorem dX16_channel_11 : decode cX16_channel 11 = .ok (.getfield 374, 3) := by decide +kernel
theorem dX16_channel_14 : decode cX16_channel 14 = .ok (.aload_n 0, 1) := by decide +kernel
theorem dX16_channel_15 : decode cX16_channel 15 = .ok (.getfield 371, 3) := by decide +kernel
theorem dX16_channel_18 : decode cX16_channel 18 = .ok (.iload_n 2, 1) := by decide +kernel
theorem dX16_channel_19 : decode cX16_channel 19 = .ok (.iastore, 1) := by decide +kernel
theorem dX16_channel_20 : decode cX16_channel 20 = .ok (.aload_n 0, 1) := by decide +kernel
theorem dX16_channel_21 : decode cX16_channel 21 = .ok (.getfield 377, 3) := by decide +kernel
theorem dX16_channel_24 : decode cX16_channel 24 = .ok (.aload_n 0, 1) := by decide +kernel
theorem dX16_channel_25 : decode cX16_channel 25 = .ok (.getfield 371, 3) := by decide +kernel
theorem dX16_channel_28 : decode cX16_channel 28 = .ok (.iload_n 3, 1) := by decide +kernel
theorem dX16_channel_29 : decode cX16_channel 29 = .ok (.iastore, 1) := by decide +kernel
theorem dX16_channel_30 : decode cX16_channel 30 = .ok (.aload_n 0, 1) := by decide +kernel
theorem dX16_channel_31 : decode cX16_channel 31 = .ok (.dup, 1) := by decide +kernel
theorem dX16_channel_32 : decode cX16_channel 32 = .ok (.getfield 371, 3) := by decide +kernel
theorem dX16_channel_35 : decode cX16_channel 35 = .ok (.iconst 1, 1) := by decide +kernel
theorem dX16_channel_36 : decode cX16_channel 36 = .ok (.iadd, 1) := by decide +kernel
theorem dX16_channel_37 : decode cX16_channel 37 = .ok (.putfield 371, 3) := by decide +kernel
theorem dX16_channel_40 : decode cX16_channel 40 = .ok (.return_, 1) := by decide +kernel
set_option maxRecDepth 20000 in
theorem a_X16_channel_0 {Q : Sg → Unit → Prop} {X : Sg → String → Prop} (K : MC R p s m args c cX16_channel 4 RX16 D cA tys A n0 s0 0 0 []) (hQ : HQV p l e R s m args below meth c cX16_channel D cA A n0 s0 QM dm ra jx rm Q) (hX : HX p l e R s m args below meth c 4 D cA A n0 s0 QM dm ra jx rm X) : ∀ (σ : Sg) (v1 : Int) (v2 : Int) (v3 : Int) (g1 : rng v1) (g2 : rng v2) (g3 : rng v3), w_X16_channel_0 ra jx rm Q X σ v1 v2 v3 → RG σ → Shp dm ra jx rm σ → JJ p l e R s m args below meth c 4 D cA A n0 s0 QM σ 0 [(0, .ref rm), (1, .int (i32 v1)), (2, .int (i32 v2)), (3, .int (i32 v3))] [] := by
  intro σ v1 v2 v3 g1 g2 g3 h hGσ hS H locs ls hH hl hc
  have B := K.1
  unfold w_X16_channel_0 at h
  refine lv_aload_n B.1 B.2.1 dX16_channel_0 rfl (lv_at hl 0 rfl) ?_
  refine r_arr B hH hS 51 (kd := 100) (n := 1100) (by decide) (by decide) wf_X16_368 rfl rfl dX16_channel_1 ?_
  refine lv_aload_n B.1 B.2.1 dX16_channel_4 rfl (lv_at hl 0 rfl) ?_
  refine r_geti B hH hS 50 (by decide) wf_X16_371 rfl rfl dX16_channel_5 ?_
  refine lv_iload_n B.1 B.2.1 dX16_channel_8 rfl (lv_at hl 1 rfl) ?_
  obtain ⟨q1, h⟩ := h
  obtain ⟨σ9, eσ9⟩ : ∃ z, z = pI σ (ra 51) (gI σ rm 50).toNat v1 := ⟨_, rfl⟩
  have h := h σ9 eσ9
  refine x_iast B K.2.1 hH (hS.ar (k := 51) (kd := 100) (n := 1100) (by decide)) (by decide) q1 dX16_channel_9 (fun H locs hH => ?_)
  have hH : Hd D cA A s (pI σ (ra 51) (gI σ rm 50).toNat v1) H locs := hH
  rw [← eσ9] at hH
  have hGσ9 : RG σ9 := by rw [eσ9]; exact hGσ.pI g1
  have hS : Shp dm ra jx rm σ9 := by rw [eσ9]; exact hS
  have hc : CB n0 s0 σ9 := by rw [eσ9]; exact hc
  rw [show gc σ = gc σ9 by rw [eσ9], show gs σ = gs σ9 by rw [eσ9]]
  refine lv_aload_n B.1 B.2.1 dX16_channel_10 rfl (lv_at hl 0 rfl) ?_
  refine r_arr B hH hS 52 (kd := 100) (n := 1100) (by decide) (by decide) wf_X16_374 rfl rfl dX16_channel_11 ?_
  refine lv_aload_n B.1 B.2.1 dX16_channel_14 rfl (lv_at hl 0 rfl) ?_
  refine r_geti B hH hS 50 (by decide) wf_X16_371 rfl rfl dX16_channel_15 ?_
  refine lv_iload_n B.1 B.2.1 dX16_channel_18 rfl (lv_at hl 2 rfl) ?_
  obtain ⟨q3, h⟩ := h
  obtain ⟨σ10, eσ10⟩ : ∃ z, z = pI σ9 (ra 52) (gI σ9 rm 50).toNat v2 := ⟨_, rfl⟩
  have h := h σ10 eσ10
  refine x_iast B K.2.1 hH (hS.ar (k := 52) (kd := 100) (n := 1100) (by decide)) (by decide) q3 dX16_channel_19 (fun H locs hH => ?_)
  have hH : Hd D cA A s (pI σ9 (ra 52) (gI σ9 rm 50).toNat v2) H locs := hH
  rw [← eσ10] at hH
  have hGσ10 : RG σ10 := by rw [eσ10]; exact hGσ9.pI g2
  have hS : Shp dm ra jx rm σ10 := by rw [eσ10]; exact hS
  have hc : CB n0 s0 σ10 := by rw [eσ10]; exact hc
  rw [show gc σ9 = gc σ10 by rw [eσ10], show gs σ9 = gs σ10 by rw [eσ10]]
  refine lv_aload_n B.1 B.2.1 dX16_channel_20 rfl (lv_at hl 0 rfl) ?_
  refine r_arr B hH hS 53 (kd := 100) (n := 1100) (by decide) (by decide) wf_X16_377 rfl rfl dX16_channel_21 ?_
  refine lv_aload_n B.1 B.2.1 dX16_channel_24 rfl (lv_at hl 0 rfl) ?_
  refine r_geti B hH hS 50 (by decide) wf_X16_371 rfl rfl dX16_channel_25 ?_
  refine lv_iload_n B.1 B.2.1 dX16_channel_28 rfl (lv_at hl 3 rfl) ?_
  obtain ⟨q5, h⟩ := h
  obtain ⟨σ11, eσ11⟩ : ∃ z, z = pI σ10 (ra 53) (gI σ10 rm 50).toNat v3 := ⟨_, rfl⟩
  have h := h σ11 eσ11
  refine x_iast B K.2.1 hH (hS.ar (k := 53) (kd := 100) (n := 1100) (by decide)) (by decide) q5 dX16_channel_29 (fun H locs hH => ?_)
  have hH : Hd D cA A s (pI σ10 (ra 53) (gI σ10 rm 50).toNat v3) H locs := hH
  rw [← eσ11] at hH
  have hGσ11 : RG σ11 := by rw [eσ11]; exact hGσ10.pI g3
  have hS : Shp dm ra jx rm σ11 := by rw [eσ11]; exact hS
  have hc : CB n0 s0 σ11 := by rw [eσ11]; exact hc
  rw [show gc σ10 = gc σ11 by rw [eσ11], show gs σ10 = gs σ11 by rw [eσ11]]
  refine lv_aload_n B.1 B.2.1 dX16_channel_30 rfl (lv_at hl 0 rfl) ?_
  refine lv_dup B.1 B.2.1 dX16_channel_31 rfl ?_
  refine r_geti B hH hS 50 (by decide) wf_X16_371 rfl rfl dX16_channel_32 ?_
  refine lv_iconst (v := i32 1) B.1 B.2.1 dX16_channel_35 (by decide) ?_
  obtain ⟨q7, h⟩ := h
  refine lv_iadd B.1 B.2.1 dX16_channel_36 ?_
  rw [i32_add]
  obtain ⟨σ12, eσ12⟩ : ∃ z, z = pI σ11 rm 50 (gI σ11 rm 50 + 1) := ⟨_, rfl⟩
  have h := h σ12 eσ12
  refine r_puti B hH hS 50 (ty := .int) (by decide) wf_X16_371 rfl rfl rfl rfl rfl rfl dX16_channel_37 (fun H locs hH => ?_)
  have hH : Hd D cA A s (pI σ11 rm 50 (gI σ11 rm 50 + 1)) H locs := hH
  rw [← eσ12] at hH
  have hGσ12 : RG σ12 := by rw [eσ12]; exact hGσ11.pI q7
  have hS : Shp dm ra jx rm σ12 := by rw [eσ12]; exact hS
  have hc : CB n0 s0 σ12 := by rw [eσ12]; exact hc
  rw [show gc σ11 = gc σ12 by rw [eσ12], show gs σ11 = gs σ12 by rw [eσ12]]
  exact hQ _ _ _ _ _ dX16_channel_40 hH hc h hGσ12 hS
theorem ok_X16_channel (hT : Tys cA tys) {Q : Sg → Unit → Prop} {X : Sg → String → Prop} (σ : Sg) (v1 : Int) (v2 : Int) (v3 : Int) (g1 : rng v1) (g2 : rng v2) (g3 : rng v3) (hG : RG σ) (hS : Shp dm ra jx rm σ) (h : wp_X16_channel ra jx rm v1 v2 v3 σ Q X) : Ok l D cA tys A yX16_channel (.code yX16_channel cX16_channel 4 none) 0 0 [.ref rm, .int (i32 v1), .int (i32 v2), .int (i32 v3)] σ (QnV dm ra jx rm Q) (QxR dm ra jx rm X) := by
  unfold wp_X16_channel at h
  exact ok_V (plainFor_of_name (by decide)) (by exact Nat.le_of_ble_eq_true rfl) hT (fun p e R s m args below meth c K hQ hX H locs ls hH hl hc => a_X16_channel_0 K hQ hX σ v1 v2 v3 g1 g2 g3 h hG hS H locs ls hH (lv_sub (l' := [(0, .ref rm), (1, .int (i32 v1)), (2, .int (i32 v2)), (3, .int (i32 v3))]) hl [0, 1, 2, 3] rfl) hc)
theorem dX16_within_0 : decode cX16_within 0 = .ok (.lload_n 0, 1) := by decide +kernel
theorem dX16_within_1 : decode cX16_within 1 = .ok (.lload_n 2, 1) := by decide +kernel
theorem dX16_within_2 : decode cX16_within 2 = .ok (.lcmp, 1) := by decide +kernel
theorem dX16_within_3 : decode cX16_within 3 = .ok (.ifCond .lt 14, 3) := by decide +kernel
theorem dX16_within_6 : decode cX16_within 6 = .ok (.lload_n 0, 1) := by decide +kernel
theorem dX16_within_7 : decode cX16_within 7 = .ok (.lload 4, 2) := by decide +kernel
theorem dX16_within_9 : decode cX16_within 9 = .ok (.lcmp, 1) := by decide +kernel
theorem dX16_within_10 : decode cX16_within 10 = .ok (.ifCond .gt 7, 3) := by decide +kernel
theorem dX16_within_13 : decode cX16_within 13 = .ok (.iconst 1, 1) := by decide +kernel
theorem dX16_within_14 : decode cX16_within 14 = .ok (.goto 4, 3) := by decide +kernel
theorem dX16_within_17 : decode cX16_within 17 = .ok (.iconst 0, 1) := by decide +kernel
theorem dX16_within_18 : decode cX16_within 18 = .ok (.ireturn, 1) := by decide +kernel
set_option maxRecDepth 20000 in
theorem a_X16_within_18 {Q : Sg → Int → Prop} {X : Sg → String → Prop} (K : MC R p s m args c cX16_within 6 RX16 D cA tys A n0 s0 0 0 []) (hQ : HQZ p l e R s m args below meth c cX16_within D cA A n0 s0 QM dm ra jx rm Q) (hX : HX p l e R s m args below meth c 6 D cA A n0 s0 QM dm ra jx rm X) : ∀ (σ : Sg) (u0 : Int) (gu0 : rng u0), w_X16_within_18 ra jx rm Q X σ u0 → RG σ → Shp dm ra jx rm σ → JJ p l e R s m args below meth c 6 D cA A n0 s0 QM σ 18 [] [.int (i32 u0)] := by
  intro σ u0 gu0 h hGσ hS H locs ls hH hl hc
  have B := K.1
  unfold w_X16_within_18 at h
  obtain ⟨qz, h⟩ := h
  exact hQ _ _ _ _ _ _ gu0 qz dX16_within_18 hH hc h hGσ hS
set_option maxRecDepth 20000 in
theorem a_X16_within_17 {Q : Sg → Int → Prop} {X : Sg → String → Prop} (K : MC R p s m args c cX16_within 6 RX16 D cA tys A n0 s0 0 0 []) (hQ : HQZ p l e R s m args below meth c cX16_within D cA A n0 s0 QM dm ra jx rm Q) (hX : HX p l e R s m args below meth c 6 D cA A n0 s0 QM dm ra jx rm X) : ∀ (σ : Sg), w_X16_within_17 ra jx rm Q X σ → RG σ → Shp dm ra jx rm σ → JJ p l e R s m args below meth c 6 D cA A n0 s0 QM σ 17 [] [] := by
  intro σ h hGσ hS H locs ls hH hl hc
  have B := K.1
  unfold w_X16_within_17 at h
  refine lv_iconst (v := i32 0) B.1 B.2.1 dX16_within_17 (by decide) ?_
  exact a_X16_within_18 K hQ hX _ _ (by unfold rng; omega) h hGσ hS _ _ _ hH (lv_sub (l' := []) hl [] rfl) hc
set_option maxRecDepth 20000 in
theorem a_X16_within_13 {Q : Sg → Int → Prop} {X : Sg → String → Prop} (K : MC R p s m args c cX16_within 6 RX16 D cA tys A n0 s0 0 0 []) (hQ : HQZ p l e R s m args below meth c cX16_within D cA A n0 s0 QM dm ra jx rm Q) (hX : HX p l e R s m args below meth c 6 D cA A n0 s0 QM dm ra jx rm X) : ∀ (σ : Sg), w_X16_within_13 ra jx rm Q X σ → RG σ → Shp dm ra jx rm σ → JJ p l e R s m args below meth c 6 D cA A n0 s0 QM σ 13 [] [] := by
  intro σ h hGσ hS H locs ls hH hl hc
  have B := K.1
  unfold w_X16_within_13 at h
  refine lv_iconst (v := i32 1) B.1 B.2.1 dX16_within_13 (by decide) ?_
  refine lv_goto (tgt := 18) B.1 B.2.1 dX16_within_14 (by decide) ?_
  exact a_X16_within_18 K hQ hX _ _ (by unfold rng; omega) h hGσ hS _ _ _ hH (lv_sub (l' := []) hl [] rfl) hc
set_option maxRecDepth 20000 in
theorem a_X16_within_6 {Q : Sg → Int → Prop} {X : Sg → String → Prop} (K : MC R p s m args c cX16_within 6 RX16 D cA tys A n0 s0 0 0 []) (hQ : HQZ p l e R s m args below meth c cX16_within D cA A n0 s0 QM dm ra jx rm Q) (hX : HX p l e R s m args below meth c 6 D cA A n0 s0 QM dm ra jx rm X) : ∀ (σ : Sg) (v0 : Int64) (v4 : Int64), w_X16_within_6 ra jx rm Q X σ v0 v4 → RG σ → Shp dm ra jx rm σ → JJ p l e R s m args below meth c 6 D cA A n0 s0 QM σ 6 [(0, .long v0), (4, .long v4)] [] := by
  intro σ v0 v4 h hGσ hS H locs ls hH hl hc
  have B := K.1
  unfold w_X16_within_6 at h
  refine lv_lload_n B.1 B.2.1 dX16_within_6 rfl (lv_at hl 0 rfl) ?_
  refine lv_lload B.1 B.2.1 dX16_within_7 (lv_at hl 1 rfl) ?_
  refine W.lcmp B.1 B.2.1 dX16_within_9 ?_
  refine lv_if_gt (tgt := 17) B.1 B.2.1 dX16_within_10 (by decide) (fun h9 => ?_) (fun h9 => ?_)
  · rw [if_pos ((lg_cmp_gt _ _).mp h9)] at h
    exact a_X16_within_17 K hQ hX _ h hGσ hS _ _ _ hH (lv_sub (l' := []) hl [] rfl) hc
  · rw [if_neg (fun q => h9 ((lg_cmp_gt _ _).mpr q))] at h
    exact a_X16_within_13 K hQ hX _ h hGσ hS _ _ _ hH (lv_sub (l' := []) hl [] rfl) hc
set_option maxRecDepth 20000 in
theorem a_X16_within_0 {Q : Sg → Int → Prop} {X : Sg → String → Prop} (K : MC R p s m args c cX16_within 6 RX16 D cA tys A n0 s0 0 0 []) (hQ : HQZ p l e R s m args below meth c cX16_within D cA A n0 s0 QM dm ra jx rm Q) (hX : HX p l e R s m args below meth c 6 D cA A n0 s0 QM dm ra jx rm X) : ∀ (σ : Sg) (v0 : Int64) (v2 : Int64) (v4 : Int64), w_X16_within_0 ra jx rm Q X σ v0 v2 v4 → RG σ → Shp dm ra jx rm σ → JJ p l e R s m args below meth c 6 D cA A n0 s0 QM σ 0 [(0, .long v0), (2, .long v2), (4, .long v4)] [] := by
  intro σ v0 v2 v4 h hGσ hS H locs ls hH hl hc
  have B := K.1
  unfold w_X16_within_0 at h
  refine lv_lload_n B.1 B.2.1 dX16_within_0 rfl (lv_at hl 0 rfl) ?_
  refine lv_lload_n B.1 B.2.1 dX16_within_1 rfl (lv_at hl 1 rfl) ?_
  refine W.lcmp B.1 B.2.1 dX16_within_2 ?_
  refine lv_if_lt (tgt := 17) B.1 B.2.1 dX16_within_3 (by decide) (fun h9 => ?_) (fun h9 => ?_)
  · rw [if_pos ((lg_cmp_lt _ _).mp h9)] at h
    exact a_X16_within_17 K hQ hX _ h hGσ hS _ _ _ hH (lv_sub (l' := []) hl [] rfl) hc
  · rw [if_neg (fun q => h9 ((lg_cmp_lt _ _).mpr q))] at h
    exact a_X16_within_6 K hQ hX _ _ _ h hGσ hS _ _ _ hH (lv_sub (l' := [(0, .long v0), (4, .long v4)]) hl [0, 2] rfl) hc
theorem ok_X16_within (hT : Tys cA tys) {Q : Sg → Int → Prop} {X : Sg → String → Prop} (σ : Sg) (v0 : Int64) (v2 : Int64) (v4 : Int64) (hG : RG σ) (hS : Shp dm ra jx rm σ) (h : wp_X16_within ra jx rm v0 v2 v4 σ Q X) : Ok l D cA tys A yX16_within (.code yX16_within cX16_within 6 (some .boolean)) 0 0 [.long v0, .long v2, .long v4] σ (QnZ dm ra jx rm Q) (QxR dm ra jx rm X) := by
  unfold wp_X16_within at h
  exact ok_Z (plainFor_of_name (by decide)) (by exact Nat.le_of_ble_eq_true rfl) hT (fun p e R s m args below meth c K hQ hX H locs ls hH hl hc => a_X16_within_0 K hQ hX σ v0 v2 v4 h hG hS H locs ls hH (lv_sub (l' := [(0, .long v0), (2, .long v2), (4, .long v4)]) hl [0, 1, 2] rfl) hc)
theorem dX16_isKeyed_0 : decode cX16_isKeyed 0 = .ok (.aload_n 0, 1) := by decide +kernel
theorem dX16_isKeyed_1 : decode cX16_isKeyed 1 = .ok (.getfield 356, 3) := by decide +kernel
theorem dX16_isKeyed_4 : decode cX16_isKeyed 4 = .ok (.getfield 246, 3) := by decide +kernel
theorem dX16_isKeyed_7 : decode cX16_isKeyed 7 = .ok (.iload_n 1, 1) := by decide +kernel
theorem dX16_isKeyed_8 : decode cX16_isKeyed 8 = .ok (.iaload, 1) := by decide +kernel
theorem dX16_isKeyed_9 : decode cX16_isKeyed 9 = .ok (.i2l, 1) := by decide +kernel
theorem dX16_isKeyed_10 : decode cX16_isKeyed 10 = .ok (.ldc2_w 359, 3) := by decide +kernel
theorem dX16_isKeyed_13 : decode cX16_isKeyed 13 = .ok (.ldc2_w 273, 3) := by decide +kernel
theorem dX16_isKeyed_16 : decode cX16_isKeyed 16 = .ok (.invokestatic 45, 3) := by decide +kernel
theorem dX16_isKeyed_19 : decode cX16_isKeyed 19 = .ok (.ireturn, 1) := by decide +kernel
set_option maxRecDepth 20000 in
theorem a_X16_isKeyed_0 {Q : Sg → Int → Prop} {X : Sg → String → Prop} (K : MC R p s m args c cX16_isKeyed 2 RX16 D cA tys A n0 s0 1 25 []) (hQ : HQZ p l e R s m args below meth c cX16_isKeyed D cA A n0 s0 QM dm ra jx rm Q) (hX : HX p l e R s m args below meth c 2 D cA A n0 s0 QM dm ra jx rm X) : ∀ (σ : Sg) (v1 : Int) (g1 : rng v1), w_X16_isKeyed_0 ra jx rm Q X σ v1 → RG σ → Shp dm ra jx rm σ → JJ p l e R s m args below meth c 2 D cA A n0 s0 QM σ 0 [(0, .ref rm), (1, .int (i32 v1))] [] := by
  intro σ v1 g1 h hGσ hS H locs ls hH hl hc
  have B := K.1
  unfold w_X16_isKeyed_0 at h
  refine lv_aload_n B.1 B.2.1 dX16_isKeyed_0 rfl (lv_at hl 0 rfl) ?_
  refine r_getp B hH hS 17 (by decide) wf_X16_356 rfl rfl dX16_isKeyed_1 ?_
  obtain ⟨a7, ea7, ja7, h⟩ := h
  refine W.eq (g2 := F0 m 4 ls [.ref a7]) (by rw [ea7]; rfl) ?_
  refine n_arr B hH hS ja7 2 (kd := 100) (n := 16) (by decide) (by decide) (List.mem_of_getElem? (i := 2) rfl) rfl dX16_isKeyed_4 ?_
  refine lv_iload_n B.1 B.2.1 dX16_isKeyed_7 rfl (lv_at hl 1 rfl) ?_
  obtain ⟨q2, h⟩ := h
  refine x_iald B K.2.1 hH (hS.ja ja7 (k := 2) (kd := 100) (n := 16) (by decide)) (by decide) q2 dX16_isKeyed_8 ?_
  refine lv_i2l B.1 B.2.1 dX16_isKeyed_9 (i32_i64 (hGσ _ _)) ?_
  refine lv_ldc2 B.1 B.2.1 B.2.2.1 (B.2.2.2.1 _ (wk_X16_359)) dX16_isKeyed_10 ?_
  refine lv_ldc2 B.1 B.2.1 B.2.2.1 (B.2.2.2.1 _ (wk_X16_273)) dX16_isKeyed_13 ?_
  refine c_S B hH hl hc K.2.2.1 (As := [.long (Int64.ofInt (gI σ (jx a7 2) v1.toNat)), .long 4, .long 9]) (ok_X16_within K.2.1 σ (Int64.ofInt (gI σ (jx a7 2) v1.toNat)) 4 9 hGσ hS h) wc_X16_45 3 hd_X16_within ⟨Nat.le_trans (Nat.le_of_ble_eq_true rfl) K.2.2.2.1, Nat.le_trans (Nat.le_of_ble_eq_true rfl) K.2.2.2.2.1⟩ rfl (rest := []) rfl (Nat.le_of_ble_eq_true rfl) dX16_isKeyed_16 (fun σ8 w hq => ?_) (fun σ9 E9 hx9 => hX σ9 E9 _ _ _ (tb_out K.2.2.2.2.2 rfl) hx9.1 hx9.2.1 hx9.2.2)
  obtain ⟨r9, rfl, ⟨gr9, gzr9⟩, h, hGσ8, hS⟩ := hq
  intro H locs ls hH hl hc
  refine W.eq (g2 := F0 m 19 ls [.int (i32 r9)]) (rfl) ?_
  try dsimp only at h
  obtain ⟨qz, h⟩ := h
  exact hQ _ _ _ _ _ _ gr9 qz dX16_isKeyed_19 hH hc h hGσ8 hS
theorem ok_X16_isKeyed (hT : Tys cA tys) {Q : Sg → Int → Prop} {X : Sg → String → Prop} (σ : Sg) (v1 : Int) (g1 : rng v1) (hG : RG σ) (hS : Shp dm ra jx rm σ) (h : wp_X16_isKeyed ra jx rm v1 σ Q X) : Ok l D cA tys A yX16_isKeyed (.code yX16_isKeyed cX16_isKeyed 2 (some .boolean)) 1 25 [.ref rm, .int (i32 v1)] σ (QnZ dm ra jx rm Q) (QxR dm ra jx rm X) := by
  unfold wp_X16_isKeyed at h
  exact ok_Z (plainFor_of_name (by decide)) (by exact Nat.le_of_ble_eq_true rfl) hT (fun p e R s m args below meth c K hQ hX H locs ls hH hl hc => a_X16_isKeyed_0 K hQ hX σ v1 g1 h hG hS H locs ls hH (lv_sub (l' := [(0, .ref rm), (1, .int (i32 v1))]) hl [0, 1] rfl) hc)
theorem dX16_isSingle_0 : decode cX16_isSingle 0 = .ok (.aload_n 0, 1) := by decide +kernel
theorem dX16_isSingle_1 : decode cX16_isSingle 1 = .ok (.getfield 356, 3) := by decide +kernel
theorem dX16_isSingle_4 : decode cX16_isSingle 4 = .ok (.getfield 246, 3) := by decide +kernel
theorem dX16_isSingle_7 : decode cX16_isSingle 7 = .ok (.iload_n 1, 1) := by decide +kernel
theorem dX16_isSingle_8 : decode cX16_isSingle 8 = .ok (.iaload, 1) := by decide +kernel
theorem dX16_isSingle_9 : decode cX16_isSingle 9 = .ok (.istore_n 2, 1) := by decide +kernel
theorem dX16_isSingle_10 : decode cX16_isSingle 10 = .ok (.iload_n 2, 1) := by decide +kernel
theorem dX16_isSingle_11 : decode cX16_isSingle 11 = .ok (.ifCond .eq 15, 3) := by decide +kernel
theorem dX16_isSingle_14 : decode cX16_isSingle 14 = .ok (.iload_n 2, 1) := by decide +kernel
theorem dX16_isSingle_15 : decode cX16_isSingle 15 = .ok (.bipush 10, 2) := by decide +kernel
theorem dX16_isSingle_17 : decode cX16_isSingle 17 = .ok (.if_icmp .eq 9, 3) := by decide +kernel
theorem dX16_isSingle_20 : decode cX16_isSingle 20 = .ok (.iload_n 2, 1) := by decide +kernel
theorem dX16_isSingle_21 : decode cX16_isSingle 21 = .ok (.bipush 11, 2) := by decide +kernel
theorem dX16_isSingle_23 : decode cX16_isSingle 23 = .ok (.if_icmp .ne 7, 3) := by decide +kernel
theorem dX16_isSingle_26 : decode cX16_isSingle 26 = .ok (.iconst 1, 1) := by decide +kernel
theorem dX16_isSingle_27 : decode cX16_isSingle 27 = .ok (.goto 4, 3) := by decide +kernel
theorem dX16_isSingle_30 : decode cX16_isSingle 30 = .ok (.iconst 0, 1) := by decide +kernel
theorem dX16_isSingle_31 : decode cX16_isSingle 31 = .ok (.ireturn, 1) := by decide +kernel
set_option maxRecDepth 20000 in
theorem a_X16_isSingle_31 {Q : Sg → Int → Prop} {X : Sg → String → Prop} (K : MC R p s m args c cX16_isSingle 3 RX16 D cA tys A n0 s0 0 0 []) (hQ : HQZ p l e R s m args below meth c cX16_isSingle D cA A n0 s0 QM dm ra jx rm Q) (hX : HX p l e R s m args below meth c 3 D cA A n0 s0 QM dm ra jx rm X) : ∀ (σ : Sg) (u0 : Int) (gu0 : rng u0), w_X16_isSingle_31 ra jx rm Q X σ u0 → RG σ → Shp dm ra jx rm σ → JJ p l e R s m args below meth c 3 D cA A n0 s0 QM σ 31 [(0, .ref rm)] [.int (i32 u0)] := by
  intro σ u0 gu0 h hGσ hS H locs ls hH hl hc
  have B := K.1
  unfold w_X16_isSingle_31 at h
  obtain ⟨qz, h⟩ := h
  exact hQ _ _ _ _ _ _ gu0 qz dX16_isSingle_31 hH hc h hGσ hS
set_option maxRecDepth 20000 in
theorem a_X16_isSingle_26 {Q : Sg → Int → Prop} {X : Sg → String → Prop} (K : MC R p s m args c cX16_isSingle 3 RX16 D cA tys A n0 s0 0 0 []) (hQ : HQZ p l e R s m args below meth c cX16_isSingle D cA A n0 s0 QM dm ra jx rm Q) (hX : HX p l e R s m args below meth c 3 D cA A n0 s0 QM dm ra jx rm X) : ∀ (σ : Sg), w_X16_isSingle_26 ra jx rm Q X σ → RG σ → Shp dm ra jx rm σ → JJ p l e R s m args below meth c 3 D cA A n0 s0 QM σ 26 [(0, .ref rm)] [] := by
  intro σ h hGσ hS H locs ls hH hl hc
  have B := K.1
  unfold w_X16_isSingle_26 at h
  refine lv_iconst (v := i32 1) B.1 B.2.1 dX16_isSingle_26 (by decide) ?_
  refine lv_goto (tgt := 31) B.1 B.2.1 dX16_isSingle_27 (by decide) ?_
  exact a_X16_isSingle_31 K hQ hX _ _ (by unfold rng; omega) h hGσ hS _ _ _ hH (lv_sub (l' := [(0, .ref rm)]) hl [0] rfl) hc
set_option maxRecDepth 20000 in
theorem a_X16_isSingle_30 {Q : Sg → Int → Prop} {X : Sg → String → Prop} (K : MC R p s m args c cX16_isSingle 3 RX16 D cA tys A n0 s0 0 0 []) (hQ : HQZ p l e R s m args below meth c cX16_isSingle D cA A n0 s0 QM dm ra jx rm Q) (hX : HX p l e R s m args below meth c 3 D cA A n0 s0 QM dm ra jx rm X) : ∀ (σ : Sg), w_X16_isSingle_30 ra jx rm Q X σ → RG σ → Shp dm ra jx rm σ → JJ p l e R s m args below meth c 3 D cA A n0 s0 QM σ 30 [(0, .ref rm)] [] := by
  intro σ h hGσ hS H locs ls hH hl hc
  have B := K.1
  unfold w_X16_isSingle_30 at h
  refine lv_iconst (v := i32 0) B.1 B.2.1 dX16_isSingle_30 (by decide) ?_
  exact a_X16_isSingle_31 K hQ hX _ _ (by unfold rng; omega) h hGσ hS _ _ _ hH (lv_sub (l' := [(0, .ref rm)]) hl [0] rfl) hc
set_option maxRecDepth 20000 in
theorem a_X16_isSingle_20 {Q : Sg → Int → Prop} {X : Sg → String → Prop} (K : MC R p s m args c cX16_isSingle 3 RX16 D cA tys A n0 s0 0 0 []) (hQ : HQZ p l e R s m args below meth c cX16_isSingle D cA A n0 s0 QM dm ra jx rm Q) (hX : HX p l e R s m args below meth c 3 D cA A n0 s0 QM dm ra jx rm X) : ∀ (σ : Sg) (v2 : Int) (g2 : rng v2), w_X16_isSingle_20 ra jx rm Q X σ v2 → RG σ → Shp dm ra jx rm σ → JJ p l e R s m args below meth c 3 D cA A n0 s0 QM σ 20 [(0, .ref rm), (2, .int (i32 v2))] [] := by
  intro σ v2 g2 h hGσ hS H locs ls hH hl hc
  have B := K.1
  unfold w_X16_isSingle_20 at h
  refine lv_iload_n B.1 B.2.1 dX16_isSingle_20 rfl (lv_at hl 1 rfl) ?_
  refine lv_bipush (v := i32 11) B.1 B.2.1 dX16_isSingle_21 (by decide) ?_
  refine lv_icmp_ne (tgt := 30) B.1 B.2.1 dX16_isSingle_23 (by decide) (fun h9 => ?_) (fun h9 => ?_)
  · rw [if_pos (fun q => h9 ((i32_eq g2 (by unfold rng; omega)).mpr q))] at h
    exact a_X16_isSingle_30 K hQ hX _ h hGσ hS _ _ _ hH (lv_sub (l' := [(0, .ref rm)]) hl [0] rfl) hc
  · rw [if_neg (fun q => q ((i32_eq g2 (by unfold rng; omega)).mp h9))] at h
    exact a_X16_isSingle_26 K hQ hX _ h hGσ hS _ _ _ hH (lv_sub (l' := [(0, .ref rm)]) hl [0] rfl) hc
set_option maxRecDepth 20000 in
theorem a_X16_isSingle_14 {Q : Sg → Int → Prop} {X : Sg → String → Prop} (K : MC R p s m args c cX16_isSingle 3 RX16 D cA tys A n0 s0 0 0 []) (hQ : HQZ p l e R s m args below meth c cX16_isSingle D cA A n0 s0 QM dm ra jx rm Q) (hX : HX p l e R s m args below meth c 3 D cA A n0 s0 QM dm ra jx rm X) : ∀ (σ : Sg) (v2 : Int) (g2 : rng v2), w_X16_isSingle_14 ra jx rm Q X σ v2 → RG σ → Shp dm ra jx rm σ → JJ p l e R s m args below meth c 3 D cA A n0 s0 QM σ 14 [(0, .ref rm), (2, .int (i32 v2))] [] := by
  intro σ v2 g2 h hGσ hS H locs ls hH hl hc
  have B := K.1
  unfold w_X16_isSingle_14 at h
  refine lv_iload_n B.1 B.2.1 dX16_isSingle_14 rfl (lv_at hl 1 rfl) ?_
  refine lv_bipush (v := i32 10) B.1 B.2.1 dX16_isSingle_15 (by decide) ?_
  refine lv_icmp_eq (tgt := 26) B.1 B.2.1 dX16_isSingle_17 (by decide) (fun h9 => ?_) (fun h9 => ?_)
  · rw [if_pos ((i32_eq g2 (by unfold rng; omega)).mp h9)] at h
    exact a_X16_isSingle_26 K hQ hX _ h hGσ hS _ _ _ hH (lv_sub (l' := [(0, .ref rm)]) hl [0] rfl) hc
  · rw [if_neg (fun q => h9 ((i32_eq g2 (by unfold rng; omega)).mpr q))] at h
    exact a_X16_isSingle_20 K hQ hX _ _ g2 h hGσ hS _ _ _ hH (lv_sub (l' := [(0, .ref rm), (2, .int (i32 v2))]) hl [0, 1] rfl) hc
set_option maxRecDepth 20000 in
theorem a_X16_isSingle_0 {Q : Sg → Int → Prop} {X : Sg → String → Prop} (K : MC R p s m args c cX16_isSingle 3 RX16 D cA tys A n0 s0 0 0 []) (hQ : HQZ p l e R s m args below meth c cX16_isSingle D cA A n0 s0 QM dm ra jx rm Q) (hX : HX p l e R s m args below meth c 3 D cA A n0 s0 QM dm ra jx rm X) : ∀ (σ : Sg) (v1 : Int) (g1 : rng v1), w_X16_isSingle_0 ra jx rm Q X σ v1 → RG σ → Shp dm ra jx rm σ → JJ p l e R s m args below meth c 3 D cA A n0 s0 QM σ 0 [(0, .ref rm), (1, .int (i32 v1))] [] := by
  intro σ v1 g1 h hGσ hS H locs ls hH hl hc
  have B := K.1
  unfold w_X16_isSingle_0 at h
  refine lv_aload_n B.1 B.2.1 dX16_isSingle_0 rfl (lv_at hl 0 rfl) ?_
  refine r_getp B hH hS 17 (by decide) wf_X16_356 rfl rfl dX16_isSingle_1 ?_
  obtain ⟨a3, ea3, ja3, h⟩ := h
  refine W.eq (g2 := F0 m 4 ls [.ref a3]) (by rw [ea3]; rfl) ?_
  refine n_arr B hH hS ja3 2 (kd := 100) (n := 16) (by decide) (by decide) (List.mem_of_getElem? (i := 2) rfl) rfl dX16_isSingle_4 ?_
  refine lv_iload_n B.1 B.2.1 dX16_isSingle_7 rfl (lv_at hl 1 rfl) ?_
  obtain ⟨q2, h⟩ := h
  refine x_iald B K.2.1 hH (hS.ja ja3 (k := 2) (kd := 100) (n := 16) (by decide)) (by decide) q2 dX16_isSingle_8 ?_
  refine lv_istore_n (lv' := [(2, .int (i32 (gI σ (jx a3 2) v1.toNat))), (0, .ref rm), (1, .int (i32 v1))]) B.1 B.2.1 dX16_isSingle_9 rfl hl (by decide) rfl (fun ls hl => ?_)
  refine lv_iload_n B.1 B.2.1 dX16_isSingle_10 rfl (lv_at hl 0 rfl) ?_
  refine lv_if_eq (tgt := 26) B.1 B.2.1 dX16_isSingle_11 (by decide) (fun h9 => ?_) (fun h9 => ?_)
  · rw [if_pos ((z_eq (hGσ _ _)).mp h9)] at h
    exact a_X16_isSingle_26 K hQ hX _ h hGσ hS _ _ _ hH (lv_sub (l' := [(0, .ref rm)]) hl [1] rfl) hc
  · rw [if_neg (fun q => h9 ((z_eq (hGσ _ _)).mpr q))] at h
    exact a_X16_isSingle_14 K hQ hX _ _ (hGσ _ _) h hGσ hS _ _ _ hH (lv_sub (l' := [(0, .ref rm), (2, .int (i32 (gI σ (jx a3 2) v1.toNat)))]) hl [1, 0] rfl) hc
theorem ok_X16_isSingle (hT : Tys cA tys) {Q : Sg → Int → Prop} {X : Sg → String → Prop} (σ : Sg) (v1 : Int) (g1 : rng v1) (hG : RG σ) (hS : Shp dm ra jx rm σ) (h : wp_X16_isSingle ra jx rm v1 σ Q X) : Ok l D cA tys A yX16_isSingle (.code yX16_isSingle cX16_isSingle 3 (some .boolean)) 0 0 [.ref rm, .int (i32 v1)] σ (QnZ dm ra jx rm Q) (QxR dm ra jx rm X) := by
  unfold wp_X16_isSingle at h
  exact ok_Z (plainFor_of_name (by decide)) (by exact Nat.le_of_ble_eq_true rfl) hT (fun p e R s m args below meth c K hQ hX H locs ls hH hl hc => a_X16_isSingle_0 K hQ hX σ v1 g1 h hG hS H locs ls hH (lv_sub (l' := [(0, .ref rm), (1, .int (i32 v1))]) hl [0, 1] rfl) hc)
theorem dX16_partsOf_0 : decode cX16_partsOf 0 = .ok (.aload_n 0, 1) := by decide +kernel
theorem dX16_partsOf_1 : decode cX16_partsOf 1 = .ok (.iload_n 1, 1) := by decide +kernel
theorem dX16_partsOf_2 : decode cX16_partsOf 2 = .ok (.invokevirtual 361, 3) := by decide +kernel
theorem dX16_partsOf_5 : decode cX16_partsOf 5 = .ok (.ifCond .eq 7, 3) := by decide +kernel
theorem dX16_partsOf_8 : decode cX16_partsOf 8 = .ok (.iconst 1, 1) := by decide +kernel
theorem dX16_partsOf_9 : decode cX16_partsOf 9 = .ok (.goto 7, 3) := by decide +kernel
theorem dX16_partsOf_12 : decode cX16_partsOf 12 = .ok (.aload_n 0, 1) := by decide +kernel
theorem dX16_partsOf_13 : decode cX16_partsOf 13 = .ok (.getfield 365, 3) := by decide +kernel
theorem dX16_partsOf_16 : decode cX16_partsOf 16 = .ok (.ireturn, 1) := by decide +kernel
set_option maxRecDepth 20000 in
theorem a_X16_partsOf_16 {Q : Sg → Int → Prop} {X : Sg → String → Prop} (K : MC R p s m args c cX16_partsOf 2 RX16 D cA tys A n0 s0 1 22 []) (hQ : HQI p l e R s m args below meth c cX16_partsOf D cA A n0 s0 QM dm ra jx rm Q) (hX : HX p l e R s m args below meth c 2 D cA A n0 s0 QM dm ra jx rm X) : ∀ (σ : Sg) (u0 : Int) (gu0 : rng u0), w_X16_partsOf_16 ra jx rm Q X σ u0 → RG σ → Shp dm ra jx rm σ → JJ p l e R s m args below meth c 2 D cA A n0 s0 QM σ 16 [(0, .ref rm)] [.int (i32 u0)] := by
  intro σ u0 gu0 h hGσ hS H locs ls hH hl hc
  have B := K.1
  unfold w_X16_partsOf_16 at h
  exact hQ _ _ _ _ _ _ gu0 dX16_partsOf_16 hH hc h hGσ hS
set_option maxRecDepth 20000 in
theorem a_X16_partsOf_12 {Q : Sg → Int → Prop} {X : Sg → String → Prop} (K : MC R p s m args c cX16_partsOf 2 RX16 D cA tys A n0 s0 1 22 []) (hQ : HQI p l e R s m args below meth c cX16_partsOf D cA A n0 s0 QM dm ra jx rm Q) (hX : HX p l e R s m args below meth c 2 D cA A n0 s0 QM dm ra jx rm X) : ∀ (σ : Sg), w_X16_partsOf_12 ra jx rm Q X σ → RG σ → Shp dm ra jx rm σ → JJ p l e R s m args below meth c 2 D cA A n0 s0 QM σ 12 [(0, .ref rm)] [] := by
  intro σ h hGσ hS H locs ls hH hl hc
  have B := K.1
  unfold w_X16_partsOf_12 at h
  refine lv_aload_n B.1 B.2.1 dX16_partsOf_12 rfl (lv_at hl 0 rfl) ?_
  refine r_geti B hH hS 33 (by decide) wf_X16_365 rfl rfl dX16_partsOf_13 ?_
  exact a_X16_partsOf_16 K hQ hX _ _ (hGσ _ _) h hGσ hS _ _ _ hH (lv_sub (l' := [(0, .ref rm)]) hl [0] rfl) hc
set_option maxRecDepth 20000 in
theorem a_X16_partsOf_8 {Q : Sg → Int → Prop} {X : Sg → String → Prop} (K : MC R p s m args c cX16_partsOf 2 RX16 D cA tys A n0 s0 1 22 []) (hQ : HQI p l e R s m args below meth c cX16_partsOf D cA A n0 s0 QM dm ra jx rm Q) (hX : HX p l e R s m args below meth c 2 D cA A n0 s0 QM dm ra jx rm X) : ∀ (σ : Sg), w_X16_partsOf_8 ra jx rm Q X σ → RG σ → Shp dm ra jx rm σ → JJ p l e R s m args below meth c 2 D cA A n0 s0 QM σ 8 [(0, .ref rm)] [] := by
  intro σ h hGσ hS H locs ls hH hl hc
  have B := K.1
  unfold w_X16_partsOf_8 at h
  refine lv_iconst (v := i32 1) B.1 B.2.1 dX16_partsOf_8 (by decide) ?_
  refine lv_goto (tgt := 16) B.1 B.2.1 dX16_partsOf_9 (by decide) ?_
  exact a_X16_partsOf_16 K hQ hX _ _ (by unfold rng; omega) h hGσ hS _ _ _ hH (lv_sub (l' := [(0, .ref rm)]) hl [0] rfl) hc
set_option maxRecDepth 20000 in
theorem a_X16_partsOf_0 {Q : Sg → Int → Prop} {X : Sg → String → Prop} (K : MC R p s m args c cX16_partsOf 2 RX16 D cA tys A n0 s0 1 22 []) (hQ : HQI p l e R s m args below meth c cX16_partsOf D cA A n0 s0 QM dm ra jx rm Q) (hX : HX p l e R s m args below meth c 2 D cA A n0 s0 QM dm ra jx rm X) : ∀ (σ : Sg) (v1 : Int) (g1 : rng v1), w_X16_partsOf_0 ra jx rm Q X σ v1 → RG σ → Shp dm ra jx rm σ → JJ p l e R s m args below meth c 2 D cA A n0 s0 QM σ 0 [(0, .ref rm), (1, .int (i32 v1))] [] := by
  intro σ v1 g1 h hGσ hS H locs ls hH hl hc
  have B := K.1
  unfold w_X16_partsOf_0 at h
  refine lv_aload_n B.1 B.2.1 dX16_partsOf_0 rfl (lv_at hl 0 rfl) ?_
  refine lv_iload_n B.1 B.2.1 dX16_partsOf_1 rfl (lv_at hl 1 rfl) ?_
  refine c_V B hH hl hc K.2.2.1 (C := RX16) (T := TX16) (N := 123) (ci := 16) (As := [.int (i32 v1)]) (ok_X16_isSingle K.2.1 σ v1 g1 hGσ hS h) wc_X16_361 1 hd_X16_isSingle ⟨Nat.le_trans (Nat.le_of_ble_eq_true rfl) K.2.2.2.1, Nat.le_trans (Nat.le_of_ble_eq_true rfl) K.2.2.2.2.1⟩ hS.1.1 hS.1.2 (by decide) rfl rfl (rest := []) rfl (Nat.le_of_ble_eq_true rfl) dX16_partsOf_2 (fun σ5 w hq => ?_) (fun σ9 E9 hx9 => hX σ9 E9 _ _ _ (tb_out K.2.2.2.2.2 rfl) hx9.1 hx9.2.1 hx9.2.2)
  obtain ⟨r6, rfl, ⟨gr6, gzr6⟩, h, hGσ5, hS⟩ := hq
  intro H locs ls hH hl hc
  refine W.eq (g2 := F0 m 5 ls [.int (i32 r6)]) (rfl) ?_
  try dsimp only at h
  refine lv_if_eq (tgt := 12) B.1 B.2.1 dX16_partsOf_5 (by decide) (fun h9 => ?_) (fun h9 => ?_)
  · rw [if_pos ((z_eq gr6).mp h9)] at h
    exact a_X16_partsOf_12 K hQ hX _ h hGσ5 hS _ _ _ hH (lv_sub (l' := [(0, .ref rm)]) hl [0] rfl) hc
  · rw [if_neg (fun q => h9 ((z_eq gr6).mpr q))] at h
    exact a_X16_partsOf_8 K hQ hX _ h hGσ5 hS _ _ _ hH (lv_sub (l' := [(0, .ref rm)]) hl [0] rfl) hc
theorem ok_X16_partsOf (hT : Tys cA tys) {Q : Sg → Int → Prop} {X : Sg → String → Prop} (σ : Sg) (v1 : Int) (g1 : rng v1) (hG : RG σ) (hS : Shp dm ra jx rm σ) (h : wp_X16_partsOf ra jx rm v1 σ Q X) : Ok l D cA tys A yX16_partsOf (.code yX16_partsOf cX16_partsOf 2 (some .int)) 1 22 [.ref rm, .int (i32 v1)] σ (QnI dm ra jx rm Q) (QxR dm ra jx rm X) := by
  unfold wp_X16_partsOf at h
  exact ok_I (plainFor_of_name (by decide)) (by exact Nat.le_of_ble_eq_true rfl) hT (fun p e R s m args below meth c K hQ hX H locs ls hH hl hc => a_X16_partsOf_0 K hQ hX σ v1 g1 h hG hS H locs ls hH (lv_sub (l' := [(0, .ref rm), (1, .int (i32 v1))]) hl [0, 1] rfl) hc)
theorem dX16_layChannels_0 : decode cX16_layChannels 0 = .ok (.aload_n 0, 1) := by decide +kernel
theorem dX16_layChannels_1 : decode cX16_layChannels 1 = .ok (.getfield 380, 3) := by decide +kernel
theorem dX16_layChannels_4 : decode cX16_layChannels 4 = .ok (.iload_n 1, 1) := by decide +kernel
theorem dX16_layChannels_5 : decode cX16_layChannels 5 = .ok (.iaload, 1) := by decide +kernel
theorem dX16_layChannels_6 : decode cX16_layChannels 6 = .ok (.istore 4, 2) := by decide +kernel
theorem dX16_layChannels_8 : decode cX16_layChannels 8 = .ok (.aload_n 0, 1) := by decide +kernel
theorem dX16_layChannels_9 : decode cX16_layChannels 9 = .ok (.iload 4, 2) := by decide +kernel
theorem dX16_layChannels_11 : decode cX16_layChannels 11 = .ok (.invokevirtual 383, 3) := by decide +kernel
theorem dX16_layChannels_14 : decode cX16_layChannels 14 = .ok (.ifCond .ne 12, 3) := by decide +kernel
theorem dX16_layChannels_17 : decode cX16_layChannels 17 = .ok (.aload_n 0, 1) := by decide +kernel
theorem dX16_layChannels_18 : decode cX16_layChannels 18 = .ok (.iload 4, 2) := by decide +kernel
theorem dX16_layChannels_20 : decode cX16_layChannels 20 = .ok (.invokevirtual 361, 3) := by decide +kernel
theorem dX16_layChannels_23 : decode cX16_layChannels 23 = .ok (.ifCond .eq 7, 3) := by decide +kernel
theorem dX16_layChannels_26 : decode cX16_layChannels 26 = .ok (.iconst 1, 1) := by decide +kernel
theorem dX16_layChannels_27 : decode cX16_layChannels 27 = .ok (.goto 4, 3) := by decide +kernel
theorem dX16_layChannels_30 : decode cX16_layChannels 30 = .ok (.iconst 0, 1) := by decide +kernel
theorem dX16_layChannels_31 : decode cX16_layChannels 31 = .ok (.istore 5, 2) := by decide +kernel
theorem dX16_layChannels_33 : decode cX16_layChannels 33 = .ok (.aload_n 0, 1) := by decide +kernel
theorem dX16_layChannels_34 : decode cX16_layChannels 34 = .ok (.iload_n 3, 1) := by decide +kernel
theorem dX16_layChannels_35 : decode cX16_layChannels 35 = .ok (.invokevirtual 386, 3) := by decide +kernel
theorem dX16_layChannels_38 : decode cX16_layChannels 38 = .ok (.istore 6, 2) := by decide +kernel
theorem dX16_layChannels_40 : decode cX16_layChannels 40 = .ok (.iload 5, 2) := by decide +kernel
theorem dX16_layChannels_42 : decode cX16_layChannels 42 = .ok (.ifCond .eq 37, 3) := by decide +kernel
theorem dX16_layChannels_45 : decode cX16_layChannels 45 = .ok (.iconst 0, 1) := by decide +kernel
theorem dX16_layChannels_46 : decode cX16_layChannels 46 = .ok (.istore 7, 2) := by decide +kernel
theorem dX16_layChannels_48 : decode cX16_layChannels 48 = .ok (.iload 7, 2) := by decide +kernel
theorem dX16_layChannels_50 : decode cX16_layChannels 50 = .ok (.iload 6, 2) := by decide +kernel
theorem dX16_layChannels_52 : decode cX16_layChannels 52 = .ok (.if_icmp .ge 24, 3) := by decide +kernel
theorem dX16_layChannels_55 : decode cX16_layChannels 55 = .ok (.aload_n 0, 1) := by decide +kernel
theorem dX16_layChannels_56 : decode cX16_layChannels 56 = .ok (.aload_n 0, 1) := by decide +kernel
theorem dX16_layChannels_57 : decode cX16_layChannels 57 = .ok (.getfield 389, 3) := by decide +kernel
theorem dX16_layChannels_60 : decode cX16_layChannels 60 = .ok (.iload_n 3, 1) := by decide +kernel
theorem dX16_layChannels_61 : decode cX16_layChannels 61 = .ok (.iaload, 1) := by decide +kernel
theorem dX16_layChannels_62 : decode cX16_layChannels 62 = .ok (.iload 7, 2) := by decide +kernel
theorem dX16_layChannels_64 : decode cX16_layChannels 64 = .ok (.iadd, 1) := by decide +kernel
theorem dX16_layChannels_65 : decode cX16_layChannels 65 = .ok (.iload_n 1, 1) := by decide +kernel
theorem dX16_layChannels_66 : decode cX16_layChannels 66 = .ok (.iload_n 2, 1) := by decide +kernel
theorem dX16_layChannels_67 : decode cX16_layChannels 67 = .ok (.invokevirtual 392, 3) := by decide +kernel
theorem dX16_layChannels_70 : decode cX16_layChannels 70 = .ok (.iinc 7 1, 3) := by decide +kernel
theorem dX16_layChannels_73 : decode cX16_layChannels 73 = .ok (.goto (-25), 3) := by decide +kernel
theorem dX16_layChannels_76 : decode cX16_layChannels 76 = .ok (.goto 34, 3) := by decide +kernel
theorem dX16_layChannels_79 : decode cX16_layChannels 79 = .ok (.aload_n 0, 1) := by decide +kernel
theorem dX16_layChannels_80 : decode cX16_layChannels 80 = .ok (.aload_n 0, 1) := by decide +kernel
theorem dX16_layChannels_81 : decode cX16_layChannels 81 = .ok (.getfield 389, 3) := by decide +kernel
theorem dX16_layChannels_84 : decode cX16_layChannels 84 = .ok (.iload_n 3, 1) := by decide +kernel
theorem dX16_layChannels_85 : decode cX16_layChannels 85 = .ok (.iaload, 1) := by decide +kernel
theorem dX16_layChannels_86 : decode cX16_layChannels 86 = .ok (.aload_n 0, 1) := by decide +kernel
theorem dX16_layChannels_87 : decode cX16_layChannels 87 = .ok (.iload_n 3, 1) := by decide +kernel
theorem dX16_layChannels_88 : decode cX16_layChannels 88 = .ok (.invokevirtual 361, 3) := by decide +kernel
theorem dX16_layChannels_91 : decode cX16_layChannels 91 = .ok (.ifCond .eq 7, 3) := by decide +kernel
theorem dX16_layChannels_94 : decode cX16_layChannels 94 = .ok (.iconst 0, 1) := by decide +kernel
theorem dX16_layChannels_95 : decode cX16_layChannels 95 = .ok (.goto 9, 3) := by decide +kernel
theorem dX16_layChannels_98 : decode cX16_layChannels 98 = .ok (.aload_n 0, 1) := by decide +kernel
theorem dX16_layChannels_99 : decode cX16_layChannels 99 = .ok (.getfield 396, 3) := by decide +kernel
theorem dX16_layChannels_102 : decode cX16_layChannels 102 = .ok (.iload_n 1, 1) := by decide +kernel
theorem dX16_layChannels_103 : decode cX16_layChannels 103 = .ok (.iaload, 1) := by decide +kernel
theorem dX16_layChannels_104 : decode cX16_layChannels 104 = .ok (.iadd, 1) := by decide +kernel
theorem dX16_layChannels_105 : decode cX16_layChannels 105 = .ok (.iload_n 1, 1) := by decide +kernel
theorem dX16_layChannels_106 : decode cX16_layChannels 106 = .ok (.iload_n 2, 1) := by decide +kernel
theorem dX16_layChannels_107 : decode cX16_layChannels 107 = .ok (.invokevirtual 392, 3) := by decide +kernel
theorem dX16_layChannels_110 : decode cX16_layChannels 110 = .ok (.return_, 1) := by decide +kernel
set_option maxRecDepth 20000 in
theorem a_X16_layChannels_110 {Q : Sg → Unit → Prop} {X : Sg → String → Prop} (K : MC R p s m args c cX16_layChannels 8 RX16 D cA tys A n0 s0 2 46 []) (hQ : HQV p l e R s m args below meth c cX16_layChannels D cA A n0 s0 QM dm ra jx rm Q) (hX : HX p l e R s m args below meth c 8 D cA A n0 s0 QM dm ra jx rm X) : ∀ (σ : Sg), w_X16_layChannels_110 ra jx rm Q X σ → RG σ → Shp dm ra jx rm σ → JJ p l e R s m args below meth c 8 D cA A n0 s0 QM σ 110 [(0, .ref rm)] [] := by
  intro σ h hGσ hS H locs ls hH hl hc
  have B := K.1
  unfold w_X16_layChannels_110 at h
  exact hQ _ _ _ _ _ dX16_layChannels_110 hH hc h hGσ hS
set_option maxRecDepth 20000 in
theorem a_X16_layChannels_104 {Q : Sg → Unit → Prop} {X : Sg → String → Prop} (K : MC R p s m args c cX16_layChannels 8 RX16 D cA tys A n0 s0 2 46 []) (hQ : HQV p l e R s m args below meth c cX16_layChannels D cA A n0 s0 QM dm ra jx rm Q) (hX : HX p l e R s m args below meth c 8 D cA A n0 s0 QM dm ra jx rm X) : ∀ (σ : Sg) (v1 : Int) (v2 : Int) (u0 : Int) (u1 : Int) (g1 : rng v1) (g2 : rng v2) (gu0 : rng u0) (gu1 : rng u1), w_X16_layChannels_104 ra jx rm Q X σ v1 v2 u0 u1 → RG σ → Shp dm ra jx rm σ → JJ p l e R s m args below meth c 8 D cA A n0 s0 QM σ 104 [(0, .ref rm), (1, .int (i32 v1)), (2, .int (i32 v2))] [.int (i32 u0), .int (i32 u1), .ref rm] := by
  intro σ v1 v2 u0 u1 g1 g2 gu0 gu1 h hGσ hS H locs ls hH hl hc
  have B := K.1
  unfold w_X16_layChannels_104 at h
  obtain ⟨q1, h⟩ := h
  refine lv_iadd B.1 B.2.1 dX16_layChannels_104 ?_
  rw [i32_add]
  refine lv_iload_n B.1 B.2.1 dX16_layChannels_105 rfl (lv_at hl 1 rfl) ?_
  refine lv_iload_n B.1 B.2.1 dX16_layChannels_106 rfl (lv_at hl 2 rfl) ?_
  refine c_V B hH hl hc K.2.2.1 (C := RX16) (T := TX16) (N := 123) (ci := 16) (As := [.int (i32 (u1 + u0)), .int (i32 v1), .int (i32 v2)]) (ok_X16_channel K.2.1 σ (u1 + u0) v1 v2 q1 g1 g2 hGσ hS h) wc_X16_392 3 hd_X16_channel ⟨Nat.le_trans (Nat.le_of_ble_eq_true rfl) K.2.2.2.1, Nat.le_trans (Nat.le_of_ble_eq_true rfl) K.2.2.2.2.1⟩ hS.1.1 hS.1.2 (by decide) rfl rfl (rest := []) rfl (Nat.le_of_ble_eq_true rfl) dX16_layChannels_107 (fun σ21 w hq => ?_) (fun σ9 E9 hx9 => hX σ9 E9 _ _ _ (tb_out K.2.2.2.2.2 rfl) hx9.1 hx9.2.1 hx9.2.2)
  obtain ⟨rfl, h, hGσ21, hS⟩ := hq
  intro H locs ls hH hl hc
  refine W.eq (g2 := F0 m 110 ls []) (rfl) ?_
  try dsimp only at h
  exact a_X16_layChannels_110 K hQ hX _ h hGσ21 hS _ _ _ hH (lv_sub (l' := [(0, .ref rm)]) hl [0] rfl) hc
set_option maxRecDepth 20000 in
theorem a_X16_layChannels_98 {Q : Sg → Unit → Prop} {X : Sg → String → Prop} (K : MC R p s m args c cX16_layChannels 8 RX16 D cA tys A n0 s0 2 46 []) (hQ : HQV p l e R s m args below meth c cX16_layChannels D cA A n0 s0 QM dm ra jx rm Q) (hX : HX p l e R s m args below meth c 8 D cA A n0 s0 QM dm ra jx rm X) : ∀ (σ : Sg) (v1 : Int) (v2 : Int) (u0 : Int) (g1 : rng v1) (g2 : rng v2) (gu0 : rng u0), w_X16_layChannels_98 ra jx rm Q X σ v1 v2 u0 → RG σ → Shp dm ra jx rm σ → JJ p l e R s m args below meth c 8 D cA A n0 s0 QM σ 98 [(0, .ref rm), (1, .int (i32 v1)), (2, .int (i32 v2))] [.int (i32 u0), .ref rm] := by
  intro σ v1 v2 u0 g1 g2 gu0 h hGσ hS H locs ls hH hl hc
  have B := K.1
  unfold w_X16_layChannels_98 at h
  refine lv_aload_n B.1 B.2.1 dX16_layChannels_98 rfl (lv_at hl 0 rfl) ?_
  refine r_arr B hH hS 39 (kd := 100) (n := 64) (by decide) (by decide) wf_X16_396 rfl rfl dX16_layChannels_99 ?_
  refine lv_iload_n B.1 B.2.1 dX16_layChannels_102 rfl (lv_at hl 1 rfl) ?_
  obtain ⟨q1, h⟩ := h
  refine x_iald B K.2.1 hH (hS.ar (k := 39) (kd := 100) (n := 64) (by decide)) (by decide) q1 dX16_layChannels_103 ?_
  exact a_X16_layChannels_104 K hQ hX _ _ _ _ _ g1 g2 (hGσ _ _) gu0 h hGσ hS _ _ _ hH (lv_sub (l' := [(0, .ref rm), (1, .int (i32 v1)), (2, .int (i32 v2))]) hl [0, 1, 2] rfl) hc
set_option maxRecDepth 20000 in
theorem a_X16_layChannels_94 {Q : Sg → Unit → Prop} {X : Sg → String → Prop} (K : MC R p s m args c cX16_layChannels 8 RX16 D cA tys A n0 s0 2 46 []) (hQ : HQV p l e R s m args below meth c cX16_layChannels D cA A n0 s0 QM dm ra jx rm Q) (hX : HX p l e R s m args below meth c 8 D cA A n0 s0 QM dm ra jx rm X) : ∀ (σ : Sg) (v1 : Int) (v2 : Int) (u0 : Int) (g1 : rng v1) (g2 : rng v2) (gu0 : rng u0), w_X16_layChannels_94 ra jx rm Q X σ v1 v2 u0 → RG σ → Shp dm ra jx rm σ → JJ p l e R s m args below meth c 8 D cA A n0 s0 QM σ 94 [(0, .ref rm), (1, .int (i32 v1)), (2, .int (i32 v2))] [.int (i32 u0), .ref rm] := by
  intro σ v1 v2 u0 g1 g2 gu0 h hGσ hS H locs ls hH hl hc
  have B := K.1
  unfold w_X16_layChannels_94 at h
  refine lv_iconst (v := i32 0) B.1 B.2.1 dX16_layChannels_94 (by decide) ?_
  refine lv_goto (tgt := 104) B.1 B.2.1 dX16_layChannels_95 (by decide) ?_
  exact a_X16_layChannels_104 K hQ hX _ _ _ _ _ g1 g2 (by unfold rng; omega) gu0 h hGσ hS _ _ _ hH (lv_sub (l' := [(0, .ref rm), (1, .int (i32 v1)), (2, .int (i32 v2))]) hl [0, 1, 2] rfl) hc
set_option maxRecDepth 20000 in
theorem a_X16_layChannels_79 {Q : Sg → Unit → Prop} {X : Sg → String → Prop} (K : MC R p s m args c cX16_layChannels 8 RX16 D cA tys A n0 s0 2 46 []) (hQ : HQV p l e R s m args below meth c cX16_layChannels D cA A n0 s0 QM dm ra jx rm Q) (hX : HX p l e R s m args below meth c 8 D cA A n0 s0 QM dm ra jx rm X) : ∀ (σ : Sg) (v1 : Int) (v2 : Int) (v3 : Int) (g1 : rng v1) (g2 : rng v2) (g3 : rng v3), w_X16_layChannels_79 ra jx rm Q X σ v1 v2 v3 → RG σ → Shp dm ra jx rm σ → JJ p l e R s m args below meth c 8 D cA A n0 s0 QM σ 79 [(0, .ref rm), (1, .int (i32 v1)), (2, .int (i32 v2)), (3, .int (i32 v3))] [] := by
  intro σ v1 v2 v3 g1 g2 g3 h hGσ hS H locs ls hH hl hc
  have B := K.1
  unfold w_X16_layChannels_79 at h
  refine lv_aload_n B.1 B.2.1 dX16_layChannels_79 rfl (lv_at hl 0 rfl) ?_
  refine lv_aload_n B.1 B.2.1 dX16_layChannels_80 rfl (lv_at hl 0 rfl) ?_
  refine r_arr B hH hS 37 (kd := 100) (n := 17) (by decide) (by decide) wf_X16_389 rfl rfl dX16_layChannels_81 ?_
  refine lv_iload_n B.1 B.2.1 dX16_layChannels_84 rfl (lv_at hl 3 rfl) ?_
  obtain ⟨q1, h⟩ := h
  refine x_iald B K.2.1 hH (hS.ar (k := 37) (kd := 100) (n := 17) (by decide)) (by decide) q1 dX16_layChannels_85 ?_
  refine lv_aload_n B.1 B.2.1 dX16_layChannels_86 rfl (lv_at hl 0 rfl) ?_
  refine lv_iload_n B.1 B.2.1 dX16_layChannels_87 rfl (lv_at hl 3 rfl) ?_
  refine c_V B hH hl hc K.2.2.1 (C := RX16) (T := TX16) (N := 123) (ci := 16) (As := [.int (i32 v3)]) (ok_X16_isSingle K.2.1 σ v3 g3 hGσ hS h) wc_X16_361 1 hd_X16_isSingle ⟨Nat.le_trans (Nat.le_of_ble_eq_true rfl) K.2.2.2.1, Nat.le_trans (Nat.le_of_ble_eq_true rfl) K.2.2.2.2.1⟩ hS.1.1 hS.1.2 (by decide) rfl rfl (rest := [.int (i32 (gI σ (ra 37) v3.toNat)), .ref rm]) rfl (Nat.le_of_ble_eq_true rfl) dX16_layChannels_88 (fun σ22 w hq => ?_) (fun σ9 E9 hx9 => hX σ9 E9 _ _ _ (tb_out K.2.2.2.2.2 rfl) hx9.1 hx9.2.1 hx9.2.2)
  obtain ⟨r23, rfl, ⟨gr23, gzr23⟩, h, hGσ22, hS⟩ := hq
  intro H locs ls hH hl hc
  refine W.eq (g2 := F0 m 91 ls [.int (i32 r23), .int (i32 (gI σ (ra 37) v3.toNat)), .ref rm]) (rfl) ?_
  try dsimp only at h
  refine lv_if_eq (tgt := 98) B.1 B.2.1 dX16_layChannels_91 (by decide) (fun h9 => ?_) (fun h9 => ?_)
  · rw [if_pos ((z_eq gr23).mp h9)] at h
    exact a_X16_layChannels_98 K hQ hX _ _ _ _ g1 g2 (hGσ _ _) h hGσ22 hS _ _ _ hH (lv_sub (l' := [(0, .ref rm), (1, .int (i32 v1)), (2, .int (i32 v2))]) hl [0, 1, 2] rfl) hc
  · rw [if_neg (fun q => h9 ((z_eq gr23).mpr q))] at h
    exact a_X16_layChannels_94 K hQ hX _ _ _ _ g1 g2 (hGσ _ _) h hGσ22 hS _ _ _ hH (lv_sub (l' := [(0, .ref rm), (1, .int (i32 v1)), (2, .int (i32 v2))]) hl [0, 1, 2] rfl) hc
set_option maxRecDepth 20000 in
theorem a_X16_layChannels_76 {Q : Sg → Unit → Prop} {X : Sg → String → Prop} (K : MC R p s m args c cX16_layChannels 8 RX16 D cA tys A n0 s0 2 46 []) (hQ : HQV p l e R s m args below meth c cX16_layChannels D cA A n0 s0 QM dm ra jx rm Q) (hX : HX p l e R s m args below meth c 8 D cA A n0 s0 QM dm ra jx rm X) : ∀ (σ : Sg), w_X16_layChannels_76 ra jx rm Q X σ → RG σ → Shp dm ra jx rm σ → JJ p l e R s m args below meth c 8 D cA A n0 s0 QM σ 76 [(0, .ref rm)] [] := by
  intro σ h hGσ hS H locs ls hH hl hc
  have B := K.1
  unfold w_X16_layChannels_76 at h
  refine lv_goto (tgt := 110) B.1 B.2.1 dX16_layChannels_76 (by decide) ?_
  exact a_X16_layChannels_110 K hQ hX _ h hGσ hS _ _ _ hH (lv_sub (l' := [(0, .ref rm)]) hl [0] rfl) hc
set_option maxRecDepth 20000 in
theorem a_X16_layChannels_55 {Q : Sg → Unit → Prop} {X : Sg → String → Prop} (K : MC R p s m args c cX16_layChannels 8 RX16 D cA tys A n0 s0 2 46 []) (hQ : HQV p l e R s m args below meth c cX16_layChannels D cA A n0 s0 QM dm ra jx rm Q) (hX : HX p l e R s m args below meth c 8 D cA A n0 s0 QM dm ra jx rm X) {K48 : Sg → Int → Int → Int → Int → Int → Prop} (hK48 : ∀ (σ : Sg) (v1 : Int) (v2 : Int) (v3 : Int) (v6 : Int) (v7 : Int) (g1 : rng v1) (g2 : rng v2) (g3 : rng v3) (g6 : rng v6) (g7 : rng v7), K48 σ v1 v2 v3 v6 v7 → RG σ → Shp dm ra jx rm σ → JJ p l e R s m args below meth c 8 D cA A n0 s0 QM σ 48 [(0, .ref rm), (1, .int (i32 v1)), (2, .int (i32 v2)), (3, .int (i32 v3)), (6, .int (i32 v6)), (7, .int (i32 v7))] []) : ∀ (σ : Sg) (v1 : Int) (v2 : Int) (v3 : Int) (v6 : Int) (v7 : Int) (g1 : rng v1) (g2 : rng v2) (g3 : rng v3) (g6 : rng v6) (g7 : rng v7), w_X16_layChannels_55 ra jx rm K48 Q X σ v1 v2 v3 v6 v7 → RG σ → Shp dm ra jx rm σ → JJ p l e R s m args below meth c 8 D cA A n0 s0 QM σ 55 [(0, .ref rm), (1, .int (i32 v1)), (2, .int (i32 v2)), (3, .int (i32 v3)), (6, .int (i32 v6)), (7, .int (i32 v7))] [] := by
  intro σ v1 v2 v3 v6 v7 g1 g2 g3 g6 g7 h hGσ hS H locs ls hH hl hc
  have B := K.1
  unfold w_X16_layChannels_55 at h
  refine lv_aload_n B.1 B.2.1 dX16_layChannels_55 rfl (lv_at hl 0 rfl) ?_
  refine lv_aload_n B.1 B.2.1 dX16_layChannels_56 rfl (lv_at hl 0 rfl) ?_
  refine r_arr B hH hS 37 (kd := 100) (n := 17) (by decide) (by decide) wf_X16_389 rfl rfl dX16_layChannels_57 ?_
  refine lv_iload_n B.1 B.2.1 dX16_layChannels_60 rfl (lv_at hl 3 rfl) ?_
  obtain ⟨q1, h⟩ := h
  refine x_iald B K.2.1 hH (hS.ar (k := 37) (kd := 100) (n := 17) (by decide)) (by decide) q1 dX16_layChannels_61 ?_
  refine lv_iload B.1 B.2.1 dX16_layChannels_62 (lv_at hl 5 rfl) ?_
  obtain ⟨q2, h⟩ := h
  refine lv_iadd B.1 B.2.1 dX16_layChannels_64 ?_
  rw [i32_add]
  refine lv_iload_n B.1 B.2.1 dX16_layChannels_65 rfl (lv_at hl 1 rfl) ?_
  refine lv_iload_n B.1 B.2.1 dX16_layChannels_66 rfl (lv_at hl 2 rfl) ?_
  refine c_V B hH hl hc K.2.2.1 (C := RX16) (T := TX16) (N := 123) (ci := 16) (As := [.int (i32 ((gI σ (ra 37) v3.toNat) + v7)), .int (i32 v1), .int (i32 v2)]) (ok_X16_channel K.2.1 σ ((gI σ (ra 37) v3.toNat) + v7) v1 v2 q2 g1 g2 hGσ hS h) wc_X16_392 3 hd_X16_channel ⟨Nat.le_trans (Nat.le_of_ble_eq_true rfl) K.2.2.2.1, Nat.le_trans (Nat.le_of_ble_eq_true rfl) K.2.2.2.2.1⟩ hS.1.1 hS.1.2 (by decide) rfl rfl (rest := []) rfl (Nat.le_of_ble_eq_true rfl) dX16_layChannels_67 (fun σ24 w hq => ?_) (fun σ9 E9 hx9 => hX σ9 E9 _ _ _ (tb_out K.2.2.2.2.2 rfl) hx9.1 hx9.2.1 hx9.2.2)
  obtain ⟨rfl, h, hGσ24, hS⟩ := hq
  intro H locs ls hH hl hc
  refine W.eq (g2 := F0 m 70 ls []) (rfl) ?_
  try dsimp only at h
  obtain ⟨q3, h⟩ := h
  refine lv_iinc (k := 5) (v := i32 (v7 + 1)) (lv' := [(7, .int (i32 (v7 + 1))), (0, .ref rm), (1, .int (i32 v1)), (2, .int (i32 v2)), (3, .int (i32 v3)), (6, .int (i32 v6))]) B.1 B.2.1 dX16_layChannels_70 hl rfl (i32_add _ _) (by decide) rfl (fun ls hl => ?_)
  refine lv_goto (tgt := 48) B.1 B.2.1 dX16_layChannels_73 (by decide) ?_
  exact hK48 _ _ _ _ _ _ g1 g2 g3 g6 q3 h hGσ24 hS _ _ _ hH (lv_sub (l' := [(0, .ref rm), (1, .int (i32 v1)), (2, .int (i32 v2)), (3, .int (i32 v3)), (6, .int (i32 v6)), (7, .int (i32 (v7 + 1)))]) hl [1, 2, 3, 4, 5, 0] rfl) hc
set_option maxRecDepth 20000 in
theorem a_X16_layChannels_48 {Q : Sg → Unit → Prop} {X : Sg → String → Prop} (K : MC R p s m args c cX16_layChannels 8 RX16 D cA tys A n0 s0 2 46 []) (hQ : HQV p l e R s m args below meth c cX16_layChannels D cA A n0 s0 QM dm ra jx rm Q) (hX : HX p l e R s m args below meth c 8 D cA A n0 s0 QM dm ra jx rm X) {K48 : Sg → Int → Int → Int → Int → Int → Prop} (hK48 : ∀ (σ : Sg) (v1 : Int) (v2 : Int) (v3 : Int) (v6 : Int) (v7 : Int) (g1 : rng v1) (g2 : rng v2) (g3 : rng v3) (g6 : rng v6) (g7 : rng v7), K48 σ v1 v2 v3 v6 v7 → RG σ → Shp dm ra jx rm σ → JJ p l e R s m args below meth c 8 D cA A n0 s0 QM σ 48 [(0, .ref rm), (1, .int (i32 v1)), (2, .int (i32 v2)), (3, .int (i32 v3)), (6, .int (i32 v6)), (7, .int (i32 v7))] []) : ∀ (σ : Sg) (v1 : Int) (v2 : Int) (v3 : Int) (v6 : Int) (v7 : Int) (g1 : rng v1) (g2 : rng v2) (g3 : rng v3) (g6 : rng v6) (g7 : rng v7), w_X16_layChannels_48 ra jx rm K48 Q X σ v1 v2 v3 v6 v7 → RG σ → Shp dm ra jx rm σ → JJ p l e R s m args below meth c 8 D cA A n0 s0 QM σ 48 [(0, .ref rm), (1, .int (i32 v1)), (2, .int (i32 v2)), (3, .int (i32 v3)), (6, .int (i32 v6)), (7, .int (i32 v7))] [] := by
  intro σ v1 v2 v3 v6 v7 g1 g2 g3 g6 g7 h hGσ hS H locs ls hH hl hc
  have B := K.1
  unfold w_X16_layChannels_48 at h
  refine lv_iload B.1 B.2.1 dX16_layChannels_48 (lv_at hl 5 rfl) ?_
  refine lv_iload B.1 B.2.1 dX16_layChannels_50 (lv_at hl 4 rfl) ?_
  refine lv_icmp_ge (tgt := 76) B.1 B.2.1 dX16_layChannels_52 (by decide) (fun h9 => ?_) (fun h9 => ?_)
  · rw [if_pos ((i32_le g6 g7).mp h9)] at h
    exact a_X16_layChannels_76 K hQ hX _ h hGσ hS _ _ _ hH (lv_sub (l' := [(0, .ref rm)]) hl [0] rfl) hc
  · rw [if_neg (fun q => h9 ((i32_le g6 g7).mpr q))] at h
    exact a_X16_layChannels_55 K hQ hX hK48 _ _ _ _ _ _ g1 g2 g3 g6 g7 h hGσ hS _ _ _ hH (lv_sub (l' := [(0, .ref rm), (1, .int (i32 v1)), (2, .int (i32 v2)), (3, .int (i32 v3)), (6, .int (i32 v6)), (7, .int (i32 v7))]) hl [0, 1, 2, 3, 4, 5] rfl) hc
theorem al_X16_layChannels_48 {Q : Sg → Unit → Prop} {X : Sg → String → Prop} (K : MC R p s m args c cX16_layChannels 8 RX16 D cA tys A n0 s0 2 46 []) (hQ : HQV p l e R s m args below meth c cX16_layChannels D cA A n0 s0 QM dm ra jx rm Q) (hX : HX p l e R s m args below meth c 8 D cA A n0 s0 QM dm ra jx rm X) : ∀ (n : Nat), ∀ (σ : Sg) (v1 : Int) (v2 : Int) (v3 : Int) (v6 : Int) (v7 : Int) (g1 : rng v1) (g2 : rng v2) (g3 : rng v3) (g6 : rng v6) (g7 : rng v7), wl_X16_layChannels_48 ra jx rm Q X n σ v1 v2 v3 v6 v7 → RG σ → Shp dm ra jx rm σ → JJ p l e R s m args below meth c 8 D cA A n0 s0 QM σ 48 [(0, .ref rm), (1, .int (i32 v1)), (2, .int (i32 v2)), (3, .int (i32 v3)), (6, .int (i32 v6)), (7, .int (i32 v7))] [] := by
  intro n
  induction n with
  | zero => intro σ v1 v2 v3 v6 v7 g1 g2 g3 g6 g7 h; exact h.elim
  | succ n ih => exact fun σ v1 v2 v3 v6 v7 g1 g2 g3 g6 g7 h => a_X16_layChannels_48 K hQ hX ih σ v1 v2 v3 v6 v7 g1 g2 g3 g6 g7 h
set_option maxRecDepth 20000 in
theorem a_X16_layChannels_45 {Q : Sg → Unit → Prop} {X : Sg → String → Prop} (K : MC R p s m args c cX16_layChannels 8 RX16 D cA tys A n0 s0 2 46 []) (hQ : HQV p l e R s m args below meth c cX16_layChannels D cA A n0 s0 QM dm ra jx rm Q) (hX : HX p l e R s m args below meth c 8 D cA A n0 s0 QM dm ra jx rm X) : ∀ (σ : Sg) (v1 : Int) (v2 : Int) (v3 : Int) (v6 : Int) (g1 : rng v1) (g2 : rng v2) (g3 : rng v3) (g6 : rng v6), w_X16_layChannels_45 ra jx rm Q X σ v1 v2 v3 v6 → RG σ → Shp dm ra jx rm σ → JJ p l e R s m args below meth c 8 D cA A n0 s0 QM σ 45 [(0, .ref rm), (1, .int (i32 v1)), (2, .int (i32 v2)), (3, .int (i32 v3)), (6, .int (i32 v6))] [] := by
  intro σ v1 v2 v3 v6 g1 g2 g3 g6 h hGσ hS H locs ls hH hl hc
  have B := K.1
  unfold w_X16_layChannels_45 at h
  refine lv_iconst (v := i32 0) B.1 B.2.1 dX16_layChannels_45 (by decide) ?_
  refine lv_istore (lv' := [(7, .int (i32 0)), (0, .ref rm), (1, .int (i32 v1)), (2, .int (i32 v2)), (3, .int (i32 v3)), (6, .int (i32 v6))]) B.1 B.2.1 dX16_layChannels_46 hl (by decide) rfl (fun ls hl => ?_)
  obtain ⟨n9, h⟩ := h
  exact al_X16_layChannels_48 K hQ hX n9 _ _ _ _ _ _ g1 g2 g3 g6 (by unfold rng; omega) h hGσ hS _ _ _ hH (lv_sub (l' := [(0, .ref rm), (1, .int (i32 v1)), (2, .int (i32 v2)), (3, .int (i32 v3)), (6, .int (i32 v6)), (7, .int (i32 0))]) hl [1, 2, 3, 4, 5, 0] rfl) hc
set_option maxRecDepth 20000 in
theorem a_X16_layChannels_31 {Q : Sg → Unit → Prop} {X : Sg → String → Prop} (K : MC R p s m args c cX16_layChannels 8 RX16 D cA tys A n0 s0 2 46 []) (hQ : HQV p l e R s m args below meth c cX16_layChannels D cA A n0 s0 QM dm ra jx rm Q) (hX : HX p l e R s m args below meth c 8 D cA A n0 s0 QM dm ra jx rm X) : ∀ (σ : Sg) (v1 : Int) (v2 : Int) (v3 : Int) (u0 : Int) (g1 : rng v1) (g2 : rng v2) (g3 : rng v3) (gu0 : rng u0), w_X16_layChannels_31 ra jx rm Q X σ v1 v2 v3 u0 → RG σ → Shp dm ra jx rm σ → JJ p l e R s m args below meth c 8 D cA A n0 s0 QM σ 31 [(0, .ref rm), (1, .int (i32 v1)), (2, .int (i32 v2)), (3, .int (i32 v3))] [.int (i32 u0)] := by
  intro σ v1 v2 v3 u0 g1 g2 g3 gu0 h hGσ hS H locs ls hH hl hc
  have B := K.1
  unfold w_X16_layChannels_31 at h
  refine lv_istore (lv' := [(5, .int (i32 u0)), (0, .ref rm), (1, .int (i32 v1)), (2, .int (i32 v2)), (3, .int (i32 v3))]) B.1 B.2.1 dX16_layChannels_31 hl (by decide) rfl (fun ls hl => ?_)
  refine lv_aload_n B.1 B.2.1 dX16_layChannels_33 rfl (lv_at hl 1 rfl) ?_
  refine lv_iload_n B.1 B.2.1 dX16_layChannels_34 rfl (lv_at hl 4 rfl) ?_
  refine c_V B hH hl hc K.2.2.1 (C := RX16) (T := TX16) (N := 123) (ci := 16) (As := [.int (i32 v3)]) (ok_X16_partsOf K.2.1 σ v3 g3 hGσ hS h) wc_X16_386 1 hd_X16_partsOf ⟨Nat.le_trans (Nat.le_of_ble_eq_true rfl) K.2.2.2.1, Nat.le_trans (Nat.le_of_ble_eq_true rfl) K.2.2.2.2.1⟩ hS.1.1 hS.1.2 (by decide) rfl rfl (rest := []) rfl (Nat.le_of_ble_eq_true rfl) dX16_layChannels_35 (fun σ25 w hq => ?_) (fun σ9 E9 hx9 => hX σ9 E9 _ _ _ (tb_out K.2.2.2.2.2 rfl) hx9.1 hx9.2.1 hx9.2.2)
  obtain ⟨r26, rfl, gr26, h, hGσ25, hS⟩ := hq
  intro H locs ls hH hl hc
  refine W.eq (g2 := F0 m 38 ls [.int (i32 r26)]) (rfl) ?_
  try dsimp only at h
  refine lv_istore (lv' := [(6, .int (i32 r26)), (5, .int (i32 u0)), (0, .ref rm), (1, .int (i32 v1)), (2, .int (i32 v2)), (3, .int (i32 v3))]) B.1 B.2.1 dX16_layChannels_38 hl (by decide) rfl (fun ls hl => ?_)
  refine lv_iload B.1 B.2.1 dX16_layChannels_40 (lv_at hl 1 rfl) ?_
  refine lv_if_eq (tgt := 79) B.1 B.2.1 dX16_layChannels_42 (by decide) (fun h9 => ?_) (fun h9 => ?_)
  · rw [if_pos ((z_eq gu0).mp h9)] at h
    exact a_X16_layChannels_79 K hQ hX _ _ _ _ g1 g2 g3 h hGσ25 hS _ _ _ hH (lv_sub (l' := [(0, .ref rm), (1, .int (i32 v1)), (2, .int (i32 v2)), (3, .int (i32 v3))]) hl [2, 3, 4, 5] rfl) hc
  · rw [if_neg (fun q => h9 ((z_eq gu0).mpr q))] at h
    exact a_X16_layChannels_45 K hQ hX _ _ _ _ _ g1 g2 g3 gr26 h hGσ25 hS _ _ _ hH (lv_sub (l' := [(0, .ref rm), (1, .int (i32 v1)), (2, .int (i32 v2)), (3, .int (i32 v3)), (6, .int (i32 r26))]) hl [2, 3, 4, 5, 0] rfl) hc
set_option maxRecDepth 20000 in
theorem a_X16_layChannels_26 {Q : Sg → Unit → Prop} {X : Sg → String → Prop} (K : MC R p s m args c cX16_layChannels 8 RX16 D cA tys A n0 s0 2 46 []) (hQ : HQV p l e R s m args below meth c cX16_layChannels D cA A n0 s0 QM dm ra jx rm Q) (hX : HX p l e R s m args below meth c 8 D cA A n0 s0 QM dm ra jx rm X) : ∀ (σ : Sg) (v1 : Int) (v2 : Int) (v3 : Int) (g1 : rng v1) (g2 : rng v2) (g3 : rng v3), w_X16_layChannels_26 ra jx rm Q X σ v1 v2 v3 → RG σ → Shp dm ra jx rm σ → JJ p l e R s m args below meth c 8 D cA A n0 s0 QM σ 26 [(0, .ref rm), (1, .int (i32 v1)), (2, .int (i32 v2)), (3, .int (i32 v3))] [] := by
  intro σ v1 v2 v3 g1 g2 g3 h hGσ hS H locs ls hH hl hc
  have B := K.1
  unfold w_X16_layChannels_26 at h
  refine lv_iconst (v := i32 1) B.1 B.2.1 dX16_layChannels_26 (by decide) ?_
  refine lv_goto (tgt := 31) B.1 B.2.1 dX16_layChannels_27 (by decide) ?_
  exact a_X16_layChannels_31 K hQ hX _ _ _ _ _ g1 g2 g3 (by unfold rng; omega) h hGσ hS _ _ _ hH (lv_sub (l' := [(0, .ref rm), (1, .int (i32 v1)), (2, .int (i32 v2)), (3, .int (i32 v3))]) hl [0, 1, 2, 3] rfl) hc
set_option maxRecDepth 20000 in
theorem a_X16_layChannels_30 {Q : Sg → Unit → Prop} {X : Sg → String → Prop} (K : MC R p s m args c cX16_layChannels 8 RX16 D cA tys A n0 s0 2 46 []) (hQ : HQV p l e R s m args below meth c cX16_layChannels D cA A n0 s0 QM dm ra jx rm Q) (hX : HX p l e R s m args below meth c 8 D cA A n0 s0 QM dm ra jx rm X) : ∀ (σ : Sg) (v1 : Int) (v2 : Int) (v3 : Int) (g1 : rng v1) (g2 : rng v2) (g3 : rng v3), w_X16_layChannels_30 ra jx rm Q X σ v1 v2 v3 → RG σ → Shp dm ra jx rm σ → JJ p l e R s m args below meth c 8 D cA A n0 s0 QM σ 30 [(0, .ref rm), (1, .int (i32 v1)), (2, .int (i32 v2)), (3, .int (i32 v3))] [] := by
  intro σ v1 v2 v3 g1 g2 g3 h hGσ hS H locs ls hH hl hc
  have B := K.1
  unfold w_X16_layChannels_30 at h
  refine lv_iconst (v := i32 0) B.1 B.2.1 dX16_layChannels_30 (by decide) ?_
  exact a_X16_layChannels_31 K hQ hX _ _ _ _ _ g1 g2 g3 (by unfold rng; omega) h hGσ hS _ _ _ hH (lv_sub (l' := [(0, .ref rm), (1, .int (i32 v1)), (2, .int (i32 v2)), (3, .int (i32 v3))]) hl [0, 1, 2, 3] rfl) hc
set_option maxRecDepth 20000 in
theorem a_X16_layChannels_17 {Q : Sg → Unit → Prop} {X : Sg → String → Prop} (K : MC R p s m args c cX16_layChannels 8 RX16 D cA tys A n0 s0 2 46 []) (hQ : HQV p l e R s m args below meth c cX16_layChannels D cA A n0 s0 QM dm ra jx rm Q) (hX : HX p l e R s m args below meth c 8 D cA A n0 s0 QM dm ra jx rm X) : ∀ (σ : Sg) (v1 : Int) (v2 : Int) (v3 : Int) (v4 : Int) (g1 : rng v1) (g2 : rng v2) (g3 : rng v3) (g4 : rng v4), w_X16_layChannels_17 ra jx rm Q X σ v1 v2 v3 v4 → RG σ → Shp dm ra jx rm σ → JJ p l e R s m args below meth c 8 D cA A n0 s0 QM σ 17 [(0, .ref rm), (1, .int (i32 v1)), (2, .int (i32 v2)), (3, .int (i32 v3)), (4, .int (i32 v4))] [] := by
  intro σ v1 v2 v3 v4 g1 g2 g3 g4 h hGσ hS H locs ls hH hl hc
  have B := K.1
  unfold w_X16_layChannels_17 at h
  refine lv_aload_n B.1 B.2.1 dX16_layChannels_17 rfl (lv_at hl 0 rfl) ?_
  refine lv_iload B.1 B.2.1 dX16_layChannels_18 (lv_at hl 4 rfl) ?_
  refine c_V B hH hl hc K.2.2.1 (C := RX16) (T := TX16) (N := 123) (ci := 16) (As := [.int (i32 v4)]) (ok_X16_isSingle K.2.1 σ v4 g4 hGσ hS h) wc_X16_361 1 hd_X16_isSingle ⟨Nat.le_trans (Nat.le_of_ble_eq_true rfl) K.2.2.2.1, Nat.le_trans (Nat.le_of_ble_eq_true rfl) K.2.2.2.2.1⟩ hS.1.1 hS.1.2 (by decide) rfl rfl (rest := []) rfl (Nat.le_of_ble_eq_true rfl) dX16_layChannels_20 (fun σ27 w hq => ?_) (fun σ9 E9 hx9 => hX σ9 E9 _ _ _ (tb_out K.2.2.2.2.2 rfl) hx9.1 hx9.2.1 hx9.2.2)
  obtain ⟨r28, rfl, ⟨gr28, gzr28⟩, h, hGσ27, hS⟩ := hq
  intro H locs ls hH hl hc
  refine W.eq (g2 := F0 m 23 ls [.int (i32 r28)]) (rfl) ?_
  try dsimp only at h
  refine lv_if_eq (tgt := 30) B.1 B.2.1 dX16_layChannels_23 (by decide) (fun h9 => ?_) (fun h9 => ?_)
  · rw [if_pos ((z_eq gr28).mp h9)] at h
    exact a_X16_layChannels_30 K hQ hX _ _ _ _ g1 g2 g3 h hGσ27 hS _ _ _ hH (lv_sub (l' := [(0, .ref rm), (1, .int (i32 v1)), (2, .int (i32 v2)), (3, .int (i32 v3))]) hl [0, 1, 2, 3] rfl) hc
  · rw [if_neg (fun q => h9 ((z_eq gr28).mpr q))] at h
    exact a_X16_layChannels_26 K hQ hX _ _ _ _ g1 g2 g3 h hGσ27 hS _ _ _ hH (lv_sub (l' := [(0, .ref rm), (1, .int (i32 v1)), (2, .int (i32 v2)), (3, .int (i32 v3))]) hl [0, 1, 2, 3] rfl) hc
set_option maxRecDepth 20000 in
theorem a_X16_layChannels_0 {Q : Sg → Unit → Prop} {X : Sg → String → Prop} (K : MC R p s m args c cX16_layChannels 8 RX16 D cA tys A n0 s0 2 46 []) (hQ : HQV p l e R s m args below meth c cX16_layChannels D cA A n0 s0 QM dm ra jx rm Q) (hX : HX p l e R s m args below meth c 8 D cA A n0 s0 QM dm ra jx rm X) : ∀ (σ : Sg) (v1 : Int) (v2 : Int) (v3 : Int) (g1 : rng v1) (g2 : rng v2) (g3 : rng v3), w_X16_layChannels_0 ra jx rm Q X σ v1 v2 v3 → RG σ → Shp dm ra jx rm σ → JJ p l e R s m args below meth c 8 D cA A n0 s0 QM σ 0 [(0, .ref rm), (1, .int (i32 v1)), (2, .int (i32 v2)), (3, .int (i32 v3))] [] := by
  intro σ v1 v2 v3 g1 g2 g3 h hGσ hS H locs ls hH hl hc
  have B := K.1
  unfold w_X16_layChannels_0 at h
  refine lv_aload_n B.1 B.2.1 dX16_layChannels_0 rfl (lv_at hl 0 rfl) ?_
  refine r_arr B hH hS 38 (kd := 100) (n := 64) (by decide) (by decide) wf_X16_380 rfl rfl dX16_layChannels_1 ?_
  refine lv_iload_n B.1 B.2.1 dX16_layChannels_4 rfl (lv_at hl 1 rfl) ?_
  obtain ⟨q1, h⟩ := h
  refine x_iald B K.2.1 hH (hS.ar (k := 38) (kd := 100) (n := 64) (by decide)) (by decide) q1 dX16_layChannels_5 ?_
  refine lv_istore (lv' := [(4, .int (i32 (gI σ (ra 38) v1.toNat))), (0, .ref rm), (1, .int (i32 v1)), (2, .int (i32 v2)), (3, .int (i32 v3))]) B.1 B.2.1 dX16_layChannels_6 hl (by decide) rfl (fun ls hl => ?_)
  refine lv_aload_n B.1 B.2.1 dX16_layChannels_8 rfl (lv_at hl 1 rfl) ?_
  refine lv_iload B.1 B.2.1 dX16_layChannels_9 (lv_at hl 0 rfl) ?_
  refine c_V B hH hl hc K.2.2.1 (C := RX16) (T := TX16) (N := 123) (ci := 16) (As := [.int (i32 (gI σ (ra 38) v1.toNat))]) (ok_X16_isKeyed K.2.1 σ (gI σ (ra 38) v1.toNat) (hGσ _ _) hGσ hS h) wc_X16_383 1 hd_X16_isKeyed ⟨Nat.le_trans (Nat.le_of_ble_eq_true rfl) K.2.2.2.1, Nat.le_trans (Nat.le_of_ble_eq_true rfl) K.2.2.2.2.1⟩ hS.1.1 hS.1.2 (by decide) rfl rfl (rest := []) rfl (Nat.le_of_ble_eq_true rfl) dX16_layChannels_11 (fun σ29 w hq => ?_) (fun σ9 E9 hx9 => hX σ9 E9 _ _ _ (tb_out K.2.2.2.2.2 rfl) hx9.1 hx9.2.1 hx9.2.2)
  obtain ⟨r30, rfl, ⟨gr30, gzr30⟩, h, hGσ29, hS⟩ := hq
  intro H locs ls hH hl hc
  refine W.eq (g2 := F0 m 14 ls [.int (i32 r30)]) (rfl) ?_
  try dsimp only at h
  refine lv_if_ne (tgt := 26) B.1 B.2.1 dX16_layChannels_14 (by decide) (fun h9 => ?_) (fun h9 => ?_)
  · rw [if_pos (fun q => h9 ((z_eq gr30).mpr q))] at h
    exact a_X16_layChannels_26 K hQ hX _ _ _ _ g1 g2 g3 h hGσ29 hS _ _ _ hH (lv_sub (l' := [(0, .ref rm), (1, .int (i32 v1)), (2, .int (i32 v2)), (3, .int (i32 v3))]) hl [1, 2, 3, 4] rfl) hc
  · rw [if_neg (fun q => q ((z_eq gr30).mp h9))] at h
    exact a_X16_layChannels_17 K hQ hX _ _ _ _ _ g1 g2 g3 (hGσ _ _) h hGσ29 hS _ _ _ hH (lv_sub (l' := [(0, .ref rm), (1, .int (i32 v1)), (2, .int (i32 v2)), (3, .int (i32 v3)), (4, .int (i32 (gI σ (ra 38) v1.toNat)))]) hl [1, 2, 3, 4, 0] rfl) hc
theorem ok_X16_layChannels (hT : Tys cA tys) {Q : Sg → Unit → Prop} {X : Sg → String → Prop} (σ : Sg) (v1 : Int) (v2 : Int) (v3 : Int) (g1 : rng v1) (g2 : rng v2) (g3 : rng v3) (hG : RG σ) (hS : Shp dm ra jx rm σ) (h : wp_X16_layChannels ra jx rm v1 v2 v3 σ Q X) : Ok l D cA tys A yX16_layChannels (.code yX16_layChannels cX16_layChannels 8 none) 2 46 [.ref rm, .int (i32 v1), .int (i32 v2), .int (i32 v3)] σ (QnV dm ra jx rm Q) (QxR dm ra jx rm X) := by
  unfold wp_X16_layChannels at h
  exact ok_V (plainFor_of_name (by decide)) (by exact Nat.le_of_ble_eq_true rfl) hT (fun p e R s m args below meth c K hQ hX H locs ls hH hl hc => a_X16_layChannels_0 K hQ hX σ v1 v2 v3 g1 g2 g3 h hG hS H locs ls hH (lv_sub (l' := [(0, .ref rm), (1, .int (i32 v1)), (2, .int (i32 v2)), (3, .int (i32 v3))]) hl [0, 1, 2, 3] rfl) hc)
theorem dX16_layOut_0 : decode cX16_layOut 0 = .ok (.aload_n 0, 1) := by decide +kernel
theorem dX16_layOut_1 : decode cX16_layOut 1 = .ok (.iconst 0, 1) := by decide +kernel
theorem dX16_layOut_2 : decode cX16_layOut 2 = .ok (.putfield 399, 3) := by decide +kernel
theorem dX16_layOut_5 : decode cX16_layOut 5 = .ok (.aload_n 0, 1) := by decide +kernel
theorem dX16_layOut_6 : decode cX16_layOut 6 = .ok (.iconst 0, 1) := by decide +kernel
theorem dX16_layOut_7 : decode cX16_layOut 7 = .ok (.putfield 371, 3) := by decide +kernel
theorem dX16_layOut_10 : decode cX16_layOut 10 = .ok (.iconst 0, 1) := by decide +kernel
theorem dX16_layOut_11 : decode cX16_layOut 11 = .ok (.istore_n 1, 1) := by decide +kernel
theorem dX16_layOut_12 : decode cX16_layOut 12 = .ok (.iload_n 1, 1) := by decide +kernel
theorem dX16_layOut_13 : decode cX16_layOut 13 = .ok (.aload_n 0, 1) := by decide +kernel
theorem dX16_layOut_14 : decode cX16_layOut 14 = .ok (.getfield 356, 3) := by decide +kernel
theorem dX16_layOut_17 : decode cX16_layOut 17 = .ok (.getfield 316, 3) := by decide +kernel
theorem dX16_layOut_20 : decode cX16_layOut 20 = .ok (.if_icmp .ge 66, 3) := by decide +kernel
theorem dX16_layOut_23 : decode cX16_layOut 23 = .ok (.aload_n 0, 1) := by decide +kernel
theorem dX16_layOut_24 : decode cX16_layOut 24 = .ok (.getfield 389, 3) := by decide +kernel
theorem dX16_layOut_27 : decode cX16_layOut 27 = .ok (.iload_n 1, 1) := by decide +kernel
theorem dX16_layOut_28 : decode cX16_layOut 28 = .ok (.aload_n 0, 1) := by decide +kernel
theorem dX16_layOut_29 : decode cX16_layOut 29 = .ok (.getfield 399, 3) := by decide +kernel
theorem dX16_layOut_32 : decode cX16_layOut 32 = .ok (.iastore, 1) := by decide +kernel
theorem dX16_layOut_33 : decode cX16_layOut 33 = .ok (.iconst 0, 1) := by decide +kernel
theorem dX16_layOut_34 : decode cX16_layOut 34 = .ok (.istore_n 2, 1) := by decide +kernel
theorem dX16_layOut_35 : decode cX16_layOut 35 = .ok (.iload_n 2, 1) := by decide +kernel
theorem dX16_layOut_36 : decode cX16_layOut 36 = .ok (.aload_n 0, 1) := by decide +kernel
theorem dX16_layOut_37 : decode cX16_layOut 37 = .ok (.iload_n 1, 1) := by decide +kernel
theorem dX16_layOut_38 : decode cX16_layOut 38 = .ok (.invokevirtual 386, 3) := by decide +kernel
theorem dX16_layOut_41 : decode cX16_layOut 41 = .ok (.if_icmp .ge 39, 3) := by decide +kernel
theorem dX16_layOut_44 : decode cX16_layOut 44 = .ok (.aload_n 0, 1) := by decide +kernel
theorem dX16_layOut_45 : decode cX16_layOut 45 = .ok (.getfield 380, 3) := by decide +kernel
theorem dX16_layOut_48 : decode cX16_layOut 48 = .ok (.aload_n 0, 1) := by decide +kernel
theorem dX16_layOut_49 : decode cX16_layOut 49 = .ok (.getfield 399, 3) := by decide +kernel
theorem dX16_layOut_52 : decode cX16_layOut 52 = .ok (.iload_n 1, 1) := by decide +kernel
theorem dX16_layOut_53 : decode cX16_layOut 53 = .ok (.iastore, 1) := by decide +kernel
theorem dX16_layOut_54 : decode cX16_layOut 54 = .ok (.aload_n 0, 1) := by decide +kernel
theorem dX16_layOut_55 : decode cX16_layOut 55 = .ok (.getfield 396, 3) := by decide +kernel
theorem dX16_layOut_58 : decode cX16_layOut 58 = .ok (.aload_n 0, 1) := by decide +kernel
theorem dX16_layOut_59 : decode cX16_layOut 59 = .ok (.getfield 399, 3) := by decide +kernel
theorem dX16_layOut_62 : decode cX16_layOut 62 = .ok (.iload_n 2, 1) := by decide +kernel
theorem dX16_layOut_63 : decode cX16_layOut 63 = .ok (.iastore, 1) := by decide +kernel
theorem dX16_layOut_64 : decode cX16_layOut 64 = .ok (.aload_n 0, 1) := by decide +kernel
theorem dX16_layOut_65 : decode cX16_layOut 65 = .ok (.dup, 1) := by decide +kernel
theorem dX16_layOut_66 : decode cX16_layOut 66 = .ok (.getfield 399, 3) := by decide +kernel
theorem dX16_layOut_69 : decode cX16_layOut 69 = .ok (.iconst 1, 1) := by decide +kernel
theorem dX16_layOut_70 : decode cX16_layOut 70 = .ok (.iadd, 1) := by decide +kernel
theorem dX16_layOut_71 : decode cX16_layOut 71 = .ok (.putfield 399, 3) := by decide +kernel
theorem dX16_layOut_74 : decode cX16_layOut 74 = .ok (.iinc 2 1, 3) := by decide +kernel
theorem dX16_layOut_77 : decode cX16_layOut 77 = .ok (.goto (-42), 3) := by decide +kernel
theorem dX16_layOut_80 : decode cX16_layOut 80 = .ok (.iinc 1 1, 3) := by decide +kernel
theorem dX16_layOut_83 : decode cX16_layOut 83 = .ok (.goto (-71), 3) := by decide +kernel
theorem dX16_layOut_86 : decode cX16_layOut 86 = .ok (.aload_n 0, 1) := by decide +kernel
theorem dX16_layOut_87 : decode cX16_layOut 87 = .ok (.getfield 389, 3) := by decide +kernel
theorem dX16_layOut_90 : decode cX16_layOut 90 = .ok (.aload_n 0, 1) := by decide +kernel
theorem dX16_layOut_91 : decode cX16_layOut 91 = .ok (.getfield 356, 3) := by decide +kernel
theorem dX16_layOut_94 : decode cX16_layOut 94 = .ok (.getfield 316, 3) := by decide +kernel
theorem dX16_layOut_97 : decode cX16_layOut 97 = .ok (.aload_n 0, 1) := by decide +kernel
theorem dX16_layOut_98 : decode cX16_layOut 98 = .ok (.getfield 399, 3) := by decide +kernel
theorem dX16_layOut_101 : decode cX16_layOut 101 = .ok (.iastore, 1) := by decide +kernel
theorem dX16_layOut_102 : decode cX16_layOut 102 = .ok (.iconst 0, 1) := by decide +kernel
theorem dX16_layOut_103 : decode cX16_layOut 103 = .ok (.istore_n 1, 1) := by decide +kernel
theorem dX16_layOut_104 : decode cX16_layOut 104 = .ok (.iload_n 1, 1) := by decide +kernel
theorem dX16_layOut_105 : decode cX16_layOut 105 = .ok (.aload_n 0, 1) := by decide +kernel
theorem dX16_layOut_106 : decode cX16_layOut 106 = .ok (.getfield 399, 3) := by decide +kernel
theorem dX16_layOut_109 : decode cX16_layOut 109 = .ok (.if_icmp .ge 72, 3) := by decide +kernel
theorem dX16_layOut_112 : decode cX16_layOut 112 = .ok (.aload_n 0, 1) := by decide +kernel
theorem dX16_layOut_113 : decode cX16_layOut 113 = .ok (.getfield 380, 3) := by decide +kernel
theorem dX16_layOut_116 : decode cX16_layOut 116 = .ok (.iload_n 1, 1) := by decide +kernel
theorem dX16_layOut_117 : decode cX16_layOut 117 = .ok (.iaload, 1) := by decide +kernel
theorem dX16_layOut_118 : decode cX16_layOut 118 = .ok (.istore_n 2, 1) := by decide +kernel
theorem dX16_layOut_119 : decode cX16_layOut 119 = .ok (.aload_n 0, 1) := by decide +kernel
theorem dX16_layOut_120 : decode cX16_layOut 120 = .ok (.getfield 356, 3) := by decide +kernel
theorem dX16_layOut_123 : decode cX16_layOut 123 = .ok (.getfield 216, 3) := by decide +kernel
theorem dX16_layOut_126 : decode cX16_layOut 126 = .ok (.iload_n 2, 1) := by decide +kernel
theorem dX16_layOut_127 : decode cX16_layOut 127 = .ok (.iaload, 1) := by decide +kernel
theorem dX16_layOut_128 : decode cX16_layOut 128 = .ok (.iconst (-1), 1) := by decide +kernel
theorem dX16_layOut_129 : decode cX16_layOut 129 = .ok (.if_icmp .eq 18, 3) := by decide +kernel
theorem dX16_layOut_132 : decode cX16_layOut 132 = .ok (.aload_n 0, 1) := by decide +kernel
theorem dX16_layOut_133 : decode cX16_layOut 133 = .ok (.iload_n 1, 1) := by decide +kernel
theorem dX16_layOut_134 : decode cX16_layOut 134 = .ok (.iconst 0, 1) := by decide +kernel
theorem dX16_layOut_135 : decode cX16_layOut 135 = .ok (.aload_n 0, 1) := by decide +kernel
theorem dX16_layOut_136 : decode cX16_layOut 136 = .ok (.getfield 356, 3) := by decide +kernel
theorem dX16_layOut_139 : decode cX16_layOut 139 = .ok (.getfield 216, 3) := by decide +kernel
theorem dX16_layOut_142 : decode cX16_layOut 142 = .ok (.iload_n 2, 1) := by decide +kernel
theorem dX16_layOut_143 : decode cX16_layOut 143 = .ok (.iaload, 1) := by decide +kernel
theorem dX16_layOut_144 : decode cX16_layOut 144 = .ok (.invokevirtual 402, 3) := by decide +kernel
theorem dX16_layOut_147 : decode cX16_layOut 147 = .ok (.aload_n 0, 1) := by decide +kernel
theorem dX16_layOut_148 : decode cX16_layOut 148 = .ok (.getfield 356, 3) := by decide +kernel
theorem dX16_layOut_151 : decode cX16_layOut 151 = .ok (.getfield 231, 3) := by decide +kernel
theorem dX16_layOut_154 : decode cX16_layOut 154 = .ok (.iload_n 2, 1) := by decide +kernel
theorem dX16_layOut_155 : decode cX16_layOut 155 = .ok (.iaload, 1) := by decide +kernel
theorem dX16_layOut_156 : decode cX16_layOut 156 = .ok (.iconst (-1), 1) := by decide +kernel
theorem dX16_layOut_157 : decode cX16_layOut 157 = .ok (.if_icmp .eq 18, 3) := by decide +kernel
theorem dX16_layOut_160 : decode cX16_layOut 160 = .ok (.aload_n 0, 1) := by decide +kernel
theorem dX16_layOut_161 : decode cX16_layOut 161 = .ok (.iload_n 1, 1) := by decide +kernel
theorem dX16_layOut_162 : decode cX16_layOut 162 = .ok (.iconst 1, 1) := by decide +kernel
theorem dX16_layOut_163 : decode cX16_layOut 163 = .ok (.aload_n 0, 1) := by decide +kernel
theorem dX16_layOut_164 : decode cX16_layOut 164 = .ok (.getfield 356, 3) := by decide +kernel
theorem dX16_layOut_167 : decode cX16_layOut 167 = .ok (.getfield 231, 3) := by decide +kernel
theorem dX16_layOut_170 : decode cX16_layOut 170 = .ok (.iload_n 2, 1) := by decide +kernel
theorem dX16_layOut_171 : decode cX16_layOut 171 = .ok (.iaload, 1) := by decide +kernel
theorem dX16_layOut_172 : decode cX16_layOut 172 = .ok (.invokevirtual 402, 3) := by decide +kernel
theorem dX16_layOut_175 : decode cX16_layOut 175 = .ok (.iinc 1 1, 3) := by decide +kernel
theorem dX16_layOut_178 : decode cX16_layOut 178 = .ok (.goto (-74), 3) := by decide +kernel
theorem dX16_layOut_181 : decode cX16_layOut 181 = .ok (.return_, 1) := by decide +kernel
set_option maxRecDepth 20000 in
theorem a_X16_layOut_181 {Q : Sg → Unit → Prop} {X : Sg → String → Prop} (K : MC R p s m args c cX16_layOut 3 RX16 D cA tys A n0 s0 3 73 []) (hQ : HQV p l e R s m args below meth c cX16_layOut D cA A n0 s0 QM dm ra jx rm Q) (hX : HX p l e R s m args below meth c 3 D cA A n0 s0 QM dm ra jx rm X) : ∀ (σ : Sg), w_X16_layOut_181 ra jx rm Q X σ → RG σ → Shp dm ra jx rm σ → JJ p l e R s m args below meth c 3 D cA A n0 s0 QM σ 181 [(0, .ref rm)] [] := by
  intro σ h hGσ hS H locs ls hH hl hc
  have B := K.1
  unfold w_X16_layOut_181 at h
  exact hQ _ _ _ _ _ dX16_layOut_181 hH hc h hGσ hS
set_option maxRecDepth 20000 in
theorem a_X16_layOut_175 {Q : Sg → Unit → Prop} {X : Sg → String → Prop} (K : MC R p s m args c cX16_layOut 3 RX16 D cA tys A n0 s0 3 73 []) (hQ : HQV p l e R s m args below meth c cX16_layOut D cA A n0 s0 QM dm ra jx rm Q) (hX : HX p l e R s m args below meth c 3 D cA A n0 s0 QM dm ra jx rm X) {K104 : Sg → Int → Prop} (hK104 : ∀ (σ : Sg) (v1 : Int) (g1 : rng v1), K104 σ v1 → RG σ → Shp dm ra jx rm σ → JJ p l e R s m args below meth c 3 D cA A n0 s0 QM σ 104 [(0, .ref rm), (1, .int (i32 v1))] []) : ∀ (σ : Sg) (v1 : Int) (g1 : rng v1), w_X16_layOut_175 ra jx rm K104 Q X σ v1 → RG σ → Shp dm ra jx rm σ → JJ p l e R s m args below meth c 3 D cA A n0 s0 QM σ 175 [(0, .ref rm), (1, .int (i32 v1))] [] := by
  intro σ v1 g1 h hGσ hS H locs ls hH hl hc
  have B := K.1
  unfold w_X16_layOut_175 at h
  obtain ⟨q1, h⟩ := h
  refine lv_iinc (k := 1) (v := i32 (v1 + 1)) (lv' := [(1, .int (i32 (v1 + 1))), (0, .ref rm)]) B.1 B.2.1 dX16_layOut_175 hl rfl (i32_add _ _) (by decide) rfl (fun ls hl => ?_)
  refine lv_goto (tgt := 104) B.1 B.2.1 dX16_layOut_178 (by decide) ?_
  exact hK104 _ _ q1 h hGσ hS _ _ _ hH (lv_sub (l' := [(0, .ref rm), (1, .int (i32 (v1 + 1)))]) hl [1, 0] rfl) hc
set_option maxRecDepth 20000 in
theorem a_X16_layOut_160 {Q : Sg → Unit → Prop} {X : Sg → String → Prop} (K : MC R p s m args c cX16_layOut 3 RX16 D cA tys A n0 s0 3 73 []) (hQ : HQV p l e R s m args below meth c cX16_layOut D cA A n0 s0 QM dm ra jx rm Q) (hX : HX p l e R s m args below meth c 3 D cA A n0 s0 QM dm ra jx rm X) {K104 : Sg → Int → Prop} (hK104 : ∀ (σ : Sg) (v1 : Int) (g1 : rng v1), K104 σ v1 → RG σ → Shp dm ra jx rm σ → JJ p l e R s m args below meth c 3 D cA A n0 s0 QM σ 104 [(0, .ref rm), (1, .int (i32 v1))] []) : ∀ (σ : Sg) (v1 : Int) (v2 : Int) (g1 : rng v1) (g2 : rng v2), w_X16_layOut_160 ra jx rm K104 Q X σ v1 v2 → RG σ → Shp dm ra jx rm σ → JJ p l e R s m args below meth c 3 D cA A n0 s0 QM σ 160 [(0, .ref rm), (1, .int (i32 v1)), (2, .int (i32 v2))] [] := by
  intro σ v1 v2 g1 g2 h hGσ hS H locs ls hH hl hc
  have B := K.1
  unfold w_X16_layOut_160 at h
  refine lv_aload_n B.1 B.2.1 dX16_layOut_160 rfl (lv_at hl 0 rfl) ?_
  refine lv_iload_n B.1 B.2.1 dX16_layOut_161 rfl (lv_at hl 1 rfl) ?_
  refine lv_iconst (v := i32 1) B.1 B.2.1 dX16_layOut_162 (by decide) ?_
  refine lv_aload_n B.1 B.2.1 dX16_layOut_163 rfl (lv_at hl 0 rfl) ?_
  refine r_getp B hH hS 17 (by decide) wf_X16_356 rfl rfl dX16_layOut_164 ?_
  obtain ⟨a35, ea35, ja35, h⟩ := h
  refine W.eq (g2 := F0 m 167 ls [.ref a35, .int (i32 1), .int (i32 v1), .ref rm]) (by rw [ea35]; rfl) ?_
  refine n_arr B hH hS ja35 5 (kd := 100) (n := 16) (by decide) (by decide) (List.mem_of_getElem? (i := 5) rfl) rfl dX16_layOut_167 ?_
  refine lv_iload_n B.1 B.2.1 dX16_layOut_170 rfl (lv_at hl 2 rfl) ?_
  obtain ⟨q2, h⟩ := h
  refine x_iald B K.2.1 hH (hS.ja ja35 (k := 5) (kd := 100) (n := 16) (by decide)) (by decide) q2 dX16_layOut_171 ?_
  refine c_V B hH hl hc K.2.2.1 (C := RX16) (T := TX16) (N := 123) (ci := 16) (As := [.int (i32 v1), .int (i32 1), .int (i32 (gI σ (jx a35 5) v2.toNat))]) (ok_X16_layChannels K.2.1 σ v1 1 (gI σ (jx a35 5) v2.toNat) g1 (by unfold rng; omega) (hGσ _ _) hGσ hS h) wc_X16_402 3 hd_X16_layChannels ⟨Nat.le_trans (Nat.le_of_ble_eq_true rfl) K.2.2.2.1, Nat.le_trans (Nat.le_of_ble_eq_true rfl) K.2.2.2.2.1⟩ hS.1.1 hS.1.2 (by decide) rfl rfl (rest := []) rfl (Nat.le_of_ble_eq_true rfl) dX16_layOut_172 (fun σ36 w hq => ?_) (fun σ9 E9 hx9 => hX σ9 E9 _ _ _ (tb_out K.2.2.2.2.2 rfl) hx9.1 hx9.2.1 hx9.2.2)
  obtain ⟨rfl, h, hGσ36, hS⟩ := hq
  intro H locs ls hH hl hc
  refine W.eq (g2 := F0 m 175 ls []) (rfl) ?_
  try dsimp only at h
  exact a_X16_layOut_175 K hQ hX hK104 _ _ g1 h hGσ36 hS _ _ _ hH (lv_sub (l' := [(0, .ref rm), (1, .int (i32 v1))]) hl [0, 1] rfl) hc
set_option maxRecDepth 20000 in
theorem a_X16_layOut_147 {Q : Sg → Unit → Prop} {X : Sg → String → Prop} (K : MC R p s m args c cX16_layOut 3 RX16 D cA tys A n0 s0 3 73 []) (hQ : HQV p l e R s m args below meth c cX16_layOut D cA A n0 s0 QM dm ra jx rm Q) (hX : HX p l e R s m args below meth c 3 D cA A n0 s0 QM dm ra jx rm X) {K104 : Sg → Int → Prop} (hK104 : ∀ (σ : Sg) (v1 : Int) (g1 : rng v1), K104 σ v1 → RG σ → Shp dm ra jx rm σ → JJ p l e R s m args below meth c 3 D cA A n0 s0 QM σ 104 [(0, .ref rm), (1, .int (i32 v1))] []) : ∀ (σ : Sg) (v1 : Int) (v2 : Int) (g1 : rng v1) (g2 : rng v2), w_X16_layOut_147 ra jx rm K104 Q X σ v1 v2 → RG σ → Shp dm ra jx rm σ → JJ p l e R s m args below meth c 3 D cA A n0 s0 QM σ 147 [(0, .ref rm), (1, .int (i32 v1)), (2, .int (i32 v2))] [] := by
  intro σ v1 v2 g1 g2 h hGσ hS H locs ls hH hl hc
  have B := K.1
  unfold w_X16_layOut_147 at h
  refine lv_aload_n B.1 B.2.1 dX16_layOut_147 rfl (lv_at hl 0 rfl) ?_
  refine r_getp B hH hS 17 (by decide) wf_X16_356 rfl rfl dX16_layOut_148 ?_
  obtain ⟨a37, ea37, ja37, h⟩ := h
  refine W.eq (g2 := F0 m 151 ls [.ref a37]) (by rw [ea37]; rfl) ?_
  refine n_arr B hH hS ja37 5 (kd := 100) (n := 16) (by decide) (by decide) (List.mem_of_getElem? (i := 5) rfl) rfl dX16_layOut_151 ?_
  refine lv_iload_n B.1 B.2.1 dX16_layOut_154 rfl (lv_at hl 2 rfl) ?_
  obtain ⟨q2, h⟩ := h
  refine x_iald B K.2.1 hH (hS.ja ja37 (k := 5) (kd := 100) (n := 16) (by decide)) (by decide) q2 dX16_layOut_155 ?_
  refine lv_iconst (v := i32 (-1)) B.1 B.2.1 dX16_layOut_156 (by decide) ?_
  refine lv_icmp_eq (tgt := 175) B.1 B.2.1 dX16_layOut_157 (by decide) (fun h9 => ?_) (fun h9 => ?_)
  · rw [if_pos ((i32_eq (hGσ _ _) (by unfold rng; omega)).mp h9)] at h
    exact a_X16_layOut_175 K hQ hX hK104 _ _ g1 h hGσ hS _ _ _ hH (lv_sub (l' := [(0, .ref rm), (1, .int (i32 v1))]) hl [0, 1] rfl) hc
  · rw [if_neg (fun q => h9 ((i32_eq (hGσ _ _) (by unfold rng; omega)).mpr q))] at h
    exact a_X16_layOut_160 K hQ hX hK104 _ _ _ g1 g2 h hGσ hS _ _ _ hH (lv_sub (l' := [(0, .ref rm), (1, .int (i32 v1)), (2, .int (i32 v2))]) hl [0, 1, 2] rfl) hc
set_option maxRecDepth 20000 in
theorem a_X16_layOut_132 {Q : Sg → Unit → Prop} {X : Sg → String → Prop} (K : MC R p s m args c cX16_layOut 3 RX16 D cA tys A n0 s0 3 73 []) (hQ : HQV p l e R s m args below meth c cX16_layOut D cA A n0 s0 QM dm ra jx rm Q) (hX : HX p l e R s m args below meth c 3 D cA A n0 s0 QM dm ra jx rm X) {K104 : Sg → Int → Prop} (hK104 : ∀ (σ : Sg) (v1 : Int) (g1 : rng v1), K104 σ v1 → RG σ → Shp dm ra jx rm σ → JJ p l e R s m args below meth c 3 D cA A n0 s0 QM σ 104 [(0, .ref rm), (1, .int (i32 v1))] []) : ∀ (σ : Sg) (v1 : Int) (v2 : Int) (g1 : rng v1) (g2 : rng v2), w_X16_layOut_132 ra jx rm K104 Q X σ v1 v2 → RG σ → Shp dm ra jx rm σ → JJ p l e R s m args below meth c 3 D cA A n0 s0 QM σ 132 [(0, .ref rm), (1, .int (i32 v1)), (2, .int (i32 v2))] [] := by
  intro σ v1 v2 g1 g2 h hGσ hS H locs ls hH hl hc
  have B := K.1
  unfold w_X16_layOut_132 at h
  refine lv_aload_n B.1 B.2.1 dX16_layOut_132 rfl (lv_at hl 0 rfl) ?_
  refine lv_iload_n B.1 B.2.1 dX16_layOut_133 rfl (lv_at hl 1 rfl) ?_
  refine lv_iconst (v := i32 0) B.1 B.2.1 dX16_layOut_134 (by decide) ?_
  refine lv_aload_n B.1 B.2.1 dX16_layOut_135 rfl (lv_at hl 0 rfl) ?_
  refine r_getp B hH hS 17 (by decide) wf_X16_356 rfl rfl dX16_layOut_136 ?_
  obtain ⟨a38, ea38, ja38, h⟩ := h
  refine W.eq (g2 := F0 m 139 ls [.ref a38, .int (i32 0), .int (i32 v1), .ref rm]) (by rw [ea38]; rfl) ?_
  refine n_arr B hH hS ja38 4 (kd := 100) (n := 16) (by decide) (by decide) (List.mem_of_getElem? (i := 4) rfl) rfl dX16_layOut_139 ?_
  refine lv_iload_n B.1 B.2.1 dX16_layOut_142 rfl (lv_at hl 2 rfl) ?_
  obtain ⟨q2, h⟩ := h
  refine x_iald B K.2.1 hH (hS.ja ja38 (k := 4) (kd := 100) (n := 16) (by decide)) (by decide) q2 dX16_layOut_143 ?_
  refine c_V B hH hl hc K.2.2.1 (C := RX16) (T := TX16) (N := 123) (ci := 16) (As := [.int (i32 v1), .int (i32 0), .int (i32 (gI σ (jx a38 4) v2.toNat))]) (ok_X16_layChannels K.2.1 σ v1 0 (gI σ (jx a38 4) v2.toNat) g1 (by unfold rng; omega) (hGσ _ _) hGσ hS h) wc_X16_402 3 hd_X16_layChannels ⟨Nat.le_trans (Nat.le_of_ble_eq_true rfl) K.2.2.2.1, Nat.le_trans (Nat.le_of_ble_eq_true rfl) K.2.2.2.2.1⟩ hS.1.1 hS.1.2 (by decide) rfl rfl (rest := []) rfl (Nat.le_of_ble_eq_true rfl) dX16_layOut_144 (fun σ39 w hq => ?_) (fun σ9 E9 hx9 => hX σ9 E9 _ _ _ (tb_out K.2.2.2.2.2 rfl) hx9.1 hx9.2.1 hx9.2.2)
  obtain ⟨rfl, h, hGσ39, hS⟩ := hq
  intro H locs ls hH hl hc
  refine W.eq (g2 := F0 m 147 ls []) (rfl) ?_
  try dsimp only at h
  exact a_X16_layOut_147 K hQ hX hK104 _ _ _ g1 g2 h hGσ39 hS _ _ _ hH (lv_sub (l' := [(0, .ref rm), (1, .int (i32 v1)), (2, .int (i32 v2))]) hl [0, 1, 2] rfl) hc
set_option maxRecDepth 20000 in
theorem a_X16_layOut_112 {Q : Sg → Unit → Prop} {X : Sg → String → Prop} (K : MC R p s m args c cX16_layOut 3 RX16 D cA tys A n0 s0 3 73 []) (hQ : HQV p l e R s m args below meth c cX16_layOut D cA A n0 s0 QM dm ra jx rm Q) (hX : HX p l e R s m args below meth c 3 D cA A n0 s0 QM dm ra jx rm X) {K104 : Sg → Int → Prop} (hK104 : ∀ (σ : Sg) (v1 : Int) (g1 : rng v1), K104 σ v1 → RG σ → Shp dm ra jx rm σ → JJ p l e R s m args below meth c 3 D cA A n0 s0 QM σ 104 [(0, .ref rm), (1, .int (i32 v1))] []) : ∀ (σ : Sg) (v1 : Int) (g1 : rng v1), w_X16_layOut_112 ra jx rm K104 Q X σ v1 → RG σ → Shp dm ra jx rm σ → JJ p l e R s m args below meth c 3 D cA A n0 s0 QM σ 112 [(0, .ref rm), (1, .int (i32 v1))] [] := by
  intro σ v1 g1 h hGσ hS H locs ls hH hl hc
  have B := K.1
  unfold w_X16_layOut_112 at h
  refine lv_aload_n B.1 B.2.1 dX16_layOut_112 rfl (lv_at hl 0 rfl) ?_
  refine r_arr B hH hS 38 (kd := 100) (n := 64) (by decide) (by decide) wf_X16_380 rfl rfl dX16_layOut_113 ?_
  refine lv_iload_n B.1 B.2.1 dX16_layOut_116 rfl (lv_at hl 1 rfl) ?_
  obtain ⟨q1, h⟩ := h
  refine x_iald B K.2.1 hH (hS.ar (k := 38) (kd := 100) (n := 64) (by decide)) (by decide) q1 dX16_layOut_117 ?_
  refine lv_istore_n (lv' := [(2, .int (i32 (gI σ (ra 38) v1.toNat))), (0, .ref rm), (1, .int (i32 v1))]) B.1 B.2.1 dX16_layOut_118 rfl hl (by decide) rfl (fun ls hl => ?_)
  refine lv_aload_n B.1 B.2.1 dX16_layOut_119 rfl (lv_at hl 1 rfl) ?_
  refine r_getp B hH hS 17 (by decide) wf_X16_356 rfl rfl dX16_layOut_120 ?_
  obtain ⟨a40, ea40, ja40, h⟩ := h
  refine W.eq (g2 := F0 m 123 ls [.ref a40]) (by rw [ea40]; rfl) ?_
  refine n_arr B hH hS ja40 4 (kd := 100) (n := 16) (by decide) (by decide) (List.mem_of_getElem? (i := 4) rfl) rfl dX16_layOut_123 ?_
  refine lv_iload_n B.1 B.2.1 dX16_layOut_126 rfl (lv_at hl 0 rfl) ?_
  obtain ⟨q3, h⟩ := h
  refine x_iald B K.2.1 hH (hS.ja ja40 (k := 4) (kd := 100) (n := 16) (by decide)) (by decide) q3 dX16_layOut_127 ?_
  refine lv_iconst (v := i32 (-1)) B.1 B.2.1 dX16_layOut_128 (by decide) ?_
  refine lv_icmp_eq (tgt := 147) B.1 B.2.1 dX16_layOut_129 (by decide) (fun h9 => ?_) (fun h9 => ?_)
  · rw [if_pos ((i32_eq (hGσ _ _) (by unfold rng; omega)).mp h9)] at h
    exact a_X16_layOut_147 K hQ hX hK104 _ _ _ g1 (hGσ _ _) h hGσ hS _ _ _ hH (lv_sub (l' := [(0, .ref rm), (1, .int (i32 v1)), (2, .int (i32 (gI σ (ra 38) v1.toNat)))]) hl [1, 2, 0] rfl) hc
  · rw [if_neg (fun q => h9 ((i32_eq (hGσ _ _) (by unfold rng; omega)).mpr q))] at h
    exact a_X16_layOut_132 K hQ hX hK104 _ _ _ g1 (hGσ _ _) h hGσ hS _ _ _ hH (lv_sub (l' := [(0, .ref rm), (1, .int (i32 v1)), (2, .int (i32 (gI σ (ra 38) v1.toNat)))]) hl [1, 2, 0] rfl) hc
set_option maxRecDepth 20000 in
theorem a_X16_layOut_104 {Q : Sg → Unit → Prop} {X : Sg → String → Prop} (K : MC R p s m args c cX16_layOut 3 RX16 D cA tys A n0 s0 3 73 []) (hQ : HQV p l e R s m args below meth c cX16_layOut D cA A n0 s0 QM dm ra jx rm Q) (hX : HX p l e R s m args below meth c 3 D cA A n0 s0 QM dm ra jx rm X) {K104 : Sg → Int → Prop} (hK104 : ∀ (σ : Sg) (v1 : Int) (g1 : rng v1), K104 σ v1 → RG σ → Shp dm ra jx rm σ → JJ p l e R s m args below meth c 3 D cA A n0 s0 QM σ 104 [(0, .ref rm), (1, .int (i32 v1))] []) : ∀ (σ : Sg) (v1 : Int) (g1 : rng v1), w_X16_layOut_104 ra jx rm K104 Q X σ v1 → RG σ → Shp dm ra jx rm σ → JJ p l e R s m args below meth c 3 D cA A n0 s0 QM σ 104 [(0, .ref rm), (1, .int (i32 v1))] [] := by
  intro σ v1 g1 h hGσ hS H locs ls hH hl hc
  have B := K.1
  unfold w_X16_layOut_104 at h
  refine lv_iload_n B.1 B.2.1 dX16_layOut_104 rfl (lv_at hl 1 rfl) ?_
  refine lv_aload_n B.1 B.2.1 dX16_layOut_105 rfl (lv_at hl 0 rfl) ?_
  refine r_geti B hH hS 36 (by decide) wf_X16_399 rfl rfl dX16_layOut_106 ?_
  refine lv_icmp_ge (tgt := 181) B.1 B.2.1 dX16_layOut_109 (by decide) (fun h9 => ?_) (fun h9 => ?_)
  · rw [if_pos ((i32_le (hGσ _ _) g1).mp h9)] at h
    exact a_X16_layOut_181 K hQ hX _ h hGσ hS _ _ _ hH (lv_sub (l' := [(0, .ref rm)]) hl [0] rfl) hc
  · rw [if_neg (fun q => h9 ((i32_le (hGσ _ _) g1).mpr q))] at h
    exact a_X16_layOut_112 K hQ hX hK104 _ _ g1 h hGσ hS _ _ _ hH (lv_sub (l' := [(0, .ref rm), (1, .int (i32 v1))]) hl [0, 1] rfl) hc
theorem al_X16_layOut_104 {Q : Sg → Unit → Prop} {X : Sg → String → Prop} (K : MC R p s m args c cX16_layOut 3 RX16 D cA tys A n0 s0 3 73 []) (hQ : HQV p l e R s m args below meth c cX16_layOut D cA A n0 s0 QM dm ra jx rm Q) (hX : HX p l e R s m args below meth c 3 D cA A n0 s0 QM dm ra jx rm X) : ∀ (n : Nat), ∀ (σ : Sg) (v1 : Int) (g1 : rng v1), wl_X16_layOut_104 ra jx rm Q X n σ v1 → RG σ → Shp dm ra jx rm σ → JJ p l e R s m args below meth c 3 D cA A n0 s0 QM σ 104 [(0, .ref rm), (1, .int (i32 v1))] [] := by
  intro n
  induction n with
  | zero => intro σ v1 g1 h; exact h.elim
  | succ n ih => exact fun σ v1 g1 h => a_X16_layOut_104 K hQ hX ih σ v1 g1 h
set_option maxRecDepth 20000 in
theorem a_X16_layOut_86 {Q : Sg → Unit → Prop} {X : Sg → String → Prop} (K : MC R p s m args c cX16_layOut 3 RX16 D cA tys A n0 s0 3 73 []) (hQ : HQV p l e R s m args below meth c cX16_layOut D cA A n0 s0 QM dm ra jx rm Q) (hX : HX p l e R s m args below meth c 3 D cA A n0 s0 QM dm ra jx rm X) : ∀ (σ : Sg), w_X16_layOut_86 ra jx rm Q X σ → RG σ → Shp dm ra jx rm σ → JJ p l e R s m args below meth c 3 D cA A n0 s0 QM σ 86 [(0, .ref rm)] [] := by
  intro σ h hGσ hS H locs ls hH hl hc
  have B := K.1
  unfold w_X16_layOut_86 at h
  refine lv_aload_n B.1 B.2.1 dX16_layOut_86 rfl (lv_at hl 0 rfl) ?_
  refine r_arr B hH hS 37 (kd := 100) (n := 17) (by decide) (by decide) wf_X16_389 rfl rfl dX16_layOut_87 ?_
  refine lv_aload_n B.1 B.2.1 dX16_layOut_90 rfl (lv_at hl 0 rfl) ?_
  refine r_getp B hH hS 17 (by decide) wf_X16_356 rfl rfl dX16_layOut_91 ?_
  obtain ⟨a41, ea41, ja41, h⟩ := h
  refine W.eq (g2 := F0 m 94 ls [.ref a41, .ref (ra 37)]) (by rw [ea41]; rfl) ?_
  refine n_geti B hH hS ja41 0 (by decide) (List.mem_of_getElem? (i := 0) rfl) rfl dX16_layOut_94 ?_
  refine lv_aload_n B.1 B.2.1 dX16_layOut_97 rfl (lv_at hl 0 rfl) ?_
  refine r_geti B hH hS 36 (by decide) wf_X16_399 rfl rfl dX16_layOut_98 ?_
  obtain ⟨q2, h⟩ := h
  obtain ⟨σ42, eσ42⟩ : ∃ z, z = pI σ (ra 37) (gI σ a41 0).toNat (gI σ rm 36) := ⟨_, rfl⟩
  have h := h σ42 eσ42
  refine x_iast B K.2.1 hH (hS.ar (k := 37) (kd := 100) (n := 17) (by decide)) (by decide) q2 dX16_layOut_101 (fun H locs hH => ?_)
  have hH : Hd D cA A s (pI σ (ra 37) (gI σ a41 0).toNat (gI σ rm 36)) H locs := hH
  rw [← eσ42] at hH
  have hGσ42 : RG σ42 := by rw [eσ42]; exact hGσ.pI (hGσ _ _)
  have hS : Shp dm ra jx rm σ42 := by rw [eσ42]; exact hS
  have hc : CB n0 s0 σ42 := by rw [eσ42]; exact hc
  rw [show gc σ = gc σ42 by rw [eσ42], show gs σ = gs σ42 by rw [eσ42]]
  refine lv_iconst (v := i32 0) B.1 B.2.1 dX16_layOut_102 (by decide) ?_
  refine lv_istore_n (lv' := [(1, .int (i32 0)), (0, .ref rm)]) B.1 B.2.1 dX16_layOut_103 rfl hl (by decide) rfl (fun ls hl => ?_)
  obtain ⟨n9, h⟩ := h
  exact al_X16_layOut_104 K hQ hX n9 _ _ (by unfold rng; omega) h hGσ42 hS _ _ _ hH (lv_sub (l' := [(0, .ref rm), (1, .int (i32 0))]) hl [1, 0] rfl) hc
set_option maxRecDepth 20000 in
theorem a_X16_layOut_80 {Q : Sg → Unit → Prop} {X : Sg → String → Prop} (K : MC R p s m args c cX16_layOut 3 RX16 D cA tys A n0 s0 3 73 []) (hQ : HQV p l e R s m args below meth c cX16_layOut D cA A n0 s0 QM dm ra jx rm Q) (hX : HX p l e R s m args below meth c 3 D cA A n0 s0 QM dm ra jx rm X) {K12 : Sg → Int → Prop} (hK12 : ∀ (σ : Sg) (v1 : Int) (g1 : rng v1), K12 σ v1 → RG σ → Shp dm ra jx rm σ → JJ p l e R s m args below meth c 3 D cA A n0 s0 QM σ 12 [(0, .ref rm), (1, .int (i32 v1))] []) : ∀ (σ : Sg) (v1 : Int) (g1 : rng v1), w_X16_layOut_80 ra jx rm K12 Q X σ v1 → RG σ → Shp dm ra jx rm σ → JJ p l e R s m args below meth c 3 D cA A n0 s0 QM σ 80 [(0, .ref rm), (1, .int (i32 v1))] [] := by
  intro σ v1 g1 h hGσ hS H locs ls hH hl hc
  have B := K.1
  unfold w_X16_layOut_80 at h
  obtain ⟨q1, h⟩ := h
  refine lv_iinc (k := 1) (v := i32 (v1 + 1)) (lv' := [(1, .int (i32 (v1 + 1))), (0, .ref rm)]) B.1 B.2.1 dX16_layOut_80 hl rfl (i32_add _ _) (by decide) rfl (fun ls hl => ?_)
  refine lv_goto (tgt := 12) B.1 B.2.1 dX16_layOut_83 (by decide) ?_
  exact hK12 _ _ q1 h hGσ hS _ _ _ hH (lv_sub (l' := [(0, .ref rm), (1, .int (i32 (v1 + 1)))]) hl [1, 0] rfl) hc
set_option maxRecDepth 20000 in
theorem a_X16_layOut_44 {Q : Sg → Unit → Prop} {X : Sg → String → Prop} (K : MC R p s m args c cX16_layOut 3 RX16 D cA tys A n0 s0 3 73 []) (hQ : HQV p l e R s m args below meth c cX16_layOut D cA A n0 s0 QM dm ra jx rm Q) (hX : HX p l e R s m args below meth c 3 D cA A n0 s0 QM dm ra jx rm X) {K12 : Sg → Int → Prop} (hK12 : ∀ (σ : Sg) (v1 : Int) (g1 : rng v1), K12 σ v1 → RG σ → Shp dm ra jx rm σ → JJ p l e R s m args below meth c 3 D cA A n0 s0 QM σ 12 [(0, .ref rm), (1, .int (i32 v1))] []) {K35 : Sg → Int → Int → Prop} (hK35 : ∀ (σ : Sg) (v1 : Int) (v2 : Int) (g1 : rng v1) (g2 : rng v2), K35 σ v1 v2 → RG σ → Shp dm ra jx rm σ → JJ p l e R s m args below meth c 3 D cA A n0 s0 QM σ 35 [(0, .ref rm), (1, .int (i32 v1)), (2, .int (i32 v2))] []) : ∀ (σ : Sg) (v1 : Int) (v2 : Int) (g1 : rng v1) (g2 : rng v2), w_X16_layOut_44 ra jx rm K12 K35 Q X σ v1 v2 → RG σ → Shp dm ra jx rm σ → JJ p l e R s m args below meth c 3 D cA A n0 s0 QM σ 44 [(0, .ref rm), (1, .int (i32 v1)), (2, .int (i32 v2))] [] := by
  intro σ v1 v2 g1 g2 h hGσ hS H locs ls hH hl hc
  have B := K.1
  unfold w_X16_layOut_44 at h
  refine lv_aload_n B.1 B.2.1 dX16_layOut_44 rfl (lv_at hl 0 rfl) ?_
  refine r_arr B hH hS 38 (kd := 100) (n := 64) (by decide) (by decide) wf_X16_380 rfl rfl dX16_layOut_45 ?_
  refine lv_aload_n B.1 B.2.1 dX16_layOut_48 rfl (lv_at hl 0 rfl) ?_
  refine r_geti B hH hS 36 (by decide) wf_X16_399 rfl rfl dX16_layOut_49 ?_
  refine lv_iload_n B.1 B.2.1 dX16_layOut_52 rfl (lv_at hl 1 rfl) ?_
  obtain ⟨q1, h⟩ := h
  obtain ⟨σ43, eσ43⟩ : ∃ z, z = pI σ (ra 38) (gI σ rm 36).toNat v1 := ⟨_, rfl⟩
  have h := h σ43 eσ43
  refine x_iast B K.2.1 hH (hS.ar (k := 38) (kd := 100) (n := 64) (by decide)) (by decide) q1 dX16_layOut_53 (fun H locs hH => ?_)
  have hH : Hd D cA A s (pI σ (ra 38) (gI σ rm 36).toNat v1) H locs := hH
  rw [← eσ43] at hH
  have hGσ43 : RG σ43 := by rw [eσ43]; exact hGσ.pI g1
  have hS : Shp dm ra jx rm σ43 := by rw [eσ43]; exact hS
  have hc : CB n0 s0 σ43 := by rw [eσ43]; exact hc
  rw [show gc σ = gc σ43 by rw [eσ43], show gs σ = gs σ43 by rw [eσ43]]
  refine lv_aload_n B.1 B.2.1 dX16_layOut_54 rfl (lv_at hl 0 rfl) ?_
  refine r_arr B hH hS 39 (kd := 100) (n := 64) (by decide) (by decide) wf_X16_396 rfl rfl dX16_layOut_55 ?_
  refine lv_aload_n B.1 B.2.1 dX16_layOut_58 rfl (lv_at hl 0 rfl) ?_
  refine r_geti B hH hS 36 (by decide) wf_X16_399 rfl rfl dX16_layOut_59 ?_
  refine lv_iload_n B.1 B.2.1 dX16_layOut_62 rfl (lv_at hl 2 rfl) ?_
  obtain ⟨q3, h⟩ := h
  obtain ⟨σ44, eσ44⟩ : ∃ z, z = pI σ43 (ra 39) (gI σ43 rm 36).toNat v2 := ⟨_, rfl⟩
  have h := h σ44 eσ44
  refine x_iast B K.2.1 hH (hS.ar (k := 39) (kd := 100) (n := 64) (by decide)) (by decide) q3 dX16_layOut_63 (fun H locs hH => ?_)
  have hH : Hd D cA A s (pI σ43 (ra 39) (gI σ43 rm 36).toNat v2) H locs := hH
  rw [← eσ44] at hH
  have hGσ44 : RG σ44 := by rw [eσ44]; exact hGσ43.pI g2
  have hS : Shp dm ra jx rm σ44 := by rw [eσ44]; exact hS
  have hc : CB n0 s0 σ44 := by rw [eσ44]; exact hc
  rw [show gc σ43 = gc σ44 by rw [eσ44], show gs σ43 = gs σ44 by rw [eσ44]]
  refine lv_aload_n B.1 B.2.1 dX16_layOut_64 rfl (lv_at hl 0 rfl) ?_
  refine lv_dup B.1 B.2.1 dX16_layOut_65 rfl ?_
  refine r_geti B hH hS 36 (by decide) wf_X16_399 rfl rfl dX16_layOut_66 ?_
  refine lv_iconst (v := i32 1) B.1 B.2.1 dX16_layOut_69 (by decide) ?_
  obtain ⟨q5, h⟩ := h
  refine lv_iadd B.1 B.2.1 dX16_layOut_70 ?_
  rw [i32_add]
  obtain ⟨σ45, eσ45⟩ : ∃ z, z = pI σ44 rm 36 (gI σ44 rm 36 + 1) := ⟨_, rfl⟩
  have h := h σ45 eσ45
  refine r_puti B hH hS 36 (ty := .int) (by decide) wf_X16_399 rfl rfl rfl rfl rfl rfl dX16_layOut_71 (fun H locs hH => ?_)
  have hH : Hd D cA A s (pI σ44 rm 36 (gI σ44 rm 36 + 1)) H locs := hH
  rw [← eσ45] at hH
  have hGσ45 : RG σ45 := by rw [eσ45]; exact hGσ44.pI q5
  have hS : Shp dm ra jx rm σ45 := by rw [eσ45]; exact hS
  have hc : CB n0 s0 σ45 := by rw [eσ45]; exact hc
  rw [show gc σ44 = gc σ45 by rw [eσ45], show gs σ44 = gs σ45 by rw [eσ45]]
  obtain ⟨q7, h⟩ := h
  refine lv_iinc (k := 2) (v := i32 (v2 + 1)) (lv' := [(2, .int (i32 (v2 + 1))), (0, .ref rm), (1, .int (i32 v1))]) B.1 B.2.1 dX16_layOut_74 hl rfl (i32_add _ _) (by decide) rfl (fun ls hl => ?_)
  refine lv_goto (tgt := 35) B.1 B.2.1 dX16_layOut_77 (by decide) ?_
  exact hK35 _ _ _ g1 q7 h hGσ45 hS _ _ _ hH (lv_sub (l' := [(0, .ref rm), (1, .int (i32 v1)), (2, .int (i32 (v2 + 1)))]) hl [1, 2, 0] rfl) hc
set_option maxRecDepth 20000 in
theorem a_X16_layOut_35 {Q : Sg → Unit → Prop} {X : Sg → String → Prop} (K : MC R p s m args c cX16_layOut 3 RX16 D cA tys A n0 s0 3 73 []) (hQ : HQV p l e R s m args below meth c cX16_layOut D cA A n0 s0 QM dm ra jx rm Q) (hX : HX p l e R s m args below meth c 3 D cA A n0 s0 QM dm ra jx rm X) {K12 : Sg → Int → Prop} (hK12 : ∀ (σ : Sg) (v1 : Int) (g1 : rng v1), K12 σ v1 → RG σ → Shp dm ra jx rm σ → JJ p l e R s m args below meth c 3 D cA A n0 s0 QM σ 12 [(0, .ref rm), (1, .int (i32 v1))] []) {K35 : Sg → Int → Int → Prop} (hK35 : ∀ (σ : Sg) (v1 : Int) (v2 : Int) (g1 : rng v1) (g2 : rng v2), K35 σ v1 v2 → RG σ → Shp dm ra jx rm σ → JJ p l e R s m args below meth c 3 D cA A n0 s0 QM σ 35 [(0, .ref rm), (1, .int (i32 v1)), (2, .int (i32 v2))] []) : ∀ (σ : Sg) (v1 : Int) (v2 : Int) (g1 : rng v1) (g2 : rng v2), w_X16_layOut_35 ra jx rm K12 K35 Q X σ v1 v2 → RG σ → Shp dm ra jx rm σ → JJ p l e R s m args below meth c 3 D cA A n0 s0 QM σ 35 [(0, .ref rm), (1, .int (i32 v1)), (2, .int (i32 v2))] [] := by
  intro σ v1 v2 g1 g2 h hGσ hS H locs ls hH hl hc
  have B := K.1
  unfold w_X16_layOut_35 at h
  refine lv_iload_n B.1 B.2.1 dX16_layOut_35 rfl (lv_at hl 2 rfl) ?_
  refine lv_aload_n B.1 B.2.1 dX16_layOut_36 rfl (lv_at hl 0 rfl) ?_
  refine lv_iload_n B.1 B.2.1 dX16_layOut_37 rfl (lv_at hl 1 rfl) ?_
  refine c_V B hH hl hc K.2.2.1 (C := RX16) (T := TX16) (N := 123) (ci := 16) (As := [.int (i32 v1)]) (ok_X16_partsOf K.2.1 σ v1 g1 hGσ hS h) wc_X16_386 1 hd_X16_partsOf ⟨Nat.le_trans (Nat.le_of_ble_eq_true rfl) K.2.2.2.1, Nat.le_trans (Nat.le_of_ble_eq_true rfl) K.2.2.2.2.1⟩ hS.1.1 hS.1.2 (by decide) rfl rfl (rest := [.int (i32 v2)]) rfl (Nat.le_of_ble_eq_true rfl) dX16_layOut_38 (fun σ46 w hq => ?_) (fun σ9 E9 hx9 => hX σ9 E9 _ _ _ (tb_out K.2.2.2.2.2 rfl) hx9.1 hx9.2.1 hx9.2.2)
  obtain ⟨r47, rfl, gr47, h, hGσ46, hS⟩ := hq
  intro H locs ls hH hl hc
  refine W.eq (g2 := F0 m 41 ls [.int (i32 r47), .int (i32 v2)]) (rfl) ?_
  try dsimp only at h
  refine lv_icmp_ge (tgt := 80) B.1 B.2.1 dX16_layOut_41 (by decide) (fun h9 => ?_) (fun h9 => ?_)
  · rw [if_pos ((i32_le gr47 g2).mp h9)] at h
    exact a_X16_layOut_80 K hQ hX hK12 _ _ g1 h hGσ46 hS _ _ _ hH (lv_sub (l' := [(0, .ref rm), (1, .int (i32 v1))]) hl [0, 1] rfl) hc
  · rw [if_neg (fun q => h9 ((i32_le gr47 g2).mpr q))] at h
    exact a_X16_layOut_44 K hQ hX hK12 hK35 _ _ _ g1 g2 h hGσ46 hS _ _ _ hH (lv_sub (l' := [(0, .ref rm), (1, .int (i32 v1)), (2, .int (i32 v2))]) hl [0, 1, 2] rfl) hc
theorem al_X16_layOut_35 {Q : Sg → Unit → Prop} {X : Sg → String → Prop} (K : MC R p s m args c cX16_layOut 3 RX16 D cA tys A n0 s0 3 73 []) (hQ : HQV p l e R s m args below meth c cX16_layOut D cA A n0 s0 QM dm ra jx rm Q) (hX : HX p l e R s m args below meth c 3 D cA A n0 s0 QM dm ra jx rm X) {K12 : Sg → Int → Prop} (hK12 : ∀ (σ : Sg) (v1 : Int) (g1 : rng v1), K12 σ v1 → RG σ → Shp dm ra jx rm σ → JJ p l e R s m args below meth c 3 D cA A n0 s0 QM σ 12 [(0, .ref rm), (1, .int (i32 v1))] []) : ∀ (n : Nat), ∀ (σ : Sg) (v1 : Int) (v2 : Int) (g1 : rng v1) (g2 : rng v2), wl_X16_layOut_35 ra jx rm K12 Q X n σ v1 v2 → RG σ → Shp dm ra jx rm σ → JJ p l e R s m args below meth c 3 D cA A n0 s0 QM σ 35 [(0, .ref rm), (1, .int (i32 v1)), (2, .int (i32 v2))] [] := by
  intro n
  induction n with
  | zero => intro σ v1 v2 g1 g2 h; exact h.elim
  | succ n ih => exact fun σ v1 v2 g1 g2 h => a_X16_layOut_35 K hQ hX hK12 ih σ v1 v2 g1 g2 h
set_option maxRecDepth 20000 in
theorem a_X16_layOut_23 {Q : Sg → Unit → Prop} {X : Sg → String → Prop} (K : MC R p s m args c cX16_layOut 3 RX16 D cA tys A n0 s0 3 73 []) (hQ : HQV p l e R s m args below meth c cX16_layOut D cA A n0 s0 QM dm ra jx rm Q) (hX : HX p l e R s m args below meth c 3 D cA A n0 s0 QM dm ra jx rm X) {K12 : Sg → Int → Prop} (hK12 : ∀ (σ : Sg) (v1 : Int) (g1 : rng v1), K12 σ v1 → RG σ → Shp dm ra jx rm σ → JJ p l e R s m args below meth c 3 D cA A n0 s0 QM σ 12 [(0, .ref rm), (1, .int (i32 v1))] []) : ∀ (σ : Sg) (v1 : Int) (g1 : rng v1), w_X16_layOut_23 ra jx rm K12 Q X σ v1 → RG σ → Shp dm ra jx rm σ → JJ p l e R s m args below meth c 3 D cA A n0 s0 QM σ 23 [(0, .ref rm), (1, .int (i32 v1))] [] := by
  intro σ v1 g1 h hGσ hS H locs ls hH hl hc
  have B := K.1
  unfold w_X16_layOut_23 at h
  refine lv_aload_n B.1 B.2.1 dX16_layOut_23 rfl (lv_at hl 0 rfl) ?_
  refine r_arr B hH hS 37 (kd := 100) (n := 17) (by decide) (by decide) wf_X16_389 rfl rfl dX16_layOut_24 ?_
  refine lv_iload_n B.1 B.2.1 dX16_layOut_27 rfl (lv_at hl 1 rfl) ?_
  refine lv_aload_n B.1 B.2.1 dX16_layOut_28 rfl (lv_at hl 0 rfl) ?_
  refine r_geti B hH hS 36 (by decide) wf_X16_399 rfl rfl dX16_layOut_29 ?_
  obtain ⟨q1, h⟩ := h
  obtain ⟨σ48, eσ48⟩ : ∃ z, z = pI σ (ra 37) v1.toNat (gI σ rm 36) := ⟨_, rfl⟩
  have h := h σ48 eσ48
  refine x_iast B K.2.1 hH (hS.ar (k := 37) (kd := 100) (n := 17) (by decide)) (by decide) q1 dX16_layOut_32 (fun H locs hH => ?_)
  have hH : Hd D cA A s (pI σ (ra 37) v1.toNat (gI σ rm 36)) H locs := hH
  rw [← eσ48] at hH
  have hGσ48 : RG σ48 := by rw [eσ48]; exact hGσ.pI (hGσ _ _)
  have hS : Shp dm ra jx rm σ48 := by rw [eσ48]; exact hS
  have hc : CB n0 s0 σ48 := by rw [eσ48]; exact hc
  rw [show gc σ = gc σ48 by rw [eσ48], show gs σ = gs σ48 by rw [eσ48]]
  refine lv_iconst (v := i32 0) B.1 B.2.1 dX16_layOut_33 (by decide) ?_
  refine lv_istore_n (lv' := [(2, .int (i32 0)), (0, .ref rm), (1, .int (i32 v1))]) B.1 B.2.1 dX16_layOut_34 rfl hl (by decide) rfl (fun ls hl => ?_)
  obtain ⟨n9, h⟩ := h
  exact al_X16_layOut_35 K hQ hX hK12 n9 _ _ _ g1 (by unfold rng; omega) h hGσ48 hS _ _ _ hH (lv_sub (l' := [(0, .ref rm), (1, .int (i32 v1)), (2, .int (i32 0))]) hl [1, 2, 0] rfl) hc
set_option maxRecDepth 20000 in
theorem a_X16_layOut_12 {Q : Sg → Unit → Prop} {X : Sg → String → Prop} (K : MC R p s m args c cX16_layOut 3 RX16 D cA tys A n0 s0 3 73 []) (hQ : HQV p l e R s m args below meth c cX16_layOut D cA A n0 s0 QM dm ra jx rm Q) (hX : HX p l e R s m args below meth c 3 D cA A n0 s0 QM dm ra jx rm X) {K12 : Sg → Int → Prop} (hK12 : ∀ (σ : Sg) (v1 : Int) (g1 : rng v1), K12 σ v1 → RG σ → Shp dm ra jx rm σ → JJ p l e R s m args below meth c 3 D cA A n0 s0 QM σ 12 [(0, .ref rm), (1, .int (i32 v1))] []) : ∀ (σ : Sg) (v1 : Int) (g1 : rng v1), w_X16_layOut_12 ra jx rm K12 Q X σ v1 → RG σ → Shp dm ra jx rm σ → JJ p l e R s m args below meth c 3 D cA A n0 s0 QM σ 12 [(0, .ref rm), (1, .int (i32 v1))] [] := by
  intro σ v1 g1 h hGσ hS H locs ls hH hl hc
  have B := K.1
  unfold w_X16_layOut_12 at h
  refine lv_iload_n B.1 B.2.1 dX16_layOut_12 rfl (lv_at hl 1 rfl) ?_
  refine lv_aload_n B.1 B.2.1 dX16_layOut_13 rfl (lv_at hl 0 rfl) ?_
  refine r_getp B hH hS 17 (by decide) wf_X16_356 rfl rfl dX16_layOut_14 ?_
  obtain ⟨a49, ea49, ja49, h⟩ := h
  refine W.eq (g2 := F0 m 17 ls [.ref a49, .int (i32 v1)]) (by rw [ea49]; rfl) ?_
  refine n_geti B hH hS ja49 0 (by decide) (List.mem_of_getElem? (i := 0) rfl) rfl dX16_layOut_17 ?_
  refine lv_icmp_ge (tgt := 86) B.1 B.2.1 dX16_layOut_20 (by decide) (fun h9 => ?_) (fun h9 => ?_)
  · rw [if_pos ((i32_le (hGσ _ _) g1).mp h9)] at h
    exact a_X16_layOut_86 K hQ hX _ h hGσ hS _ _ _ hH (lv_sub (l' := [(0, .ref rm)]) hl [0] rfl) hc
  · rw [if_neg (fun q => h9 ((i32_le (hGσ _ _) g1).mpr q))] at h
    exact a_X16_layOut_23 K hQ hX hK12 _ _ g1 h hGσ hS _ _ _ hH (lv_sub (l' := [(0, .ref rm), (1, .int (i32 v1))]) hl [0, 1] rfl) hc
theorem al_X16_layOut_12 {Q : Sg → Unit → Prop} {X : Sg → String → Prop} (K : MC R p s m args c cX16_layOut 3 RX16 D cA tys A n0 s0 3 73 []) (hQ : HQV p l e R s m args below meth c cX16_layOut D cA A n0 s0 QM dm ra jx rm Q) (hX : HX p l e R s m args below meth c 3 D cA A n0 s0 QM dm ra jx rm X) : ∀ (n : Nat), ∀ (σ : Sg) (v1 : Int) (g1 : rng v1), wl_X16_layOut_12 ra jx rm Q X n σ v1 → RG σ → Shp dm ra jx rm σ → JJ p l e R s m args below meth c 3 D cA A n0 s0 QM σ 12 [(0, .ref rm), (1, .int (i32 v1))] [] := by
  intro n
  induction n with
  | zero => intro σ v1 g1 h; exact h.elim
  | succ n ih => exact fun σ v1 g1 h => a_X16_layOut_12 K hQ hX ih σ v1 g1 h
set_option maxRecDepth 20000 in
theorem a_X16_layOut_0 {Q : Sg → Unit → Prop} {X : Sg → String → Prop} (K : MC R p s m args c cX16_layOut 3 RX16 D cA tys A n0 s0 3 73 []) (hQ : HQV p l e R s m args below meth c cX16_layOut D cA A n0 s0 QM dm ra jx rm Q) (hX : HX p l e R s m args below meth c 3 D cA A n0 s0 QM dm ra jx rm X) : ∀ (σ : Sg), w_X16_layOut_0 ra jx rm Q X σ → RG σ → Shp dm ra jx rm σ → JJ p l e R s m args below meth c 3 D cA A n0 s0 QM σ 0 [(0, .ref rm)] [] := by
  intro σ h hGσ hS H locs ls hH hl hc
  have B := K.1
  unfold w_X16_layOut_0 at h
  refine lv_aload_n B.1 B.2.1 dX16_layOut_0 rfl (lv_at hl 0 rfl) ?_
  refine lv_iconst (v := i32 0) B.1 B.2.1 dX16_layOut_1 (by decide) ?_
  obtain ⟨σ50, eσ50⟩ : ∃ z, z = pI σ rm 36 0 := ⟨_, rfl⟩
  have h := h σ50 eσ50
  refine r_puti B hH hS 36 (ty := .int) (by decide) wf_X16_399 rfl rfl rfl rfl rfl rfl dX16_layOut_2 (fun H locs hH => ?_)
  have hH : Hd D cA A s (pI σ rm 36 0) H locs := hH
  rw [← eσ50] at hH
  have hGσ50 : RG σ50 := by rw [eσ50]; exact hGσ.pI (by unfold rng; omega)
  have hS : Shp dm ra jx rm σ50 := by rw [eσ50]; exact hS
  have hc : CB n0 s0 σ50 := by rw [eσ50]; exact hc
  rw [show gc σ = gc σ50 by rw [eσ50], show gs σ = gs σ50 by rw [eσ50]]
  refine lv_aload_n B.1 B.2.1 dX16_layOut_5 rfl (lv_at hl 0 rfl) ?_
  refine lv_iconst (v := i32 0) B.1 B.2.1 dX16_layOut_6 (by decide) ?_
  obtain ⟨σ51, eσ51⟩ : ∃ z, z = pI σ50 rm 50 0 := ⟨_, rfl⟩
  have h := h σ51 eσ51
  refine r_puti B hH hS 50 (ty := .int) (by decide) wf_X16_371 rfl rfl rfl rfl rfl rfl dX16_layOut_7 (fun H locs hH => ?_)
  have hH : Hd D cA A s (pI σ50 rm 50 0) H locs := hH
  rw [← eσ51] at hH
  have hGσ51 : RG σ51 := by rw [eσ51]; exact hGσ50.pI (by unfold rng; omega)
  have hS : Shp dm ra jx rm σ51 := by rw [eσ51]; exact hS
  have hc : CB n0 s0 σ51 := by rw [eσ51]; exact hc
  rw [show gc σ50 = gc σ51 by rw [eσ51], show gs σ50 = gs σ51 by rw [eσ51]]
  refine lv_iconst (v := i32 0) B.1 B.2.1 dX16_layOut_10 (by decide) ?_
  refine lv_istore_n (lv' := [(1, .int (i32 0)), (0, .ref rm)]) B.1 B.2.1 dX16_layOut_11 rfl hl (by decide) rfl (fun ls hl => ?_)
  obtain ⟨n9, h⟩ := h
  exact al_X16_layOut_12 K hQ hX n9 _ _ (by unfold rng; omega) h hGσ51 hS _ _ _ hH (lv_sub (l' := [(0, .ref rm), (1, .int (i32 0))]) hl [1, 0] rfl) hc
theorem ok_X16_layOut (hT : Tys cA tys) {Q : Sg → Unit → Prop} {X : Sg → String → Prop} (σ : Sg) (hG : RG σ) (hS : Shp dm ra jx rm σ) (h : wp_X16_layOut ra jx rm σ Q X) : Ok l D cA tys A yX16_layOut (.code yX16_layOut cX16_layOut 3 none) 3 73 [.ref rm] σ (QnV dm ra jx rm Q) (QxR dm ra jx rm X) := by
  unfold wp_X16_layOut at h
  exact ok_V (plainFor_of_name (by decide)) (by exact Nat.le_of_ble_eq_true rfl) hT (fun p e R s m args below meth c K hQ hX H locs ls hH hl hc => a_X16_layOut_0 K hQ hX σ h hG hS H locs ls hH (lv_sub (l' := [(0, .ref rm)]) hl [0] rfl) hc)
theorem dX16_letGo_0 : decode cX16_letGo 0 = .ok (.aload_n 0, 1) := by decide +kernel
theorem dX16_letGo_1 : decode cX16_letGo 1 = .ok (.getfield 661, 3) := by decide +kernel
theorem dX16_letGo_4 : decode cX16_letGo 4 = .ok (.iload_n 1, 1) := by decide +kernel
theorem dX16_letGo_5 : decode cX16_letGo 5 = .ok (.iaload, 1) := by decide +kernel
theorem dX16_letGo_6 : decode cX16_letGo 6 = .ok (.iconst (-1), 1) := by decide +kernel
theorem dX16_letGo_7 : decode cX16_letGo 7 = .ok (.if_icmp .eq 50, 3) := by decide +kernel
theorem dX16_letGo_10 : decode cX16_letGo 10 = .ok (.aload_n 0, 1) := by decide +kernel
theorem dX16_letGo_11 : decode cX16_letGo 11 = .ok (.getfield 661, 3) := by decide +kernel
theorem dX16_letGo_14 : decode cX16_letGo 14 = .ok (.iload_n 1, 1) := by decide +kernel
theorem dX16_letGo_15 : decode cX16_letGo 15 = .ok (.iaload, 1) := by decide +kernel
theorem dX16_letGo_16 : decode cX16_letGo 16 = .ok (.istore_n 2, 1) := by decide +kernel
theorem dX16_letGo_17 : decode cX16_letGo 17 = .ok (.aload_n 0, 1) := by decide +kernel
theorem dX16_letGo_18 : decode cX16_letGo 18 = .ok (.getfield 661, 3) := by decide +kernel
theorem dX16_letGo_21 : decode cX16_letGo 21 = .ok (.iload_n 1, 1) := by decide +kernel
theorem dX16_letGo_22 : decode cX16_letGo 22 = .ok (.aload_n 0, 1) := by decide +kernel
theorem dX16_letGo_23 : decode cX16_letGo 23 = .ok (.getfield 652, 3) := by decide +kernel
theorem dX16_letGo_26 : decode cX16_letGo 26 = .ok (.iload_n 2, 1) := by decide +kernel
theorem dX16_letGo_27 : decode cX16_letGo 27 = .ok (.iaload, 1) := by decide +kernel
theorem dX16_letGo_28 : decode cX16_letGo 28 = .ok (.iastore, 1) := by decide +kernel
theorem dX16_letGo_29 : decode cX16_letGo 29 = .ok (.aload_n 0, 1) := by decide +kernel
theorem dX16_letGo_30 : decode cX16_letGo 30 = .ok (.getfield 652, 3) := by decide +kernel
theorem dX16_letGo_33 : decode cX16_letGo 33 = .ok (.iload_n 2, 1) := by decide +kernel
theorem dX16_letGo_34 : decode cX16_letGo 34 = .ok (.aload_n 0, 1) := by decide +kernel
theorem dX16_letGo_35 : decode cX16_letGo 35 = .ok (.getfield 655, 3) := by decide +kernel
theorem dX16_letGo_38 : decode cX16_letGo 38 = .ok (.iastore, 1) := by decide +kernel
theorem dX16_letGo_39 : decode cX16_letGo 39 = .ok (.aload_n 0, 1) := by decide +kernel
theorem dX16_letGo_40 : decode cX16_letGo 40 = .ok (.iload_n 2, 1) := by decide +kernel
theorem dX16_letGo_41 : decode cX16_letGo 41 = .ok (.putfield 655, 3) := by decide +kernel
theorem dX16_letGo_44 : decode cX16_letGo 44 = .ok (.aload_n 0, 1) := by decide +kernel
theorem dX16_letGo_45 : decode cX16_letGo 45 = .ok (.dup, 1) := by decide +kernel
theorem dX16_letGo_46 : decode cX16_letGo 46 = .ok (.getfield 658, 3) := by decide +kernel
theorem dX16_letGo_49 : decode cX16_letGo 49 = .ok (.iconst 1, 1) := by decide +kernel
theorem dX16_letGo_50 : decode cX16_letGo 50 = .ok (.isub, 1) := by decide +kernel
theorem dX16_letGo_51 : decode cX16_letGo 51 = .ok (.putfield 658, 3) := by decide +kernel
theorem dX16_letGo_54 : decode cX16_letGo 54 = .ok (.goto (-54), 3) := by decide +kernel
theorem dX16_letGo_57 : decode cX16_letGo 57 = .ok (.aload_n 0, 1) := by decide +kernel
theorem dX16_letGo_58 : decode cX16_letGo 58 = .ok (.getfield 664, 3) := by decide +kernel
theorem dX16_letGo_61 : decode cX16_letGo 61 = .ok (.iload_n 1, 1) := by decide +kernel
theorem dX16_letGo_62 : decode cX16_letGo 62 = .ok (.iconst (-1), 1) := by decide +kernel
theorem dX16_letGo_63 : decode cX16_letGo 63 = .ok (.iastore, 1) := by decide +kernel
theorem dX16_letGo_64 : decode cX16_letGo 64 = .ok (.aload_n 0, 1) := by decide +kernel
theorem dX16_letGo_65 : decode cX16_letGo 65 = .ok (.getfield 667, 3) := by decide +kernel
theorem dX16_letGo_68 : decode cX16_letGo 68 = .ok (.iload_n 1, 1) := by decide +kernel
theorem dX16_letGo_69 : decode cX16_letGo 69 = .ok (.iconst 0, 1) := by decide +kernel
theorem dX16_letGo_70 : decode cX16_letGo 70 = .ok (.iastore, 1) := by decide +kernel
theorem dX16_letGo_71 : decode cX16_letGo 71 = .ok (.return_, 1) := by decide +kernel
set_option maxRecDepth 20000 in
theorem a_X16_letGo_57 {Q : Sg → Unit → Prop} {X : Sg → String → Prop} (K : MC R p s m args c cX16_letGo 3 RX16 D cA tys A n0 s0 0 0 []) (hQ : HQV p l e R s m args below meth c cX16_letGo D cA A n0 s0 QM dm ra jx rm Q) (hX : HX p l e R s m args below meth c 3 D cA A n0 s0 QM dm ra jx rm X) : ∀ (σ : Sg) (v1 : Int) (g1 : rng v1), w_X16_letGo_57 ra jx rm Q X σ v1 → RG σ → Shp dm ra jx rm σ → JJ p l e R s m args below meth c 3 D cA A n0 s0 QM σ 57 [(0, .ref rm), (1, .int (i32 v1))] [] := by
  intro σ v1 g1 h hGσ hS H locs ls hH hl hc
  have B := K.1
  unfold w_X16_letGo_57 at h
  refine lv_aload_n B.1 B.2.1 dX16_letGo_57 rfl (lv_at hl 0 rfl) ?_
  refine r_arr B hH hS 88 (kd := 100) (n := 12) (by decide) (by decide) wf_X16_664 rfl rfl dX16_letGo_58 ?_
  refine lv_iload_n B.1 B.2.1 dX16_letGo_61 rfl (lv_at hl 1 rfl) ?_
  refine lv_iconst (v := i32 (-1)) B.1 B.2.1 dX16_letGo_62 (by decide) ?_
  obtain ⟨q1, h⟩ := h
  obtain ⟨σ13, eσ13⟩ : ∃ z, z = pI σ (ra 88) v1.toNat (-1) := ⟨_, rfl⟩
  have h := h σ13 eσ13
  refine x_iast B K.2.1 hH (hS.ar (k := 88) (kd := 100) (n := 12) (by decide)) (by decide) q1 dX16_letGo_63 (fun H locs hH => ?_)
  have hH : Hd D cA A s (pI σ (ra 88) v1.toNat (-1)) H locs := hH
  rw [← eσ13] at hH
  have hGσ13 : RG σ13 := by rw [eσ13]; exact hGσ.pI (by unfold rng; omega)
  have hS : Shp dm ra jx rm σ13 := by rw [eσ13]; exact hS
  have hc : CB n0 s0 σ13 := by rw [eσ13]; exact hc
  rw [show gc σ = gc σ13 by rw [eσ13], show gs σ = gs σ13 by rw [eσ13]]
  refine lv_aload_n B.1 B.2.1 dX16_letGo_64 rfl (lv_at hl 0 rfl) ?_
  refine r_arr B hH hS 89 (kd := 100) (n := 12) (by decide) (by decide) wf_X16_667 rfl rfl dX16_letGo_65 ?_
  refine lv_iload_n B.1 B.2.1 dX16_letGo_68 rfl (lv_at hl 1 rfl) ?_
  refine lv_iconst (v := i32 0) B.1 B.2.1 dX16_letGo_69 (by decide) ?_
  obtain ⟨q3, h⟩ := h
  obtain ⟨σ14, eσ14⟩ : ∃ z, z = pI σ13 (ra 89) v1.toNat 0 := ⟨_, rfl⟩
  have h := h σ14 eσ14
  refine x_iast B K.2.1 hH (hS.ar (k := 89) (kd := 100) (n := 12) (by decide)) (by decide) q3 dX16_letGo_70 (fun H locs hH => ?_)
  have hH : Hd D cA A s (pI σ13 (ra 89) v1.toNat 0) H locs := hH
  rw [← eσ14] at hH
  have hGσ14 : RG σ14 := by rw [eσ14]; exact hGσ13.pI (by unfold rng; omega)
  have hS : Shp dm ra jx rm σ14 := by rw [eσ14]; exact hS
  have hc : CB n0 s0 σ14 := by rw [eσ14]; exact hc
  rw [show gc σ13 = gc σ14 by rw [eσ14], show gs σ13 = gs σ14 by rw [eσ14]]
  exact hQ _ _ _ _ _ dX16_letGo_71 hH hc h hGσ14 hS
set_option maxRecDepth 20000 in
theorem a_X16_letGo_10 {Q : Sg → Unit → Prop} {X : Sg → String → Prop} (K : MC R p s m args c cX16_letGo 3 RX16 D cA tys A n0 s0 0 0 []) (hQ : HQV p l e R s m args below meth c cX16_letGo D cA A n0 s0 QM dm ra jx rm Q) (hX : HX p l e R s m args below meth c 3 D cA A n0 s0 QM dm ra jx rm X) {K0 : Sg → Int → Prop} (hK0 : ∀ (σ : Sg) (v1 : Int) (g1 : rng v1), K0 σ v1 → RG σ → Shp dm ra jx rm σ → JJ p l e R s m args below meth c 3 D cA A n0 s0 QM σ 0 [(0, .ref rm), (1, .int (i32 v1))] []) : ∀ (σ : Sg) (v1 : Int) (g1 : rng v1), w_X16_letGo_10 ra jx rm K0 Q X σ v1 → RG σ → Shp dm ra jx rm σ → JJ p l e R s m args below meth c 3 D cA A n0 s0 QM σ 10 [(0, .ref rm), (1, .int (i32 v1))] [] := by
  intro σ v1 g1 h hGσ hS H locs ls hH hl hc
  have B := K.1
  unfold w_X16_letGo_10 at h
  refine lv_aload_n B.1 B.2.1 dX16_letGo_10 rfl (lv_at hl 0 rfl) ?_
  refine r_arr B hH hS 87 (kd := 100) (n := 12) (by decide) (by decide) wf_X16_661 rfl rfl dX16_letGo_11 ?_
  refine lv_iload_n B.1 B.2.1 dX16_letGo_14 rfl (lv_at hl 1 rfl) ?_
  obtain ⟨q1, h⟩ := h
  refine x_iald B K.2.1 hH (hS.ar (k := 87) (kd := 100) (n := 12) (by decide)) (by decide) q1 dX16_letGo_15 ?_
  refine lv_istore_n (lv' := [(2, .int (i32 (gI σ (ra 87) v1.toNat))), (0, .ref rm), (1, .int (i32 v1))]) B.1 B.2.1 dX16_letGo_16 rfl hl (by decide) rfl (fun ls hl => ?_)
  refine lv_aload_n B.1 B.2.1 dX16_letGo_17 rfl (lv_at hl 1 rfl) ?_
  refine r_arr B hH hS 87 (kd := 100) (n := 12) (by decide) (by decide) wf_X16_661 rfl rfl dX16_letGo_18 ?_
  refine lv_iload_n B.1 B.2.1 dX16_letGo_21 rfl (lv_at hl 2 rfl) ?_
  refine lv_aload_n B.1 B.2.1 dX16_letGo_22 rfl (lv_at hl 1 rfl) ?_
  refine r_arr B hH hS 86 (kd := 100) (n := 2000) (by decide) (by decide) wf_X16_652 rfl rfl dX16_letGo_23 ?_
  refine lv_iload_n B.1 B.2.1 dX16_letGo_26 rfl (lv_at hl 0 rfl) ?_
  obtain ⟨q2, h⟩ := h
  refine x_iald B K.2.1 hH (hS.ar (k := 86) (kd := 100) (n := 2000) (by decide)) (by decide) q2 dX16_letGo_27 ?_
  obtain ⟨q3, h⟩ := h
  obtain ⟨σ15, eσ15⟩ : ∃ z, z = pI σ (ra 87) v1.toNat (gI σ (ra 86) (gI σ (ra 87) v1.toNat).toNat) := ⟨_, rfl⟩
  have h := h σ15 eσ15
  refine x_iast B K.2.1 hH (hS.ar (k := 87) (kd := 100) (n := 12) (by decide)) (by decide) q3 dX16_letGo_28 (fun H locs hH => ?_)
  have hH : Hd D cA A s (pI σ (ra 87) v1.toNat (gI σ (ra 86) (gI σ (ra 87) v1.toNat).toNat)) H locs := hH
  rw [← eσ15] at hH
  have hGσ15 : RG σ15 := by rw [eσ15]; exact hGσ.pI (hGσ _ _)
  have hS : Shp dm ra jx rm σ15 := by rw [eσ15]; exact hS
  have hc : CB n0 s0 σ15 := by rw [eσ15]; exact hc
  rw [show gc σ = gc σ15 by rw [eσ15], show gs σ = gs σ15 by rw [eσ15]]
  refine lv_aload_n B.1 B.2.1 dX16_letGo_29 rfl (lv_at hl 1 rfl) ?_
  refine r_arr B hH hS 86 (kd := 100) (n := 2000) (by decide) (by decide) wf_X16_652 rfl rfl dX16_letGo_30 ?_
  refine lv_iload_n B.1 B.2.1 dX16_letGo_33 rfl (lv_at hl 0 rfl) ?_
  refine lv_aload_n B.1 B.2.1 dX16_letGo_34 rfl (lv_at hl 1 rfl) ?_
  refine r_geti B hH hS 90 (by decide) wf_X16_655 rfl rfl dX16_letGo_35 ?_
  obtain ⟨q5, h⟩ := h
  obtain ⟨σ16, eσ16⟩ : ∃ z, z = pI σ15 (ra 86) (gI σ (ra 87) v1.toNat).toNat (gI σ15 rm 90) := ⟨_, rfl⟩
  have h := h σ16 eσ16
  refine x_iast B K.2.1 hH (hS.ar (k := 86) (kd := 100) (n := 2000) (by decide)) (by decide) q5 dX16_letGo_38 (fun H locs hH => ?_)
  have hH : Hd D cA A s (pI σ15 (ra 86) (gI σ (ra 87) v1.toNat).toNat (gI σ15 rm 90)) H locs := hH
  rw [← eσ16] at hH
  have hGσ16 : RG σ16 := by rw [eσ16]; exact hGσ15.pI (hGσ15 _ _)
  have hS : Shp dm ra jx rm σ16 := by rw [eσ16]; exact hS
  have hc : CB n0 s0 σ16 := by rw [eσ16]; exact hc
  rw [show gc σ15 = gc σ16 by rw [eσ16], show gs σ15 = gs σ16 by rw [eσ16]]
  refine lv_aload_n B.1 B.2.1 dX16_letGo_39 rfl (lv_at hl 1 rfl) ?_
  refine lv_iload_n B.1 B.2.1 dX16_letGo_40 rfl (lv_at hl 0 rfl) ?_
  obtain ⟨σ17, eσ17⟩ : ∃ z, z = pI σ16 rm 90 (gI σ (ra 87) v1.toNat) := ⟨_, rfl⟩
  have h := h σ17 eσ17
  refine r_puti B hH hS 90 (ty := .int) (by decide) wf_X16_655 rfl rfl rfl rfl rfl rfl dX16_letGo_41 (fun H locs hH => ?_)
  have hH : Hd D cA A s (pI σ16 rm 90 (gI σ (ra 87) v1.toNat)) H locs := hH
  rw [← eσ17] at hH
  have hGσ17 : RG σ17 := by rw [eσ17]; exact hGσ16.pI (hGσ _ _)
  have hS : Shp dm ra jx rm σ17 := by rw [eσ17]; exact hS
  have hc : CB n0 s0 σ17 := by rw [eσ17]; exact hc
  rw [show gc σ16 = gc σ17 by rw [eσ17], show gs σ16 = gs σ17 by rw [eσ17]]
  refine lv_aload_n B.1 B.2.1 dX16_letGo_44 rfl (lv_at hl 1 rfl) ?_
  refine lv_dup B.1 B.2.1 dX16_letGo_45 rfl ?_
  refine r_geti B hH hS 91 (by decide) wf_X16_658 rfl rfl dX16_letGo_46 ?_
  refine lv_iconst (v := i32 1) B.1 B.2.1 dX16_letGo_49 (by decide) ?_
  obtain ⟨q8, h⟩ := h
  refine lv_isub B.1 B.2.1 dX16_letGo_50 ?_
  rw [i32_sub]
  obtain ⟨σ18, eσ18⟩ : ∃ z, z = pI σ17 rm 91 (gI σ17 rm 91 - 1) := ⟨_, rfl⟩
  have h := h σ18 eσ18
  refine r_puti B hH hS 91 (ty := .int) (by decide) wf_X16_658 rfl rfl rfl rfl rfl rfl dX16_letGo_51 (fun H locs hH => ?_)
  have hH : Hd D cA A s (pI σ17 rm 91 (gI σ17 rm 91 - 1)) H locs := hH
  rw [← eσ18] at hH
  have hGσ18 : RG σ18 := by rw [eσ18]; exact hGσ17.pI q8
  have hS : Shp dm ra jx rm σ18 := by rw [eσ18]; exact hS
  have hc : CB n0 s0 σ18 := by rw [eσ18]; exact hc
  rw [show gc σ17 = gc σ18 by rw [eσ18], show gs σ17 = gs σ18 by rw [eσ18]]
  refine lv_goto (tgt := 0) B.1 B.2.1 dX16_letGo_54 (by decide) ?_
  exact hK0 _ _ g1 h hGσ18 hS _ _ _ hH (lv_sub (l' := [(0, .ref rm), (1, .int (i32 v1))]) hl [1, 2] rfl) hc
set_option maxRecDepth 20000 in
theorem a_X16_letGo_0 {Q : Sg → Unit → Prop} {X : Sg → String → Prop} (K : MC R p s m args c cX16_letGo 3 RX16 D cA tys A n0 s0 0 0 []) (hQ : HQV p l e R s m args below meth c cX16_letGo D cA A n0 s0 QM dm ra jx rm Q) (hX : HX p l e R s m args below meth c 3 D cA A n0 s0 QM dm ra jx rm X) {K0 : Sg → Int → Prop} (hK0 : ∀ (σ : Sg) (v1 : Int) (g1 : rng v1), K0 σ v1 → RG σ → Shp dm ra jx rm σ → JJ p l e R s m args below meth c 3 D cA A n0 s0 QM σ 0 [(0, .ref rm), (1, .int (i32 v1))] []) : ∀ (σ : Sg) (v1 : Int) (g1 : rng v1), w_X16_letGo_0 ra jx rm K0 Q X σ v1 → RG σ → Shp dm ra jx rm σ → JJ p l e R s m args below meth c 3 D cA A n0 s0 QM σ 0 [(0, .ref rm), (1, .int (i32 v1))] [] := by
  intro σ v1 g1 h hGσ hS H locs ls hH hl hc
  have B := K.1
  unfold w_X16_letGo_0 at h
  refine lv_aload_n B.1 B.2.1 dX16_letGo_0 rfl (lv_at hl 0 rfl) ?_
  refine r_arr B hH hS 87 (kd := 100) (n := 12) (by decide) (by decide) wf_X16_661 rfl rfl dX16_letGo_1 ?_
  refine lv_iload_n B.1 B.2.1 dX16_letGo_4 rfl (lv_at hl 1 rfl) ?_
  obtain ⟨q1, h⟩ := h
  refine x_iald B K.2.1 hH (hS.ar (k := 87) (kd := 100) (n := 12) (by decide)) (by decide) q1 dX16_letGo_5 ?_
  refine lv_iconst (v := i32 (-1)) B.1 B.2.1 dX16_letGo_6 (by decide) ?_
  refine lv_icmp_eq (tgt := 57) B.1 B.2.1 dX16_letGo_7 (by decide) (fun h9 => ?_) (fun h9 => ?_)
  · rw [if_pos ((i32_eq (hGσ _ _) (by unfold rng; omega)).mp h9)] at h
    exact a_X16_letGo_57 K hQ hX _ _ g1 h hGσ hS _ _ _ hH (lv_sub (l' := [(0, .ref rm), (1, .int (i32 v1))]) hl [0, 1] rfl) hc
  · rw [if_neg (fun q => h9 ((i32_eq (hGσ _ _) (by unfold rng; omega)).mpr q))] at h
    exact a_X16_letGo_10 K hQ hX hK0 _ _ g1 h hGσ hS _ _ _ hH (lv_sub (l' := [(0, .ref rm), (1, .int (i32 v1))]) hl [0, 1] rfl) hc
theorem al_X16_letGo_0 {Q : Sg → Unit → Prop} {X : Sg → String → Prop} (K : MC R p s m args c cX16_letGo 3 RX16 D cA tys A n0 s0 0 0 []) (hQ : HQV p l e R s m args below meth c cX16_letGo D cA A n0 s0 QM dm ra jx rm Q) (hX : HX p l e R s m args below meth c 3 D cA A n0 s0 QM dm ra jx rm X) : ∀ (n : Nat), ∀ (σ : Sg) (v1 : Int) (g1 : rng v1), wl_X16_letGo_0 ra jx rm Q X n σ v1 → RG σ → Shp dm ra jx rm σ → JJ p l e R s m args below meth c 3 D cA A n0 s0 QM σ 0 [(0, .ref rm), (1, .int (i32 v1))] [] := by
  intro n
  induction n with
  | zero => intro σ v1 g1 h; exact h.elim
  | succ n ih => exact fun σ v1 g1 h => a_X16_letGo_0 K hQ hX ih σ v1 g1 h
theorem ok_X16_letGo (hT : Tys cA tys) {Q : Sg → Unit → Prop} {X : Sg → String → Prop} (σ : Sg) (v1 : Int) (g1 : rng v1) (hG : RG σ) (hS : Shp dm ra jx rm σ) (h : wp_X16_letGo ra jx rm v1 σ Q X) : Ok l D cA tys A yX16_letGo (.code yX16_letGo cX16_letGo 3 none) 0 0 [.ref rm, .int (i32 v1)] σ (QnV dm ra jx rm Q) (QxR dm ra jx rm X) := by
  unfold wp_X16_letGo at h
  obtain ⟨n9, h⟩ := h
  exact ok_V (plainFor_of_name (by decide)) (by exact Nat.le_of_ble_eq_true rfl) hT (fun p e R s m args below meth c K hQ hX H locs ls hH hl hc => al_X16_letGo_0 K hQ hX n9 σ v1 g1 h hG hS H locs ls hH (lv_sub (l' := [(0, .ref rm), (1, .int (i32 v1))]) hl [0, 1] rfl) hc)
theorem dX16_noRecords_0 : decode cX16_noRecords 0 = .ok (.iconst 0, 1) := by decide +kernel
theorem dX16_noRecords_1 : decode cX16_noRecords 1 = .ok (.istore_n 1, 1) := by decide +kernel
theorem dX16_noRecords_2 : decode cX16_noRecords 2 = .ok (.iload_n 1, 1) := by decide +kernel
theorem dX16_noRecords_3 : decode cX16_noRecords 3 = .ok (.sipush 4000, 3) := by decide +kernel
theorem dX16_noRecords_6 : decode cX16_noRecords 6 = .ok (.if_icmp .ge 31, 3) := by decide +kernel
theorem dX16_noRecords_9 : decode cX16_noRecords 9 = .ok (.aload_n 0, 1) := by decide +kernel
theorem dX16_noRecords_10 : decode cX16_noRecords 10 = .ok (.getfield 495, 3) := by decide +kernel
theorem dX16_noRecords_13 : decode cX16_noRecords 13 = .ok (.iload_n 1, 1) := by decide +kernel
theorem dX16_noRecords_14 : decode cX16_noRecords 14 = .ok (.iload_n 1, 1) := by decide +kernel
theorem dX16_noRecords_15 : decode cX16_noRecords 15 = .ok (.iconst 1, 1) := by decide +kernel
theorem dX16_noRecords_16 : decode cX16_noRecords 16 = .ok (.iadd, 1) := by decide +kernel
theorem dX16_noRecords_17 : decode cX16_noRecords 17 = .ok (.sipush 4000, 3) := by decide +kernel
theorem dX16_noRecords_20 : decode cX16_noRecords 20 = .ok (.if_icmp .ge 9, 3) := by decide +kernel
theorem dX16_noRecords_23 : decode cX16_noRecords 23 = .ok (.iload_n 1, 1) := by decide +kernel
theorem dX16_noRecords_24 : decode cX16_noRecords 24 = .ok (.iconst 1, 1) := by decide +kernel
theorem dX16_noRecords_25 : decode cX16_noRecords 25 = .ok (.iadd, 1) := by decide +kernel
theorem dX16_noRecords_26 : decode cX16_noRecords 26 = .ok (.goto 4, 3) := by decide +kernel
theorem dX16_noRecords_29 : decode cX16_noRecords 29 = .ok (.iconst (-1), 1) := by decide +kernel
theorem dX16_noRecords_30 : decode cX16_noRecords 30 = .ok (.iastore, 1) := by decide +kernel
theorem dX16_noRecords_31 : decode cX16_noRecords 31 = .ok (.iinc 1 1, 3) := by decide +kernel
theorem dX16_noRecords_34 : decode cX16_noRecords 34 = .ok (.goto (-32), 3) := by decide +kernel
theorem dX16_noRecords_37 : decode cX16_noRecords 37 = .ok (.aload_n 0, 1) := by decide +kernel
theorem dX16_noRecords_38 : decode cX16_noRecords 38 = .ok (.iconst 0, 1) := by decide +kernel
theorem dX16_noRecords_39 : decode cX16_noRecords 39 = .ok (.putfield 498, 3) := by decide +kernel
theorem dX16_noRecords_42 : decode cX16_noRecords 42 = .ok (.aload_n 0, 1) := by decide +kernel
theorem dX16_noRecords_43 : decode cX16_noRecords 43 = .ok (.iconst 0, 1) := by decide +kernel
theorem dX16_noRecords_44 : decode cX16_noRecords 44 = .ok (.putfield 501, 3) := by decide +kernel
theorem dX16_noRecords_47 : decode cX16_noRecords 47 = .ok (.iconst 0, 1) := by decide +kernel
theorem dX16_noRecords_48 : decode cX16_noRecords 48 = .ok (.istore_n 1, 1) := by decide +kernel
theorem dX16_noRecords_49 : decode cX16_noRecords 49 = .ok (.iload_n 1, 1) := by decide +kernel
theorem dX16_noRecords_50 : decode cX16_noRecords 50 = .ok (.bipush 64, 2) := by decide +kernel
theorem dX16_noRecords_52 : decode cX16_noRecords 52 = .ok (.if_icmp .ge 30, 3) := by decide +kernel
theorem dX16_noRecords_55 : decode cX16_noRecords 55 = .ok (.aload_n 0, 1) := by decide +kernel
theorem dX16_noRecords_56 : decode cX16_noRecords 56 = .ok (.getfield 504, 3) := by decide +kernel
theorem dX16_noRecords_59 : decode cX16_noRecords 59 = .ok (.iload_n 1, 1) := by decide +kernel
theorem dX16_noRecords_60 : decode cX16_noRecords 60 = .ok (.iconst (-1), 1) := by decide +kernel
theorem dX16_noRecords_61 : decode cX16_noRecords 61 = .ok (.iastore, 1) := by decide +kernel
theorem dX16_noRecords_62 : decode cX16_noRecords 62 = .ok (.aload_n 0, 1) := by decide +kernel
theorem dX16_noRecords_63 : decode cX16_noRecords 63 = .ok (.getfield 507, 3) := by decide +kernel
theorem dX16_noRecords_66 : decode cX16_noRecords 66 = .ok (.iload_n 1, 1) := by decide +kernel
theorem dX16_noRecords_67 : decode cX16_noRecords 67 = .ok (.iconst (-1), 1) := by decide +kernel
theorem dX16_noRecords_68 : decode cX16_noRecords 68 = .ok (.iastore, 1) := by decide +kernel
theorem dX16_noRecords_69 : decode cX16_noRecords 69 = .ok (.aload_n 0, 1) := by decide +kernel
theorem dX16_noRecords_70 : decode cX16_noRecords 70 = .ok (.getfield 510, 3) := by decide +kernel
theorem dX16_noRecords_73 : decode cX16_noRecords 73 = .ok (.iload_n 1, 1) := by decide +kernel
theorem dX16_noRecords_74 : decode cX16_noRecords 74 = .ok (.iconst 0, 1) := by decide +kernel
theorem dX16_noRecords_75 : decode cX16_noRecords 75 = .ok (.iastore, 1) := by decide +kernel
theorem dX16_noRecords_76 : decode cX16_noRecords 76 = .ok (.iinc 1 1, 3) := by decide +kernel
theorem dX16_noRecords_79 : decode cX16_noRecords 79 = .ok (.goto (-30), 3) := by decide +kernel
theorem dX16_noRecords_82 : decode cX16_noRecords 82 = .ok (.return_, 1) := by decide +kernel
set_option maxRecDepth 20000 in
theorem a_X16_noRecords_82 {Q : Sg → Unit → Prop} {X : Sg → String → Prop} (K : MC R p s m args c cX16_noRecords 2 RX16 D cA tys A n0 s0 0 0 []) (hQ : HQV p l e R s m args below meth c cX16_noRecords D cA A n0 s0 QM dm ra jx rm Q) (hX : HX p l e R s m args below meth c 2 D cA A n0 s0 QM dm ra jx rm X) : ∀ (σ : Sg), w_X16_noRecords_82 ra jx rm Q X σ → RG σ → Shp dm ra jx rm σ → JJ p l e R s m args below meth c 2 D cA A n0 s0 QM σ 82 [(0, .ref rm)] [] := by
  intro σ h hGσ hS H locs ls hH hl hc
  have B := K.1
  unfold w_X16_noRecords_82 at h
  exact hQ _ _ _ _ _ dX16_noRecords_82 hH hc h hGσ hS
set_option maxRecDepth 20000 in
theorem a_X16_noRecords_55 {Q : Sg → Unit → Prop} {X : Sg → String → Prop} (K : MC R p s m args c cX16_noRecords 2 RX16 D cA tys A n0 s0 0 0 []) (hQ : HQV p l e R s m args below meth c cX16_noRecords D cA A n0 s0 QM dm ra jx rm Q) (hX : HX p l e R s m args below meth c 2 D cA A n0 s0 QM dm ra jx rm X) {K49 : Sg → Int → Prop} (hK49 : ∀ (σ : Sg) (v1 : Int) (g1 : rng v1), K49 σ v1 → RG σ → Shp dm ra jx rm σ → JJ p l e R s m args below meth c 2 D cA A n0 s0 QM σ 49 [(0, .ref rm), (1, .int (i32 v1))] []) : ∀ (σ : Sg) (v1 : Int) (g1 : rng v1), w_X16_noRecords_55 ra jx rm K49 Q X σ v1 → RG σ → Shp dm ra jx rm σ → JJ p l e R s m args below meth c 2 D cA A n0 s0 QM σ 55 [(0, .ref rm), (1, .int (i32 v1))] [] := by
  intro σ v1 g1 h hGσ hS H locs ls hH hl hc
  have B := K.1
  unfold w_X16_noRecords_55 at h
  refine lv_aload_n B.1 B.2.1 dX16_noRecords_55 rfl (lv_at hl 0 rfl) ?_
  refine r_arr B hH hS 76 (kd := 100) (n := 64) (by decide) (by decide) wf_X16_504 rfl rfl dX16_noRecords_56 ?_
  refine lv_iload_n B.1 B.2.1 dX16_noRecords_59 rfl (lv_at hl 1 rfl) ?_
  refine lv_iconst (v := i32 (-1)) B.1 B.2.1 dX16_noRecords_60 (by decide) ?_
  obtain ⟨q1, h⟩ := h
  obtain ⟨σ13, eσ13⟩ : ∃ z, z = pI σ (ra 76) v1.toNat (-1) := ⟨_, rfl⟩
  have h := h σ13 eσ13
  refine x_iast B K.2.1 hH (hS.ar (k := 76) (kd := 100) (n := 64) (by decide)) (by decide) q1 dX16_noRecords_61 (fun H locs hH => ?_)
  have hH : Hd D cA A s (pI σ (ra 76) v1.toNat (-1)) H locs := hH
  rw [← eσ13] at hH
  have hGσ13 : RG σ13 := by rw [eσ13]; exact hGσ.pI (by unfold rng; omega)
  have hS : Shp dm ra jx rm σ13 := by rw [eσ13]; exact hS
  have hc : CB n0 s0 σ13 := by rw [eσ13]; exact hc
  rw [show gc σ = gc σ13 by rw [eσ13], show gs σ = gs σ13 by rw [eσ13]]
  refine lv_aload_n B.1 B.2.1 dX16_noRecords_62 rfl (lv_at hl 0 rfl) ?_
  refine r_arr B hH hS 77 (kd := 100) (n := 64) (by decide) (by decide) wf_X16_507 rfl rfl dX16_noRecords_63 ?_
  refine lv_iload_n B.1 B.2.1 dX16_noRecords_66 rfl (lv_at hl 1 rfl) ?_
  refine lv_iconst (v := i32 (-1)) B.1 B.2.1 dX16_noRecords_67 (by decide) ?_
  obtain ⟨q3, h⟩ := h
  obtain ⟨σ14, eσ14⟩ : ∃ z, z = pI σ13 (ra 77) v1.toNat (-1) := ⟨_, rfl⟩
  have h := h σ14 eσ14
  refine x_iast B K.2.1 hH (hS.ar (k := 77) (kd := 100) (n := 64) (by decide)) (by decide) q3 dX16_noRecords_68 (fun H locs hH => ?_)
  have hH : Hd D cA A s (pI σ13 (ra 77) v1.toNat (-1)) H locs := hH
  rw [← eσ14] at hH
  have hGσ14 : RG σ14 := by rw [eσ14]; exact hGσ13.pI (by unfold rng; omega)
  have hS : Shp dm ra jx rm σ14 := by rw [eσ14]; exact hS
  have hc : CB n0 s0 σ14 := by rw [eσ14]; exact hc
  rw [show gc σ13 = gc σ14 by rw [eσ14], show gs σ13 = gs σ14 by rw [eσ14]]
  refine lv_aload_n B.1 B.2.1 dX16_noRecords_69 rfl (lv_at hl 0 rfl) ?_
  refine r_arr B hH hS 78 (kd := 100) (n := 64) (by decide) (by decide) wf_X16_510 rfl rfl dX16_noRecords_70 ?_
  refine lv_iload_n B.1 B.2.1 dX16_noRecords_73 rfl (lv_at hl 1 rfl) ?_
  refine lv_iconst (v := i32 0) B.1 B.2.1 dX16_noRecords_74 (by decide) ?_
  obtain ⟨q5, h⟩ := h
  obtain ⟨σ15, eσ15⟩ : ∃ z, z = pI σ14 (ra 78) v1.toNat 0 := ⟨_, rfl⟩
  have h := h σ15 eσ15
  refine x_iast B K.2.1 hH (hS.ar (k := 78) (kd := 100) (n := 64) (by decide)) (by decide) q5 dX16_noRecords_75 (fun H locs hH => ?_)
  have hH : Hd D cA A s (pI σ14 (ra 78) v1.toNat 0) H locs := hH
  rw [← eσ15] at hH
  have hGσ15 : RG σ15 := by rw [eσ15]; exact hGσ14.pI (by unfold rng; omega)
  have hS : Shp dm ra jx rm σ15 := by rw [eσ15]; exact hS
  have hc : CB n0 s0 σ15 := by rw [eσ15]; exact hc
  rw [show gc σ14 = gc σ15 by rw [eσ15], show gs σ14 = gs σ15 by rw [eσ15]]
  obtain ⟨q7, h⟩ := h
  refine lv_iinc (k := 1) (v := i32 (v1 + 1)) (lv' := [(1, .int (i32 (v1 + 1))), (0, .ref rm)]) B.1 B.2.1 dX16_noRecords_76 hl rfl (i32_add _ _) (by decide) rfl (fun ls hl => ?_)
  refine lv_goto (tgt := 49) B.1 B.2.1 dX16_noRecords_79 (by decide) ?_
  exact hK49 _ _ q7 h hGσ15 hS _ _ _ hH (lv_sub (l' := [(0, .ref rm), (1, .int (i32 (v1 + 1)))]) hl [1, 0] rfl) hc
set_option maxRecDepth 20000 in
theorem a_X16_noRecords_49 {Q : Sg → Unit → Prop} {X : Sg → String → Prop} (K : MC R p s m args c cX16_noRecords 2 RX16 D cA tys A n0 s0 0 0 []) (hQ : HQV p l e R s m args below meth c cX16_noRecords D cA A n0 s0 QM dm ra jx rm Q) (hX : HX p l e R s m args below meth c 2 D cA A n0 s0 QM dm ra jx rm X) {K49 : Sg → Int → Prop} (hK49 : ∀ (σ : Sg) (v1 : Int) (g1 : rng v1), K49 σ v1 → RG σ → Shp dm ra jx rm σ → JJ p l e R s m args below meth c 2 D cA A n0 s0 QM σ 49 [(0, .ref rm), (1, .int (i32 v1))] []) : ∀ (σ : Sg) (v1 : Int) (g1 : rng v1), w_X16_noRecords_49 ra jx rm K49 Q X σ v1 → RG σ → Shp dm ra jx rm σ → JJ p l e R s m args below meth c 2 D cA A n0 s0 QM σ 49 [(0, .ref rm), (1, .int (i32 v1))] [] := by
  intro σ v1 g1 h hGσ hS H locs ls hH hl hc
  have B := K.1
  unfold w_X16_noRecords_49 at h
  refine lv_iload_n B.1 B.2.1 dX16_noRecords_49 rfl (lv_at hl 1 rfl) ?_
  refine lv_bipush (v := i32 64) B.1 B.2.1 dX16_noRecords_50 (by decide) ?_
  refine lv_icmp_ge (tgt := 82) B.1 B.2.1 dX16_noRecords_52 (by decide) (fun h9 => ?_) (fun h9 => ?_)
  · rw [if_pos ((i32_le (by unfold rng; omega) g1).mp h9)] at h
    exact a_X16_noRecords_82 K hQ hX _ h hGσ hS _ _ _ hH (lv_sub (l' := [(0, .ref rm)]) hl [0] rfl) hc
  · rw [if_neg (fun q => h9 ((i32_le (by unfold rng; omega) g1).mpr q))] at h
    exact a_X16_noRecords_55 K hQ hX hK49 _ _ g1 h hGσ hS _ _ _ hH (lv_sub (l' := [(0, .ref rm), (1, .int (i32 v1))]) hl [0, 1] rfl) hc
theorem al_X16_noRecords_49 {Q : Sg → Unit → Prop} {X : Sg → String → Prop} (K : MC R p s m args c cX16_noRecords 2 RX16 D cA tys A n0 s0 0 0 []) (hQ : HQV p l e R s m args below meth c cX16_noRecords D cA A n0 s0 QM dm ra jx rm Q) (hX : HX p l e R s m args below meth c 2 D cA A n0 s0 QM dm ra jx rm X) : ∀ (n : Nat), ∀ (σ : Sg) (v1 : Int) (g1 : rng v1), wl_X16_noRecords_49 ra jx rm Q X n σ v1 → RG σ → Shp dm ra jx rm σ → JJ p l e R s m args below meth c 2 D cA A n0 s0 QM σ 49 [(0, .ref rm), (1, .int (i32 v1))] [] := by
  intro n
  induction n with
  | zero => intro σ v1 g1 h; exact h.elim
  | succ n ih => exact fun σ v1 g1 h => a_X16_noRecords_49 K hQ hX ih σ v1 g1 h
set_option maxRecDepth 20000 in
theorem a_X16_noRecords_37 {Q : Sg → Unit → Prop} {X : Sg → String → Prop} (K : MC R p s m args c cX16_noRecords 2 RX16 D cA tys A n0 s0 0 0 []) (hQ : HQV p l e R s m args below meth c cX16_noRecords D cA A n0 s0 QM dm ra jx rm Q) (hX : HX p l e R s m args below meth c 2 D cA A n0 s0 QM dm ra jx rm X) : ∀ (σ : Sg), w_X16_noRecords_37 ra jx rm Q X σ → RG σ → Shp dm ra jx rm σ → JJ p l e R s m args below meth c 2 D cA A n0 s0 QM σ 37 [(0, .ref rm)] [] := by
  intro σ h hGσ hS H locs ls hH hl hc
  have B := K.1
  unfold w_X16_noRecords_37 at h
  refine lv_aload_n B.1 B.2.1 dX16_noRecords_37 rfl (lv_at hl 0 rfl) ?_
  refine lv_iconst (v := i32 0) B.1 B.2.1 dX16_noRecords_38 (by decide) ?_
  obtain ⟨σ16, eσ16⟩ : ∃ z, z = pI σ rm 79 0 := ⟨_, rfl⟩
  have h := h σ16 eσ16
  refine r_puti B hH hS 79 (ty := .int) (by decide) wf_X16_498 rfl rfl rfl rfl rfl rfl dX16_noRecords_39 (fun H locs hH => ?_)
  have hH : Hd D cA A s (pI σ rm 79 0) H locs := hH
  rw [← eσ16] at hH
  have hGσ16 : RG σ16 := by rw [eσ16]; exact hGσ.pI (by unfold rng; omega)
  have hS : Shp dm ra jx rm σ16 := by rw [eσ16]; exact hS
  have hc : CB n0 s0 σ16 := by rw [eσ16]; exact hc
  rw [show gc σ = gc σ16 by rw [eσ16], show gs σ = gs σ16 by rw [eσ16]]
  refine lv_aload_n B.1 B.2.1 dX16_noRecords_42 rfl (lv_at hl 0 rfl) ?_
  refine lv_iconst (v := i32 0) B.1 B.2.1 dX16_noRecords_43 (by decide) ?_
  obtain ⟨σ17, eσ17⟩ : ∃ z, z = pI σ16 rm 80 0 := ⟨_, rfl⟩
  have h := h σ17 eσ17
  refine r_puti B hH hS 80 (ty := .int) (by decide) wf_X16_501 rfl rfl rfl rfl rfl rfl dX16_noRecords_44 (fun H locs hH => ?_)
  have hH : Hd D cA A s (pI σ16 rm 80 0) H locs := hH
  rw [← eσ17] at hH
  have hGσ17 : RG σ17 := by rw [eσ17]; exact hGσ16.pI (by unfold rng; omega)
  have hS : Shp dm ra jx rm σ17 := by rw [eσ17]; exact hS
  have hc : CB n0 s0 σ17 := by rw [eσ17]; exact hc
  rw [show gc σ16 = gc σ17 by rw [eσ17], show gs σ16 = gs σ17 by rw [eσ17]]
  refine lv_iconst (v := i32 0) B.1 B.2.1 dX16_noRecords_47 (by decide) ?_
  refine lv_istore_n (lv' := [(1, .int (i32 0)), (0, .ref rm)]) B.1 B.2.1 dX16_noRecords_48 rfl hl (by decide) rfl (fun ls hl => ?_)
  obtain ⟨n9, h⟩ := h
  exact al_X16_noRecords_49 K hQ hX n9 _ _ (by unfold rng; omega) h hGσ17 hS _ _ _ hH (lv_sub (l' := [(0, .ref rm), (1, .int (i32 0))]) hl [1, 0] rfl) hc
set_option maxRecDepth 20000 in
theorem a_X16_noRecords_30 {Q : Sg → Unit → Prop} {X : Sg → String → Prop} (K : MC R p s m args c cX16_noRecords 2 RX16 D cA tys A n0 s0 0 0 []) (hQ : HQV p l e R s m args below meth c cX16_noRecords D cA A n0 s0 QM dm ra jx rm Q) (hX : HX p l e R s m args below meth c 2 D cA A n0 s0 QM dm ra jx rm X) {K2 : Sg → Int → Prop} (hK2 : ∀ (σ : Sg) (v1 : Int) (g1 : rng v1), K2 σ v1 → RG σ → Shp dm ra jx rm σ → JJ p l e R s m args below meth c 2 D cA A n0 s0 QM σ 2 [(0, .ref rm), (1, .int (i32 v1))] []) : ∀ (σ : Sg) (v1 : Int) (u0 : Int) (u1 : Int) (g1 : rng v1) (gu0 : rng u0) (gu1 : rng u1), w_X16_noRecords_30 ra jx rm K2 Q X σ v1 u0 u1 → RG σ → Shp dm ra jx rm σ → JJ p l e R s m args below meth c 2 D cA A n0 s0 QM σ 30 [(0, .ref rm), (1, .int (i32 v1))] [.int (i32 u0), .int (i32 u1), .ref (ra 75)] := by
  intro σ v1 u0 u1 g1 gu0 gu1 h hGσ hS H locs ls hH hl hc
  have B := K.1
  unfold w_X16_noRecords_30 at h
  obtain ⟨q1, h⟩ := h
  obtain ⟨σ18, eσ18⟩ : ∃ z, z = pI σ (ra 75) u1.toNat u0 := ⟨_, rfl⟩
  have h := h σ18 eσ18
  refine x_iast B K.2.1 hH (hS.ar (k := 75) (kd := 100) (n := 4000) (by decide)) (by decide) q1 dX16_noRecords_30 (fun H locs hH => ?_)
  have hH : Hd D cA A s (pI σ (ra 75) u1.toNat u0) H locs := hH
  rw [← eσ18] at hH
  have hGσ18 : RG σ18 := by rw [eσ18]; exact hGσ.pI gu0
  have hS : Shp dm ra jx rm σ18 := by rw [eσ18]; exact hS
  have hc : CB n0 s0 σ18 := by rw [eσ18]; exact hc
  rw [show gc σ = gc σ18 by rw [eσ18], show gs σ = gs σ18 by rw [eσ18]]
  obtain ⟨q3, h⟩ := h
  refine lv_iinc (k := 1) (v := i32 (v1 + 1)) (lv' := [(1, .int (i32 (v1 + 1))), (0, .ref rm)]) B.1 B.2.1 dX16_noRecords_31 hl rfl (i32_add _ _) (by decide) rfl (fun ls hl => ?_)
  refine lv_goto (tgt := 2) B.1 B.2.1 dX16_noRecords_34 (by decide) ?_
  exact hK2 _ _ q3 h hGσ18 hS _ _ _ hH (lv_sub (l' := [(0, .ref rm), (1, .int (i32 (v1 + 1)))]) hl [1, 0] rfl) hc
set_option maxRecDepth 20000 in
theorem a_X16_noRecords_29 {Q : Sg → Unit → Prop} {X : Sg → String → Prop} (K : MC R p s m args c cX16_noRecords 2 RX16 D cA tys A n0 s0 0 0 []) (hQ : HQV p l e R s m args below meth c cX16_noRecords D cA A n0 s0 QM dm ra jx rm Q) (hX : HX p l e R s m args below meth c 2 D cA A n0 s0 QM dm ra jx rm X) {K2 : Sg → Int → Prop} (hK2 : ∀ (σ : Sg) (v1 : Int) (g1 : rng v1), K2 σ v1 → RG σ → Shp dm ra jx rm σ → JJ p l e R s m args below meth c 2 D cA A n0 s0 QM σ 2 [(0, .ref rm), (1, .int (i32 v1))] []) : ∀ (σ : Sg) (v1 : Int) (u0 : Int) (g1 : rng v1) (gu0 : rng u0), w_X16_noRecords_29 ra jx rm K2 Q X σ v1 u0 → RG σ → Shp dm ra jx rm σ → JJ p l e R s m args below meth c 2 D cA A n0 s0 QM σ 29 [(0, .ref rm), (1, .int (i32 v1))] [.int (i32 u0), .ref (ra 75)] := by
  intro σ v1 u0 g1 gu0 h hGσ hS H locs ls hH hl hc
  have B := K.1
  unfold w_X16_noRecords_29 at h
  refine lv_iconst (v := i32 (-1)) B.1 B.2.1 dX16_noRecords_29 (by decide) ?_
  exact a_X16_noRecords_30 K hQ hX hK2 _ _ _ _ g1 (by unfold rng; omega) gu0 h hGσ hS _ _ _ hH (lv_sub (l' := [(0, .ref rm), (1, .int (i32 v1))]) hl [0, 1] rfl) hc
set_option maxRecDepth 20000 in
theorem a_X16_noRecords_23 {Q : Sg → Unit → Prop} {X : Sg → String → Prop} (K : MC R p s m args c cX16_noRecords 2 RX16 D cA tys A n0 s0 0 0 []) (hQ : HQV p l e R s m args below meth c cX16_noRecords D cA A n0 s0 QM dm ra jx rm Q) (hX : HX p l e R s m args below meth c 2 D cA A n0 s0 QM dm ra jx rm X) {K2 : Sg → Int → Prop} (hK2 : ∀ (σ : Sg) (v1 : Int) (g1 : rng v1), K2 σ v1 → RG σ → Shp dm ra jx rm σ → JJ p l e R s m args below meth c 2 D cA A n0 s0 QM σ 2 [(0, .ref rm), (1, .int (i32 v1))] []) : ∀ (σ : Sg) (v1 : Int) (u0 : Int) (g1 : rng v1) (gu0 : rng u0), w_X16_noRecords_23 ra jx rm K2 Q X σ v1 u0 → RG σ → Shp dm ra jx rm σ → JJ p l e R s m args below meth c 2 D cA A n0 s0 QM σ 23 [(0, .ref rm), (1, .int (i32 v1))] [.int (i32 u0), .ref (ra 75)] := by
  intro σ v1 u0 g1 gu0 h hGσ hS H locs ls hH hl hc
  have B := K.1
  unfold w_X16_noRecords_23 at h
  refine lv_iload_n B.1 B.2.1 dX16_noRecords_23 rfl (lv_at hl 1 rfl) ?_
  refine lv_iconst (v := i32 1) B.1 B.2.1 dX16_noRecords_24 (by decide) ?_
  obtain ⟨q1, h⟩ := h
  refine lv_iadd B.1 B.2.1 dX16_noRecords_25 ?_
  rw [i32_add]
  refine lv_goto (tgt := 30) B.1 B.2.1 dX16_noRecords_26 (by decide) ?_
  exact a_X16_noRecords_30 K hQ hX hK2 _ _ _ _ g1 q1 gu0 h hGσ hS _ _ _ hH (lv_sub (l' := [(0, .ref rm), (1, .int (i32 v1))]) hl [0, 1] rfl) hc
set_option maxRecDepth 20000 in
theorem a_X16_noRecords_9 {Q : Sg → Unit → Prop} {X : Sg → String → Prop} (K : MC R p s m args c cX16_noRecords 2 RX16 D cA tys A n0 s0 0 0 []) (hQ : HQV p l e R s m args below meth c cX16_noRecords D cA A n0 s0 QM dm ra jx rm Q) (hX : HX p l e R s m args below meth c 2 D cA A n0 s0 QM dm ra jx rm X) {K2 : Sg → Int → Prop} (hK2 : ∀ (σ : Sg) (v1 : Int) (g1 : rng v1), K2 σ v1 → RG σ → Shp dm ra jx rm σ → JJ p l e R s m args below meth c 2 D cA A n0 s0 QM σ 2 [(0, .ref rm), (1, .int (i32 v1))] []) : ∀ (σ : Sg) (v1 : Int) (g1 : rng v1), w_X16_noRecords_9 ra jx rm K2 Q X σ v1 → RG σ → Shp dm ra jx rm σ → JJ p l e R s m args below meth c 2 D cA A n0 s0 QM σ 9 [(0, .ref rm), (1, .int (i32 v1))] [] := by
  intro σ v1 g1 h hGσ hS H locs ls hH hl hc
  have B := K.1
  unfold w_X16_noRecords_9 at h
  refine lv_aload_n B.1 B.2.1 dX16_noRecords_9 rfl (lv_at hl 0 rfl) ?_
  refine r_arr B hH hS 75 (kd := 100) (n := 4000) (by decide) (by decide) wf_X16_495 rfl rfl dX16_noRecords_10 ?_
  refine lv_iload_n B.1 B.2.1 dX16_noRecords_13 rfl (lv_at hl 1 rfl) ?_
  refine lv_iload_n B.1 B.2.1 dX16_noRecords_14 rfl (lv_at hl 1 rfl) ?_
  refine lv_iconst (v := i32 1) B.1 B.2.1 dX16_noRecords_15 (by decide) ?_
  obtain ⟨q1, h⟩ := h
  refine lv_iadd B.1 B.2.1 dX16_noRecords_16 ?_
  rw [i32_add]
  refine lv_sipush (v := i32 4000) B.1 B.2.1 dX16_noRecords_17 (by decide) ?_
  refine lv_icmp_ge (tgt := 29) B.1 B.2.1 dX16_noRecords_20 (by decide) (fun h9 => ?_) (fun h9 => ?_)
  · rw [if_pos ((i32_le (by unfold rng; omega) q1).mp h9)] at h
    exact a_X16_noRecords_29 K hQ hX hK2 _ _ _ g1 g1 h hGσ hS _ _ _ hH (lv_sub (l' := [(0, .ref rm), (1, .int (i32 v1))]) hl [0, 1] rfl) hc
  · rw [if_neg (fun q => h9 ((i32_le (by unfold rng; omega) q1).mpr q))] at h
    exact a_X16_noRecords_23 K hQ hX hK2 _ _ _ g1 g1 h hGσ hS _ _ _ hH (lv_sub (l' := [(0, .ref rm), (1, .int (i32 v1))]) hl [0, 1] rfl) hc
set_option maxRecDepth 20000 in
theorem a_X16_noRecords_2 {Q : Sg → Unit → Prop} {X : Sg → String → Prop} (K : MC R p s m args c cX16_noRecords 2 RX16 D cA tys A n0 s0 0 0 []) (hQ : HQV p l e R s m args below meth c cX16_noRecords D cA A n0 s0 QM dm ra jx rm Q) (hX : HX p l e R s m args below meth c 2 D cA A n0 s0 QM dm ra jx rm X) {K2 : Sg → Int → Prop} (hK2 : ∀ (σ : Sg) (v1 : Int) (g1 : rng v1), K2 σ v1 → RG σ → Shp dm ra jx rm σ → JJ p l e R s m args below meth c 2 D cA A n0 s0 QM σ 2 [(0, .ref rm), (1, .int (i32 v1))] []) : ∀ (σ : Sg) (v1 : Int) (g1 : rng v1), w_X16_noRecords_2 ra jx rm K2 Q X σ v1 → RG σ → Shp dm ra jx rm σ → JJ p l e R s m args below meth c 2 D cA A n0 s0 QM σ 2 [(0, .ref rm), (1, .int (i32 v1))] [] := by
  intro σ v1 g1 h hGσ hS H locs ls hH hl hc
  have B := K.1
  unfold w_X16_noRecords_2 at h
  refine lv_iload_n B.1 B.2.1 dX16_noRecords_2 rfl (lv_at hl 1 rfl) ?_
  refine lv_sipush (v := i32 4000) B.1 B.2.1 dX16_noRecords_3 (by decide) ?_
  refine lv_icmp_ge (tgt := 37) B.1 B.2.1 dX16_noRecords_6 (by decide) (fun h9 => ?_) (fun h9 => ?_)
  · rw [if_pos ((i32_le (by unfold rng; omega) g1).mp h9)] at h
    exact a_X16_noRecords_37 K hQ hX _ h hGσ hS _ _ _ hH (lv_sub (l' := [(0, .ref rm)]) hl [0] rfl) hc
  · rw [if_neg (fun q => h9 ((i32_le (by unfold rng; omega) g1).mpr q))] at h
    exact a_X16_noRecords_9 K hQ hX hK2 _ _ g1 h hGσ hS _ _ _ hH (lv_sub (l' := [(0, .ref rm), (1, .int (i32 v1))]) hl [0, 1] rfl) hc
theorem al_X16_noRecords_2 {Q : Sg → Unit → Prop} {X : Sg → String → Prop} (K : MC R p s m args c cX16_noRecords 2 RX16 D cA tys A n0 s0 0 0 []) (hQ : HQV p l e R s m args below meth c cX16_noRecords D cA A n0 s0 QM dm ra jx rm Q) (hX : HX p l e R s m args below meth c 2 D cA A n0 s0 QM dm ra jx rm X) : ∀ (n : Nat), ∀ (σ : Sg) (v1 : Int) (g1 : rng v1), wl_X16_noRecords_2 ra jx rm Q X n σ v1 → RG σ → Shp dm ra jx rm σ → JJ p l e R s m args below meth c 2 D cA A n0 s0 QM σ 2 [(0, .ref rm), (1, .int (i32 v1))] [] := by
  intro n
  induction n with
  | zero => intro σ v1 g1 h; exact h.elim
  | succ n ih => exact fun σ v1 g1 h => a_X16_noRecords_2 K hQ hX ih σ v1 g1 h
set_option maxRecDepth 20000 in
theorem a_X16_noRecords_0 {Q : Sg → Unit → Prop} {X : Sg → String → Prop} (K : MC R p s m args c cX16_noRecords 2 RX16 D cA tys A n0 s0 0 0 []) (hQ : HQV p l e R s m args below meth c cX16_noRecords D cA A n0 s0 QM dm ra jx rm Q) (hX : HX p l e R s m args below meth c 2 D cA A n0 s0 QM dm ra jx rm X) : ∀ (σ : Sg), w_X16_noRecords_0 ra jx rm Q X σ → RG σ → Shp dm ra jx rm σ → JJ p l e R s m args below meth c 2 D cA A n0 s0 QM σ 0 [(0, .ref rm)] [] := by
  intro σ h hGσ hS H locs ls hH hl hc
  have B := K.1
  unfold w_X16_noRecords_0 at h
  refine lv_iconst (v := i32 0) B.1 B.2.1 dX16_noRecords_0 (by decide) ?_
  refine lv_istore_n (lv' := [(1, .int (i32 0)), (0, .ref rm)]) B.1 B.2.1 dX16_noRecords_1 rfl hl (by decide) rfl (fun ls hl => ?_)
  obtain ⟨n9, h⟩ := h
  exact al_X16_noRecords_2 K hQ hX n9 _ _ (by unfold rng; omega) h hGσ hS _ _ _ hH (lv_sub (l' := [(0, .ref rm), (1, .int (i32 0))]) hl [1, 0] rfl) hc
theorem ok_X16_noRecords (hT : Tys cA tys) {Q : Sg → Unit → Prop} {X : Sg → String → Prop} (σ : Sg) (hG : RG σ) (hS : Shp dm ra jx rm σ) (h : wp_X16_noRecords ra jx rm σ Q X) : Ok l D cA tys A yX16_noRecords (.code yX16_noRecords cX16_noRecords 2 none) 0 0 [.ref rm] σ (QnV dm ra jx rm Q) (QxR dm ra jx rm X) := by
  unfold wp_X16_noRecords at h
  exact ok_V (plainFor_of_name (by decide)) (by exact Nat.le_of_ble_eq_true rfl) hT (fun p e R s m args below meth c K hQ hX H locs ls hH hl hc => a_X16_noRecords_0 K hQ hX σ h hG hS H locs ls hH (lv_sub (l' := [(0, .ref rm)]) hl [0] rfl) hc)
end M55

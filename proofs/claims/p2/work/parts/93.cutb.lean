section HPB
variable {σ σ' : Sg} {pl th b : Nat} {LL : Nat → List Nat} {own : Nat → Nat}
theorem lastA (L : List Nat) (b : Nat) (M : List Nat) : (L ++ b :: M).getLast? = (b :: M).getLast? := by
  rw [List.getLast?_append]
  cases h : (b :: M).getLast? with
  | none => exact absurd (List.getLast?_eq_none_iff.mp h) (by simp)
  | some x => rfl
/-- the one behind b is taken -/
theorem s_X1_cutBehind {Q : Sg → Option Nat → Prop} {X : Sg → String → Prop} {L M : List Nat} (h : HP σ pl LL own) (ht : kO σ th 1) (hG : RG σ) (hL : LL th = L ++ b :: M) (h0 : M = [] → Q σ none) (hQ : ∀ c T, M = c :: T → ∀ σ', HP σ' pl (up1 LL th (L ++ b :: T)) own → FrH pl σ σ' → RG σ' → gJ σ' = gJ σ → (∀ a k, a ≠ th → gI σ' a k = gI σ a k) → gP σ' c 1 = none → Q σ' (some c)) : wp_X1_cutBehind th (some b) σ Q X := by
  obtain ⟨a1, ⟨a2, a3⟩, a4, a5, a6, a7⟩ := id h
  obtain ⟨b1, b2, b3⟩ := a1 th ht
  have hbL : b ∈ LL th := by rw [hL]; exact List.mem_append_right _ List.mem_cons_self
  have hb : kO σ b 0 := (a4 th b hbL).2
  have thb : th ≠ b := ht.ne hb (by decide)
  have n0 := a5 th
  rw [hL] at b1 n0
  have bn : lk (fun d => gP σ d 1) (gP σ b 1) M := lk_app b1
  unfold wp_X1_cutBehind w_X1_cutBehind_0
  rw [if_pos (by simp)]
  unfold w_X1_cutBehind_11
  refine ⟨b, rfl, fun _ => ?_⟩
  unfold w_X1_cutBehind_15
  cases M with
  | nil =>
    rw [if_neg (by rw [show gP σ b 1 = none from bn]; simp)]
    exact h0 rfl
  | cons c T =>
    have e0 : gP σ b 1 = some c := bn.1
    obtain ⟨nL, nM, nLM⟩ := List.nodup_append.mp n0
    have nb := List.nodup_cons.mp nM
    have nc := List.nodup_cons.mp nb.2
    have hcb : c ≠ b := fun e => nb.1 (e ▸ List.mem_cons_self)
    have hcL : c ∉ L := fun q => nLM c q c (List.mem_cons_of_mem _ List.mem_cons_self) rfl
    have hbL2 : b ∉ L := fun q => nLM b q b List.mem_cons_self rfl
    have hbT : b ∉ T := fun q => nb.1 (List.mem_cons_of_mem _ q)
    rw [if_pos (by rw [e0]; simp), e0]
    unfold w_X1_cutBehind_22
    rw [if_pos (by simp)]
    unfold w_X1_cutBehind_37
    refine ⟨c, rfl, fun _ => ⟨b, rfl, fun _ => ?_⟩⟩
    intro σ19 e19
    have hP : ∀ a k, ¬ (a = b ∧ k = 1) → gP σ19 a k = gP σ a k := fun a k q => by rw [e19, gP_pP]; exact up2_n _ _ q
    have hPb : gP σ19 b 1 = gP σ c 1 := by rw [e19, gP_pP]; exact up2_s _ _ _ _
    refine cut_end (R := L ++ b :: T) (c := c) h ht hG (by rw [hL]; exact List.mem_append_right _ (List.mem_cons_of_mem _ List.mem_cons_self)) (fun q => ?_) (fun d hd => ?_) ?_ (by rw [hL]; simp; omega) (fun q => ?_) (fun q => ?_) (by rw [e19]) (by rw [e19]) (by rw [e19]) (by rw [e19]) (by rw [e19]) (hP th 1 (fun e => thb e.1)) (fun a k q1 _ => hP a k (fun e => q1 ⟨e.1 ▸ hbL, e.2⟩)) (fun nx hnx => ?_) (hQ c T rfl)
    · rcases List.mem_append.mp q with q | q
      · exact hcL q
      · rcases List.mem_cons.mp q with q | q
        · exact hcb q
        · exact nc.1 q
    · rw [hL]
      rcases List.mem_append.mp hd with q | q
      · exact List.mem_append_left _ q
      · rcases List.mem_cons.mp q with q | q
        · rw [q]; exact List.mem_append_right _ List.mem_cons_self
        · exact List.mem_append_right _ (List.mem_cons_of_mem _ (List.mem_cons_of_mem _ q))
    · refine List.nodup_append.mpr ⟨nL, List.nodup_cons.mpr ⟨hbT, nc.2⟩, fun x hx y hy e => ?_⟩
      rcases List.mem_cons.mp hy with q | q
      · exact nLM x hx y (by rw [q]; exact List.mem_cons_self) e
      · exact nLM x hx y (List.mem_cons_of_mem _ (List.mem_cons_of_mem _ q)) e
    · cases T with
      | nil => rw [lastA]; rfl
      | cons d T =>
        rw [hL, lastA, List.getLast?_cons_cons, List.getLast?_cons_cons] at q
        exact absurd (List.mem_of_getLast? q) nc.1
    · cases T with
      | nil => exact absurd (by rw [hL, lastA]; rfl) q
      | cons d T => rw [hL, lastA, lastA, List.getLast?_cons_cons, List.getLast?_cons_cons, List.getLast?_cons_cons]
    · rw [hP th 0 (fun e => thb e.1)]
      refine lk_cut (nx := fun d => gP σ d 1) (nx' := nx) b1 n0 ?_ (fun x hx => ?_)
      · rw [hnx b (List.mem_append_right _ List.mem_cons_self)]; exact hPb
      · have hxb : x ≠ b := fun e => by
          rcases List.mem_append.mp hx with q | q
          · exact hbL2 (e ▸ q)
          · exact hbT (e ▸ q)
        have hxR : x ∈ L ++ b :: T := by
          rcases List.mem_append.mp hx with q | q
          · exact List.mem_append_left _ q
          · exact List.mem_append_right _ (List.mem_cons_of_mem _ q)
        rw [hnx x hxR]
        exact hP x 1 (fun e => hxb e.1)
end HPB

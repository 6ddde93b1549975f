/-! comparing has one answer -/
def Dt (σ : Sg) (P : (Sg → Int → Prop) → (Sg → String → Prop) → Prop) : Prop := ∃ r : Int, (-1 ≤ r ∧ r ≤ 1) ∧ ∀ Q X, Q σ r → P Q X
section DTS
variable {σ : Sg}
theorem dt_ret {r : Int} (h : -1 ≤ r ∧ r ≤ 1) : Dt σ (fun Q _ => Q σ r) := ⟨r, h, fun _ _ q => q⟩
theorem dt_if {c : Prop} [Decidable c] {A B : (Sg → Int → Prop) → (Sg → String → Prop) → Prop} (hA : c → Dt σ A) (hB : ¬ c → Dt σ B) : Dt σ (fun Q X => if c then A Q X else B Q X) := by
  by_cases h : c
  · obtain ⟨r, b, k⟩ := hA h; exact ⟨r, b, fun Q X q => by show (if c then A Q X else B Q X); rw [if_pos h]; exact k Q X q⟩
  · obtain ⟨r, b, k⟩ := hB h; exact ⟨r, b, fun Q X q => by show (if c then A Q X else B Q X); rw [if_neg h]; exact k Q X q⟩
theorem dt_ex {v : Option Nat} {c k : Nat} {A : Nat → (Sg → Int → Prop) → (Sg → String → Prop) → Prop} (hv : v = some c) (hA : Dt σ (A c)) : Dt σ (fun Q X => ∃ a, v = some a ∧ ∀ _ : kO σ a k, A a Q X) := by
  obtain ⟨r, b, k⟩ := hA; exact ⟨r, b, fun Q X q => ⟨c, hv, fun _ => k Q X q⟩⟩
theorem dt_and {p : Prop} {A : (Sg → Int → Prop) → (Sg → String → Prop) → Prop} (hp : p) (hA : Dt σ A) : Dt σ (fun Q X => p ∧ A Q X) := by
  obtain ⟨r, b, k⟩ := hA; exact ⟨r, b, fun Q X q => ⟨hp, k Q X q⟩⟩
theorem dt_cmp {x y : Int64} {K : (Sg → Int → Prop) → (Sg → String → Prop) → Sg → Int → Prop} (hK : ∀ r : Int, (-1 ≤ r ∧ r ≤ 1) → Dt σ (fun Q X => K Q X σ r)) : Dt σ (fun Q X => wpC_J13_compare_74951 x y σ (fun σ' r => ∀ _ : Ext σ σ', K Q X σ' r) X) := by
  by_cases h : x ≥ y
  · by_cases h2 : x ≠ y
    · obtain ⟨r, b, k⟩ := hK 1 (by omega)
      exact ⟨r, b, fun Q X q => by show wpC_J13_compare_74951 x y σ _ X; unfold wpC_J13_compare_74951 wC_J13_compare_74951_0; rw [if_pos h]; unfold wC_J13_compare_74951_10; rw [if_pos h2]; unfold wC_J13_compare_74951_20 wC_J13_compare_74951_21; exact fun _ => k Q X q⟩
    · obtain ⟨r, b, k⟩ := hK 0 (by omega)
      exact ⟨r, b, fun Q X q => by show wpC_J13_compare_74951 x y σ _ X; unfold wpC_J13_compare_74951 wC_J13_compare_74951_0; rw [if_pos h]; unfold wC_J13_compare_74951_10; rw [if_neg h2]; unfold wC_J13_compare_74951_16 wC_J13_compare_74951_21; exact fun _ => k Q X q⟩
  · obtain ⟨r, b, k⟩ := hK (-1) (by omega)
    exact ⟨r, b, fun Q X q => by show wpC_J13_compare_74951 x y σ _ X; unfold wpC_J13_compare_74951 wC_J13_compare_74951_0; rw [if_neg h]; unfold wC_J13_compare_74951_6 wC_J13_compare_74951_21; exact fun _ => k Q X q⟩
variable {gq ci gr nc N nu : Nat → Nat} {ot : Nat → Nat → Int} {LL : Nat → List Nat} {pl a b : Nat} {o w : Int}
theorem dt_loop (h : IV σ pl gq ci gr nc ot LL N nu) (ka : kO σ a 0) (kb : kO σ b 0) : ∀ (n : Nat) (c i : Int), 0 ≤ i → (8 - i).toNat < n → (-1 ≤ c ∧ c ≤ 1) → Dt σ (fun Q X => wl_X1_compare_126 Q X n σ (some a) (some b) w c i) := by
  intro n
  induction n with
  | zero => intro c i _ h9; omega
  | succ n ih =>
    intro c i h0 hm hc
    unfold wl_X1_compare_126 w_X1_compare_126
    refine dt_if (fun _ => dt_ret hc) (fun _ => ?_)
    unfold w_X1_compare_132
    refine dt_if (fun _ => dt_ret hc) (fun h8 => ?_)
    unfold w_X1_compare_139
    refine dt_if (fun _ => dt_ret hc) (fun _ => ?_)
    unfold w_X1_compare_144
    obtain ⟨ca, ea, fa⟩ := P_0_0 h.1 ka
    obtain ⟨cb, eb, fb⟩ := P_0_0 h.1 kb
    refine dt_ex rfl (dt_ex ea (dt_and ⟨by omega, by omega⟩ (dt_ex rfl (dt_ex eb (dt_and ⟨by omega, by omega⟩ (dt_cmp (fun r hr => dt_and (by unfold rng; omega) (ih r (i + 1) (by omega) (by omega) hr))))))))
theorem dt_71 (h : IV σ pl gq ci gr nc ot LL N nu) (ka : kO σ a 0) (kb : kO σ b 0) {u : Int} (hu : -1 ≤ u ∧ u ≤ 1) : Dt σ (fun Q X => w_X1_compare_71 Q X σ (some a) (some b) o w u) := by
  unfold w_X1_compare_71
  refine dt_if (fun _ => ?_) (fun _ => ?_)
  · unfold w_X1_compare_123
    obtain ⟨r, hr, k⟩ := dt_loop (w := w) h ka kb 9 u 0 (by omega) (by omega) hu
    exact ⟨r, hr, fun Q X q => ⟨9, k Q X q⟩⟩
  · unfold w_X1_compare_78
    have d99 : ∀ u : Int, (-1 ≤ u ∧ u ≤ 1) → Dt σ (fun Q X => w_X1_compare_99 Q X σ (some a) (some b) u) := fun u hu => by
      unfold w_X1_compare_99
      refine dt_if (fun _ => ?_) (fun _ => ?_)
      · unfold w_X1_compare_111
        refine dt_ex rfl (dt_ex rfl (dt_cmp (K := fun Q X σ' r => w_X1_compare_122 Q X σ' r) (fun r hr => dt_ret hr)))
      · unfold w_X1_compare_106 w_X1_compare_122
        exact dt_ret hu
    refine dt_if (fun _ => ?_) (fun _ => ?_)
    · unfold w_X1_compare_88
      exact dt_ex rfl (dt_ex rfl (dt_cmp (K := fun Q X σ' r => w_X1_compare_99 Q X σ' (some a) (some b) r) (fun r hr => d99 r hr)))
    · unfold w_X1_compare_83
      exact d99 u hu
theorem dt_50 (h : IV σ pl gq ci gr nc ot LL N nu) (ka : kO σ a 0) (kb : kO σ b 0) {u : Int} (hu : -1 ≤ u ∧ u ≤ 1) : Dt σ (fun Q X => w_X1_compare_50 Q X σ (some a) (some b) o w u) := by
  unfold w_X1_compare_50
  refine dt_if (fun _ => ?_) (fun _ => ?_)
  · unfold w_X1_compare_60
    exact dt_ex rfl (dt_ex rfl (dt_cmp (K := fun Q X σ' r => w_X1_compare_71 Q X σ' (some a) (some b) o w r) (fun r hr => dt_71 h ka kb hr)))
  · unfold w_X1_compare_55
    exact dt_71 h ka kb hu
theorem dt_compare (h : IV σ pl gq ci gr nc ot LL N nu) (ka : kO σ a 0) (kb : kO σ b 0) (o w : Int) : ∃ r : Int, (-1 ≤ r ∧ r ≤ 1) ∧ ∀ Q X, Q σ r → wp_X1_compare (some a) (some b) o w σ Q X := by
  show Dt σ (fun Q X => wp_X1_compare (some a) (some b) o w σ Q X)
  unfold wp_X1_compare w_X1_compare_0
  refine dt_if (fun _ => ?_) (fun _ => dt_ret (by omega))
  unfold w_X1_compare_9
  refine dt_if (fun _ => dt_50 h ka kb (by omega)) (fun _ => ?_)
  unfold w_X1_compare_14
  refine dt_ex rfl (dt_ex rfl (dt_cmp (K := fun Q X σ' r => if r = 0 then w_X1_compare_37 Q X σ' (some a) (some b) o w else w_X1_compare_32 Q X σ' (some a) (some b) o w r) (fun r hr => dt_if (fun _ => ?_) (fun _ => ?_))))
  · unfold w_X1_compare_37
    refine dt_ex rfl (dt_ex rfl (dt_cmp (K := fun Q X σ' r => w_X1_compare_48 Q X σ' (some a) (some b) o w r) (fun r hr => ?_)))
    unfold w_X1_compare_48; exact dt_50 h ka kb hr
  · unfold w_X1_compare_32 w_X1_compare_48; exact dt_50 h ka kb hr
end DTS

/-! the constructors, over data -/
section INI
variable {σ σ' : Sg} {d : List Rc} {c0 s0 i j k n q a b th f p : Nat} {v : Int} {K : Sg → Prop} {X : Sg → String → Prop} {Q : Sg → Unit → Prop} {v1 : Option Nat}
/-- a new array in the field f of the thing at i -/
def fA (d : List Rc) (i k n f : Nat) : List Rc := dU (dN d k n) i (uP f d.length)
theorem fA_len : (fA d i k n f).length = d.length + 1 := by unfold fA; rw [dU_len, dN_len]
theorem fA_sz : sz (fA d i k n f) = sz d + n := by unfold fA; rw [dU_szP, dN_sz]
theorem fA_get {x : Nat} (hx : x ≠ i) (hl : x < d.length) : (fA d i k n f)[x]? = d[x]? := by unfold fA; rw [dU_get, if_neg hx, dN_get hl]
theorem fA_self {r : Rc} (h : d[i]? = some r) : (fA d i k n f)[i]? = some (uP f d.length r) := by
  have hl : i < d.length := by
    apply Classical.byContradiction; intro w; rw [List.getElem?_eq_none (by omega)] at h; cases h
  unfold fA; rw [dU_get, if_pos rfl, dN_get hl, h]; rfl
theorem fA_new : (fA d i k n f)[d.length]? = if d.length = i then some (uP f d.length (rN k n)) else some (rN k n) := by
  unfold fA; rw [dU_get]
  have e : (dN d k n)[d.length]? = some (rN k n) := by unfold dN; rw [List.getElem?_append_right (Nat.le_refl _), Nat.sub_self]; rfl
  rw [e]; by_cases w : d.length = i
  · rw [if_pos w, if_pos w]; rfl
  · rw [if_neg w, if_neg w]
theorem rc_lt {l : List Rc} {i : Nat} {r : Rc} (h : l[i]? = some r) : i < l.length := by
  apply Classical.byContradiction; intro w; rw [List.getElem?_eq_none (by omega)] at h; cases h
theorem st_A (R : Rep σ d c0 s0) (hi : (gD σ)[i]? = some th) (hc : c0 + d.length + 1 ≤ BC ∧ s0 + sz d + n ≤ BS) (hK : ∀ σ', Rep σ' (fA d i k n f) c0 s0 → Pf σ σ' → K σ') : (gc σ + 1 ≤ BC ∧ gs σ + n ≤ BS) ∧ ∀ q, q ∉ gD σ → ∀ σ1, σ1 = newA σ q k n → ∀ σ2, σ2 = pP σ1 th f (some q) → K σ2 := by
  have g := R.2.2.1
  refine ⟨⟨by omega, by omega⟩, fun q hq σ1 e1 σ2 e2 => ?_⟩
  exact hK σ2 ((R.newA hq e1).pP e2 (Pf.newA e1 _ _ hi) (At.newA R e1 rfl)) ((Pf.newA e1).tr (Pf.pP e2))
/-- a new thing, made by CT, in the field f of the thing at i -/
theorem st_N {F : List Rc} (CT : Nat → Sg → (Sg → Unit → Prop) → Prop) (R : Rep σ d c0 s0) (hi : (gD σ)[i]? = some th) (hk : k < 100) (hc : c0 + d.length + 1 ≤ BC ∧ s0 + sz d + n ≤ BS)
    (hct : ∀ q σ1, Rep σ1 (dN d k n) c0 s0 → Pf σ σ1 → (gD σ1)[d.length]? = some q → (∀ x, x ≠ q → ∀ m, gP σ1 x m = gP σ x m) → ∀ Q : Sg → Unit → Prop, (∀ σ', Rep σ' F c0 s0 → Pf σ1 σ' → Q σ' ()) → CT q σ1 Q)
    (hK : ∀ σ', Rep σ' (dU F i (uP f d.length)) c0 s0 → Pf σ σ' → K σ') : (gc σ + 1 ≤ BC ∧ gs σ + n ≤ BS) ∧ ∀ q, q ∉ gD σ → ∀ σ1, σ1 = new1 σ q k n → CT q σ1 (fun σ2 (_ : Unit) => ∀ _ : Ext σ1 σ2, ∀ σ3, σ3 = pP σ2 th f (some q) → K σ3) := by
  have g := R.2.2.1
  refine ⟨⟨by omega, by omega⟩, fun q hq σ1 e1 => ?_⟩
  refine hct q σ1 (R.new1 hq hk e1) (Pf.new1 e1) (At.new1 R e1 rfl) (fun x hx m => by rw [e1]; show (if x = q then none else gP σ x m) = _; rw [if_neg hx]) _ (fun σ2 R2 P2 _ σ3 e3 => ?_)
  exact hK σ3 (R2.pP e3 (P2 _ _ (Pf.new1 e1 _ _ hi)) (P2 _ _ (At.new1 R e1 rfl))) (((Pf.new1 e1).tr P2).tr (Pf.pP e3))
def fC (d : List Rc) (i f : Nat) : List Rc := dU (dN d 1 3) i (uP f d.length)
theorem fC_len : (fC d i f).length = d.length + 1 := by unfold fC; rw [dU_len, dN_len]
theorem fC_sz : sz (fC d i f) = sz d + 3 := by unfold fC; rw [dU_szP, dN_sz]
theorem fC_get {x : Nat} (hx : x ≠ i) (hl : x < d.length) : (fC d i f)[x]? = d[x]? := by unfold fC; rw [dU_get, if_neg hx, dN_get hl]
theorem st_C (R : Rep σ d c0 s0) (hi : (gD σ)[i]? = some th) (hc : c0 + d.length + 1 ≤ BC ∧ s0 + sz d + 3 ≤ BS) (hK : ∀ σ', Rep σ' (fC d i f) c0 s0 → Pf σ σ' → K σ') : (gc σ + 1 ≤ BC ∧ gs σ + 3 ≤ BS) ∧ ∀ q, q ∉ gD σ → ∀ σ1, σ1 = new1 σ q 1 3 → wp_X1_init q σ1 (fun σ2 (_ : Unit) => ∀ _ : Ext σ1 σ2, ∀ σ3, σ3 = pP σ2 th f (some q) → K σ3) X :=
  st_N (F := dN d 1 3) (fun q s Q => wp_X1_init q s Q X) R hi (by decide) hc (fun q σ1 R1 _ _ _ Q hQ => by unfold wp_X1_init w_X1_init_0; exact hQ σ1 R1 Pf.rf) hK
def fX5 (d : List Rc) (i : Nat) : List Rc := fA (fA (fA d i 101 8 0) i 100 8 1) i 100 4 2
theorem fX5_len : (fX5 d i).length = d.length + 3 := by unfold fX5; rw [fA_len, fA_len, fA_len]
theorem fX5_sz : sz (fX5 d i) = sz d + 20 := by unfold fX5; rw [fA_sz, fA_sz, fA_sz]
theorem fX5_get {x : Nat} (hx : x ≠ i) (hl : x < d.length) : (fX5 d i)[x]? = d[x]? := by
  unfold fX5; rw [fA_get hx (by rw [fA_len, fA_len]; omega), fA_get hx (by rw [fA_len]; omega), fA_get hx hl]
theorem n_X5_init (R : Rep σ d c0 s0) (hi : (gD σ)[i]? = some th) (hc : c0 + d.length + 3 ≤ BC ∧ s0 + sz d + 20 ≤ BS) (hQ : ∀ σ', Rep σ' (fX5 d i) c0 s0 → Pf σ σ' → Q σ' ()) : wp_X5_init th σ Q X := by
  unfold wp_X5_init w_X5_init_0
  refine st_A R hi ⟨by omega, by omega⟩ (fun s1 R1 P1 => ?_)
  refine st_A R1 (P1 _ _ hi) ⟨by rw [fA_len]; omega, by rw [fA_sz]; omega⟩ (fun s2 R2 P2 => ?_)
  exact st_A R2 (P2 _ _ (P1 _ _ hi)) ⟨by rw [fA_len, fA_len]; omega, by rw [fA_sz, fA_sz]; omega⟩ (fun s3 R3 P3 => hQ s3 R3 ((P1.tr P2).tr P3))
def fX10 (d : List Rc) (i : Nat) : List Rc := fC (fC (fC d i 2) i 3) i 4
theorem fX10_len : (fX10 d i).length = d.length + 3 := by unfold fX10; rw [fC_len, fC_len, fC_len]
theorem fX10_sz : sz (fX10 d i) = sz d + 9 := by unfold fX10; rw [fC_sz, fC_sz, fC_sz]
theorem n_X10_init (R : Rep σ d c0 s0) (hi : (gD σ)[i]? = some th) (hc : c0 + d.length + 3 ≤ BC ∧ s0 + sz d + 9 ≤ BS) (hQ : ∀ σ', Rep σ' (fX10 d i) c0 s0 → Pf σ σ' → Q σ' ()) : wp_X10_init th σ Q X := by
  unfold wp_X10_init w_X10_init_0
  refine st_C R hi ⟨by omega, by omega⟩ (fun s1 R1 P1 => ?_)
  refine st_C R1 (P1 _ _ hi) ⟨by rw [fC_len]; omega, by rw [fC_sz]; omega⟩ (fun s2 R2 P2 => ?_)
  exact st_C R2 (P2 _ _ (P1 _ _ hi)) ⟨by rw [fC_len, fC_len]; omega, by rw [fC_sz, fC_sz]; omega⟩ (fun s3 R3 P3 => hQ s3 R3 ((P1.tr P2).tr P3))
def fX11 (d : List Rc) (i p : Nat) (v : Int) : List Rc := dU (dU (fA (fC d i 2) i 101 4 3) i (uP 0 p)) i (uI 1 v)
theorem fX11_len : (fX11 d i p v).length = d.length + 2 := by unfold fX11; rw [dU_len, dU_len, fA_len, fC_len]
theorem fX11_sz : sz (fX11 d i p v) = sz d + 7 := by unfold fX11; rw [dU_szI, dU_szP, fA_sz, fC_sz]
theorem n_X11_init (R : Rep σ d c0 s0) (hi : (gD σ)[i]? = some th) (hv : v1 = some a) (hp : (gD σ)[p]? = some a) (hc : c0 + d.length + 2 ≤ BC ∧ s0 + sz d + 7 ≤ BS) (hQ : ∀ σ', Rep σ' (fX11 d i p v) c0 s0 → Pf σ σ' → Q σ' ()) : wp_X11_init th v1 v σ Q X := by
  subst hv
  unfold wp_X11_init w_X11_init_0
  refine st_C R hi ⟨by omega, by omega⟩ (fun s1 R1 P1 => ?_)
  refine st_A R1 (P1 _ _ hi) ⟨by rw [fC_len]; omega, by rw [fC_sz]; omega⟩ (fun s2 R2 P2 => ?_)
  intro s3 e3 s4 e4
  have P12 := P1.tr P2
  exact hQ s4 ((R2.pP e3 (P12 _ _ hi) (P12 _ _ hp)).pI e4 (Pf.pP e3 _ _ (P12 _ _ hi))) ((P12.tr (Pf.pP e3)).tr (Pf.pI e4))
def fX6 (d : List Rc) (i : Nat) : List Rc := fA d i 102 0 0
theorem n_X6_init (R : Rep σ d c0 s0) (hi : (gD σ)[i]? = some th) (hc : c0 + d.length + 1 ≤ BC ∧ s0 + sz d ≤ BS) (hQ : ∀ σ', Rep σ' (fX6 d i) c0 s0 → Pf σ σ' → Q σ' ()) : wp_X6_init th σ Q X := by
  unfold wp_X6_init w_X6_init_0
  exact st_A R hi ⟨by omega, by omega⟩ (fun s1 R1 P1 => hQ s1 R1 P1)
def fX8 (d : List Rc) (i : Nat) : List Rc := fA d i 101 256 2
theorem n_X8_init (R : Rep σ d c0 s0) (hi : (gD σ)[i]? = some th) (hc : c0 + d.length + 1 ≤ BC ∧ s0 + sz d + 256 ≤ BS) (hQ : ∀ σ', Rep σ' (fX8 d i) c0 s0 → Pf σ σ' → Q σ' ()) : wp_X8_init th σ Q X := by
  unfold wp_X8_init w_X8_init_0
  exact st_A R hi ⟨by omega, by omega⟩ (fun s1 R1 P1 => hQ s1 R1 P1)
def fX3 (d : List Rc) (i : Nat) : List Rc := dU (fA (fA d i 120 64 0) i 120 64 1) i (uI 8 (-1))
theorem fX3_len : (fX3 d i).length = d.length + 2 := by unfold fX3; rw [dU_len, fA_len, fA_len]
theorem fX3_sz : sz (fX3 d i) = sz d + 128 := by unfold fX3; rw [dU_szI, fA_sz, fA_sz]
theorem n_X3_init (R : Rep σ d c0 s0) (hi : (gD σ)[i]? = some th) (hc : c0 + d.length + 2 ≤ BC ∧ s0 + sz d + 128 ≤ BS) (hQ : ∀ σ', Rep σ' (fX3 d i) c0 s0 → Pf σ σ' → Q σ' ()) : wp_X3_init th σ Q X := by
  unfold wp_X3_init w_X3_init_0
  refine st_A R hi ⟨by omega, by omega⟩ (fun s1 R1 P1 => ?_)
  refine st_A R1 (P1 _ _ hi) ⟨by rw [fA_len]; omega, by rw [fA_sz]; omega⟩ (fun s2 R2 P2 => ?_)
  intro s3 e3
  exact hQ s3 (R2.pI e3 (P2 _ _ (P1 _ _ hi))) ((P1.tr P2).tr (Pf.pI e3))
/-- newChains(n) in the field f of the thing at i -/
def fH (d : List Rc) (i n f : Nat) : List Rc := dU (fNC d n) i (uP f d.length)
theorem fH_len : (fH d i n f).length = d.length + (n + 1) := by unfold fH; rw [dU_len, fNC_len]
theorem fH_sz : sz (fH d i n f) = sz d + 4 * n := by unfold fH; rw [dU_szP, fNC_sz]
theorem st_H {v0 : Int} (R : Rep σ d c0 s0) (hi : (gD σ)[i]? = some th) (hv : v0 = (n : Int)) (hn : n ≤ 1000) (hc : c0 + d.length + (n + 1) ≤ BC ∧ s0 + sz d + 4 * n ≤ BS) (hK : ∀ σ', Rep σ' (fH d i n f) c0 s0 → Pf σ σ' → K σ') : wp_X12_newChains v0 σ (fun σ1 r => ∀ _ : Ext σ σ1, ∀ _ : tyV σ1 111 r, ∀ σ2, σ2 = pP σ1 th f r → K σ2) X :=
  n_newChains R hv hn hc (fun σ1 a1 R1 P1 h1 _ _ σ2 e2 => hK σ2 (R1.pP e2 (P1 _ _ hi) h1) (P1.tr (Pf.pP e2)))
def fX9 (d : List Rc) (i p : Nat) : List Rc :=
  let d1 := dU (fX3 (dN d 3 10) d.length) i (uP 2 d.length)
  let d2 := fH (fH (fH (fA (fA (fA d1 i 120 64 3) i 112 512 4) i 100 17 5) i 4 6) i 4 7) i 4 8
  let d3 := dU d2 i (uP 0 p)
  dU (fX11 (dN d3 11 6) d3.length p 4000) i (uP 1 d3.length)
theorem n_X9_init (R : Rep σ d c0 s0) (hi : (gD σ)[i]? = some th) (hv : v1 = some a) (hp : (gD σ)[p]? = some a) (hc : c0 + d.length + 24 ≤ BC ∧ s0 + sz d + 792 ≤ BS) (hQ : ∀ σ', Rep σ' (fX9 d i p) c0 s0 → Pf σ σ' → Q σ' ()) : wp_X9_init th v1 σ Q X := by
  subst hv
  unfold wp_X9_init w_X9_init_0
  refine st_N (F := fX3 (dN d 3 10) d.length) (fun q s Q => wp_X3_init q s Q X) R hi (by decide) ⟨by omega, by omega⟩ (fun q t R0 P0 a0 _ Q0 h0 => n_X3_init R0 a0 ⟨by rw [dN_len]; omega, by rw [dN_sz]; omega⟩ h0) (fun s1 R1 P1 => ?_)
  have l1 : (dU (fX3 (dN d 3 10) d.length) i (uP 2 d.length)).length = d.length + 3 := by rw [dU_len, fX3_len, dN_len]
  have z1 : sz (dU (fX3 (dN d 3 10) d.length) i (uP 2 d.length)) = sz d + 138 := by rw [dU_szP, fX3_sz, dN_sz]
  refine st_A R1 (P1 _ _ hi) ⟨by rw [l1]; omega, by rw [z1]; omega⟩ (fun s2 R2 P2 => ?_)
  refine st_A R2 (P2 _ _ (P1 _ _ hi)) ⟨by rw [fA_len, l1]; omega, by rw [fA_sz, z1]; omega⟩ (fun s3 R3 P3 => ?_)
  have P13 := (P1.tr P2).tr P3
  refine st_A R3 (P13 _ _ hi) ⟨by rw [fA_len, fA_len, l1]; omega, by rw [fA_sz, fA_sz, z1]; omega⟩ (fun s4 R4 P4 => ?_)
  have P14 := P13.tr P4
  refine st_H (n := 4) R4 (P14 _ _ hi) rfl (by decide) ⟨by rw [fA_len, fA_len, fA_len, l1]; omega, by rw [fA_sz, fA_sz, fA_sz, z1]; omega⟩ (fun s5 R5 P5 => ?_)
  have P15 := P14.tr P5
  refine st_H (n := 4) R5 (P15 _ _ hi) rfl (by decide) ⟨by rw [fH_len, fA_len, fA_len, fA_len, l1]; omega, by rw [fH_sz, fA_sz, fA_sz, fA_sz, z1]; omega⟩ (fun s6 R6 P6 => ?_)
  have P16 := P15.tr P6
  refine st_H (n := 4) R6 (P16 _ _ hi) rfl (by decide) ⟨by rw [fH_len, fH_len, fA_len, fA_len, fA_len, l1]; omega, by rw [fH_sz, fH_sz, fA_sz, fA_sz, fA_sz, z1]; omega⟩ (fun s7 R7 P7 => ?_)
  have P17 := P16.tr P7
  intro s8 e8
  have R8 := R7.pP e8 (P17 _ _ hi) (P17 _ _ hp)
  have P18 := P17.tr (Pf.pP e8)
  refine st_N (F := _) (fun q s Q => wp_X11_init q (some a) 4000 s Q X) R8 (P18 _ _ hi) (by decide) ⟨by rw [dU_len, fH_len, fH_len, fH_len, fA_len, fA_len, fA_len, l1]; omega, by rw [dU_szP, fH_sz, fH_sz, fH_sz, fA_sz, fA_sz, fA_sz, z1]; omega⟩ (fun q t R0 P0 a0 _ Q0 h0 => n_X11_init R0 a0 rfl (P0 _ _ (P18 _ _ hp)) ⟨by rw [dN_len, dU_len, fH_len, fH_len, fH_len, fA_len, fA_len, fA_len, l1]; omega, by rw [dN_sz, dU_szP, fH_sz, fH_sz, fH_sz, fA_sz, fA_sz, fA_sz, z1]; omega⟩ h0) (fun s9 R9 P9 => ?_)
  exact hQ s9 R9 (P18.tr P9)
def fX7 (d : List Rc) (i p : Nat) : List Rc :=
  let d1 := dU (fX10 (dN d 10 16) d.length) i (uP 2 d.length)
  let d2 := fC (fH d1 i 16 3) i 4
  let d3 := dU d2 i (uP 0 p)
  dU (fX11 (dN d3 11 6) d3.length p 4001) i (uP 1 d3.length)
theorem n_X7_init (R : Rep σ d c0 s0) (hi : (gD σ)[i]? = some th) (hv : v1 = some a) (hp : (gD σ)[p]? = some a) (hc : c0 + d.length + 30 ≤ BC ∧ s0 + sz d + 120 ≤ BS) (hQ : ∀ σ', Rep σ' (fX7 d i p) c0 s0 → Pf σ σ' → Q σ' ()) : wp_X7_init th v1 σ Q X := by
  subst hv
  unfold wp_X7_init w_X7_init_0
  refine st_N (F := fX10 (dN d 10 16) d.length) (fun q s Q => wp_X10_init q s Q X) R hi (by decide) ⟨by omega, by omega⟩ (fun q t R0 P0 a0 _ Q0 h0 => n_X10_init R0 a0 ⟨by rw [dN_len]; omega, by rw [dN_sz]; omega⟩ h0) (fun s1 R1 P1 => ?_)
  have l1 : (dU (fX10 (dN d 10 16) d.length) i (uP 2 d.length)).length = d.length + 4 := by rw [dU_len, fX10_len, dN_len]
  have z1 : sz (dU (fX10 (dN d 10 16) d.length) i (uP 2 d.length)) = sz d + 25 := by rw [dU_szP, fX10_sz, dN_sz]
  refine st_H (n := 16) R1 (P1 _ _ hi) rfl (by decide) ⟨by rw [l1]; omega, by rw [z1]; omega⟩ (fun s2 R2 P2 => ?_)
  have P12 := P1.tr P2
  refine st_C R2 (P12 _ _ hi) ⟨by rw [fH_len, l1]; omega, by rw [fH_sz, z1]; omega⟩ (fun s3 R3 P3 => ?_)
  have P13 := P12.tr P3
  intro s8 e8
  have R8 := R3.pP e8 (P13 _ _ hi) (P13 _ _ hp)
  have P18 := P13.tr (Pf.pP e8)
  refine st_N (F := _) (fun q s Q => wp_X11_init q (some a) 4001 s Q X) R8 (P18 _ _ hi) (by decide) ⟨by rw [dU_len, fC_len, fH_len, l1]; omega, by rw [dU_szP, fC_sz, fH_sz, z1]; omega⟩ (fun q t R0 P0 a0 _ Q0 h0 => n_X11_init R0 a0 rfl (P0 _ _ (P18 _ _ hp)) ⟨by rw [dN_len, dU_len, fC_len, fH_len, l1]; omega, by rw [dN_sz, dU_szP, fC_sz, fH_sz, z1]; omega⟩ h0) (fun s9 R9 P9 => ?_)
  exact hQ s9 R9 (P18.tr P9)
/-- the sixteen operators of a job -/
def fOPs (m : Nat) : Nat → Nat → List Rc → List Rc
  | 0, _, d => d
  | c + 1, k, d => fOPs m c (k + 1) (dU (fX5 (dN d 5 17) d.length) m (uP k d.length))
theorem fOPs_len (m c : Nat) : ∀ (k : Nat) (d : List Rc), (fOPs m c k d).length = d.length + 4 * c := by
  induction c with
  | zero => intro k d; rfl
  | succ c ih => intro k d; show (fOPs m c (k + 1) (dU (fX5 (dN d 5 17) d.length) m (uP k d.length))).length = _; rw [ih, dU_len, fX5_len, dN_len]; omega
theorem fOPs_sz (m c : Nat) : ∀ (k : Nat) (d : List Rc), sz (fOPs m c k d) = sz d + 37 * c := by
  induction c with
  | zero => intro k d; rfl
  | succ c ih => intro k d; show sz (fOPs m c (k + 1) (dU (fX5 (dN d 5 17) d.length) m (uP k d.length))) = _; rw [ih, dU_szP, fX5_sz, dN_sz]; omega
theorem fOP1_get {m k x : Nat} (hx : x ≠ m) (hl : x < d.length) : (dU (fX5 (dN d 5 17) d.length) m (uP k d.length))[x]? = d[x]? := by
  rw [dU_get, if_neg hx, fX5_get (by omega) (by rw [dN_len]; omega), dN_get hl]
theorem fOPs_get (m c : Nat) {x : Nat} (hx : x ≠ m) : ∀ (k : Nat) (d : List Rc), x < d.length → (fOPs m c k d)[x]? = d[x]? := by
  induction c with
  | zero => intro k d _; rfl
  | succ c ih => intro k d hl; show (fOPs m c (k + 1) (dU (fX5 (dN d 5 17) d.length) m (uP k d.length)))[x]? = _; rw [ih _ _ (by rw [dU_len, fX5_len, dN_len]; omega), fOP1_get hx hl]
def fX4 (d : List Rc) (i : Nat) : List Rc :=
  let d6 := fA (fA (fA (fA (fA (fA d i 115 16 0) i 100 4 3) i 100 4 4) i 100 64 5) i 101 64 6) i 101 64 8
  let d9 := fA (fA (dU (dM d6) i (uP 11 d6.length)) i 100 4 12) i 103 4 13
  fFill (d.length + 2) (-1) 4 0 (fOPs d.length 16 0 d9)
theorem n_ops {ar : Nat} {m : Nat} {r : Rc} (R : Rep σ d c0 s0) (hi : (gD σ)[i]? = some th) (hr : d[i]? = some r) (hr0 : rP r 0 = some m) (him : i ≠ m) (ham : (gD σ)[m]? = some ar) (hgn : gn σ ar = 16) (hc : c0 + d.length + 64 ≤ BC ∧ s0 + sz d + 592 ≤ BS) (hQ : ∀ σ', Rep σ' (fOPs m 16 0 d) c0 s0 → Pf σ σ' → w_X4_init_104 th Q X σ') : ∃ n, wl_X4_init_79 th Q X n σ 0 := by
  have main : ∀ (c : Nat) (τ : Sg) (d1 : List Rc) (k : Nat), Rep τ d1 c0 s0 → (gD τ)[i]? = some th → (gD τ)[m]? = some ar → d1[i]? = some r → gn τ ar = 16 → k + c = 16 → d1.length = d.length + 4 * k → sz d1 = sz d + 37 * k → (∀ σ', Rep σ' (fOPs m c k d1) c0 s0 → Pf τ σ' → w_X4_init_104 th Q X σ') → wl_X4_init_79 th Q X (c + 1) τ (k : Int) := by
    intro c
    induction c with
    | zero =>
      intro τ d1 k R1 h1 h2 h3 h4 hk hl hs hq
      show w_X4_init_79 th _ Q X τ (k : Int)
      unfold w_X4_init_79
      rw [if_pos (by omega)]
      exact hq τ R1 Pf.rf
    | succ c ih =>
      intro τ d1 k R1 h1 h2 h3 h4 hk hl hs hq
      show w_X4_init_79 th (wl_X4_init_79 th Q X (c + 1)) Q X τ (k : Int)
      unfold w_X4_init_79
      rw [if_neg (by omega)]
      unfold w_X4_init_85
      have g := R1.2.2.1
      refine ⟨⟨by omega, by omega⟩, fun q hq2 s2 e2 => ?_⟩
      have R2 := R1.new1 hq2 (by decide) e2
      have a2 : (gD s2)[d1.length]? = some q := At.new1 R1 e2 rfl
      refine n_X5_init R2 a2 ⟨by rw [dN_len]; omega, by rw [dN_sz]; omega⟩ (fun s3 R3 P3 _ => ?_)
      have eP : gP τ th 0 = some ar := R1.gP1 h1 h3 hr0 h2
      have m3 := P3 _ _ (Pf.new1 e2 _ _ h2)
      have lm : m < d1.length := by rw [← R1.1]; exact get_lt h2
      obtain ⟨rm, hrm⟩ : ∃ rm, d1[m]? = some rm := ⟨_, List.getElem?_eq_getElem lm⟩
      have grm := (R1.at h2 hrm)
      have hrm3 : (fX5 (dN d1 5 17) d1.length)[m]? = some rm := by rw [fX5_get (by omega) (by rw [dN_len]; omega), dN_get lm]; exact hrm
      have grm3 := R3.at m3 hrm3
      refine ⟨ar, eP, fun k3 => ?_⟩
      have n3 : gn s3 ar = 16 := by
        have e115 : rm.1 = 115 := by rw [← grm3.1]; exact k3.2
        rw [grm3.2.1 (by omega), ← grm.2.1 (by omega)]; exact h4
      refine ⟨⟨by omega, by rw [n3]; omega⟩, fun s4 e4 => ?_⟩
      rw [Int.toNat_natCast] at e4
      refine ⟨by unfold rng; omega, ?_⟩
      rw [show (k : Int) + 1 = ((k + 1 : Nat) : Int) by omega]
      have R4 := R3.pP e4 m3 (P3 _ _ a2)
      have P4 : Pf τ s4 := ((Pf.new1 e2).tr P3).tr (Pf.pP e4)
      refine ih s4 _ (k + 1) R4 (P4 _ _ h1) (P4 _ _ h2) ?_ (by rw [e4]; exact n3) (by omega) (by rw [dU_len, fX5_len, dN_len]; omega) (by rw [dU_szP, fX5_sz, dN_sz]; omega) (fun σ' R' P' => hq σ' R' (P4.tr P'))
      rw [fOP1_get him (rc_lt h3)]; exact h3
  exact ⟨17, main 16 σ d 0 R hi ham hr hgn (by omega) (by omega) (by omega) hQ⟩
theorem uP_o {r : Rc} {k j m : Nat} (h : m ≠ k) : rP (uP k j r) m = rP r m := by
  show ((k, j) :: r.2.2.2.2).lookup m = _; rw [List.lookup_cons, beq_false_of_ne h]; rfl
theorem uP_s {r : Rc} {k j : Nat} : rP (uP k j r) k = some j := by
  show ((k, j) :: r.2.2.2.2).lookup k = _; rw [List.lookup_cons, beq_self_eq_true]
theorem n_X4_init {r0 : Rc} (R : Rep σ d c0 s0) (hi : (gD σ)[i]? = some th) (h0 : d[i]? = some r0) (hc : c0 + d.length + 77 ≤ BC ∧ s0 + sz d + 2100 ≤ BS) (hQ : ∀ σ', Rep σ' (fX4 d i) c0 s0 → Pf σ σ' → Q σ' ()) : wp_X4_init th σ Q X := by
  have li := rc_lt h0
  unfold wp_X4_init w_X4_init_0
  refine st_A R hi ⟨by omega, by omega⟩ (fun s1 R1 P1 => ?_)
  refine st_A R1 (P1 _ _ hi) ⟨by rw [fA_len]; omega, by rw [fA_sz]; omega⟩ (fun s2 R2 P2 => ?_)
  have P12 := P1.tr P2
  refine st_A R2 (P12 _ _ hi) ⟨by rw [fA_len, fA_len]; omega, by rw [fA_sz, fA_sz]; omega⟩ (fun s3 R3 P3 => ?_)
  have P13 := P12.tr P3
  refine st_A R3 (P13 _ _ hi) ⟨by rw [fA_len, fA_len, fA_len]; omega, by rw [fA_sz, fA_sz, fA_sz]; omega⟩ (fun s4 R4 P4 => ?_)
  have P14 := P13.tr P4
  refine st_A R4 (P14 _ _ hi) ⟨by rw [fA_len, fA_len, fA_len, fA_len]; omega, by rw [fA_sz, fA_sz, fA_sz, fA_sz]; omega⟩ (fun s5 R5 P5 => ?_)
  have P15 := P14.tr P5
  refine st_A R5 (P15 _ _ hi) ⟨by rw [fA_len, fA_len, fA_len, fA_len, fA_len]; omega, by rw [fA_sz, fA_sz, fA_sz, fA_sz, fA_sz]; omega⟩ (fun s6 R6 P6 => ?_)
  have P16 := P15.tr P6
  have l6 : (fA (fA (fA (fA (fA (fA d i 115 16 0) i 100 4 3) i 100 4 4) i 100 64 5) i 101 64 6) i 101 64 8).length = d.length + 6 := by rw [fA_len, fA_len, fA_len, fA_len, fA_len, fA_len]
  have z6 : sz (fA (fA (fA (fA (fA (fA d i 115 16 0) i 100 4 3) i 100 4 4) i 100 64 5) i 101 64 6) i 101 64 8) = sz d + 216 := by rw [fA_sz, fA_sz, fA_sz, fA_sz, fA_sz, fA_sz]
  have g6 := R6.2.2.1
  refine ⟨⟨by omega, by omega⟩, fun q7 f7 hq7 s7 e7 => ?_⟩
  obtain ⟨R7, P7, a7⟩ := R6.mna hq7 e7
  intro s8 e8
  have R8 := R7.pP e8 (P7 _ _ (P16 _ _ hi)) a7
  have P18 := (P16.tr P7).tr (Pf.pP e8)
  obtain ⟨d8, ed8⟩ : ∃ z, z = dU (dM (fA (fA (fA (fA (fA (fA d i 115 16 0) i 100 4 3) i 100 4 4) i 100 64 5) i 101 64 6) i 101 64 8)) i (uP 11 (fA (fA (fA (fA (fA (fA d i 115 16 0) i 100 4 3) i 100 4 4) i 100 64 5) i 101 64 6) i 101 64 8).length) := ⟨_, rfl⟩
  rw [← ed8] at R8
  have l8 : d8.length = d.length + 11 := by rw [ed8, dU_len, dM_len, l6]
  have z8 : sz d8 = sz d + 1500 := by rw [ed8, dU_szP, dM_sz, z6]
  refine st_A R8 (P18 _ _ hi) ⟨by omega, by omega⟩ (fun s9 R9 P9 => ?_)
  have P19 := P18.tr P9
  refine st_A R9 (P19 _ _ hi) ⟨by rw [fA_len]; omega, by rw [fA_sz]; omega⟩ (fun s10 R10 P10 => ?_)
  have P1A := P19.tr P10
  have h1 := fA_self (k := 115) (n := 16) (f := 0) h0
  have h2 := fA_self (k := 100) (n := 4) (f := 3) h1
  have h3 := fA_self (k := 100) (n := 4) (f := 4) h2
  have h4 := fA_self (k := 100) (n := 64) (f := 5) h3
  have h5 := fA_self (k := 101) (n := 64) (f := 6) h4
  have h6 := fA_self (k := 101) (n := 64) (f := 8) h5
  obtain ⟨r6, er6⟩ : ∃ r, (fA (fA (fA (fA (fA (fA d i 115 16 0) i 100 4 3) i 100 4 4) i 100 64 5) i 101 64 6) i 101 64 8)[i]? = some r ∧ rP r 0 = some d.length ∧ rP r 4 = some (d.length + 2) := by
    refine ⟨_, h6, ?_, ?_⟩
    · rw [uP_o (by decide), uP_o (by decide), uP_o (by decide), uP_o (by decide), uP_o (by decide), uP_s]
    · rw [uP_o (by decide), uP_o (by decide), uP_o (by decide), uP_s, fA_len, fA_len]
  have h8 : d8[i]? = some (uP 11 (d.length + 6) r6) := by rw [ed8, dU_get, if_pos rfl, dM_get (by rw [l6]; omega), er6.1, l6]; rfl
  have h9 := fA_self (k := 100) (n := 4) (f := 12) h8
  have hA := fA_self (k := 103) (n := 4) (f := 13) h9
  have lA : (fA (fA d8 i 100 4 12) i 103 4 13).length = d.length + 13 := by rw [fA_len, fA_len, l8]
  have zA : sz (fA (fA d8 i 100 4 12) i 103 4 13) = sz d + 1508 := by rw [fA_sz, fA_sz, z8]
  have get8 : ∀ x, x ≠ i → x < d.length + 6 → (fA (fA d8 i 100 4 12) i 103 4 13)[x]? = (fA (fA (fA (fA (fA (fA d i 115 16 0) i 100 4 3) i 100 4 4) i 100 64 5) i 101 64 6) i 101 64 8)[x]? := fun x hx hl => by
    rw [fA_get hx (by rw [fA_len]; omega), fA_get hx (by omega), ed8, dU_get, if_neg hx, dM_get (by rw [l6]; omega)]
  have r15 : (fA (fA d8 i 100 4 12) i 103 4 13)[d.length]? = some (rN 115 16) := by
    rw [get8 _ (by omega) (by omega), fA_get (by omega) (by rw [fA_len, fA_len, fA_len, fA_len, fA_len]; omega), fA_get (by omega) (by rw [fA_len, fA_len, fA_len, fA_len]; omega), fA_get (by omega) (by rw [fA_len, fA_len, fA_len]; omega), fA_get (by omega) (by rw [fA_len, fA_len]; omega), fA_get (by omega) (by rw [fA_len]; omega), fA_new, if_neg (by omega)]
  have r4 : (fA (fA d8 i 100 4 12) i 103 4 13)[d.length + 2]? = some (rN 100 4) := by
    have l2 : (fA (fA d i 115 16 0) i 100 4 3).length = d.length + 2 := by rw [fA_len, fA_len]
    rw [get8 _ (by omega) (by omega), fA_get (by omega) (by rw [fA_len, fA_len, fA_len, fA_len, fA_len]; omega), fA_get (by omega) (by rw [fA_len, fA_len, fA_len, fA_len]; omega), fA_get (by omega) (by rw [fA_len, fA_len, fA_len]; omega), ← l2, fA_new, if_neg (by omega)]
  obtain ⟨_, ar, har, oar⟩ := R10.2.2.2 _ _ r15
  refine n_ops (ar := ar) (m := d.length) R10 (P1A _ _ hi) hA (by rw [uP_o (by decide), uP_o (by decide), uP_o (by decide)]; exact er6.2.1) (by omega) har (oar.2.1 (by decide)) ⟨by omega, by omega⟩ (fun s11 R11 P11 => ?_)
  unfold w_X4_init_104
  obtain ⟨_, a4, ha4, o4⟩ := R10.2.2.2 _ _ r4
  have i11 : (fOPs d.length 16 0 (fA (fA d8 i 100 4 12) i 103 4 13))[i]? = _ := (fOPs_get d.length 16 (by omega) 0 _ (by rw [lA]; omega)).trans hA
  have m11 : (fOPs d.length 16 0 (fA (fA d8 i 100 4 12) i 103 4 13))[d.length + 2]? = some (rN 100 4) := (fOPs_get d.length 16 (by omega) 0 _ (by rw [lA]; omega)).trans r4
  have e4 : gP s11 th 4 = some a4 := R11.gP1 (P11 _ _ (P1A _ _ hi)) i11 (by rw [uP_o (by decide), uP_o (by decide), uP_o (by decide)]; exact er6.2.2) (P11 _ _ ha4)
  have n4 : gn s11 a4 = 4 := (R11.at (P11 _ _ ha4) m11).2.1 (by decide)
  rw [e4]
  refine n_fill R11 (P11 _ _ ha4) (by omega) (fun s12 R12 P12 _ => ?_)
  rw [n4, ed8] at R12
  exact hQ s12 R12 ((P1A.tr P11).tr P12)
end INI

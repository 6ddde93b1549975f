/-! numbers: an int is the integer that it is -/
def i32 (x : Int) : Int32 := Int32.ofInt x
theorem i32_add (x y : Int) : i32 x + i32 y = i32 (x + y) := (Int32.ofInt_add x y).symm
theorem i32_sub (x y : Int) : i32 x - i32 y = i32 (x - y) := (Int32.ofInt_sub x y).symm
theorem i32_mul (x y : Int) : i32 x * i32 y = i32 (x * y) := (Int32.ofInt_mul x y).symm
theorem i32_neg (x : Int) : -i32 x = i32 (-x) := (Int32.ofInt_neg x).symm
def rng (x : Int) : Prop := -2147483648 ≤ x ∧ x < 2147483648
theorem i32_toInt {x : Int} (h : rng x) : (i32 x).toInt = x := Int32.toInt_ofInt_of_le (by have := h.1; omega) (by have := h.2; omega)
theorem i32_of (v : Int32) : ∃ x : Int, rng x ∧ v = i32 x := ⟨v.toInt, ⟨by have := v.le_toInt; omega, by have := v.toInt_lt; omega⟩, by unfold i32; exact (Int32.ofInt_toInt v).symm⟩
theorem i32_lt {x y : Int} (hx : rng x) (hy : rng y) : i32 x < i32 y ↔ x < y := by rw [Int32.lt_iff_toInt_lt, i32_toInt hx, i32_toInt hy]
theorem i32_le {x y : Int} (hx : rng x) (hy : rng y) : i32 x ≤ i32 y ↔ x ≤ y := by rw [Int32.le_iff_toInt_le, i32_toInt hx, i32_toInt hy]
theorem i32_eq {x y : Int} (hx : rng x) (hy : rng y) : i32 x = i32 y ↔ x = y := by
  constructor
  · intro h
    have := congrArg Int32.toInt h
    rwa [i32_toInt hx, i32_toInt hy] at this
  · intro h; rw [h]
theorem i32_nI (n : Nat) : i32 (n : Int) = nI n := by unfold i32 nI; exact Int32.ofInt_eq_ofNat
theorem i32_in {x : Int} {n : Nat} (h0 : 0 ≤ x) (h1 : x < n) (hn : n < 2 ^ 31) : vp_in (i32 x) n := by
  have hr : rng x := ⟨by omega, by omega⟩
  rw [vp_in_iff, i32_toInt hr]
  exact ⟨h0, h1⟩
theorem i32_clamp {x : Int} (h0 : 0 ≤ x) (h1 : x < 2147483648) : (i32 x).toNatClampNeg = x.toNat := by
  unfold Int32.toNatClampNeg
  rw [i32_toInt ⟨by omega, h1⟩]
/-! a world: which addresses there are, what each is (kind), how long an array, what its ints, longs, references hold -/
abbrev Sg : Type := (List Nat × Nat × Nat) × (Nat → Nat) × (Nat → Nat) × (Nat → Nat → Int) × (Nat → Nat → Int64) × (Nat → Nat → Option Nat)
abbrev gD (σ : Sg) : List Nat := σ.1.1
abbrev gc (σ : Sg) : Nat := σ.1.2.1
abbrev gs (σ : Sg) : Nat := σ.1.2.2
abbrev gk (σ : Sg) : Nat → Nat := σ.2.1
abbrev gn (σ : Sg) : Nat → Nat := σ.2.2.1
abbrev gI (σ : Sg) : Nat → Nat → Int := σ.2.2.2.1
abbrev gJ (σ : Sg) : Nat → Nat → Int64 := σ.2.2.2.2.1
abbrev gP (σ : Sg) : Nat → Nat → Option Nat := σ.2.2.2.2.2
def up2 {α : Type} (f : Nat → Nat → α) (a k : Nat) (v : α) : Nat → Nat → α := fun b j => if b = a ∧ j = k then v else f b j
theorem up2_s {α : Type} (f : Nat → Nat → α) (a k : Nat) (v : α) : up2 f a k v a k = v := by simp [up2]
theorem up2_n {α : Type} (f : Nat → Nat → α) {a k b j : Nat} (v : α) (h : ¬ (b = a ∧ j = k)) : up2 f a k v b j = f b j := by simp [up2, h]
abbrev pI (σ : Sg) (a k : Nat) (x : Int) : Sg := (σ.1, σ.2.1, σ.2.2.1, up2 (gI σ) a k x, σ.2.2.2.2.1, σ.2.2.2.2.2)
abbrev pJ (σ : Sg) (a k : Nat) (x : Int64) : Sg := (σ.1, σ.2.1, σ.2.2.1, σ.2.2.2.1, up2 (gJ σ) a k x, σ.2.2.2.2.2)
abbrev pP (σ : Sg) (a k : Nat) (x : Option Nat) : Sg := (σ.1, σ.2.1, σ.2.2.1, σ.2.2.2.1, σ.2.2.2.2.1, up2 (gP σ) a k x)
/-- of a field its kind by its type's letter: 0 an int, 1 a long, 2 a reference -/
def fty (d : String) : Nat := if d = "J" then 1 else if d = "I" ∨ d = "Z" ∨ d = "B" ∨ d = "S" ∨ d = "C" then 0 else 2
def fval (σ : Sg) (a k t : Nat) : Value := match t with
  | 0 => .int (i32 (gI σ a k))
  | 1 => .long (gJ σ a k)
  | _ => va_rf (gP σ a k)
def flds (σ : Sg) (a : Nat) (r : vw_C) : List Value := (List.range r.2.2).map (fun k => fval σ a k (fty (r.2.1 k).2.2.1))
/-- kinds: below 100 an object of that class of the list; 100 int[], 101 long[], 102 byte[], 103 boolean[]; 110 + c an array of references to class c; 200 long[][] -/
def ent (cA : Nat → ClassId) (σ : Sg) (a : Nat) : va_E :=
  if gk σ a < 100 then .inr (gk σ a, flds σ a (vwCl.getD (gk σ a) ("", fun _ => ("", "", "", false), 0)))
  else if gk σ a = 101 then .inl (cA 101, gn σ a, .inr (.inl (gJ σ a)))
  else if gk σ a < 110 then .inl (cA (gk σ a), gn σ a, .inl (fun i => i32 (gI σ a i)))
  else .inl (cA (gk σ a), gn σ a, .inr (.inr (.inr (.inr (gP σ a)))))
abbrev wd (cA : Nat → ClassId) (σ : Sg) : va_W := va_pl (gD σ) (ent cA σ)
theorem flds_at (σ : Sg) (a : Nat) (r : vw_C) {k : Nat} (h : k < r.2.2) : (flds σ a r)[k]? = some (fval σ a k (fty (r.2.1 k).2.2.1)) := by
  unfold flds
  rw [List.getElem?_map, List.getElem?_range h]
  rfl
theorem ent_obj {cA : Nat → ClassId} {σ : Sg} {a ci : Nat} {r : vw_C} (hk : gk σ a = ci) (hc : vwCl[ci]? = some r) (hci : ci < 100) : ent cA σ a = .inr (ci, flds σ a r) := by
  unfold ent
  rw [hk, if_pos hci, List.getD_eq_getElem?_getD, hc]
  rfl
theorem wd_get {cA : Nat → ClassId} {σ : Sg} {a : Nat} (h : a ∈ gD σ) : ∃ k : Nat, (wd cA σ)[k]? = some (a, ent cA σ a) := va_pl_get (X := []) h
/-! how much the heap has: what a call really made, where its contract counts only what it may make -/
def tot (H : Heap) : Nat := H.foldl (fun n c => n + c.slots.size) 0
theorem tot_of {s : State} (h : s.slotsTrue = true) : s.slotsUsed = tot s.heap := by
  unfold State.slotsTrue at h
  exact (beq_iff_eq.mp h)
section CNT
variable {p : Program} {l : Launch} {e : Env} {R : Room} {s : State} {m : MethodId} {args : Array Value} {below : List Frame} {meth : Method} {c : Code} {H : Heap} {locs : List Loc} {cells slots : Nat} {Q : State → Prop} {g : JFrame}
theorem st_tot {T : State} (X : Stand p l e R s m args below meth c T locs cells slots) : tot T.heap ≤ tot s.heap + slots := by
  have h0 : s.slotsTrue = true := by
    have h := X.room
    simp only [State.hasRoom, Bool.and_eq_true] at h
    exact h.2
  have h1 := X.used
  rw [tot_of h0, tot_of X.book] at h1
  exact h1
theorem st_re {T : State} (X : Stand p l e R s m args below meth c T locs cells slots) {k n : Nat} (h1 : T.heap.size ≤ s.heap.size + k) (h2 : tot T.heap ≤ tot s.heap + n) : Stand p l e R s m args below meth c T locs k n := by
  have h0 : s.slotsTrue = true := by
    have h := X.room
    simp only [State.hasRoom, Bool.and_eq_true] at h
    exact h.2
  obtain ⟨q1, q2, q3, q4, q5, q6⟩ := X.same
  refine ⟨X.admits, X.cas, X.clock, X.frames, X.room, X.hears, X.method, X.code, X.here, X.tail, X.warmed, X.limits, X.bytes, ⟨q1, q2, h1, q4, ?_, q6⟩⟩
  have e4 : T.slotsUsed = s.slotsUsed + (((T.setVm s.vm).heap.toList.drop s.heap.size).map (·.slots.size)).sum := q4
  rw [tot_of h0, tot_of X.book] at e4
  omega
/-- at any point: what the heap has by now -/
theorem w_sizes (k : H.size ≤ s.heap.size + cells → tot H ≤ tot s.heap + slots → W p l e R s m args below meth c H locs cells slots Q g) : W p l e R s m args below meth c H locs cells slots Q g := by
  intro T hT X
  exact k (by rw [← hT]; exact X.heapSize) (by rw [← hT]; exact st_tot X) T hT X
/-- counted anew -/
theorem w_re {k n : Nat} (h1 : H.size ≤ s.heap.size + k) (h2 : tot H ≤ tot s.heap + n) (kk : W p l e R s m args below meth c H locs k n Q g) : W p l e R s m args below meth c H locs cells slots Q g := by
  intro T hT X
  exact kk T hT (st_re X (by rw [hT]; exact h1) (by rw [hT]; exact h2))
theorem w_reX {k n : Nat} {q : Addr} (h1 : H.size ≤ s.heap.size + k) (h2 : tot H ≤ tot s.heap + n) (kk : vx_W p l e R s m args below meth c H locs k n Q g q) : vx_W p l e R s m args below meth c H locs cells slots Q g q := by
  intro T hT X
  exact kk T hT (st_re X (by rw [hT]; exact h1) (by rw [hT]; exact h2))
theorem w_sizesX {q : Addr} (k : H.size ≤ s.heap.size + cells → tot H ≤ tot s.heap + slots → vx_W p l e R s m args below meth c H locs cells slots Q g q) : vx_W p l e R s m args below meth c H locs cells slots Q g q := by
  intro T hT X
  exact k (by rw [← hT]; exact X.heapSize) (by rw [← hT]; exact st_tot X) T hT X
end CNT
/-! words that no list of words keeps -/
def nmL : List (String × Nat × MethodName × String) := [(RX12, 22, yX6_init, RX12), (RX4, 46, yX5_init, RX12), (RX12, 39, yX8_init, RX12), (RX9, 11, yX3_init, RX12), (RX9, 34, yX12_newChains, RX12), (RX12, 272, yX1_init, RX12), (RX11, 11, yX1_init, RX12), (RX7, 11, yX10_init, RX12), (RX10, 11, yX1_init, RX12), (RX7, 18, yX12_newChains, RX12), (RX7, 28, yX1_init, RX12), (RX9, 169, yX12_hasOneTask, RX12), (RX9, 173, yX10_init, RX12), (RX9, 196, yX12_isKeyed, RX12), (RX9, 205, yX2_init, RX12), (RX2, 11, yX1_init, RX12), (RX3, 46, yX10_init, RX12), (RX8, 21, yX0_init, RX12), (RX9, 242, yX12_partOf, RX12), (RX16, 951, yX15_init, RX16)]
def nfL : List (String × Nat × String × String × String × String) := [(RX16, 316, "StreamHouseModel$Job", "many", "I", "StreamHouseModel"), (RX16, 321, "StreamHouseModel$Job", "outputs", "I", "StreamHouseModel"), (RX16, 246, "StreamHouseModel$Job", "kinds", "[I", "StreamHouseModel"), (RX16, 324, "StreamHouseModel$Job", "names", "[J", "StreamHouseModel"), (RX16, 216, "StreamHouseModel$Job", "first", "[I", "StreamHouseModel"), (RX16, 231, "StreamHouseModel$Job", "second", "[I", "StreamHouseModel"), (RX16, 178, "StreamHouseModel$Job", "columns", "[I", "StreamHouseModel"), (RX16, 228, "StreamHouseModel$Job", "columnNames", "[J", "StreamHouseModel"), (RX16, 191, "StreamHouseModel$Job", "one", "[J", "StreamHouseModel"), (RX16, 204, "StreamHouseModel$Job", "other", "[J", "StreamHouseModel"), (RX16, 239, "StreamHouseModel$Job", "by", "[I", "StreamHouseModel"), (RX16, 264, "StreamHouseModel$Job", "byOther", "[I", "StreamHouseModel"), (RX16, 222, "StreamHouseModel$Job", "values", "[I", "StreamHouseModel"), (RX16, 219, "StreamHouseModel$Job", "valueAt", "[I", "StreamHouseModel"), (RX16, 261, "StreamHouseModel$Job", "aggregate", "[I", "StreamHouseModel"), (RX16, 333, "StreamHouseModel$Job", "steps", "[I", "StreamHouseModel"), (RX16, 141, "StreamHouseModel$Job", "arguments", "[J", "StreamHouseModel"), (RX16, 122, "StreamHouseModel$Job", "stepMany", "I", "StreamHouseModel"), (RX16, 188, "StreamHouseModel$Job", "sourceOf", "[I", "StreamHouseModel")]
def csL : List (String × String) := [("java/lang/IllegalStateException", "java/lang/IllegalStateException"), ("java/lang/IllegalArgumentException", "java/lang/IllegalArgumentException"), ("java/lang/IndexOutOfBoundsException", "java/lang/IndexOutOfBoundsException"), ("java/lang/UnsupportedOperationException", "java/lang/UnsupportedOperationException"), ("StreamHouseModel$Fault", "StreamHouseModel$Fault"), ("StreamHouseModel$Broken", "StreamHouseModel$Broken")]
def dcL : List MethodName := [Bundle.init0 "java/lang/RuntimeException", Bundle.init0 "java/lang/Exception", Bundle.init0 Bundle.tN]
def aoL : List String := [RX10, RX2, RX1, RX5]
def ncL : List (String × String) := [("java/lang/IllegalStateException", "java/lang/IndexOutOfBoundsException"), ("java/lang/IllegalArgumentException", "java/lang/IllegalStateException"), ("java/lang/IllegalStateException", "java/lang/IllegalArgumentException"), ("java/lang/IllegalStateException", "java/lang/UnsupportedOperationException"), ("java/lang/IllegalArgumentException", "java/lang/IndexOutOfBoundsException"), ("java/lang/IllegalArgumentException", "java/lang/UnsupportedOperationException"), ("java/lang/IndexOutOfBoundsException", "java/lang/IllegalStateException"), ("java/lang/IndexOutOfBoundsException", "java/lang/IllegalArgumentException"), ("java/lang/IndexOutOfBoundsException", "java/lang/UnsupportedOperationException"), ("java/lang/UnsupportedOperationException", "java/lang/IllegalStateException"), ("java/lang/UnsupportedOperationException", "java/lang/IllegalArgumentException"), ("java/lang/UnsupportedOperationException", "java/lang/IndexOutOfBoundsException")]
theorem vy_AOA {ty : FieldType} {u U : State} (hvm : u.vm.Alike U.vm) (h : va_AOA ty u) : va_AOA ty U := by
  have h1 : (Cond.arrayOver (.array ty)).before #[] (u.setVm U.vm) = true := by
    rw [Cond.arrayOver_setVmC (args := #[]) (s := u) (vm' := U.vm) hvm (.array ty)]; exact h
  have e : (u.setVm U.vm).vm = U.vm := rfl
  unfold va_AOA
  simp only [Cond.before, Cond.holds, Cond.value, e] at h1 ⊢
  exact h1
def FX (U : State) : Prop := (∀ q ∈ nmL, va_Nw (.methodLinkNest q.1 q.2.1 q.2.2.1 q.2.2.2) U) ∧ (∀ q ∈ nfL, va_Nw (.fieldLinkNest q.1 q.2.1 q.2.2.1 q.2.2.2.1 q.2.2.2.2.1 q.2.2.2.2.2) U) ∧ (∀ q ∈ csL, va_Nw (.castable q.1 q.2) U) ∧ (∀ q ∈ dcL, va_Nw (.declares q) U) ∧ (∀ q ∈ aoL, va_AO q U) ∧ (∀ q ∈ ncL, va_Nc q.1 q.2 U) ∧ va_AOA .long U
theorem FX.warm {s U : State} (hW : s.WarmedH U.vm) (h : FX s) : FX U := ⟨fun q hq => va_Nw.warmM hW (h.1 q hq), fun q hq => va_Nw.warmF hW (h.2.1 q hq), fun q hq => va_Nw.warmC hW (h.2.2.1 q hq), fun q hq => va_Nw.warmD hW (h.2.2.2.1 q hq), fun q hq => va_AO.moved hW.alike (h.2.2.2.2.1 q hq), fun q hq => va_Nc.moved hW.alike (h.2.2.2.2.2.1 q hq), vy_AOA hW.alike h.2.2.2.2.2.2⟩
theorem FX.same {u U : State} (e : u.vm = U.vm) (h : FX u) : FX U := ⟨fun q hq => va_Nw.same rfl e (h.1 q hq), fun q hq => va_Nw.same rfl e (h.2.1 q hq), fun q hq => va_Nw.same rfl e (h.2.2.1 q hq), fun q hq => va_Nw.same rfl e (h.2.2.2.1 q hq), fun q hq => va_AO.moved (by rw [e]; exact Vm.Alike.refl _) (h.2.2.2.2.1 q hq), fun q hq => va_Nc.moved (by rw [e]; exact Vm.Alike.refl _) (h.2.2.2.2.2.1 q hq), vy_AOA (by rw [e]; exact Vm.Alike.refl _) h.2.2.2.2.2.2⟩
/-- the constant strings of the reference: number in the pool, text, bytes -/
def stL : List (Nat × String × List Int32) := [(69, "(),;:=<>+-*/%&|!?", [40, 41, 44, 59, 58, 61, 60, 62, 43, 45, 42, 47, 37, 38, 124, 33, 63]), (162, "time", [116, 105, 109, 101]), (198, "lag", [108, 97, 103]), (237, "by", [98, 121]), (244, "span", [115, 112, 97, 110]), (249, "step", [115, 116, 101, 112]), (252, "gap", [103, 97, 112]), (254, "count", [99, 111, 117, 110, 116]), (256, "sum", [115, 117, 109]), (257, "least", [108, 101, 97, 115, 116]), (259, "most", [109, 111, 115, 116]), (267, "from", [102, 114, 111, 109]), (268, "to", [116, 111]), (270, "then", [116, 104, 101, 110]), (272, "within", [119, 105, 116, 104, 105, 110]), (275, "rank", [114, 97, 110, 107]), (277, "source", [115, 111, 117, 114, 99, 101]), (281, "filter", [102, 105, 108, 116, 101, 114]), (283, "map", [109, 97, 112]), (287, "union", [117, 110, 105, 111, 110]), (291, "fold", [102, 111, 108, 100]), (295, "join", [106, 111, 105, 110]), (304, "look", [108, 111, 111, 107]), (306, "match", [109, 97, 116, 99, 104]), (310, "unique", [117, 110, 105, 113, 117, 101]), (312, "top", [116, 111, 112]), (319, "output", [111, 117, 116, 112, 117, 116]), (967, " source lag filter map union fold by span step gap join within look match then unique top output count sum least most time ", [32, 115, 111, 117, 114, 99, 101, 32, 108, 97, 103, 32, 102, 105, 108, 116, 101, 114, 32, 109, 97, 112, 32, 117, 110, 105, 111, 110, 32, 102, 111, 108, 100, 32, 98, 121, 32, 115, 112, 97, 110, 32, 115, 116, 101, 112, 32, 103, 97, 112, 32, 106, 111, 105, 110, 32, 119, 105, 116, 104, 105, 110, 32, 108, 111, 111, 107, 32, 109, 97, 116, 99, 104, 32, 116, 104, 101, 110, 32, 117, 110, 105, 113, 117, 101, 32, 116, 111, 112, 32, 111, 117, 116, 112, 117, 116, 32, 99, 111, 117, 110, 116, 32, 115, 117, 109, 32, 108, 101, 97, 115, 116, 32, 109, 111, 115, 116, 32, 116, 105, 109, 101, 32])]
/-- the string at k with its bytes at v -/
def SF (k v : Nat) (q : Nat × String × List Int32) (A : Nat → Prop) (U : State) (H : Heap) : Prop := va_O "java/lang/String" k A U H ∧ va_OF "java/lang/String" "coder" "B" (.int 0) k A U H ∧ va_OF "java/lang/String" "value" "[B" (.ref v) k A U H ∧ va_T .byte v q.2.2.length (fun j => .int (q.2.2.getD j 0)) A U H
theorem SF.moved {k v : Nat} {q : Nat × String × List Int32} {A : Nat → Prop} {u U : State} {H : Heap} (hvm : u.vm.Alike U.vm) (h : SF k v q A u H) : SF k v q A U H := ⟨h.1.moved hvm, h.2.1.moved hvm, h.2.2.1.moved hvm, h.2.2.2.moved hvm⟩
theorem SF.kept {k v : Nat} {q : Nat × String × List Int32} {A : Nat → Prop} {U : State} {H H1 : Heap} (h : SF k v q A U H) (hq : ∀ a : Nat, a < H.size → ¬ A a → H1[a]? = H[a]?) : SF k v q A U H1 := ⟨h.1.kept hq, h.2.1.kept hq, h.2.2.1.kept hq, h.2.2.2.kept hq⟩
abbrev fmD : String := "Ljava/util/function/BiFunction;"
/-- the statics, outside of A: Throwable's two, the constant strings, String's and Preconditions', the class's keywords -/
def ZX (cA : Nat → ClassId) (A : Nat → Prop) (U : State) (H : Heap) : Prop := vx_Zq Bundle.tN "UNASSIGNED_STACK" Bundle.steD A U H ∧ vx_Zq Bundle.tN "SUPPRESSED_SENTINEL" Bundle.listD A U H ∧ (∀ q ∈ stL, vk_R RX16 q.1 q.2.1 (cA (1000 + q.1)) U ∧ SF (cA (1000 + q.1)) (cA (2000 + q.1)) q A U H) ∧ va_Z "java/lang/String" "COMPACT_STRINGS" "Z" (.int 1) A U H ∧ va_Zq "jdk/internal/util/Preconditions" "SIOOBE_FORMATTER" fmD A U H ∧ va_Z "StreamHouse$Parser" "KEYWORDS" "[J" (.ref (cA 3000)) A U H ∧ ∃ f : Nat → Int64, va_T .long (cA 3000) 23 (fun j => .long (f j)) A U H
theorem ZX.to {cA : Nat → ClassId} {A : Nat → Prop} {s U : State} {H : Heap} {locs : List Loc} (h : ZX cA A s s.heap) (hS : va_S A s.heap H locs) (hW : s.WarmedH U.vm) (hU : U.heap = H) : ZX cA A U U.heap := by
  rw [hU]
  have hvm := hW.alike
  obtain ⟨h1, h2, h3, h4, h5, h6, f, h7⟩ := h
  exact ⟨vx_Zq.moved hvm (h1.kept hS.2.1), vx_Zq.moved hvm (h2.kept hS.2.1), fun q hq => ⟨vk_R.warm hW (h3 q hq).1, SF.moved hvm ((h3 q hq).2.kept hS.2.1)⟩, va_Z.moved hvm (h4.kept hS.2.1), va_Zq.moved hvm (h5.kept hS.2.1), va_Z.moved hvm (h6.kept hS.2.1), f, va_T.moved hvm (h7.kept hS.2.1)⟩
theorem ZX.same {cA : Nat → ClassId} {A : Nat → Prop} {u U : State} (e : u.vm = U.vm) (eh : u.heap = U.heap) (h : ZX cA A u u.heap) : ZX cA A U U.heap := by
  rw [← eh]
  have hvm : u.vm.Alike U.vm := by rw [e]; exact Vm.Alike.refl _
  obtain ⟨h1, h2, h3, h4, h5, h6, f, h7⟩ := h
  exact ⟨vx_Zq.moved hvm h1, vx_Zq.moved hvm h2, fun q hq => ⟨vk_R.same e.symm (h3 q hq).1, SF.moved hvm (h3 q hq).2⟩, va_Z.moved hvm h4, va_Zq.moved hvm h5, va_Z.moved hvm h6, f, va_T.moved hvm h7⟩
/-! what stands while a method runs: the machine, the code, the words, the classes -/
abbrev BC : Nat := 590000
abbrev BS : Nat := 7000000
def WAL : List Cond := lw_tbl.filter goodWord
theorem wal_good {X : List Cond} (h : ∀ w ∈ X, w ∈ WAL) : GoodIn WAL X := fun w hw => ⟨h w hw, good_of_word (List.mem_filter.mp (h w hw)).2⟩
def Cx (p : Program) (s : State) (m : MethodId) (args : Array Value) (c : Code) (cc : ByteArray) (nL : Nat) (own : String) (D : va_G) (cA : Nat → ClassId) (tys : List (ClassId × FieldType)) (A : Nat → Prop) : Prop :=
  p.tables.exec = Jvm.exec ∧ c.code = cc ∧ s.vm.findClass own = some m.cls ∧ (∀ w ∈ WAL, w.before args s = true) ∧ va_K D vwCl tys s ∧ c.maxLocals = nL ∧ (∀ q : Nat, s.heap.size ≤ q → A q) ∧ FX s ∧ ZX cA A s s.heap
/-- the world of σ is in the heap -/
def Hd (D : va_G) (cA : Nat → ClassId) (A : Nat → Prop) (s : State) (σ : Sg) (H : Heap) (locs : List Loc) : Prop :=
  va_P D vwCl (wd cA σ) H ∧ va_D A (wd cA σ) ∧ va_S A s.heap H locs
/-- what is counted -/
def CB (n0 s0 : Nat) (σ : Sg) : Prop := n0 ≤ gc σ ∧ s0 ≤ gs σ ∧ gc σ ≤ BC ∧ gs σ ≤ BS
/-- from the world σ, at pc, with these locals and this stack, the machine comes to Q -/
def JJ (p : Program) (l : Launch) (e : Env) (R : Room) (s : State) (m : MethodId) (args : Array Value) (below : List Frame) (meth : Method) (c : Code) (nL : Nat) (D : va_G) (cA : Nat → ClassId) (A : Nat → Prop) (n0 s0 : Nat) (Q : State → Prop) (σ : Sg) (pc : Nat) (lo : List (Nat × Value)) (st : List Value) : Prop :=
  ∀ (H : Heap) (locs : List Loc) (ls : Array Slot), Hd D cA A s σ H locs → lv_has ls nL lo → CB n0 s0 σ → W p l e R s m args below meth c H locs (gc σ - n0) (gs σ - s0) Q (F0 m pc ls st)
theorem gI_pI (σ : Sg) (a k : Nat) (x : Int) : gI (pI σ a k x) = up2 (gI σ) a k x := rfl
theorem gJ_pI (σ : Sg) (a k : Nat) (x : Int) : gJ (pI σ a k x) = gJ σ := rfl
theorem gP_pI (σ : Sg) (a k : Nat) (x : Int) : gP (pI σ a k x) = gP σ := rfl
theorem gI_pJ (σ : Sg) (a k : Nat) (x : Int64) : gI (pJ σ a k x) = gI σ := rfl
theorem gJ_pJ (σ : Sg) (a k : Nat) (x : Int64) : gJ (pJ σ a k x) = up2 (gJ σ) a k x := rfl
theorem gP_pJ (σ : Sg) (a k : Nat) (x : Int64) : gP (pJ σ a k x) = gP σ := rfl
theorem gI_pP (σ : Sg) (a k : Nat) (x : Option Nat) : gI (pP σ a k x) = gI σ := rfl
theorem gJ_pP (σ : Sg) (a k : Nat) (x : Option Nat) : gJ (pP σ a k x) = gJ σ := rfl
theorem gP_pP (σ : Sg) (a k : Nat) (x : Option Nat) : gP (pP σ a k x) = up2 (gP σ) a k x := rfl
theorem flds_setI {σ : Sg} {a k : Nat} {x : Int} {r : vw_C} (ht : fty (r.2.1 k).2.2.1 = 0) : flds (pI σ a k x) a r = (flds σ a r).set k (.int (i32 x)) := by
  apply List.ext_getElem?
  intro j
  unfold flds
  by_cases hj : j < r.2.2
  · rw [List.getElem?_map, List.getElem?_range hj, List.getElem?_set]
    by_cases hk : k = j
    · subst hk
      rw [if_pos rfl, if_pos (by simpa using hj)]
      simp [fval, ht, up2, gI_pI, gJ_pI, gP_pI, gI_pJ, gJ_pJ, gP_pJ, gI_pP, gJ_pP, gP_pP]
    · rw [if_neg hk, List.getElem?_map, List.getElem?_range hj]
      have hk' : ¬ j = k := fun h => hk h.symm
      simp [fval, up2, hk', gI_pI, gJ_pI, gP_pI, gI_pJ, gJ_pJ, gP_pJ, gI_pP, gJ_pP, gP_pP]
  · rw [List.getElem?_eq_none (by simpa using Nat.le_of_not_lt hj), List.getElem?_eq_none (by simpa using Nat.le_of_not_lt hj)]
theorem flds_setJ {σ : Sg} {a k : Nat} {x : Int64} {r : vw_C} (ht : fty (r.2.1 k).2.2.1 = 1) : flds (pJ σ a k x) a r = (flds σ a r).set k (.long x) := by
  apply List.ext_getElem?
  intro j
  unfold flds
  by_cases hj : j < r.2.2
  · rw [List.getElem?_map, List.getElem?_range hj, List.getElem?_set]
    by_cases hk : k = j
    · subst hk
      rw [if_pos rfl, if_pos (by simpa using hj)]
      simp [fval, ht, up2, gI_pI, gJ_pI, gP_pI, gI_pJ, gJ_pJ, gP_pJ, gI_pP, gJ_pP, gP_pP]
    · rw [if_neg hk, List.getElem?_map, List.getElem?_range hj]
      have hk' : ¬ j = k := fun h => hk h.symm
      simp [fval, up2, hk', gI_pI, gJ_pI, gP_pI, gI_pJ, gJ_pJ, gP_pJ, gI_pP, gJ_pP, gP_pP]
  · rw [List.getElem?_eq_none (by simpa using Nat.le_of_not_lt hj), List.getElem?_eq_none (by simpa using Nat.le_of_not_lt hj)]
theorem flds_setP {σ : Sg} {a k : Nat} {x : Option Nat} {r : vw_C} (ht : fty (r.2.1 k).2.2.1 = 2) : flds (pP σ a k x) a r = (flds σ a r).set k (va_rf x) := by
  apply List.ext_getElem?
  intro j
  unfold flds
  by_cases hj : j < r.2.2
  · rw [List.getElem?_map, List.getElem?_range hj, List.getElem?_set]
    by_cases hk : k = j
    · subst hk
      rw [if_pos rfl, if_pos (by simpa using hj)]
      simp [fval, ht, up2, gI_pI, gJ_pI, gP_pI, gI_pJ, gJ_pJ, gP_pJ, gI_pP, gJ_pP, gP_pP]
    · rw [if_neg hk, List.getElem?_map, List.getElem?_range hj]
      have hk' : ¬ j = k := fun h => hk h.symm
      simp [fval, up2, hk', gI_pI, gJ_pI, gP_pI, gI_pJ, gJ_pJ, gP_pJ, gI_pP, gJ_pP, gP_pP]
  · rw [List.getElem?_eq_none (by simpa using Nat.le_of_not_lt hj), List.getElem?_eq_none (by simpa using Nat.le_of_not_lt hj)]
theorem fval_offI {σ : Sg} {a k b j t : Nat} {x : Int} (h : b ≠ a) : fval (pI σ a k x) b j t = fval σ b j t := by
  unfold fval; simp [up2, h, gI_pI, gJ_pI, gP_pI, gI_pJ, gJ_pJ, gP_pJ, gI_pP, gJ_pP, gP_pP]
theorem fval_offJ {σ : Sg} {a k b j t : Nat} {x : Int64} (h : b ≠ a) : fval (pJ σ a k x) b j t = fval σ b j t := by
  unfold fval; simp [up2, h, gI_pI, gJ_pI, gP_pI, gI_pJ, gJ_pJ, gP_pJ, gI_pP, gJ_pP, gP_pP]
theorem fval_offP {σ : Sg} {a k b j t : Nat} {x : Option Nat} (h : b ≠ a) : fval (pP σ a k x) b j t = fval σ b j t := by
  unfold fval; simp [up2, h, gI_pI, gJ_pI, gP_pI, gI_pJ, gJ_pJ, gP_pJ, gI_pP, gJ_pP, gP_pP]
theorem ent_offI {cA : Nat → ClassId} {σ : Sg} {a k b : Nat} {x : Int} (h : b ≠ a) : ent cA (pI σ a k x) b = ent cA σ b := by
  have e1 : ∀ r, flds (pI σ a k x) b r = flds σ b r := fun r => List.map_congr_left (fun j _ => fval_offI h)
  have e2 : (fun i => i32 (gI (pI σ a k x) b i)) = fun i => i32 (gI σ b i) := by funext i; simp [up2, h, gI_pI, gJ_pI, gP_pI, gI_pJ, gJ_pJ, gP_pJ, gI_pP, gJ_pP, gP_pP]
  unfold ent
  rw [e1, e2]
theorem ent_offJ {cA : Nat → ClassId} {σ : Sg} {a k b : Nat} {x : Int64} (h : b ≠ a) : ent cA (pJ σ a k x) b = ent cA σ b := by
  have e1 : ∀ r, flds (pJ σ a k x) b r = flds σ b r := fun r => List.map_congr_left (fun j _ => fval_offJ h)
  have e2 : gJ (pJ σ a k x) b = gJ σ b := by funext i; simp [up2, h, gI_pI, gJ_pI, gP_pI, gI_pJ, gJ_pJ, gP_pJ, gI_pP, gJ_pP, gP_pP]
  unfold ent
  rw [e1, e2]
theorem ent_offP {cA : Nat → ClassId} {σ : Sg} {a k b : Nat} {x : Option Nat} (h : b ≠ a) : ent cA (pP σ a k x) b = ent cA σ b := by
  have e1 : ∀ r, flds (pP σ a k x) b r = flds σ b r := fun r => List.map_congr_left (fun j _ => fval_offP h)
  have e2 : gP (pP σ a k x) b = gP σ b := by funext i; simp [up2, h, gI_pI, gJ_pI, gP_pI, gI_pJ, gJ_pJ, gP_pJ, gI_pP, gJ_pP, gP_pP]
  unfold ent
  rw [e1, e2]
/-- a world in which one thing is another one -/
theorem wd_set {cA : Nat → ClassId} {A : Nat → Prop} {σ σ' : Sg} {a q0 : Nat} {e' : va_E} (hD : va_D A (wd cA σ)) (ha : a ∈ gD σ) (hq : (wd cA σ)[q0]? = some (a, ent cA σ a)) (h1 : gD σ' = gD σ) (h2 : ent cA σ' a = e') (h3 : ∀ b, b ≠ a → ent cA σ' b = ent cA σ b) : (wd cA σ).set q0 (a, e') = wd cA σ' := by
  have h := va_pl_set (X := []) (f := ent cA σ) (e := e') hD ha hq
  refine Eq.trans h ?_
  show va_pl (gD σ) (va_up (ent cA σ) a e') = va_pl (gD σ') (ent cA σ')
  rw [h1]
  refine va_pl_congr (fun b => ?_)
  by_cases hb : b = a
  · subst hb; rw [va_up_self, h2]
  · rw [va_up_ne _ _ hb, h3 b hb]
section HR
variable {p : Program} {l : Launch} {e : Env} {R : Room} {s : State} {m : MethodId} {args : Array Value} {below : List Frame} {meth : Method} {c : Code} {cc : ByteArray} {nL : Nat} {own : String} {D : va_G} {cA : Nat → ClassId} {tys : List (ClassId × FieldType)} {A : Nat → Prop} {cells slots : Nat} {Q : State → Prop} {σ : Sg} {pc : Nat} {ls : Array Slot} {H : Heap} {locs : List Loc} {rest : List Value}
/-- getfield -/
theorem h_get (B : Cx p s m args c cc nL own D cA tys A) (hH : Hd D cA A s σ H locs) {ref C : String} {T : u_T} {N ci index a : Nat} (ha : a ∈ gD σ) (hk : gk σ a = ci) (hci : ci < 100) (hc : vwCl[ci]? = some (C, T, N)) (hin : ∀ w ∈ u_ws C T N, w ∈ WAL) (k : Nat) (hkN : k < N) (hlink : Cond.fieldLink own index ref (T k).2.1 (T k).2.2.1 ∈ WAL) (hsame : ref = (T k).1) {v : Value} (hv : fval σ a k (fty (T k).2.2.1) = v) (hd : decode cc pc = .ok (.getfield index, 3)) (h : W p l e R s m args below meth c H locs cells slots Q (F0 m (pc + 3) ls (v :: rest))) : W p l e R s m args below meth c H locs cells slots Q (F0 m pc ls (.ref a :: rest)) := by
  obtain ⟨q0, hq⟩ := wd_get (cA := cA) ha
  rw [ent_obj hk hc hci] at hq
  exact va_get B.1 B.2.1 B.2.2.2.1 hin B.2.2.1 B.2.2.2.2.1 hH.1 q0 hq hc k hkN (B.2.2.2.1 _ hlink) (fun x hx => by rw [hsame]; exact hx) (by rw [flds_at σ a (C, T, N) hkN, hv]) hd h
/-- putfield, by what the world is then -/
theorem h_put (B : Cx p s m args c cc nL own D cA tys A) (hH : Hd D cA A s σ H locs) {ref C : String} {T : u_T} {N ci index a : Nat} (ha : a ∈ gD σ) (hk : gk σ a = ci) (hci : ci < 100) (hc : vwCl[ci]? = some (C, T, N)) (hin : ∀ w ∈ u_ws C T N, w ∈ WAL) (ty0 : Nat → FieldType) (hty : ∀ k, k < N → parseFieldDescriptor (T k).2.2.1 = some (ty0 k)) (hnm : ∀ a, a < N → ∀ b, b < N → a ≠ b → (T a).2.1 ≠ (T b).2.1) (k : Nat) (hkN : k < N) (hlink : Cond.fieldLink own index ref (T k).2.1 (T k).2.2.1 ∈ WAL) (hsame : ref = (T k).1) (hfin : (T k).2.2.2 = false) {ty : FieldType} {v : Value} (hdsc : parseFieldDescriptor (T k).2.2.1 = some ty) (hn : narrow ty v = v) (hfit : fits ty v = true) {σ' : Sg} (h1 : gD σ' = gD σ) (h2 : ent cA σ' a = .inr (ci, (flds σ a (C, T, N)).set k v)) (h3 : ∀ b, b ≠ a → ent cA σ' b = ent cA σ b) (hd : decode cc pc = .ok (.putfield index, 3)) (h : ∀ (H1 : Heap) (locs1 : List Loc), Hd D cA A s σ' H1 locs1 → W p l e R s m args below meth c H1 locs1 cells slots Q (F0 m (pc + 3) ls rest)) : W p l e R s m args below meth c H locs cells slots Q (F0 m pc ls (v :: .ref a :: rest)) := by
  obtain ⟨q0, hq⟩ := wd_get (cA := cA) ha
  have hs := wd_set hH.2.1 ha hq h1 h2 h3
  rw [ent_obj hk hc hci] at hq
  refine va_put B.1 B.2.1 B.2.2.2.1 hin ty0 hty hnm B.2.2.1 B.2.2.2.2.1 hH.1 hH.2.1 hH.2.2 q0 hq hc k hkN (B.2.2.2.1 _ hlink) (fun x hx => by rw [hsame]; exact hx) hfin hdsc hn hfit (by unfold flds; simpa using hkN) hd (fun H1 locs1 hP hD hS => ?_)
  rw [hs] at hP hD
  exact h H1 locs1 ⟨hP, hD, hS⟩
theorem ent_int {k9 : Nat} (h0 : 100 ≤ k9) (h1 : k9 < 110) (h2 : k9 ≠ 101) {a : Nat} (hk : gk σ a = k9) : ent cA σ a = .inl (cA k9, gn σ a, .inl (fun i => i32 (gI σ a i))) := by
  unfold ent; rw [hk, if_neg (by omega), if_neg h2, if_pos h1]
theorem ent_long {a : Nat} (hk : gk σ a = 101) : ent cA σ a = .inl (cA 101, gn σ a, .inr (.inl (gJ σ a))) := by
  unfold ent; rw [hk, if_neg (by omega), if_pos rfl]
/-- iaload -/
theorem h_iald (B : Cx p s m args c cc nL own D cA tys A) (hH : Hd D cA A s σ H locs) {a : Nat} (ha : a ∈ gD σ) (hk : gk σ a = 100) (t0 : Nat) (ht : tys[t0]? = some (cA 100, .int)) {x : Int} (h0 : 0 ≤ x) (h1 : x < gn σ a) (hN : gn σ a < 2 ^ 31) (hd : decode cc pc = .ok (.iaload, 1)) (h : W p l e R s m args below meth c H locs cells slots Q (F0 m (pc + 1) ls (.int (i32 (gI σ a x.toNat)) :: rest))) : W p l e R s m args below meth c H locs cells slots Q (F0 m pc ls (.int (i32 x) :: .ref a :: rest)) := by
  obtain ⟨q0, hq⟩ := wd_get (cA := cA) ha
  rw [ent_int (by omega) (by omega) (by omega) hk] at hq
  refine va_iald B.1 B.2.1 B.2.2.2.2.1 hH.1 q0 t0 hq ht (i32_in h0 h1 hN) hd ?_
  rw [i32_clamp h0 (by omega)]
  exact h
/-- iastore -/
theorem h_iast (B : Cx p s m args c cc nL own D cA tys A) (hH : Hd D cA A s σ H locs) {a : Nat} (ha : a ∈ gD σ) (hk : gk σ a = 100) (t0 : Nat) (ht : tys[t0]? = some (cA 100, .int)) {x y : Int} (h0 : 0 ≤ x) (h1 : x < gn σ a) (hN : gn σ a < 2 ^ 31) (hd : decode cc pc = .ok (.iastore, 1)) (h : ∀ (H1 : Heap) (locs1 : List Loc), Hd D cA A s (pI σ a x.toNat y) H1 locs1 → W p l e R s m args below meth c H1 locs1 cells slots Q (F0 m (pc + 1) ls rest)) : W p l e R s m args below meth c H locs cells slots Q (F0 m pc ls (.int (i32 y) :: .int (i32 x) :: .ref a :: rest)) := by
  obtain ⟨q0, hq⟩ := wd_get (cA := cA) ha
  have hs := wd_set (σ' := pI σ a x.toNat y) (e' := .inl (cA 100, gn σ a, .inl (upd (fun i => i32 (gI σ a i)) x.toNat (i32 y)))) hH.2.1 ha hq rfl (by
    rw [ent_int (σ := pI σ a x.toNat y) (by omega) (by omega) (by omega) hk]
    congr 4
    funext i
    by_cases hi : i = x.toNat <;> simp [upd, up2, hi, gI_pI, gJ_pI, gP_pI, gI_pJ, gJ_pJ, gP_pJ, gI_pP, gJ_pP, gP_pP]) (fun b hb => ent_offI hb)
  rw [ent_int (by omega) (by omega) (by omega) hk] at hq
  refine va_iast B.1 B.2.1 B.2.2.2.2.1 hH.1 hH.2.1 hH.2.2 q0 t0 hq ht (i32_in h0 h1 hN) hd (fun H1 locs1 hP hD hS => ?_)
  rw [i32_clamp h0 (by omega)] at hP hD
  rw [hs] at hP hD
  exact h H1 locs1 ⟨hP, hD, hS⟩
/-- laload -/
theorem h_lald (B : Cx p s m args c cc nL own D cA tys A) (hH : Hd D cA A s σ H locs) {a : Nat} (ha : a ∈ gD σ) (hk : gk σ a = 101) (t0 : Nat) (ht : tys[t0]? = some (cA 101, .long)) {x : Int} (h0 : 0 ≤ x) (h1 : x < gn σ a) (hN : gn σ a < 2 ^ 31) (hd : decode cc pc = .ok (.laload, 1)) (h : W p l e R s m args below meth c H locs cells slots Q (F0 m (pc + 1) ls (.long (gJ σ a x.toNat) :: rest))) : W p l e R s m args below meth c H locs cells slots Q (F0 m pc ls (.int (i32 x) :: .ref a :: rest)) := by
  obtain ⟨q0, hq⟩ := wd_get (cA := cA) ha
  rw [ent_long hk] at hq
  refine va_lald B.1 B.2.1 B.2.2.2.2.1 hH.1 q0 t0 hq ht (i32_in h0 h1 hN) hd ?_
  rw [i32_clamp h0 (by omega)]
  exact h
/-- lastore -/
theorem h_last (B : Cx p s m args c cc nL own D cA tys A) (hH : Hd D cA A s σ H locs) {a : Nat} (ha : a ∈ gD σ) (hk : gk σ a = 101) (t0 : Nat) (ht : tys[t0]? = some (cA 101, .long)) {x : Int} {y : Int64} (h0 : 0 ≤ x) (h1 : x < gn σ a) (hN : gn σ a < 2 ^ 31) (hd : decode cc pc = .ok (.lastore, 1)) (h : ∀ (H1 : Heap) (locs1 : List Loc), Hd D cA A s (pJ σ a x.toNat y) H1 locs1 → W p l e R s m args below meth c H1 locs1 cells slots Q (F0 m (pc + 1) ls rest)) : W p l e R s m args below meth c H locs cells slots Q (F0 m pc ls (.long y :: .int (i32 x) :: .ref a :: rest)) := by
  obtain ⟨q0, hq⟩ := wd_get (cA := cA) ha
  have hs := wd_set (σ' := pJ σ a x.toNat y) (e' := .inl (cA 101, gn σ a, .inr (.inl (vp_updL (gJ σ a) x.toNat y)))) hH.2.1 ha hq rfl (by
    rw [ent_long (σ := pJ σ a x.toNat y) hk]
    congr 5
    funext i
    by_cases hi : i = x.toNat <;> simp [vp_updL, up2, hi, gI_pI, gJ_pI, gP_pI, gI_pJ, gJ_pJ, gP_pJ, gI_pP, gJ_pP, gP_pP]) (fun b hb => ent_offJ hb)
  rw [ent_long hk] at hq
  refine va_last B.1 B.2.1 B.2.2.2.2.1 hH.1 hH.2.1 hH.2.2 q0 t0 hq ht (i32_in h0 h1 hN) hd (fun H1 locs1 hP hD hS => ?_)
  rw [i32_clamp h0 (by omega)] at hP hD
  rw [hs] at hP hD
  exact h H1 locs1 ⟨hP, hD, hS⟩
end HR
/-! contracts over a world -/
/-- what a method may take as given -/
def Pw (D : va_G) (cA : Nat → ClassId) (tys : List (ClassId × FieldType)) (A : Nat → Prop) (σ : Sg) (U : State) : Prop :=
  va_P D vwCl (wd cA σ) U.heap ∧ va_D A (wd cA σ) ∧ va_K D vwCl tys U ∧ (∀ q : Nat, U.heap.size ≤ q → A q) ∧ FX U ∧ ZX cA A U U.heap ∧ gc σ ≤ BC ∧ gs σ ≤ BS
/-- what it leaves -/
def Tw (D : va_G) (cA : Nat → ClassId) (A : Nat → Prop) (σ σ' : Sg) (st t : State) : Prop :=
  va_P D vwCl (wd cA σ') t.heap ∧ va_D A (wd cA σ') ∧ (gc σ ≤ gc σ' ∧ gs σ ≤ gs σ' ∧ gc σ' ≤ BC ∧ gs σ' ≤ BS) ∧ t.heap.size ≤ st.heap.size + (gc σ' - gc σ) ∧ tot t.heap ≤ tot st.heap + (gs σ' - gs σ) ∧ va_F A st t
def Qw (D : va_G) (cA : Nat → ClassId) (A : Nat → Prop) (σ : Sg) (Qn : Sg → Option Value → Prop) : Array Value → State → Outcome → State → Prop := fun _ st oc t => ∃ σ' v, oc = .returned v ∧ Qn σ' v ∧ Tw D cA A σ σ' st t
def Xw (D : va_G) (cA : Nat → ClassId) (A : Nat → Prop) (σ : Sg) (Qx : Sg → String → Prop) : String → State → State → Prop := fun E st t => ∃ σ', Qx σ' E ∧ Tw D cA A σ σ' st t
/-- method y, called in the world σ with these arguments, returns with Qn or throws with Qx -/
def Ok (l : Launch) (D : va_G) (cA : Nat → ClassId) (tys : List (ClassId × FieldType)) (A : Nat → Prop) (y : MethodName) (w : Cond) (fr lw : Nat) (as : List Value) (σ : Sg) (Qn : Sg → Option Value → Prop) (Qx : Sg → String → Prop) : Prop :=
  vx_Met l y (w :: WAL) { frames := fr, cells := BC - gc σ, slots := BS - gs σ, locals := lw } (va_Pc as (Pw D cA tys A σ)) (Qw D cA A σ Qn) (Xw D cA A σ Qx) (BC - gc σ) (BS - gs σ) A
/-- a thing of the class E is thrown over the frame at pc -/
def JX (p : Program) (l : Launch) (e : Env) (R : Room) (s : State) (m : MethodId) (args : Array Value) (below : List Frame) (meth : Method) (c : Code) (nL : Nat) (D : va_G) (cA : Nat → ClassId) (A : Nat → Prop) (n0 s0 : Nat) (Q : State → Prop) (σ : Sg) (E : String) (pc : Nat) (lo : List (Nat × Value)) (st : List Value) : Prop :=
  ∀ (H : Heap) (locs : List Loc) (ls : Array Slot) (ce : Cell) (q : Addr), Hd D cA A s σ H locs → lv_has ls nL lo → CB n0 s0 σ → H[q]? = some ce → ce.vm = .none → s.vm.findClass E = some ce.cls → vx_W p l e R s m args below meth c H locs (gc σ - n0) (gs σ - s0) Q (F0 m pc ls st) q
section CALLS
variable {p : Program} {l : Launch} {e : Env} {R : Room} {s : State} {m : MethodId} {args : Array Value} {below : List Frame} {meth : Method} {c : Code} {cc : ByteArray} {nL : Nat} {own : String} {D : va_G} {cA : Nat → ClassId} {tys : List (ClassId × FieldType)} {A : Nat → Prop} {n0 s0 : Nat} {Q : State → Prop} {σ : Sg} {pc : Nat} {lo : List (Nat × Value)} {st0 rest : List Value}
/-- behind a call -/
theorem j_after {Qn : Sg → Option Value → Prop} {Qx : Sg → String → Prop} {H : Heap} {locs : List Loc} {ls : Array Slot} {a : Array Value} 
    (hr : vx_Run p l e R s m args below meth c H locs (gc σ - n0) (gs σ - s0) (BC - gc σ) (BS - gs σ) (F0 m pc ls st0) rest (Qw D cA A σ Qn a) (Xw D cA A σ Qx) A)
    (hH : Hd D cA A s σ H locs) (hl : lv_has ls nL lo) (hc : CB n0 s0 σ)
    (hn : ∀ (σ' : Sg) (v : Option Value), Qn σ' v → JJ p l e R s m args below meth c nL D cA A n0 s0 Q σ' (pc + 3) lo (v.toList ++ rest))
    (hx : ∀ (σ' : Sg) (E : String), Qx σ' E → JX p l e R s m args below meth c nL D cA A n0 s0 Q σ' E pc lo rest) :
    W p l e R s m args below meth c H locs (gc σ - n0) (gs σ - s0) Q (F0 m pc ls st0) := by
  obtain ⟨h1, h2, h3, h4⟩ := hc
  refine w_sizes (fun z1 z2 => ?_)
  intro T hT X
  rcases hr T hT X with ⟨v, st₀, t, T', L, e0, X', hL, e1, e2, ⟨σ', v', ev, hq, tP, tD, ⟨g1, g2, g3, g4⟩, k1, k2, kF⟩, st⟩ | ⟨q, st₀, t, T', L, E, ce, e0, X', hL, e1, e2, ⟨σ', hq, tP, tD, ⟨g1, g2, g3, g4⟩, k1, k2, kF⟩, hce, hcv, hcl, st⟩
  · obtain rfl : v = v' := by simpa using ev
    obtain ⟨-, -, hS'⟩ := vx_keep (A1 := A) e0 e1 hH.2.2 (fun _ _ h => h) (fun _ h => h) hL kF
    rw [e0] at k1 k2
    have X2 := st_re X' (k := gc σ' - n0) (n := gs σ' - s0) (by rw [e1]; omega) (by rw [e1]; omega)
    obtain ⟨t2, a1, b1⟩ := hn σ' v hq T'.heap (locs ++ L) ls ⟨by rw [e1]; exact tP, tD, hS'⟩ hl ⟨by omega, by omega, g3, g4⟩ T' rfl X2
    exact ⟨t2, st _ a1, b1⟩
  · obtain ⟨-, -, hS'⟩ := vx_keep (A1 := A) e0 e1 hH.2.2 (fun _ _ h => h) (fun _ h => h) hL kF
    rw [e0] at k1 k2
    have X2 := st_re X' (k := gc σ' - n0) (n := gs σ' - s0) (by rw [e1]; omega) (by rw [e1]; omega)
    obtain ⟨t2, a1, b1⟩ := hx σ' E hq T'.heap (locs ++ L) ls ce q ⟨by rw [e1]; exact tP, tD, hS'⟩ hl ⟨by omega, by omega, g3, g4⟩ (by rw [e1]; exact hce) hcv hcl T' rfl X2
    exact ⟨t2, st.trans a1, b1⟩
end CALLS
/-! how a method begins and ends -/
section ENDS
variable {p : Program} {l : Launch} {e : Env} {R : Room} {s : State} {m : MethodId} {args : Array Value} {below : List Frame} {meth : Method} {c : Code} {cc : ByteArray} {nL : Nat} {own : String} {D : va_G} {cA : Nat → ClassId} {tys : List (ClassId × FieldType)} {A : Nat → Prop} {σ0 σ : Sg} {pc : Nat} {lo : List (Nat × Value)} {ls : Array Slot} {H : Heap} {locs : List Loc} {rest : List Value} {Qn : Sg → Option Value → Prop} {Qx : Sg → String → Prop}
/-- without the counts -/
def Q0 (D : va_G) (cA : Nat → ClassId) (A : Nat → Prop) (Qn : Sg → Option Value → Prop) (σ : Sg) : Array Value → State → Outcome → State → Prop := fun _ st oc t => ∃ v, oc = .returned v ∧ Qn σ v ∧ va_P D vwCl (wd cA σ) t.heap ∧ va_D A (wd cA σ) ∧ va_F A st t
def X0 (D : va_G) (cA : Nat → ClassId) (A : Nat → Prop) (Qx : Sg → String → Prop) (σ : Sg) : String → State → State → Prop := fun E st t => Qx σ E ∧ va_P D vwCl (wd cA σ) t.heap ∧ va_D A (wd cA σ) ∧ va_F A st t
theorem sb_tot {s t : State} {L : List Loc} {k n : Nat} (h0 : s.slotsTrue = true) (h : s.sameButNew ({ t with vm := s.vm } : State) L k n) : t.heap.size ≤ s.heap.size + k ∧ tot t.heap ≤ tot s.heap + n := by
  have h1 : ({ t with vm := s.vm } : State).slotsTrue = true := State.slotsTrue_of_sameButNew h0 h
  obtain ⟨-, -, q3, q4, q5, -⟩ := h
  have e1 : t.slotsUsed = tot t.heap := tot_of h1
  have e4 : t.slotsUsed = s.slotsUsed + ((t.heap.toList.drop s.heap.size).map (·.slots.size)).sum := q4
  rw [tot_of h0, e1] at e4
  exact ⟨q3, by rw [e4]; exact Nat.add_le_add_left q5 _⟩
/-- with the counts -/
theorem w_end {cells slots : Nat} {g : JFrame} (hc : gc σ0 ≤ gc σ ∧ gs σ0 ≤ gs σ ∧ gc σ ≤ BC ∧ gs σ ≤ BS) (k : W p l e R s m args below meth c H locs cells slots (vx_MQ below (Q0 D cA A Qn σ) (X0 D cA A Qx σ) args s (gc σ - gc σ0) (gs σ - gs σ0) A) g) : W p l e R s m args below meth c H locs cells slots (vx_MQ below (Qw D cA A σ0 Qn) (Xw D cA A σ0 Qx) args s (BC - gc σ0) (BS - gs σ0) A) g := by
  intro T hT X
  have h0 : s.slotsTrue = true := by
    have h := X.room
    simp only [State.hasRoom, Bool.and_eq_true] at h
    exact h.2
  obtain ⟨t, a1, o, b1, b2, b3⟩ := k T hT X
  refine ⟨t, a1, o, b1, b2, ?_⟩
  rcases b3 with ⟨⟨v, rfl, q1, q2, q3, q4⟩, L, ⟨f1, f2, f3⟩, hL⟩ | ⟨q, rfl, E, ce, L, ⟨q1, q2, q3, q4⟩, hce, hcv, hcl, hW, hsm, hL⟩
  · have hz := sb_tot h0 f3
    exact Or.inl ⟨⟨σ, v, rfl, q1, q2, q3, hc, hz.1, hz.2, q4⟩, L, ⟨f1, f2, f3.mono (by omega) (by omega)⟩, hL⟩
  · have hz := sb_tot h0 hsm
    exact Or.inr ⟨q, rfl, E, ce, L, ⟨σ, q1, q2, q3, hc, hz.1, hz.2, q4⟩, hce, hcv, hcl, hW, hsm.mono (by omega) (by omega), hL⟩
theorem e_vret (B : Cx p s m args c cc nL own D cA tys A) (hH : Hd D cA A s σ H locs) (hc : CB (gc σ0) (gs σ0) σ) (hr : meth.sig.returnType = none) (hlocks : meth.locks = false) (hq : Qn σ none) (hd : decode cc pc = .ok (.return_, 1)) : W p l e R s m args below meth c H locs (gc σ - gc σ0) (gs σ - gs σ0) (vx_MQ below (Qw D cA A σ0 Qn) (Xw D cA A σ0 Qx) args s (BC - gc σ0) (BS - gs σ0) A) (F0 m pc ls []) :=
  w_end hc (vx_ret (W.vret B.1 B.2.1 hr (fun t ht hW => ⟨none, rfl, hq, by rw [ht]; exact hH.1, hH.2.1, hH.2.2.F ht⟩) hH.2.2.2.2 hd hlocks))
theorem e_iret (B : Cx p s m args c cc nL own D cA tys A) (hH : Hd D cA A s σ H locs) (hc : CB (gc σ0) (gs σ0) σ) {ty : FieldType} {v : Int32} (hr : meth.sig.returnType = some ty) (hn : narrow ty (.int v) = .int v) (hlocks : meth.locks = false) (hq : Qn σ (some (.int v))) (hd : decode cc pc = .ok (.ireturn, 1)) : W p l e R s m args below meth c H locs (gc σ - gc σ0) (gs σ - gs σ0) (vx_MQ below (Qw D cA A σ0 Qn) (Xw D cA A σ0 Qx) args s (BC - gc σ0) (BS - gs σ0) A) (F0 m pc ls [.int v]) :=
  w_end hc (vx_ret (W.zret B.1 B.2.1 hr hn (fun t ht hW => ⟨_, rfl, hq, by rw [ht]; exact hH.1, hH.2.1, hH.2.2.F ht⟩) hH.2.2.2.2 hd hlocks))
theorem e_lret (B : Cx p s m args c cc nL own D cA tys A) (hH : Hd D cA A s σ H locs) (hc : CB (gc σ0) (gs σ0) σ) {v : Int64} (hr : meth.sig.returnType = some .long) (hlocks : meth.locks = false) (hq : Qn σ (some (.long v))) (hd : decode cc pc = .ok (.lreturn, 1)) : W p l e R s m args below meth c H locs (gc σ - gc σ0) (gs σ - gs σ0) (vx_MQ below (Qw D cA A σ0 Qn) (Xw D cA A σ0 Qx) args s (BC - gc σ0) (BS - gs σ0) A) (F0 m pc ls [.long v]) :=
  w_end hc (vx_ret (W.lret B.1 B.2.1 hr (fun t ht hW => ⟨_, rfl, hq, by rw [ht]; exact hH.1, hH.2.1, hH.2.2.F ht⟩) hH.2.2.2.2 hd hlocks))
theorem e_aret (B : Cx p s m args c cc nL own D cA tys A) (hH : Hd D cA A s σ H locs) (hc : CB (gc σ0) (gs σ0) σ) {v : Value} {rt : FieldType} (hr : meth.sig.returnType = some rt) (hrt : (∃ n, rt = .object n) ∨ ∃ t, rt = .array t) (hv : v = .null ∨ ∃ a, v = .ref a) (hlocks : meth.locks = false) (hq : Qn σ (some v)) (hd : decode cc pc = .ok (.areturn, 1)) : W p l e R s m args below meth c H locs (gc σ - gc σ0) (gs σ - gs σ0) (vx_MQ below (Qw D cA A σ0 Qn) (Xw D cA A σ0 Qx) args s (BC - gc σ0) (BS - gs σ0) A) (F0 m pc ls [v]) :=
  w_end hc (vx_ret (W.aret B.1 B.2.1 hr hrt hv (fun t ht hW => ⟨_, rfl, hq, by rw [ht]; exact hH.1, hH.2.1, hH.2.2.F ht⟩) hH.2.2.2.2 hd hlocks))
/-- thrown on to the caller -/
theorem e_out (hH : Hd D cA A s σ H locs) (hc : CB (gc σ0) (gs σ0) σ) {E : String} {ce : Cell} {q : Addr} (hout : ∀ x ∈ c.exceptionTable.toList, covers x pc = false) (hlocks : meth.locks = false) (hcell : H[q]? = some ce) (hv : ce.vm = .none) (hcl : s.vm.findClass E = some ce.cls) (hq : Qx σ E) : vx_W p l e R s m args below meth c H locs (gc σ - gc σ0) (gs σ - gs σ0) (vx_MQ below (Qw D cA A σ0 Qn) (Xw D cA A σ0 Qx) args s (BC - gc σ0) (BS - gs σ0) A) (F0 m pc ls rest) q := by
  refine w_sizesX (fun z1 z2 => ?_)
  obtain ⟨h1, h2, h3, h4⟩ := hc
  refine vx_out hout hlocks hcell hv hcl (fun t ht hW => ⟨σ, hq, by rw [ht]; exact hH.1, hH.2.1, ⟨h1, h2, h3, h4⟩, by rw [ht]; exact z1, by rw [ht]; exact z2, hH.2.2.F ht⟩) hH.2.2.2.2 (by omega) (by omega)
/-- a method that may throw, without a table, out of its body -/
theorem ok_of {y : MethodName} {ret : Option FieldType} {fr lw : Nat} {as : List Value} (hy : plainName y.cls = true) (hw : (lg_sl as).length ≤ nL)
    (body : ∀ (p : Program) (e : Env) (R : Room) (s : State) (m : MethodId) (args : Array Value) (below : List Frame) (meth : Method) (c : Code), R = { frames := fr, cells := BC - gc σ0, slots := BS - gs σ0, locals := lw } → Cx p s m args c cc nL y.cls D cA tys A → meth.sig.returnType = ret → meth.locks = false → (∀ x ∈ c.exceptionTable.toList, False) → (y.name = "<init>" → meth.name = "<init>") →
      JJ p l e R s m args below meth c nL D cA A (gc σ0) (gs σ0) (vx_MQ below (Qw D cA A σ0 Qn) (Xw D cA A σ0 Qx) args s (BC - gc σ0) (BS - gs σ0) A) σ0 0 (lv_args 0 as) []) :
    Ok l D cA tys A y (.code y cc nL ret) fr lw as σ0 Qn Qx := by
  refine vx_ofW (cc := cc) (maxL := nL) (ret := ret) hy rfl ?_
  intro p e s m args below meth c s₁ B hml hex hv
  obtain ⟨rfl, hP, hD, hK, hA, hF, hZ, hg1, hg2⟩ := hv
  have hts := atoms_spec (ws := Cond.code y cc nL ret :: WAL) B.pre
  have hl := lv_entry as (n := nL) hw
  rw [lg_entry_eq]
  have h := body p e _ s m as.toArray below meth c rfl ⟨B.exec, B.bytes, findClass_of_methodNamed B.named, fun w hw => hts w (List.mem_cons_of_mem _ hw), hK, hml, hA, hF, hZ⟩ B.returns B.notSynchronized hex (fun hn => (name_of_methodNamed B.named B.method).1.trans hn) s.heap [] _ ⟨hP, hD, va_S.rf⟩ hl ⟨Nat.le_refl _, Nat.le_refl _, hg1, hg2⟩
  rw [Nat.sub_self, Nat.sub_self] at h
  exact h
end ENDS
/-! calls -/
theorem met_of {l : Launch} {y : MethodName} {ws : List Cond} {rm : Room} {Pc : Array Value → State → Prop} {Qc : Array Value → State → Outcome → State → Prop} {XC : String → State → State → Prop} {mc ms : Nat} {free : Addr → Prop} (h : vx_Met l y ws rm Pc Qc XC mc ms free) (hx : ∀ E st t, ¬ XC E st t) : Met l y ws rm Pc Qc mc ms free := by
  intro p e h1 h2 h3 s m args below h4 h5 h6 h7
  obtain ⟨n, o, a1, a2, a3, a4⟩ := h p e h1 h2 h3 s m args below h4 h5 h6 h7
  refine ⟨n, o, a1, a2, a3, ?_⟩
  rcases a4 with h | ⟨q, -, E, ce, L, h, -⟩
  · exact h
  · exact (hx _ _ _ h).elim
section CL
variable {p : Program} {l : Launch} {e : Env} {R : Room} {s : State} {m : MethodId} {args : Array Value} {below : List Frame} {meth : Method} {c : Code} {cc : ByteArray} {nL : Nat} {own : String} {D : va_G} {cA : Nat → ClassId} {tys : List (ClassId × FieldType)} {A : Nat → Prop} {n0 s0 : Nat} {Q : State → Prop} {σ : Sg} {pc : Nat} {lo : List (Nat × Value)} {ls : Array Slot} {H : Heap} {locs : List Loc} {rest : List Value} {Qn : Sg → Option Value → Prop} {Qx : Sg → String → Prop} {y : MethodName} {bytes : ByteArray} {maxL fr lw index : Nat} {ret : Option FieldType}
theorem pw_blind (as : List Value) : FrameBlind (va_Pc as (Pw D cA tys A σ)) := by
  intro a U g mk h
  obtain ⟨q0, q1, q2, q3, q4, q5, q6, q7⟩ := h
  exact ⟨q0, q1, q2, va_K.moved (u := U) (U := U.calling g mk a) (Vm.Alike.refl U.vm) q3, q4, FX.same (u := U) (U := U.calling g mk a) rfl q5, ZX.same (u := U) (U := U.calling g mk a) rfl rfl q6, q7⟩
theorem pw_here (B : Cx p s m args c cc nL own D cA tys A) (hH : Hd D cA A s σ H locs) (hc : CB n0 s0 σ) (as : List Value) (U : State) (hU : U.heap = H) (hW : s.WarmedH U.vm) : va_Pc as (Pw D cA tys A σ) as.toArray U :=
  ⟨rfl, by rw [hU]; exact hH.1, hH.2.1, va_K.moved hW.alike B.2.2.2.2.1, fun q hq => B.2.2.2.2.2.2.1 q (Nat.le_trans hH.2.2.1 (by rw [hU] at hq; exact hq)), FX.warm hW B.2.2.2.2.2.2.2.1, ZX.to B.2.2.2.2.2.2.2.2 hH.2.2 hW hU, hc.2.2.1, hc.2.2.2⟩
/-- the room that a call leaves -/
def Rm (R : Room) (n0 s0 : Nat) : Prop := R.cells = BC - n0 ∧ R.slots = BS - s0
theorem wal_app {X Y : List Cond} (h1 : ∀ w ∈ X, w ∈ WAL) (h2 : ∀ w ∈ Y, w ∈ WAL) : ∀ w ∈ X ++ Y, w ∈ WAL := fun w h => by
  rcases List.mem_append.mp h with h | h
  · exact h1 w h
  · exact h2 w h
theorem wal_self {w : Cond} (h : w ∈ WAL) : ∀ x ∈ w :: WAL, x ∈ WAL := fun x hx => by
  rcases List.mem_cons.mp hx with h1 | h1
  · rw [h1]; exact h
  · exact h1
/-- invokevirtual of an object in the world -/
theorem c_V (B : Cx p s m args c cc nL own D cA tys A) (hH : Hd D cA A s σ H locs) (hl : lv_has ls nL lo) (hc : CB n0 s0 σ) (hR : Rm R n0 s0) {C : String} {T : u_T} {N ci b : Nat} {As : List Value} (hO : Ok l D cA tys A y (.code y bytes maxL ret) fr lw (.ref b :: As) σ Qn Qx) (hw : ∀ w ∈ [Cond.methodLink own index y, .instanceMethod y, .selects C y y, .initialized C, .code y bytes maxL ret], w ∈ WAL) (n : Nat) (hd0 : y.cls = C ∧ y.cls ≠ "java/lang/invoke/MethodHandle" ∧ y.cls ≠ "java/lang/invoke/VarHandle" ∧ (parseMethodDescriptor y.desc).map (fun d => d.parameters.length) = some n) (hrm : fr + 1 ≤ R.frames ∧ 8 + (maxL + 11) + lw ≤ R.locals)
    (ha : b ∈ gD σ) (hk : gk σ b = ci) (hci : ci < 100) (hcl : vwCl[ci]? = some (C, T, N)) (hn : As.length = n) {st0 : List Value} (hst : st0 = As.reverse ++ .ref b :: rest) (hW : (rest.map fun v => v.category).sum ≤ 8) (hd : decode cc pc = .ok (.invokevirtual index, 3))
    (k : ∀ (σ' : Sg) (v : Option Value), Qn σ' v → JJ p l e R s m args below meth c nL D cA A n0 s0 Q σ' (pc + 3) lo (v.toList ++ rest)) (kx : ∀ (σ' : Sg) (E : String), Qx σ' E → JX p l e R s m args below meth c nL D cA A n0 s0 Q σ' E pc lo rest) :
    W p l e R s m args below meth c H locs (gc σ - n0) (gs σ - s0) Q (F0 m pc ls st0) := by
  subst hst
  obtain ⟨q0, hq⟩ := wd_get (cA := cA) ha
  rw [ent_obj hk hcl hci] at hq
  refine j_after (a := (Value.ref b :: As).toArray) (vx_runV (As := As) (rest := rest) (b := b) (C := C) ⟨B.1, B.2.1, B.2.2.2.2.2.1, B.2.2.1, B.2.2.2.1⟩ hO (cwV n B.2.2.2.1 (wal_good (wal_app (fun w h => hw w (by simp only [List.mem_cons, List.not_mem_nil, or_false] at h ⊢; rcases h with h | h | h | h <;> simp [h])) (wal_self (hw _ (by simp))))) rfl rfl rfl hd0 hrm) ⟨pw_blind _, va_recv B.2.2.2.2.1 hH.1 (ci := ci) (q0 := q0) hcl hq, fun U hU hW => pw_here B hH hc _ U hU hW⟩ rfl hn hl.1 rfl (lv_room hW) hd ⟨?_, ?_⟩) hH hl hc k kx
  · have h1 := hc.1; have h2 := hc.2.2.1; rw [hR.1]; omega
  · have h1 := hc.2.1; have h2 := hc.2.2.2; rw [hR.2]; omega
/-- invokestatic -/
theorem c_S (B : Cx p s m args c cc nL own D cA tys A) (hH : Hd D cA A s σ H locs) (hl : lv_has ls nL lo) (hc : CB n0 s0 σ) (hR : Rm R n0 s0) {As : List Value} (hO : Ok l D cA tys A y (.code y bytes maxL ret) fr lw As σ Qn Qx) (hw : ∀ w ∈ [Cond.methodLink own index y, .static y, .initialized y.cls, .code y bytes maxL ret], w ∈ WAL) (n : Nat) (hd0 : y.cls ≠ "java/lang/invoke/MethodHandle" ∧ y.cls ≠ "java/lang/invoke/VarHandle" ∧ (parseMethodDescriptor y.desc).map (fun d => d.parameters.length) = some n) (hrm : fr + 1 ≤ R.frames ∧ 8 + (maxL + 11) + lw ≤ R.locals)
    (hn : As.length = n) {st0 : List Value} (hst : st0 = As.reverse ++ rest) (hW : (rest.map fun v => v.category).sum ≤ 8) (hd : decode cc pc = .ok (.invokestatic index, 3))
    (k : ∀ (σ' : Sg) (v : Option Value), Qn σ' v → JJ p l e R s m args below meth c nL D cA A n0 s0 Q σ' (pc + 3) lo (v.toList ++ rest)) (kx : ∀ (σ' : Sg) (E : String), Qx σ' E → JX p l e R s m args below meth c nL D cA A n0 s0 Q σ' E pc lo rest) :
    W p l e R s m args below meth c H locs (gc σ - n0) (gs σ - s0) Q (F0 m pc ls st0) := by
  subst hst
  refine j_after (a := As.toArray) (vx_runS (As := As) (rest := rest) ⟨B.1, B.2.1, B.2.2.2.2.2.1, B.2.2.1, B.2.2.2.1⟩ hO (va_cwS n B.2.2.2.1 (wal_good (wal_app (fun w h => hw w (by simp only [List.mem_cons, List.not_mem_nil, or_false] at h ⊢; rcases h with h | h | h <;> simp [h])) (wal_self (hw _ (by simp))))) rfl rfl rfl hd0 hrm) ⟨pw_blind _, fun U hU hW => pw_here B hH hc _ U hU hW⟩ rfl hn hl.1 rfl (lv_room hW) hd ⟨?_, ?_⟩) hH hl hc k kx
  · have h1 := hc.1; have h2 := hc.2.2.1; rw [hR.1]; omega
  · have h1 := hc.2.1; have h2 := hc.2.2.2; rw [hR.2]; omega
end CL
/-! more of the heap -/
abbrev new1 (σ : Sg) (q ci N : Nat) : Sg := ((gD σ ++ [q], gc σ + 1, gs σ + N), va_up (gk σ) q ci, gn σ, (fun b j => if b = q then 0 else gI σ b j), (fun b j => if b = q then 0 else gJ σ b j), (fun b j => if b = q then none else gP σ b j))
def dfl (T : u_T) (N : Nat) : List Value := (List.range N).map (fun k => match fty (T k).2.2.1 with | 0 => Value.int 0 | 1 => .long 0 | _ => .null)
section HR2
variable {p : Program} {l : Launch} {e : Env} {R : Room} {s : State} {m : MethodId} {args : Array Value} {below : List Frame} {meth : Method} {c : Code} {cc : ByteArray} {nL : Nat} {own : String} {D : va_G} {cA : Nat → ClassId} {tys : List (ClassId × FieldType)} {A : Nat → Prop} {cells slots : Nat} {Q : State → Prop} {σ : Sg} {pc : Nat} {ls : Array Slot} {H : Heap} {locs : List Loc} {rest : List Value}
theorem i32_self (v : Int32) : i32 v.toInt = v := by unfold i32; exact Int32.ofInt_toInt v
theorem h_bald (B : Cx p s m args c cc nL own D cA tys A) (hH : Hd D cA A s σ H locs) {a : Nat} (ha : a ∈ gD σ) (hk : gk σ a = 102) (t0 : Nat) (ht : tys[t0]? = some (cA 102, .byte)) {x : Int} (h0 : 0 ≤ x) (h1 : x < gn σ a) (hN : gn σ a < 2 ^ 31) (hd : decode cc pc = .ok (.baload, 1)) (h : W p l e R s m args below meth c H locs cells slots Q (F0 m (pc + 1) ls (.int (i32 (gI σ a x.toNat)) :: rest))) : W p l e R s m args below meth c H locs cells slots Q (F0 m pc ls (.int (i32 x) :: .ref a :: rest)) := by
  obtain ⟨q0, hq⟩ := wd_get (cA := cA) ha
  rw [ent_int (by omega) (by omega) (by omega) hk] at hq
  refine va_bald B.1 B.2.1 B.2.2.2.2.1 hH.1 q0 t0 hq ht (i32_in h0 h1 hN) hd ?_
  rw [i32_clamp h0 (by omega)]
  exact h
theorem h_zald (B : Cx p s m args c cc nL own D cA tys A) (hH : Hd D cA A s σ H locs) {a : Nat} (ha : a ∈ gD σ) (hk : gk σ a = 103) (t0 : Nat) (ht : tys[t0]? = some (cA 103, .boolean)) {x : Int} (h0 : 0 ≤ x) (h1 : x < gn σ a) (hN : gn σ a < 2 ^ 31) (hd : decode cc pc = .ok (.baload, 1)) (h : W p l e R s m args below meth c H locs cells slots Q (F0 m (pc + 1) ls (.int (i32 (gI σ a x.toNat)) :: rest))) : W p l e R s m args below meth c H locs cells slots Q (F0 m pc ls (.int (i32 x) :: .ref a :: rest)) := by
  obtain ⟨q0, hq⟩ := wd_get (cA := cA) ha
  rw [ent_int (by omega) (by omega) (by omega) hk] at hq
  refine va_zald B.1 B.2.1 B.2.2.2.2.1 hH.1 q0 t0 hq ht (i32_in h0 h1 hN) hd ?_
  rw [i32_clamp h0 (by omega)]
  exact h
theorem wd_upI {k9 a : Nat} (h0 : 100 ≤ k9) (h1 : k9 < 110) (h2 : k9 ≠ 101) (hH : Hd D cA A s σ H locs) (ha : a ∈ gD σ) (hk : gk σ a = k9) {q0 j : Nat} {v : Int32} (hq : (wd cA σ)[q0]? = some (a, ent cA σ a)) : (wd cA σ).set q0 (a, .inl (cA k9, gn σ a, .inl (upd (fun i => i32 (gI σ a i)) j v))) = wd cA (pI σ a j v.toInt) := by
  refine wd_set hH.2.1 ha hq rfl ?_ (fun b hb => ent_offI hb)
  rw [ent_int (σ := pI σ a j v.toInt) h0 h1 h2 hk]
  congr 4
  funext i
  by_cases hi : i = j <;> simp [upd, up2, hi, gI_pI, i32_self]
theorem h_bast (B : Cx p s m args c cc nL own D cA tys A) (hH : Hd D cA A s σ H locs) {a : Nat} (ha : a ∈ gD σ) (hk : gk σ a = 102) (t0 : Nat) (ht : tys[t0]? = some (cA 102, .byte)) {x : Int} {v : Int32} (h0 : 0 ≤ x) (h1 : x < gn σ a) (hN : gn σ a < 2 ^ 31) (hd : decode cc pc = .ok (.bastore, 1)) (h : ∀ (H1 : Heap) (locs1 : List Loc), Hd D cA A s (pI σ a x.toNat (vp_nar .byte v).toInt) H1 locs1 → W p l e R s m args below meth c H1 locs1 cells slots Q (F0 m (pc + 1) ls rest)) : W p l e R s m args below meth c H locs cells slots Q (F0 m pc ls (.int v :: .int (i32 x) :: .ref a :: rest)) := by
  obtain ⟨q0, hq⟩ := wd_get (cA := cA) ha
  have hs := wd_upI (k9 := 102) (j := x.toNat) (v := vp_nar .byte v) (by omega) (by omega) (by omega) hH ha hk hq
  rw [ent_int (by omega) (by omega) (by omega) hk] at hq
  refine va_bast B.1 B.2.1 B.2.2.2.2.1 hH.1 hH.2.1 hH.2.2 q0 t0 hq ht (i32_in h0 h1 hN) hd (fun H1 locs1 hP hD hS => ?_)
  rw [i32_clamp h0 (by omega), hs] at hP hD
  exact h H1 locs1 ⟨hP, hD, hS⟩
theorem h_zast (B : Cx p s m args c cc nL own D cA tys A) (hH : Hd D cA A s σ H locs) {a : Nat} (ha : a ∈ gD σ) (hk : gk σ a = 103) (t0 : Nat) (ht : tys[t0]? = some (cA 103, .boolean)) {x : Int} {v : Int32} (h0 : 0 ≤ x) (h1 : x < gn σ a) (hN : gn σ a < 2 ^ 31) (hd : decode cc pc = .ok (.bastore, 1)) (h : ∀ (H1 : Heap) (locs1 : List Loc), Hd D cA A s (pI σ a x.toNat (vp_nar .boolean v).toInt) H1 locs1 → W p l e R s m args below meth c H1 locs1 cells slots Q (F0 m (pc + 1) ls rest)) : W p l e R s m args below meth c H locs cells slots Q (F0 m pc ls (.int v :: .int (i32 x) :: .ref a :: rest)) := by
  obtain ⟨q0, hq⟩ := wd_get (cA := cA) ha
  have hs := wd_upI (k9 := 103) (j := x.toNat) (v := vp_nar .boolean v) (by omega) (by omega) (by omega) hH ha hk hq
  rw [ent_int (by omega) (by omega) (by omega) hk] at hq
  refine va_zast B.1 B.2.1 B.2.2.2.2.1 hH.1 hH.2.1 hH.2.2 q0 t0 hq ht (i32_in h0 h1 hN) hd (fun H1 locs1 hP hD hS => ?_)
  rw [i32_clamp h0 (by omega), hs] at hP hD
  exact h H1 locs1 ⟨hP, hD, hS⟩
theorem ent_ref {k9 a : Nat} (h0 : 110 ≤ k9) (hk : gk σ a = k9) : ent cA σ a = .inl (cA k9, gn σ a, .inr (.inr (.inr (.inr (gP σ a))))) := by
  unfold ent; rw [hk, if_neg (by omega), if_neg (by omega), if_neg (by omega)]
/-- aaload of an array of objects -/
theorem h_aald (B : Cx p s m args c cc nL own D cA tys A) (hH : Hd D cA A s σ H locs) {a k9 : Nat} {C : String} (ha : a ∈ gD σ) (h9 : 110 ≤ k9) (hk : gk σ a = k9) (t0 : Nat) (ht : tys[t0]? = some (cA k9, .object C)) {x : Int} (h0 : 0 ≤ x) (h1 : x < gn σ a) (hN : gn σ a < 2 ^ 31) (hd : decode cc pc = .ok (.aaload, 1)) (h : W p l e R s m args below meth c H locs cells slots Q (F0 m (pc + 1) ls (va_rf (gP σ a x.toNat) :: rest))) : W p l e R s m args below meth c H locs cells slots Q (F0 m pc ls (.int (i32 x) :: .ref a :: rest)) := by
  obtain ⟨q0, hq⟩ := wd_get (cA := cA) ha
  rw [ent_ref h9 hk] at hq
  refine va_aldq B.1 B.2.1 B.2.2.2.2.1 hH.1 q0 t0 hq ht (i32_in h0 h1 hN) hd ?_
  rw [i32_clamp h0 (by omega)]
  exact h
/-- aaload of an array of arrays -/
theorem h_aaldA (B : Cx p s m args c cc nL own D cA tys A) (hH : Hd D cA A s σ H locs) {a k9 : Nat} {ty : FieldType} (ha : a ∈ gD σ) (h9 : 110 ≤ k9) (hk : gk σ a = k9) (t0 : Nat) (ht : tys[t0]? = some (cA k9, .array ty)) {x : Int} (h0 : 0 ≤ x) (h1 : x < gn σ a) (hN : gn σ a < 2 ^ 31) (hd : decode cc pc = .ok (.aaload, 1)) (h : W p l e R s m args below meth c H locs cells slots Q (F0 m (pc + 1) ls (va_rf (gP σ a x.toNat) :: rest))) : W p l e R s m args below meth c H locs cells slots Q (F0 m pc ls (.int (i32 x) :: .ref a :: rest)) := by
  obtain ⟨q0, hq⟩ := wd_get (cA := cA) ha
  rw [ent_ref h9 hk] at hq
  have hin : vp_in (i32 x) (gn σ a) := i32_in h0 h1 hN
  have hlt : (i32 x).toNatClampNeg < gn σ a := Nat.not_le.mp fun q => hin (Or.inr q)
  refine W.aald (v := va_rf (gP σ a (i32 x).toNatClampNeg)) (ty := .array ty) B.1 B.2.1 (hH.1 q0 _ hq) ((B.2.2.2.2.1.2 t0 _ ht).1 (gn σ a) (fun j => va_rf (gP σ a j))) rfl (fun q => by cases q) (by show ¬ (i32 x < 0 ∨ (arrV _ _ _).slots.size ≤ _); rw [arrV_size]; exact hin) (by show (arrV _ _ _).slots[_]? = _; rw [arrV_read _ _ hlt]) rfl rfl hd ?_
  rw [i32_clamp h0 (by omega)]
  exact h
/-- aastore of an object in the world -/
theorem h_aast (B : Cx p s m args c cc nL own D cA tys A) (hH : Hd D cA A s σ H locs) {a k9 v ci : Nat} {r : vw_C} (ha : a ∈ gD σ) (h9 : 110 ≤ k9) (hk : gk σ a = k9) (t0 : Nat) (ht : tys[t0]? = some (cA k9, .object r.1)) (hv : v ∈ gD σ) (hkv : gk σ v = ci) (hci : ci < 100) (hcl : vwCl[ci]? = some r) {x : Int} (h0 : 0 ≤ x) (h1 : x < gn σ a) (hN : gn σ a < 2 ^ 31) (hd : decode cc pc = .ok (.aastore, 1)) (h : ∀ (H1 : Heap) (locs1 : List Loc), Hd D cA A s (pP σ a x.toNat (some v)) H1 locs1 → W p l e R s m args below meth c H1 locs1 cells slots Q (F0 m (pc + 1) ls rest)) : W p l e R s m args below meth c H locs cells slots Q (F0 m pc ls (.ref v :: .int (i32 x) :: .ref a :: rest)) := by
  obtain ⟨q0, hq⟩ := wd_get (cA := cA) ha
  obtain ⟨qk, hqk⟩ := wd_get (cA := cA) hv
  have hs := wd_set (σ' := pP σ a x.toNat (some v)) (e' := .inl (cA k9, gn σ a, .inr (.inr (.inr (.inr (va_up (gP σ a) x.toNat (some v))))))) hH.2.1 ha hq rfl (by
    rw [ent_ref (σ := pP σ a x.toNat (some v)) h9 hk]
    congr 7
    funext i
    by_cases hi : i = x.toNat <;> simp [va_up, up2, hi, gP_pP]) (fun b hb => ent_offP hb)
  rw [ent_ref h9 hk] at hq
  rw [ent_obj hkv hcl hci] at hqk
  refine va_astq B.1 B.2.1 B.2.2.2.2.1 hH.1 hH.2.1 hH.2.2 q0 t0 qk ci hq ht hqk hcl (i32_in h0 h1 hN) hd (fun H1 locs1 hP hD hS => ?_)
  rw [i32_clamp h0 (by omega), hs] at hP hD
  exact h H1 locs1 ⟨hP, hD, hS⟩
/-- arraylength -/
theorem h_alen (B : Cx p s m args c cc nL own D cA tys A) (hH : Hd D cA A s σ H locs) {a k9 : Nat} {ty : FieldType} (ha : a ∈ gD σ) (h9 : 100 ≤ k9) (hk : gk σ a = k9) (t0 : Nat) (ht : tys[t0]? = some (cA k9, ty)) (hd : decode cc pc = .ok (.arraylength, 1)) (h : W p l e R s m args below meth c H locs cells slots Q (F0 m (pc + 1) ls (.int (i32 (gn σ a)) :: rest))) : W p l e R s m args below meth c H locs cells slots Q (F0 m pc ls (.ref a :: rest)) := by
  obtain ⟨q0, hq⟩ := wd_get (cA := cA) ha
  have hx : ∃ b9, ent cA σ a = .inl (cA k9, gn σ a, b9) := by
    unfold ent
    rw [hk, if_neg (by omega)]
    by_cases h1 : k9 = 101
    · subst h1; exact ⟨_, rfl⟩
    · rw [if_neg h1]
      by_cases h2 : k9 < 110
      · rw [if_pos h2]; exact ⟨_, rfl⟩
      · rw [if_neg h2]; exact ⟨_, rfl⟩
  obtain ⟨b9, hb9⟩ := hx
  rw [hb9] at hq
  exact va_alen B.1 B.2.1 B.2.2.2.2.1 hH.1 q0 t0 hq ht (i32_nI (gn σ a)).symm hd h
/-- new -/
theorem h_new (B : Cx p s m args c cc nL own D cA tys A) (hH : Hd D cA A s σ H locs) {C : String} {T : u_T} {N ci index : Nat} (hcl : vwCl[ci]? = some (C, T, N)) (hci : ci < 100) (hin : ∀ w ∈ u_ws C T N, w ∈ WAL) (ty0 : Nat → FieldType) (hty : ∀ k, k < N → parseFieldDescriptor (T k).2.2.1 = some (ty0 k)) (hdef : ∀ k, k < N → defaultValue (ty0 k) = (match fty (T k).2.2.1 with | 0 => Value.int 0 | 1 => .long 0 | _ => .null)) (hw : ∀ w ∈ [Cond.classLink own index C, .instantiable C N, .initialized C], w ∈ WAL) (hz : cells + 1 ≤ R.cells ∧ slots + N ≤ R.slots) (hd : decode cc pc = .ok (.new index, 3))
    (h : ∀ (q : Nat) (H1 : Heap), q ∉ gD σ → Hd D cA A s (new1 σ q ci N) H1 locs → W p l e R s m args below meth c H1 locs (cells + 1) (slots + N) Q (F0 m (pc + 3) ls (.ref q :: rest))) : W p l e R s m args below meth c H locs cells slots Q (F0 m pc ls rest) := by
  refine va_new (fs := dfl T N) B.1 B.2.1 B.2.2.2.1 hin ty0 hty B.2.2.1 (B.2.2.2.1 _ (hw _ (by simp))) (B.2.2.2.1 _ (hw _ (by simp))) (B.2.2.2.1 _ (hw _ (by simp))) B.2.2.2.2.1 hH.1 hH.2.1 hH.2.2 B.2.2.2.2.2.2.1 hcl (fun j hj => ?_) hz.1 hz.2 hd (fun q H1 hP hD hS => ?_)
  · rw [hdef j hj]
    unfold vp_V dfl
    rw [List.getD_eq_getElem?_getD, List.getElem?_map, List.getElem?_range hj]
    rfl
  · have hq : q ∉ gD σ := by
      intro hm
      obtain ⟨k, hk⟩ := wd_get (cA := cA) hm
      have e1 : (wd cA σ ++ [(q, (.inr (ci, dfl T N) : va_E))])[k]? = some (q, ent cA σ q) := by
        rw [List.getElem?_append_left (List.getElem?_eq_some_iff.mp hk).1]; exact hk
      have e2 : (wd cA σ ++ [(q, (.inr (ci, dfl T N) : va_E))])[(wd cA σ).length]? = some (q, (.inr (ci, dfl T N) : va_E)) := by
        rw [List.getElem?_append_right (Nat.le_refl _), Nat.sub_self]; rfl
      have := hD.1 _ _ _ _ e1 e2 rfl
      have h1 := (List.getElem?_eq_some_iff.mp hk).1
      omega
    have hs : wd cA σ ++ [(q, (.inr (ci, dfl T N) : va_E))] = wd cA (new1 σ q ci N) := by
      refine Eq.trans (va_pl_push hq) ?_
      show va_pl (gD σ ++ [q]) _ = va_pl (gD σ ++ [q]) (ent cA (new1 σ q ci N))
      refine va_pl_congr (fun b => ?_)
      by_cases hb : b = q
      · subst hb
        rw [va_up_self, ent_obj (σ := new1 σ b ci N) (a := b) (ci := ci) (by show va_up (gk σ) b ci b = ci; rw [va_up_self]) hcl hci]
        congr 2
        unfold flds dfl
        refine List.map_congr_left (fun j _ => ?_)
        have a1 : gI (new1 σ b ci N) b j = 0 := by show (if b = b then (0 : Int) else gI σ b j) = 0; simp
        have a2 : gJ (new1 σ b ci N) b j = 0 := by show (if b = b then (0 : Int64) else gJ σ b j) = 0; simp
        have a3 : gP (new1 σ b ci N) b j = none := by show (if b = b then none else gP σ b j) = none; simp
        unfold fval
        rw [a1, a2, a3]
        rfl
      · rw [va_up_ne _ _ hb]
        have k1 : gk (new1 σ q ci N) b = gk σ b := va_up_ne _ _ hb
        have k3 : gI (new1 σ q ci N) b = gI σ b := by funext j; show (if b = q then (0 : Int) else gI σ b j) = _; rw [if_neg hb]
        have k4 : gJ (new1 σ q ci N) b = gJ σ b := by funext j; show (if b = q then (0 : Int64) else gJ σ b j) = _; rw [if_neg hb]
        have k5 : gP (new1 σ q ci N) b = gP σ b := by funext j; show (if b = q then none else gP σ b j) = _; rw [if_neg hb]
        have k6 : ∀ r, flds (new1 σ q ci N) b r = flds σ b r := fun r => List.map_congr_left (fun j _ => by unfold fval; rw [k3, k4, k5])
        unfold ent
        rw [k1, k3, k4, k5, k6]
    rw [hs] at hP hD
    exact h q H1 hq ⟨hP, hD, hS⟩
end HR2
/-! throwing and catching -/
abbrev bump (σ : Sg) (a b : Nat) : Sg := ((gD σ, gc σ + a, gs σ + b), σ.2)
theorem xk_keep {A : Nat → Prop} {D : va_G} {cl : List vw_C} {ws : va_W} {s t : State} {H : Heap} {locs : List Loc} (hS : va_S A s.heap H locs) (hP : va_P D cl ws H) (h1 : H.size ≤ t.heap.size) (h2 : ∀ q : Nat, q < H.size → t.heap[q]? = H[q]?) : va_P D cl ws t.heap ∧ va_F A s t :=
  ⟨hP.kept (fun k q hq => h2 q.1 ((hP k q hq).lt)), Nat.le_trans hS.1 h1, fun q h3 h4 => (h2 q (Nat.lt_of_lt_of_le h3 hS.1)).trans (hS.2.1 q h3 h4)⟩
/-- 'throw' of a thing that is there -/
theorem xk_athrow {p : Program} {l : Launch} {e : Env} {R : Room} {s : State} {m : MethodId} {args : Array Value} {below : List Frame} {meth : Method} {c : Code} {H : Heap} {locs : List Loc} {cells slots : Nat} {Q : State → Prop} {cc : ByteArray} {pc : Nat} {ls : Array Slot} {rest : List Value} (hexec : p.tables.exec = Jvm.exec) (hb : c.code = cc) {q : Addr} (hdg : decode cc pc = .ok (.athrow, 1)) (kk : vx_W p l e R s m args below meth c H locs cells slots Q (F0 m pc ls rest) q) : W p l e R s m args below meth c H locs cells slots Q (F0 m pc ls (.ref q :: rest)) := by
  intro T hT X
  obtain ⟨t, a1, b1⟩ := kk T hT X
  refine ⟨t, ?_, b1⟩
  jvm_step X.here [X.here.top, hexec, hb, hdg, Op.athrow.wp_sem]
  exact a1
section TH
variable {p : Program} {l : Launch} {e : Env} {R : Room} {s : State} {m : MethodId} {args : Array Value} {below : List Frame} {meth : Method} {c : Code} {cc : ByteArray} {nL : Nat} {own : String} {D : va_G} {cA : Nat → ClassId} {tys : List (ClassId × FieldType)} {A : Nat → Prop} {σ0 σ : Sg} {n0 s0 : Nat} {Q : State → Prop} {pc : Nat} {lo : List (Nat × Value)} {ls : Array Slot} {H : Heap} {locs : List Loc} {rest : List Value} {Qn : Sg → Option Value → Prop} {Qx : Sg → String → Prop}
abbrev exN : List String := ["java/lang/RuntimeException", "java/lang/Exception"]
/-- new E, dup, <init>, athrow, in a method without a table -/
theorem e_throw0 (B : Cx p s m args c cc nL own D cA tys A) (hl0 : l.stackTraces = false) (hH : Hd D cA A s σ H locs) (hls : lv_has ls nL lo) (hc : CB (gc σ0) (gs σ0) (bump σ 1 6)) (hc0 : gc σ0 ≤ gc σ ∧ gs σ0 ≤ gs σ) (hR : R.cells = BC - gc σ0 ∧ R.slots = BS - gs σ0) {cls : String} {ik ic : Nat} (hcls : cls ∈ ["java/lang/IllegalStateException", "java/lang/IllegalArgumentException", "java/lang/IndexOutOfBoundsException", "java/lang/UnsupportedOperationException"]) (hk : Cond.classLink own ik cls ∈ WAL) (hini : Cond.initialized cls ∈ WAL) (hw : ∀ w ∈ (vx_at0 own ic cls exN).filter goodWord, w ∈ WAL) (hB : ∀ w ∈ vx_at0 own ic cls exN, goodWord w = true ∨ w ∈ [Cond.declares (Bundle.init0 "java/lang/RuntimeException"), .declares (Bundle.init0 "java/lang/Exception"), .declares (Bundle.init0 Bundle.tN), .castable cls cls]) (hgood : ∀ w ∈ Cond.classLink own ik cls :: Cond.initialized cls :: vx_at0 own ic cls exN, vx_ot w = true) (hex : ∀ x ∈ c.exceptionTable.toList, False) (hlocks : meth.locks = false) (hfr : 5 < R.frames) (hlw : (rest.map fun v => v.category).sum + 81 ≤ R.locals) (d0 : decode cc pc = .ok (.new ik, 3)) (d3 : decode cc (pc + 3) = .ok (.dup, 1)) (d4 : decode cc (pc + 4) = .ok (.invokespecial ic, 3)) (d7 : decode cc (pc + 7) = .ok (.athrow, 1)) (hq : Qx (bump σ 1 6) cls) :
    W p l e R s m args below meth c H locs (gc σ - gc σ0) (gs σ - gs σ0) (vx_MQ below (Qw D cA A σ0 Qn) (Xw D cA A σ0 Qx) args s (BC - gc σ0) (BS - gs σ0) A) (F0 m pc ls rest) := by
  obtain ⟨h1, h2, h3, h4⟩ := hc
  have g1 : gc (bump σ 1 6) = gc σ + 1 := rfl
  have g2 : gs (bump σ 1 6) = gs σ + 6 := rfl
  have hat : ∀ w ∈ vx_at0 own ic cls exN, w.before args s = true := by
    intro w hw9
    rcases hB w hw9 with hg | hg
    · exact B.2.2.2.1 w (hw w (List.mem_filter.mpr ⟨hw9, hg⟩))
    · have hd9 := B.2.2.2.2.2.2.2.1.2.2.2.1
      have hc9 := B.2.2.2.2.2.2.2.1.2.2.1
      simp only [List.mem_cons, List.not_mem_nil, or_false] at hg
      rcases hg with rfl | rfl | rfl | rfl
      · exact va_Nw.use rfl (hd9 _ (by simp [dcL]))
      · exact va_Nw.use rfl (hd9 _ (by simp [dcL]))
      · exact va_Nw.use rfl (hd9 _ (by simp [dcL]))
      · refine va_Nw.use rfl (hc9 (cls, cls) ?_)
        simp only [List.mem_cons, List.not_mem_nil, or_false] at hcls
        rcases hcls with rfl | rfl | rfl | rfl <;> simp [csL]
  have hfit : Bundle.fit cls = true := by
    simp only [List.mem_cons, List.not_mem_nil, or_false] at hcls
    rcases hcls with rfl | rfl | rfl | rfl <;> decide +kernel
  refine w_end (σ := bump σ 1 6) ⟨h1, h2, h3, h4⟩ ?_
  exact vx_throw0 (A := A) (names := exN) B.1 B.2.1 hl0 B.2.2.1 hfit (by decide +kernel) (B.2.2.2.1 _ hk) (B.2.2.2.1 _ hini) hat hgood B.2.2.2.2.2.2.2.2.1 B.2.2.2.2.2.2.2.2.2.1 hH.2.2 (hls.1.trans B.2.2.2.2.2.1.symm) d0 d3 d4 d7 (fun x hx => (hex x hx).elim) (by show 2 + 3 < R.frames; omega) (by show _ + (13 * (2 + 1) + 42) ≤ _; omega) (by rw [hR.1]; omega) (by rw [hR.2]; omega) hlocks
    (fun t9 ha9 hz9 hk9 => ⟨hq, (xk_keep hH.2.2 hH.1 hz9 hk9).1, hH.2.1, (xk_keep hH.2.2 hH.1 hz9 hk9).2⟩) hH.2.2.2.2 (by omega) (by omega)
/-- caught by the first row of this method's table -/
theorem h_catch (B : Cx p s m args c cc nL own D cA tys A) {E : String} {x : ExceptionTableEntry} {suf : List ExceptionTableEntry} (htab : c.exceptionTable.toList = x :: suf) (hcov : covers x pc = true) (hz : x.catchType ≠ 0) (hlink : Cond.classLink own x.catchType E ∈ WAL) (hcs : (E, E) ∈ csL) (k : ∀ q : Nat, JJ p l e R s m args below meth c nL D cA A n0 s0 Q σ x.handlerPc lo [.ref q]) : JX p l e R s m args below meth c nL D cA A n0 s0 Q σ E pc lo rest := by
  intro H locs ls ce q hH hl hc hce hcv hcl
  exact vx_catch (own := own) (name := E) (E := E) B.2.2.1 [] x suf htab (fun z hz => nomatch hz) hcov hz (B.2.2.2.1 _ hlink) (va_Nw.use rfl (B.2.2.2.2.2.2.2.1.2.2.1 (E, E) hcs)) hce hcv hcl (k q H locs ls hH hl hc)
/-- an object of the world is thrown -/
theorem h_athrow (B : Cx p s m args c cc nL own D cA tys A) (hH : Hd D cA A s σ H locs) (hl : lv_has ls nL lo) (hc : CB n0 s0 σ) {a ci : Nat} {r : vw_C} (ha : a ∈ gD σ) (hk : gk σ a = ci) (hci : ci < 100) (hcl : vwCl[ci]? = some r) (hd : decode cc pc = .ok (.athrow, 1)) (k : JX p l e R s m args below meth c nL D cA A n0 s0 Q σ r.1 pc lo rest) : W p l e R s m args below meth c H locs (gc σ - n0) (gs σ - s0) Q (F0 m pc ls (.ref a :: rest)) := by
  obtain ⟨q0, hq⟩ := wd_get (cA := cA) ha
  rw [ent_obj hk hcl hci] at hq
  obtain ⟨q', h1, cell, g1, g2, g3, -⟩ := hH.1 q0 _ hq
  exact xk_athrow B.1 B.2.1 hd (k H locs ls cell a hH hl hc g1 g3 (by rw [g2]; exact (B.2.2.2.2.1.1 ci r hcl).2.1))
end TH

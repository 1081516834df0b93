/-! ===== the law's cases: what stands at their start, and behind them ===== -/
abbrev LL (s : State) : Nat → Prop := fun q => s.heap.size ≤ q
/-- what holds at the loop's place for the objects and their values -/
def LV (D : va_G) (cy : cyT) (cL : ClassId) (s : State) (b x h qo : Nat) (T : Nat → TR) (sa bu sc jo z sv bf rs : Nat) (x4 : Int32) (o : OS) (SX SM : PS) (f : Nat → Int64) (H : Heap) (locs : List Loc) (ls : Array Slot) : Prop := OKs o ∧ XX SX x T sa bu sc jo o ∧ MM SM h z sv bf rs o ∧ LH D cy cL (LL s) s.heap SX SM qo f H locs ∧ lv_has ls 9 [(0, .ref b), (1, .ref x), (2, .ref h), (3, .ref qo), (4, .int x4)]
/-- the walk from the loop's end on -/
def LN (p : Program) (l : Launch) (e : Env) (s : State) (m : MethodId) (below : List Frame) (meth : Method) (c : Code) (D : va_G) (cy : cyT) (cL : ClassId) (b x h qo : Nat) (T : Nat → TR) (sa bu sc jo z sv bf rs : Nat) (x4 : Int32) (cells slots pc : Nat) : Prop := ∀ (o : OS) (SX SM : PS) (f : Nat → Int64) (H : Heap) (locs : List Loc) (ls : Array Slot), LV D cy cL s b x h qo T sa bu sc jo z sv bf rs x4 o SX SM f H locs ls → W p l e room_1 s m #[Value.ref b] below meth c H locs cells slots (lw_Z below #[Value.ref b] s) (F0 m pc ls [])
theorem r_remove1 {o : OS} {c : Int32} : (o_remove o c).1 ≤ 1 := by unfold o_remove; split <;> first | exact Nat.zero_le _ | exact Nat.le_refl _
theorem r_thin1 {o : OS} : (o_thin o).1 ≤ 1 := by unfold o_thin; split <;> first | exact Nat.zero_le _ | exact Nat.le_refl _
theorem r_agree1 {o : OS} : (o_agree o).1 ≤ 1 := by unfold o_agree; split <;> first | exact Nat.zero_le _ | exact Nat.le_refl _
theorem r_read1 {o : OS} : (o_read o).1 ≤ 1 := by unfold o_read; split <;> first | exact Nat.zero_le _ | exact Nat.le_refl _
theorem r_undo1 {o : OS} : (o_undo o).1 ≤ 1 := by unfold o_undo; split <;> first | exact Nat.zero_le _ | exact Nat.le_refl _
theorem r_agrees1 {o : OS} {a b : Int32} : (q_agrees o a b).1 ≤ 1 := by unfold q_agrees; split <;> first | exact Nat.zero_le _ | exact Nat.le_refl _
theorem r_joined1 {o : OS} {a : Int32} : (q_joined o a).1 ≤ 1 := by unfold q_joined; split <;> first | exact Nat.zero_le _ | exact Nat.le_refl _
theorem r_count1 {o : OS} {a : Int32} : (q_count o a).1 ≤ 1 := by unfold q_count; split <;> first | exact Nat.zero_le _ | exact Nat.le_refl _
theorem r_prime1 {o : OS} {a b : Int32} : (q_prime o a b).1 ≤ 1 := by unfold q_prime; split <;> first | exact Nat.zero_le _ | exact Nat.le_refl _
theorem r_answer1 {o : OS} {a : Int64} {b : Int32} : (q_answer o a b).1 ≤ 1 := by unfold q_answer; split <;> first | exact Nat.zero_le _ | exact Nat.le_refl _
theorem r_nearest1 {o : OS} {a : Int64} : (q_nearest o a).1 ≤ 1 := by unfold q_nearest; split <;> first | exact Nat.zero_le _ | exact Nat.le_refl _
theorem r_between1 {o : OS} {a b : Int64} : (q_between o a b).1 ≤ 1 := by unfold q_between; split <;> first | exact Nat.zero_le _ | exact Nat.le_refl _
theorem r_misses1 {o : OS} {a : Int64} : (q_misses o a).1 ≤ 1 := by unfold q_misses; split <;> first | exact Nat.zero_le _ | exact Nat.le_refl _
theorem r_ifAdded1 {o : OS} {a b c d : Int32} : (q_ifAdded o a b c d).1 ≤ 1 := by unfold q_ifAdded; split <;> first | exact Nat.zero_le _ | exact Nat.le_refl _
theorem r_condition_ok {o : OS} (ho : OKs o) (a b : Int32) : OKs (q_condition o a b).2.2 := by unfold q_condition; (repeat' split) <;> exact ho
theorem r_agrees_ok {o : OS} (ho : OKs o) (a b : Int32) : OKs (q_agrees o a b).2.2 := by unfold q_agrees; (repeat' split) <;> exact ho
theorem r_joined_ok {o : OS} (ho : OKs o) (a : Int32) : OKs (q_joined o a).2.2 := by unfold q_joined; (repeat' split) <;> exact ho
theorem r_count_ok {o : OS} (ho : OKs o) (a : Int32) : OKs (q_count o a).2.2 := by unfold q_count; (repeat' split) <;> exact ho
theorem r_prime_ok {o : OS} (ho : OKs o) (a b : Int32) : OKs (q_prime o a b).2.2 := by unfold q_prime; (repeat' split) <;> exact ho
theorem r_answer_ok {o : OS} (ho : OKs o) (a : Int64) (b : Int32) : OKs (q_answer o a b).2.2 := by unfold q_answer; (repeat' split) <;> exact ho
theorem r_nearest_ok {o : OS} (ho : OKs o) (a : Int64) : OKs (q_nearest o a).2.2 := by unfold q_nearest; (repeat' split) <;> exact ho
theorem r_between_ok {o : OS} (ho : OKs o) (a b : Int64) : OKs (q_between o a b).2.2 := by unfold q_between; (repeat' split) <;> exact ho
theorem r_misses_ok {o : OS} (ho : OKs o) (a : Int64) : OKs (q_misses o a).2.2 := by unfold q_misses; (repeat' split) <;> exact ho
theorem r_ifAdded_ok {o : OS} (ho : OKs o) (a b c d : Int32) : OKs (q_ifAdded o a b c d).2.2 := by unfold q_ifAdded; (repeat' split) <;> exact ho
theorem r_without_ok {o : OS} (ho : OKs o) (a b : Int32) : OKs (q_without o a b).2.2 := by unfold q_without; (repeat' split) <;> exact ho
theorem xn_le {β : Type} {k1 k2 x : Nat} {T : Nat → TR} {sa bu sc jo : Nat} {e : Option ((β ⊕ Nat) × PS × Nat)} {w : Nat × β × OS} (h : XN k1 k2 x T sa bu sc jo e w) : w.1 < 2 ^ 31 := by
  obtain ⟨_, _, _, _, _, _, _, h4, _⟩ := h
  omega
theorem xg_le {β : Type} {k1 k2 x : Nat} {T : Nat → TR} {sa bu sc jo : Nat} {S : PS} {e : Option ((β ⊕ Nat) × PS)} {w : Nat × β × OS} (h : XG k1 k2 x T sa bu sc jo S e w) : w.1 < 2 ^ 31 := by
  obtain ⟨_, _, _, _, _, _, h4, _⟩ := h
  omega

/-! ===== the law's own walk: its base ===== -/
/-- the row of one long that the law keeps -/
abbrev oe (cL : ClassId) (f : Nat → Int64) : va_E := .inl (cL, 1, .inr (.inl f))
abbrev AQ (cy : cyT) (S : PS) (n qo : Nat) : Nat → Prop := fun q => q = qo ∨ AA cy S n q
abbrev z0 : Nat := (0 : Int32).toNatClampNeg
def NCW (U : State) : Prop := va_Nc "java/lang/IllegalStateException" "java/lang/IllegalArgumentException" U ∧ va_Nc "java/lang/IllegalStateException" "java/lang/IndexOutOfBoundsException" U ∧ va_Nc "java/lang/IllegalArgumentException" "java/lang/IndexOutOfBoundsException" U
theorem NCW.moved {u U : State} (hvm : u.vm.Alike U.vm) (h : NCW u) : NCW U := ⟨h.1.moved hvm, h.2.1.moved hvm, h.2.2.moved hvm⟩
/-- a wrapper's start and its world behind it -/
def PcL (D : va_G) (cy : cyT) (cL : ClassId) (S : PS) (n qo : Nat) (f : Nat → Int64) (av : List Value) : Array Value → State → Prop := va_Pc av (fun U => U.heap.size = n ∧ va_P D vwCl (wl cy S) U.heap ∧ va_D (fun _ => True) (wl cy S) ∧ va_P D vwCl [(qo, oe cL f)] U.heap ∧ qo ∉ PL S ∧ KN D cy U ∧ va_K D vwCl [(cL, .long)] U ∧ NCW U ∧ HZ (AQ cy S n qo) U U.heap)
theorem PcL.bl {D : va_G} {cy : cyT} {cL : ClassId} {S : PS} {n qo : Nat} {f : Nat → Int64} {av : List Value} : FrameBlind (PcL D cy cL S n qo f av) := fun _ _ _ _ q => ⟨q.1, q.2.1, q.2.2.1, q.2.2.2.1, q.2.2.2.2.1, q.2.2.2.2.2.1, q.2.2.2.2.2.2.1.same rfl, q.2.2.2.2.2.2.2.1.moved (Vm.Alike.refl _), q.2.2.2.2.2.2.2.2.1.moved (Vm.Alike.refl _), q.2.2.2.2.2.2.2.2.2.moved (Vm.Alike.refl _)⟩
def BL (D : va_G) (cy : cyT) (cL : ClassId) (S : PS) (n qo : Nat) (u : PS × (Nat → Int64)) (t : State) : Prop := va_P D vwCl (wl cy u.1) t.heap ∧ va_D (AA cy S n) (wl cy u.1) ∧ va_P D vwCl [(qo, oe cL u.2)] t.heap
theorem wl_mem {cy : cyT} {S : PS} {k : Nat} {x : Nat × va_E} (h : (wl cy S)[k]? = some x) : x.1 ∈ PL S := by
  unfold wl va_pl at h
  rw [List.getElem?_map] at h
  cases hk : (PL S)[k]? with
  | none => rw [hk] at h; cases h
  | some a => rw [hk] at h; cases h; exact List.mem_of_getElem? hk
theorem AA_of {cy : cyT} {S : PS} {n q : Nat} (h : AA cy S n q) : q ∈ PL S ∨ n ≤ q := by
  rcases h with ⟨k, e, hk⟩ | h
  · exact Or.inl (wl_mem hk)
  · exact Or.inr h
theorem AA_in {cy : cyT} {S : PS} {n q : Nat} (h : q ∈ PL S) : AA cy S n q := by
  obtain ⟨k, hk⟩ := wl_at (cy := cy) h
  exact Or.inl ⟨k, _, hk⟩
theorem wl_lt {D : va_G} {cy : cyT} {S : PS} {H : Heap} (h : va_P D vwCl (wl cy S) H) {a : Nat} (ha : a ∈ PL S) : a < H.size := by
  obtain ⟨k, hk⟩ := wl_at (cy := cy) ha
  exact (h k _ hk).lt
theorem wl_frn {D : va_G} {cy : cyT} {S : PS} {H : Heap} {n : Nat} (h : va_P D vwCl (wl cy S) H) (hn : H.size = n) : frn S n := fun q hq hm => by
  have := wl_lt h hm
  omega
theorem wl_dAA {cy : cyT} {S S1 : PS} {n : Nat} (h : va_D (AA cy S n) (wl cy S1)) {a : Nat} (ha : a ∈ PL S1) : a ∈ PL S ∨ n ≤ a := by
  obtain ⟨k, hk⟩ := wl_at (cy := cy) ha
  exact AA_of (h.2 k _ hk)
/-- the law's own row stays where a method's world doesn't hold it -/
theorem o_stay {D : va_G} {cy : cyT} {cL : ClassId} {S : PS} {n qo : Nat} {f : Nat → Int64} {H H1 : Heap} (hO : va_P D vwCl [(qo, oe cL f)] H) (hq : qo ∉ PL S) (hn : H.size = n) (hk : ∀ q : Nat, q < H.size → ¬ AA cy S n q → H1[q]? = H[q]?) : va_P D vwCl [(qo, oe cL f)] H1 := by
  have hl : qo < H.size := (hO 0 _ rfl).lt
  refine hO.kept (fun k x hx => ?_)
  have hz : k < 1 := (List.getElem?_eq_some_iff.mp hx).1
  rw [show k = 0 by omega] at hx
  cases hx
  refine hk qo hl (fun h => ?_)
  rcases AA_of h with h | h
  · exact hq h
  · omega
/-- a pool stays where its cells are kept -/
theorem wl_stay {D : va_G} {cy : cyT} {S : PS} {H H1 : Heap} (hP : va_P D vwCl (wl cy S) H) (hk : ∀ q : Nat, q ∈ PL S → H1[q]? = H[q]?) : va_P D vwCl (wl cy S) H1 := hP.kept (fun _ _ hx => hk _ (wl_mem hx))
theorem xw_ok {β : Type} {k1 k2 : Nat} {w : Nat × β × OS} {r0 : β ⊕ Nat} {r : β} (h1 : w.1 = 0 → r0 = .inl w.2.1) (h2 : w.1 = 1 → r0 = .inr k1) (h3 : w.1 = 2 → r0 = .inr k2) (h4 : w.1 ≤ 2) (g : Sum.inl r = r0) : w.1 = 0 ∧ r = w.2.1 := by
  subst g
  rcases (show w.1 = 0 ∨ w.1 = 1 ∨ w.1 = 2 by omega) with z | z | z
  · exact ⟨z, Sum.inl.inj (h1 z)⟩
  · cases h2 z
  · cases h3 z
theorem xw_ex {β : Type} {k1 k2 k : Nat} {w : Nat × β × OS} {r0 : β ⊕ Nat} (h1 : w.1 = 0 → r0 = .inl w.2.1) (h2 : w.1 = 1 → r0 = .inr k1) (h3 : w.1 = 2 → r0 = .inr k2) (h4 : w.1 ≤ 2) (g : r0 = .inr k) : (w.1 = 1 ∧ k = k1) ∨ (w.1 = 2 ∧ k = k2) := by
  subst g
  rcases (show w.1 = 0 ∨ w.1 = 1 ∨ w.1 = 2 by omega) with z | z | z
  · cases h1 z
  · exact Or.inl ⟨z, Sum.inr.inj (h2 z)⟩
  · exact Or.inr ⟨z, Sum.inr.inj (h3 z)⟩
theorem o_self {f : Nat → Int64} {x : Int64} : vp_updL f z0 x z0 = x := by
  unfold vp_updL
  exact if_pos rfl
section LW1
variable {p : Program} {l : Launch} {e : Env} {R : Room} {s : State} {m : MethodId} {args : Array Value} {below : List Frame} {meth : Method} {c : Code} {H : Heap} {locs : List Loc} {cells slots : Nat} {Q : State → Prop}
variable {cc : ByteArray} {nL pc : Nat} {ls : Array Slot} {rest st0 : List Value} {D : va_G} {cy : cyT} {A : Nat → Prop} {S : PS} {n qo : Nat} {cL : ClassId} {f : Nat → Int64}
theorem o_last (hx : p.tables.exec = Jvm.exec) (hb : c.code = cc) (hKL : va_K D vwCl [(cL, .long)] s) (hO : va_P D vwCl [(qo, oe cL f)] H) {x : Int64} (hdg : decode cc pc = .ok (.lastore, 1))
    (kk : ∀ H1 : Heap, va_P D vwCl [(qo, oe cL (vp_updL f z0 x))] H1 → H1.size = H.size → (∀ q, q ≠ qo → H1[q]? = H[q]?) → W p l e R s m args below meth c H1 (locs ++ [⟨qo, z0⟩]) cells slots Q (F0 m (pc + 1) ls rest)) : W p l e R s m args below meth c H locs cells slots Q (F0 m pc ls (.long x :: .int 0 :: .ref qo :: rest)) := by
  refine W.last hx hb (hO 0 _ rfl) ((hKL.2 0 _ rfl).1 1 (fun j => .long (f j))) (fun q => by cases q) (by show ¬ ((0 : Int32) < 0 ∨ (arrV _ _ _).slots.size ≤ _); rw [arrV_size]; show ¬ ((0 : Int32) < 0 ∨ 1 ≤ z0); decide) rfl rfl hdg fun H1 e z oq => ?_
  refine kk H1 (fun k q hk => ?_) z oq
  have hz : k < 1 := (List.getElem?_eq_some_iff.mp hk).1
  rw [show k = 0 by omega] at hk
  cases hk
  show H1[qo]? = some (vp_cell _ _)
  rw [e]
  rw [vp_cell_l, vp_cell_l, arrV_store]
  congr 2
  funext q
  by_cases hq : q = z0
  · subst hq
    simp [updV, vp_updL]
  · simp [updV, vp_updL, show ¬ q = 0 from hq]
    intro h9
    exact absurd h9 hq
end LW1

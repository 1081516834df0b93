/-! ===== the law's own heap: the class's pool, the reference's pool, the row of one long ===== -/
def LH (D : va_G) (cy : cyT) (cL : ClassId) (A : Nat → Prop) (H0 : Heap) (SX SM : PS) (qo : Nat) (f : Nat → Int64) (H : Heap) (locs : List Loc) : Prop := va_P D vwCl (wl cy SX) H ∧ va_P D vwCl (wl cy SM) H ∧ va_P D vwCl [(qo, oe cL f)] H ∧ va_D A (wl cy SX) ∧ va_D A (wl cy SM) ∧ A qo ∧ (∀ a, a ∈ PL SX → a ∉ PL SM) ∧ qo ∉ PL SX ∧ qo ∉ PL SM ∧ va_S A H0 H locs
theorem LH.hwX {D : va_G} {cy : cyT} {cL : ClassId} {A : Nat → Prop} {H0 : Heap} {SX SM : PS} {qo : Nat} {f : Nat → Int64} {H : Heap} {locs : List Loc} (h : LH D cy cL A H0 SX SM qo f H locs) : Hw D cy A H0 SX H.size H locs := ⟨h.1, h.2.2.2.1, h.2.2.2.2.2.2.2.2.2, rfl⟩
theorem LH.hwM {D : va_G} {cy : cyT} {cL : ClassId} {A : Nat → Prop} {H0 : Heap} {SX SM : PS} {qo : Nat} {f : Nat → Int64} {H : Heap} {locs : List Loc} (h : LH D cy cL A H0 SX SM qo f H locs) : Hw D cy A H0 SM H.size H locs := ⟨h.2.1, h.2.2.2.2.1, h.2.2.2.2.2.2.2.2.2, rfl⟩
theorem LH.O {D : va_G} {cy : cyT} {cL : ClassId} {A : Nat → Prop} {H0 : Heap} {SX SM : PS} {qo : Nat} {f : Nat → Int64} {H : Heap} {locs : List Loc} (h : LH D cy cL A H0 SX SM qo f H locs) : va_P D vwCl [(qo, oe cL f)] H := h.2.2.1
theorem LH.S {D : va_G} {cy : cyT} {cL : ClassId} {A : Nat → Prop} {H0 : Heap} {SX SM : PS} {qo : Nat} {f : Nat → Int64} {H : Heap} {locs : List Loc} (h : LH D cy cL A H0 SX SM qo f H locs) : va_S A H0 H locs := h.2.2.2.2.2.2.2.2.2
theorem LH.qX {D : va_G} {cy : cyT} {cL : ClassId} {A : Nat → Prop} {H0 : Heap} {SX SM : PS} {qo : Nat} {f : Nat → Int64} {H : Heap} {locs : List Loc} (h : LH D cy cL A H0 SX SM qo f H locs) : qo ∉ PL SX := h.2.2.2.2.2.2.2.1
theorem LH.qA {D : va_G} {cy : cyT} {cL : ClassId} {A : Nat → Prop} {H0 : Heap} {SX SM : PS} {qo : Nat} {f : Nat → Int64} {H : Heap} {locs : List Loc} (h : LH D cy cL A H0 SX SM qo f H locs) : A qo := h.2.2.2.2.2.1
/-- behind a wrapper -/
theorem LH.wr {D : va_G} {cy : cyT} {cL : ClassId} {A : Nat → Prop} {H0 : Heap} {SX SM S1 : PS} {qo : Nat} {f f1 : Nat → Int64} {H H1 : Heap} {locs locs1 : List Loc} (h : LH D cy cL A H0 SX SM qo f H locs) (hA : ∀ q, H.size ≤ q → A q) (b1 : va_P D vwCl (wl cy S1) H1) (b2 : va_D (AA cy SX H.size) (wl cy S1)) (b3 : va_P D vwCl [(qo, oe cL f1)] H1) (hk : ∀ q : Nat, q < H.size → ¬ AQ cy SX H.size qo q → H1[q]? = H[q]?) (hS : va_S A H0 H1 locs1) : LH D cy cL A H0 S1 SM qo f1 H1 locs1 := by
  obtain ⟨p1, p2, p3, d1, d2, aq, ds, qx, qm, -⟩ := h
  have hql : qo < H.size := (p3 0 _ rfl).lt
  refine ⟨b1, wl_stay p2 (fun q hq => hk q (wl_lt p2 hq) (fun hx => ?_)), b3, b2.weaken (fun k q _ hx => ?_), d2, aq, fun a ha hm => ?_, fun hm => ?_, qm, hS⟩
  · rcases hx with hx | hx
    · exact qm (hx ▸ hq)
    · rcases AA_of hx with hx | hx
      · exact ds q hx hq
      · have := wl_lt p2 hq
        omega
  · rcases hx with ⟨k, e, hk'⟩ | hx
    · exact d1.2 k (_, e) hk'
    · exact hA _ hx
  · rcases wl_dAA b2 ha with hx | hx
    · exact ds a hx hm
    · have := wl_lt p2 hm
      omega
  · rcases wl_dAA b2 hm with hx | hx
    · exact qx hx
    · omega
/-- behind a call of the class alone -/
theorem LH.cl {D : va_G} {cy : cyT} {cL : ClassId} {A : Nat → Prop} {H0 : Heap} {SX SM S1 : PS} {qo : Nat} {f : Nat → Int64} {H H1 : Heap} {locs locs1 : List Loc} (h : LH D cy cL A H0 SX SM qo f H locs) (hA : ∀ q, H.size ≤ q → A q) (b1 : va_P D vwCl (wl cy S1) H1) (b2 : va_D (AA cy SX H.size) (wl cy S1)) (hk : ∀ q : Nat, q < H.size → ¬ AA cy SX H.size q → H1[q]? = H[q]?) (hS : va_S A H0 H1 locs1) : LH D cy cL A H0 S1 SM qo f H1 locs1 :=
  h.wr hA b1 b2 (o_stay h.O h.qX rfl hk) (fun q h1 h2 => hk q h1 (fun h3 => h2 (Or.inr h3))) hS
/-- behind a call of the reference -/
theorem LH.rf {D : va_G} {cy : cyT} {cL : ClassId} {A : Nat → Prop} {H0 : Heap} {SX SM S1 : PS} {qo : Nat} {f : Nat → Int64} {H H1 : Heap} {locs locs1 : List Loc} (h : LH D cy cL A H0 SX SM qo f H locs) (hA : ∀ q, H.size ≤ q → A q) (b1 : va_P D vwCl (wl cy S1) H1) (b2 : va_D (AA cy SM H.size) (wl cy S1)) (hk : ∀ q : Nat, q < H.size → ¬ AA cy SM H.size q → H1[q]? = H[q]?) (hS : va_S A H0 H1 locs1) : LH D cy cL A H0 SX S1 qo f H1 locs1 := by
  obtain ⟨p1, p2, p3, d1, d2, aq, ds, qx, qm, -⟩ := h
  have hql : qo < H.size := (p3 0 _ rfl).lt
  refine ⟨wl_stay p1 (fun q hq => hk q (wl_lt p1 hq) (fun hx => ?_)), b1, o_stay p3 qm rfl hk, d1, b2.weaken (fun k q _ hx => ?_), aq, fun a ha hm => ?_, qx, fun hm => ?_, hS⟩
  · rcases AA_of hx with hx | hx
    · exact ds q hq hx
    · have := wl_lt p1 hq
      omega
  · rcases hx with ⟨k, e, hk'⟩ | hx
    · exact d2.2 k (_, e) hk'
    · exact hA _ hx
  · rcases wl_dAA b2 hm with hx | hx
    · exact ds a ha hx
    · have := wl_lt p1 ha
      omega
  · rcases wl_dAA b2 hm with hx | hx
    · exact qm hx
    · omega
section LW2
variable {p : Program} {l : Launch} {e : Env} {R : Room} {s : State} {m : MethodId} {args : Array Value} {below : List Frame} {meth : Method} {c : Code} {H : Heap} {locs : List Loc} {cells slots : Nat} {Q : State → Prop}
variable {cc : ByteArray} {pc : Nat} {ls : Array Slot} {rest st0 : List Value} {D : va_G} {cy : cyT} {SX SM : PS} {qo : Nat} {cL : ClassId} {f : Nat → Int64} {mc ms : Nat} {aa : Array Value}
/-- what the law's walk knows of its start -/
def LK (D : va_G) (cy : cyT) (cL : ClassId) (s : State) : Prop := KN D cy s ∧ va_K D vwCl [(cL, .long)] s ∧ NCW s ∧ HZ (fun q => s.heap.size ≤ q) s s.heap
theorem LH.gt (h : LH D cy cL (fun q => s.heap.size ≤ q) s.heap SX SM qo f H locs) : ∀ q : Nat, H.size ≤ q → s.heap.size ≤ q := fun _ hq => Nat.le_trans h.S.1 hq
theorem LH.fre {S : PS} {A : Nat → Prop} {H0 : Heap} (h : Hw D cy A H0 S H.size H locs) (hA : ∀ q, H.size ≤ q → A q) : ∀ q, AA cy S H.size q → A q := by
  intro q hq
  rcases hq with ⟨k, e, hk⟩ | hq
  · exact h.2.1.2 k (q, e) hk
  · exact hA q hq
theorem PcL.in {av : List Value} (hK : LK D cy cL s) (h : LH D cy cL (fun q => s.heap.size ≤ q) s.heap SX SM qo f H locs) : ∀ U : State, U.heap = H → s.WarmedH U.vm → PcL D cy cL SX H.size qo f av av.toArray U := fun U hU hW => ⟨rfl, by rw [hU], by rw [hU]; exact h.1, h.2.2.2.1.weaken (fun _ _ _ _ => trivial), by rw [hU]; exact h.O, h.qX, hK.1.warm hW, hK.2.1.moved hW.alike, hK.2.2.1.moved hW.alike, by
  rw [hU]
  refine (((hK.2.2.2).kept h.S.2.1).narrow (fun q hq => ?_)).moved hW.alike
  rcases hq with hq | hq
  · exact hq ▸ h.qA
  · exact LH.fre h.hwX h.gt q hq⟩
theorem l_wrap {post : Int32 → PS × (Nat → Int64) → Prop} (hr : va_Run p l e R s m args below meth c H locs cells slots mc ms (F0 m pc ls st0) rest (va_Qi post (BL D cy cL SX H.size qo) (AQ cy SX H.size qo) aa) (AQ cy SX H.size qo)) (h : LH D cy cL (fun q => s.heap.size ≤ q) s.heap SX SM qo f H locs)
    (kk : ∀ (r : Int32) (u : PS × (Nat → Int64)) (H1 : Heap) (locs1 : List Loc), post r u → LH D cy cL (fun q => s.heap.size ≤ q) s.heap u.1 SM qo u.2 H1 locs1 → W p l e R s m args below meth c H1 locs1 (cells + mc) (slots + ms) Q (F0 m (pc + 3) ls (.int r :: rest))) : W p l e R s m args below meth c H locs cells slots Q (F0 m pc ls st0) := by
  have hf : ∀ q, AQ cy SX H.size qo q → s.heap.size ≤ q := fun q hq => by
    rcases hq with hq | hq
    · exact hq ▸ h.qA
    · exact LH.fre h.hwX h.gt q hq
  refine va_calli hr h.S (fun q _ hq => hf q hq) hf (fun r u t H1 locs1 ht hvm hw2 hB hz hk hS2 => ?_)
  obtain ⟨b1, b2, b3⟩ := hB
  rw [ht] at b1 b3
  exact kk r u H1 locs1 hw2 (h.wr h.gt b1 b2 b3 hk hS2)
theorem l_cli {S1 : PS} {n1 : Nat} {v : Int32} (hr : va_Run p l e R s m args below meth c H locs cells slots mc ms (F0 m pc ls st0) rest (va_Qi (fun (r : Int32) (u : PS × Nat) => r = v ∧ u = (S1, n1)) (BW D cy SX H.size) (AA cy SX H.size) aa) (AA cy SX H.size)) (h : LH D cy cL (fun q => s.heap.size ≤ q) s.heap SX SM qo f H locs)
    (kk : ∀ (H1 : Heap) (locs1 : List Loc), LH D cy cL (fun q => s.heap.size ≤ q) s.heap S1 SM qo f H1 locs1 → W p l e R s m args below meth c H1 locs1 (cells + mc) (slots + ms) Q (F0 m (pc + 3) ls (.int v :: rest))) : W p l e R s m args below meth c H locs cells slots Q (F0 m pc ls st0) := by
  refine va_calli hr h.S (fun q _ hq => LH.fre h.hwX h.gt q hq) (LH.fre h.hwX h.gt) (fun r u t H1 locs1 ht hvm hw2 hB hz hk hS2 => ?_)
  obtain ⟨rfl, rfl⟩ := hw2
  obtain ⟨b1, b2, b3, b4⟩ := hB
  rw [ht] at b1
  exact kk H1 locs1 (h.cl h.gt b1 b2 hk hS2)
theorem l_rfi {S1 : PS} {n1 : Nat} {v : Int32} (hr : va_Run p l e R s m args below meth c H locs cells slots mc ms (F0 m pc ls st0) rest (va_Qi (fun (r : Int32) (u : PS × Nat) => r = v ∧ u = (S1, n1)) (BW D cy SM H.size) (AA cy SM H.size) aa) (AA cy SM H.size)) (h : LH D cy cL (fun q => s.heap.size ≤ q) s.heap SX SM qo f H locs)
    (kk : ∀ (H1 : Heap) (locs1 : List Loc), LH D cy cL (fun q => s.heap.size ≤ q) s.heap SX S1 qo f H1 locs1 → W p l e R s m args below meth c H1 locs1 (cells + mc) (slots + ms) Q (F0 m (pc + 3) ls (.int v :: rest))) : W p l e R s m args below meth c H locs cells slots Q (F0 m pc ls st0) := by
  refine va_calli hr h.S (fun q _ hq => LH.fre h.hwM h.gt q hq) (LH.fre h.hwM h.gt) (fun r u t H1 locs1 ht hvm hw2 hB hz hk hS2 => ?_)
  obtain ⟨rfl, rfl⟩ := hw2
  obtain ⟨b1, b2, b3, b4⟩ := hB
  rw [ht] at b1
  exact kk H1 locs1 (h.rf h.gt b1 b2 hk hS2)
theorem l_cll {S1 : PS} {n1 : Nat} {v : Int64} (hr : va_Run p l e R s m args below meth c H locs cells slots mc ms (F0 m pc ls st0) rest (va_Ql (fun (r : Int64) (u : PS × Nat) => r = v ∧ u = (S1, n1)) (BW D cy SX H.size) (AA cy SX H.size) aa) (AA cy SX H.size)) (h : LH D cy cL (fun q => s.heap.size ≤ q) s.heap SX SM qo f H locs)
    (kk : ∀ (H1 : Heap) (locs1 : List Loc), LH D cy cL (fun q => s.heap.size ≤ q) s.heap S1 SM qo f H1 locs1 → W p l e R s m args below meth c H1 locs1 (cells + mc) (slots + ms) Q (F0 m (pc + 3) ls (.long v :: rest))) : W p l e R s m args below meth c H locs cells slots Q (F0 m pc ls st0) := by
  refine va_calll hr h.S (fun q _ hq => LH.fre h.hwX h.gt q hq) (LH.fre h.hwX h.gt) (fun r u t H1 locs1 ht hvm hw2 hB hz hk hS2 => ?_)
  obtain ⟨rfl, rfl⟩ := hw2
  obtain ⟨b1, b2, b3, b4⟩ := hB
  rw [ht] at b1
  exact kk H1 locs1 (h.cl h.gt b1 b2 hk hS2)
theorem l_rfl {S1 : PS} {n1 : Nat} {v : Int64} (hr : va_Run p l e R s m args below meth c H locs cells slots mc ms (F0 m pc ls st0) rest (va_Ql (fun (r : Int64) (u : PS × Nat) => r = v ∧ u = (S1, n1)) (BW D cy SM H.size) (AA cy SM H.size) aa) (AA cy SM H.size)) (h : LH D cy cL (fun q => s.heap.size ≤ q) s.heap SX SM qo f H locs)
    (kk : ∀ (H1 : Heap) (locs1 : List Loc), LH D cy cL (fun q => s.heap.size ≤ q) s.heap SX S1 qo f H1 locs1 → W p l e R s m args below meth c H1 locs1 (cells + mc) (slots + ms) Q (F0 m (pc + 3) ls (.long v :: rest))) : W p l e R s m args below meth c H locs cells slots Q (F0 m pc ls st0) := by
  refine va_calll hr h.S (fun q _ hq => LH.fre h.hwM h.gt q hq) (LH.fre h.hwM h.gt) (fun r u t H1 locs1 ht hvm hw2 hB hz hk hS2 => ?_)
  obtain ⟨rfl, rfl⟩ := hw2
  obtain ⟨b1, b2, b3, b4⟩ := hB
  rw [ht] at b1
  exact kk H1 locs1 (h.rf h.gt b1 b2 hk hS2)
theorem l_cld {S1 : PS} {n1 : Nat} {v : UInt64} (hr : va_Run p l e R s m args below meth c H locs cells slots mc ms (F0 m pc ls st0) rest (va_Qd (fun (r : UInt64) (u : PS × Nat) => r = v ∧ u = (S1, n1)) (BW D cy SX H.size) (AA cy SX H.size) aa) (AA cy SX H.size)) (h : LH D cy cL (fun q => s.heap.size ≤ q) s.heap SX SM qo f H locs)
    (kk : ∀ (H1 : Heap) (locs1 : List Loc), LH D cy cL (fun q => s.heap.size ≤ q) s.heap S1 SM qo f H1 locs1 → W p l e R s m args below meth c H1 locs1 (cells + mc) (slots + ms) Q (F0 m (pc + 3) ls (.double v :: rest))) : W p l e R s m args below meth c H locs cells slots Q (F0 m pc ls st0) := by
  refine va_calld hr h.S (fun q _ hq => LH.fre h.hwX h.gt q hq) (LH.fre h.hwX h.gt) (fun r u t H1 locs1 ht hvm hw2 hB hz hk hS2 => ?_)
  obtain ⟨rfl, rfl⟩ := hw2
  obtain ⟨b1, b2, b3, b4⟩ := hB
  rw [ht] at b1
  exact kk H1 locs1 (h.cl h.gt b1 b2 hk hS2)
theorem l_rfd {S1 : PS} {n1 : Nat} {v : UInt64} (hr : va_Run p l e R s m args below meth c H locs cells slots mc ms (F0 m pc ls st0) rest (va_Qd (fun (r : UInt64) (u : PS × Nat) => r = v ∧ u = (S1, n1)) (BW D cy SM H.size) (AA cy SM H.size) aa) (AA cy SM H.size)) (h : LH D cy cL (fun q => s.heap.size ≤ q) s.heap SX SM qo f H locs)
    (kk : ∀ (H1 : Heap) (locs1 : List Loc), LH D cy cL (fun q => s.heap.size ≤ q) s.heap SX S1 qo f H1 locs1 → W p l e R s m args below meth c H1 locs1 (cells + mc) (slots + ms) Q (F0 m (pc + 3) ls (.double v :: rest))) : W p l e R s m args below meth c H locs cells slots Q (F0 m pc ls st0) := by
  refine va_calld hr h.S (fun q _ hq => LH.fre h.hwM h.gt q hq) (LH.fre h.hwM h.gt) (fun r u t H1 locs1 ht hvm hw2 hB hz hk hS2 => ?_)
  obtain ⟨rfl, rfl⟩ := hw2
  obtain ⟨b1, b2, b3, b4⟩ := hB
  rw [ht] at b1
  exact kk H1 locs1 (h.rf h.gt b1 b2 hk hS2)
/-- a cell of the law's script -/
theorem l_ld {b L : Nat} {k : Int} {xs : Nat → Int32} {x4 kv a : Int32} {A : Nat → Prop} {H0 : Heap} (hx : p.tables.exec = Jvm.exec) (hb : c.code = cc) (hX : va_X b L xs s H0) (hbl : b < H0.size) (hbA : ¬ A b) (hS : va_S A H0 H locs) (h0 : ls[0]? = some (.val (.ref b))) (h4 : ls[4]? = some (.val (.int x4)))
    (d1 : decode cc pc = .ok (.aload_n 0, 1)) (d2 : decode cc (pc + 1) = .ok (.iload 4, 2)) (d3 : decode cc (pc + 3) = .ok (.iconst k, 1)) (d4 : decode cc (pc + 4) = .ok (.iadd, 1)) (d5 : decode cc (pc + 5) = .ok (.iaload, 1)) (hk : Int32.ofInt k = kv) (hin : vp_in (x4 + kv) L) (ha : xs (x4 + kv).toNatClampNeg = a)
    (kk : W p l e R s m args below meth c H locs cells slots Q (F0 m (pc + 6) ls (.int a :: rest))) : W p l e R s m args below meth c H locs cells slots Q (F0 m pc ls rest) := by
  refine lv_aload_n hx hb d1 rfl h0 ?_
  refine lv_iload hx hb d2 h4 ?_
  refine lv_iconst (v := kv) hx hb d3 hk ?_
  refine lv_iadd hx hb d4 ?_
  refine va_sld hx hb hX hbl hbA hS hin d5 ?_
  rw [ha]
  exact kk
def lgv (a b : Int32) : Int64 := (a.toInt64 <<< ((32 : Int32).toInt64 &&& 63)) ||| (b.toInt64 &&& 4294967295)
theorem l_ld2 {own : String} {index b L : Nat} {j k : Int} {xs : Nat → Int32} {x4 jv kv a a2 : Int32} {A : Nat → Prop} {H0 : Heap} (hx : p.tables.exec = Jvm.exec) (hb : c.code = cc) (hX : va_X b L xs s H0) (hbl : b < H0.size) (hbA : ¬ A b) (hS : va_S A H0 H locs) (h0 : ls[0]? = some (.val (.ref b))) (h4 : ls[4]? = some (.val (.int x4)))
    (hown : s.vm.findClass own = some m.cls) (hconst : (Cond.constantLong own index 4294967295).before args s = true)
    (d1 : decode cc pc = .ok (.aload_n 0, 1)) (d2 : decode cc (pc + 1) = .ok (.iload 4, 2)) (d3 : decode cc (pc + 3) = .ok (.iconst j, 1)) (d4 : decode cc (pc + 4) = .ok (.iadd, 1)) (d5 : decode cc (pc + 5) = .ok (.iaload, 1)) (d6 : decode cc (pc + 6) = .ok (.i2l, 1)) (d7 : decode cc (pc + 7) = .ok (.bipush 32, 2)) (d8 : decode cc (pc + 9) = .ok (.lshl, 1))
    (f1 : decode cc (pc + 10) = .ok (.aload_n 0, 1)) (f2 : decode cc (pc + 11) = .ok (.iload 4, 2)) (f3 : decode cc (pc + 13) = .ok (.iconst k, 1)) (f4 : decode cc (pc + 14) = .ok (.iadd, 1)) (f5 : decode cc (pc + 15) = .ok (.iaload, 1)) (f6 : decode cc (pc + 16) = .ok (.i2l, 1)) (f7 : decode cc (pc + 17) = .ok (.ldc2_w index, 3)) (f8 : decode cc (pc + 20) = .ok (.land, 1)) (f9 : decode cc (pc + 21) = .ok (.lor, 1))
    (hj : Int32.ofInt j = jv) (hin : vp_in (x4 + jv) L) (ha : xs (x4 + jv).toNatClampNeg = a) (hk : Int32.ofInt k = kv) (hin2 : vp_in (x4 + kv) L) (ha2 : xs (x4 + kv).toNatClampNeg = a2)
    (kk : W p l e R s m args below meth c H locs cells slots Q (F0 m (pc + 22) ls (.long (lgv a a2) :: rest))) : W p l e R s m args below meth c H locs cells slots Q (F0 m pc ls rest) := by
  refine l_ld hx hb hX hbl hbA hS h0 h4 d1 d2 d3 d4 d5 hj hin ha ?_
  refine lv_i2l hx hb d6 rfl ?_
  refine lv_bipush (v := 32) hx hb d7 (by decide) ?_
  refine lv_lshl hx hb d8 rfl ?_
  refine l_ld hx hb hX hbl hbA hS h0 h4 f1 f2 f3 f4 f5 hk hin2 ha2 ?_
  refine lv_i2l hx hb f6 rfl ?_
  refine lv_ldc2 hx hb hown hconst f7 ?_
  refine lv_land hx hb f8 ?_
  refine lv_lor hx hb f9 ?_
  exact kk
end LW2

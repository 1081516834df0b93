def f_X4_commonDivisor_B45 (x4 : Int64) : Option Int64 :=
  some x4
def f_X4_commonDivisor_L9s (kL9 : Int64 → Int64 → Int32 → Option Int64) (ke45 : Int64 → Option Int64) (x4 : Int64) (x6 : Int64) (x8 : Int32) : Option Int64 :=
  if 200 ≤ x8 then (ke45 x4) else
  if x6 ≤ 0 then (ke45 x4) else
  ck (decide (¬ x6 = 0)) (
  kL9 x6 (x4 - x4 / x6 * x6) (x8 + 1))
def f_X4_commonDivisor_L9 (ke45 : Int64 → Option Int64) (fu : Nat) : Int64 → Int64 → Int32 → Option Int64 := fx (fun kL => f_X4_commonDivisor_L9s kL ke45) (fun _ _ _ => none) fu
def f_X4_commonDivisor (x0 : Int64) (x2 : Int64) : Option Int64 :=
  f_X4_commonDivisor_L9 f_X4_commonDivisor_B45 FU x0 x2 0
set_option maxHeartbeats 4000000 in
set_option maxRecDepth 100000 in
theorem c_X4_commonDivisor (l : Launch) (D : va_G) (cy : cyT) {H : Heap} {y0 : Int64} {y2 : Int64}  {res : Int64} (hf : f_X4_commonDivisor y0 y2 = some res) : Met l yX4_commonDivisor wsX4_commonDivisor ({ frames := 0, cells := 0, slots := 0, locals := 0 } : Room) (PcR D cy H [.long y0, .long y2]) (vp_Sl (fun r => r = res)) 0 0 (fun _ => False) := by
  refine Met.ofW (cc := cX4_commonDivisor) (maxL := 11) (ret := (some .long)) (by decide) rfl ?_
  intro p e s m args below meth c s₁ B hml hv
  obtain ⟨hav, hH, hK⟩ := hv
  have hx := B.exec
  have hb := B.bytes
  have hr := B.returns
  have hts := atoms_spec (ws := wsX4_commonDivisor) B.pre
  have hown : s.vm.findClass RX4 = some m.cls := findClass_of_methodNamed B.named
  have hlocks := B.notSynchronized
  subst hav
  subst hH
  have F : CallFix p m c cX4_commonDivisor 11 s _ wsX4_commonDivisor RX4 := ⟨hx, hb, hml, hown, hts⟩
  have hB45 : ∀ (x4 : Int64) (ls : Array Slot), lv_has ls 11 [(4, .long x4)] → f_X4_commonDivisor_B45 x4 = some res → W p l e (headSpec wsX4_commonDivisor ({ frames := 0, cells := 0, slots := 0, locals := 0 } : Room)).room s m ([.long y0, .long y2] : List Value).toArray below meth c s.heap [] 0 0 (MQ below (vp_Sl (fun r => r = res)) ([.long y0, .long y2] : List Value).toArray s 0 0 (fun _ => False)) (F0 m 45 ls []) := by
    intro x4 ls hl hf
    unfold f_X4_commonDivisor_B45 at hf
    refine lv_lload hx hb dX4_commonDivisor_45 (lv_at hl 0 rfl) ?_
    exact W.lret (v := x4) hx hb hr (fun t ht hW => ⟨_, rfl, Option.some.inj hf, ht⟩) (fun _ h => by cases h) dX4_commonDivisor_47
  have hL9 : ∀ (fu : Nat), ∀ (x4 : Int64) (x6 : Int64) (x8 : Int32) (ls : Array Slot), lv_has ls 11 [(4, .long x4), (6, .long x6), (8, .int x8)] → f_X4_commonDivisor_L9 f_X4_commonDivisor_B45 fu x4 x6 x8 = some res → W p l e (headSpec wsX4_commonDivisor ({ frames := 0, cells := 0, slots := 0, locals := 0 } : Room)).room s m ([.long y0, .long y2] : List Value).toArray below meth c s.heap [] 0 0 (MQ below (vp_Sl (fun r => r = res)) ([.long y0, .long y2] : List Value).toArray s 0 0 (fun _ => False)) (F0 m 9 ls []) := by
    intro fu
    induction fu with
    | zero =>
      intro x4 x6 x8 ls hl hf
      have hf : (none : Option Int64) = some res := hf
      cases hf
    | succ fu ih9 =>
      intro x4 x6 x8 ls hl hf
      have hf : f_X4_commonDivisor_L9s (f_X4_commonDivisor_L9 f_X4_commonDivisor_B45 fu) f_X4_commonDivisor_B45 x4 x6 x8 = some res := hf
      unfold f_X4_commonDivisor_L9s at hf
      refine lv_iload hx hb dX4_commonDivisor_9 (lv_at hl 2 rfl) ?_
      refine lv_sipush (v := 200) hx hb dX4_commonDivisor_11 (by decide) ?_
      refine lv_icmp_ge (tgt := 45) hx hb dX4_commonDivisor_14 (by decide) (fun c4 => ?_) (fun c4 => ?_)
      · have hf := it_t c4 hf
        exact hB45 x4 _ (lv_sub hl [0] rfl)  hf
      · have hf := it_f c4 hf
        refine lv_lload hx hb dX4_commonDivisor_17 (lv_at hl 1 rfl) ?_
        refine lv_lconst (v := 0) hx hb dX4_commonDivisor_19 (by decide) ?_
        refine W.lcmp hx hb dX4_commonDivisor_20 ?_
        refine lv_if_le (tgt := 45) hx hb dX4_commonDivisor_21 (by decide) (fun c5 => ?_) (fun c5 => ?_)
        · have hf := it_t ((lq_le _ _).mp c5) hf
          exact hB45 x4 _ (lv_sub hl [0] rfl)  hf
        · have hf := it_f (fun z => c5 ((lq_le _ _).mpr z)) hf
          refine lv_lload hx hb dX4_commonDivisor_24 (lv_at hl 0 rfl) ?_
          refine lv_lload hx hb dX4_commonDivisor_26 (lv_at hl 1 rfl) ?_
          obtain ⟨c6, hf⟩ := ckd_some hf
          refine lv_lrem hx hb dX4_commonDivisor_28 c6 ?_
          refine lv_lstore (lv' := [(9, .long (x4 - x4 / x6 * x6)), (4, .long x4), (6, .long x6), (8, .int x8)]) hx hb dX4_commonDivisor_29 hl (by decide) rfl (fun ls hl => ?_)
          refine lv_lload hx hb dX4_commonDivisor_31 (lv_at hl 2 rfl) ?_
          refine lv_lstore (lv' := [(4, .long x6), (9, .long (x4 - x4 / x6 * x6)), (6, .long x6), (8, .int x8)]) hx hb dX4_commonDivisor_33 hl (by decide) rfl (fun ls hl => ?_)
          refine lv_lload hx hb dX4_commonDivisor_35 (lv_at hl 1 rfl) ?_
          refine lv_lstore (lv' := [(6, .long (x4 - x4 / x6 * x6)), (4, .long x6), (9, .long (x4 - x4 / x6 * x6)), (8, .int x8)]) hx hb dX4_commonDivisor_37 hl (by decide) rfl (fun ls hl => ?_)
          refine lv_iinc (v := x8 + 1) (lv' := [(8, .int (x8 + 1)), (6, .long (x4 - x4 / x6 * x6)), (4, .long x6), (9, .long (x4 - x4 / x6 * x6))]) hx hb dX4_commonDivisor_39 hl (k := 3) rfl (by rfl) (by decide) rfl (fun ls hl => ?_)
          refine lv_goto (tgt := 9) hx hb dX4_commonDivisor_42 (by decide) ?_
          exact ih9 x6 (x4 - x4 / x6 * x6) (x8 + 1) _ (lv_sub hl [2, 1, 0] rfl)  hf
  have hl := lv_entry ([.long y0, .long y2]) (n := 11) (Nat.le_of_ble_eq_true rfl)
  rw [lg_entry_eq]
  generalize (lg_sl ([.long y0, .long y2]) ++ List.replicate (11 - (lg_sl ([.long y0, .long y2])).length) Slot.unset).toArray = ls at hl ⊢
  have hl : lv_has ls 11 [(0, .long y0), (2, .long y2)] := hl
  unfold f_X4_commonDivisor at hf
  refine lv_lload_n hx hb dX4_commonDivisor_0 rfl (lv_at hl 0 rfl) ?_
  refine lv_lstore (lv' := [(4, .long y0), (0, .long y0), (2, .long y2)]) hx hb dX4_commonDivisor_1 hl (by decide) rfl (fun ls hl => ?_)
  refine lv_lload_n hx hb dX4_commonDivisor_3 rfl (lv_at hl 2 rfl) ?_
  refine lv_lstore (lv' := [(6, .long y2), (4, .long y0), (0, .long y0), (2, .long y2)]) hx hb dX4_commonDivisor_4 hl (by decide) rfl (fun ls hl => ?_)
  refine lv_iconst (v := 0) hx hb dX4_commonDivisor_6 (by decide) ?_
  refine lv_istore (lv' := [(8, .int 0), (6, .long y2), (4, .long y0), (0, .long y0), (2, .long y2)]) hx hb dX4_commonDivisor_7 hl (by decide) rfl (fun ls hl => ?_)
  exact hL9 FU y0 y2 0 _ (lv_sub hl [2, 1, 0] rfl)  hf
def f_X4_rest_B29 (s0 : Int64) : Option Int64 :=
  some s0
def f_X4_rest (x0 : Int64) (x2 : Int64) : Option Int64 :=
  if 1 ≤ x2 then (ck (decide (¬ x2 = 0)) (
  if 0 ≤ (x0 - x0 / x2 * x2) then (f_X4_rest_B29 (x0 - x0 / x2 * x2)) else
  f_X4_rest_B29 ((x0 - x0 / x2 * x2) + x2))) else
  some 0
set_option maxHeartbeats 4000000 in
set_option maxRecDepth 100000 in
theorem c_X4_rest (l : Launch) (D : va_G) (cy : cyT) {H : Heap} {y0 : Int64} {y2 : Int64}  {res : Int64} (hf : f_X4_rest y0 y2 = some res) : Met l yX4_rest wsX4_rest ({ frames := 0, cells := 0, slots := 0, locals := 0 } : Room) (PcR D cy H [.long y0, .long y2]) (vp_Sl (fun r => r = res)) 0 0 (fun _ => False) := by
  refine Met.ofW (cc := cX4_rest) (maxL := 6) (ret := (some .long)) (by decide) rfl ?_
  intro p e s m args below meth c s₁ B hml hv
  obtain ⟨hav, hH, hK⟩ := hv
  have hx := B.exec
  have hb := B.bytes
  have hr := B.returns
  have hts := atoms_spec (ws := wsX4_rest) B.pre
  have hown : s.vm.findClass RX4 = some m.cls := findClass_of_methodNamed B.named
  have hlocks := B.notSynchronized
  subst hav
  subst hH
  have F : CallFix p m c cX4_rest 6 s _ wsX4_rest RX4 := ⟨hx, hb, hml, hown, hts⟩
  have hB29 : ∀ (s0 : Int64) (ls : Array Slot), lv_has ls 6 [] → f_X4_rest_B29 s0 = some res → W p l e (headSpec wsX4_rest ({ frames := 0, cells := 0, slots := 0, locals := 0 } : Room)).room s m ([.long y0, .long y2] : List Value).toArray below meth c s.heap [] 0 0 (MQ below (vp_Sl (fun r => r = res)) ([.long y0, .long y2] : List Value).toArray s 0 0 (fun _ => False)) (F0 m 29 ls [.long s0]) := by
    intro s0 ls hl hf
    unfold f_X4_rest_B29 at hf
    exact W.lret (v := s0) hx hb hr (fun t ht hW => ⟨_, rfl, Option.some.inj hf, ht⟩) (fun _ h => by cases h) dX4_rest_29
  have hl := lv_entry ([.long y0, .long y2]) (n := 6) (Nat.le_of_ble_eq_true rfl)
  rw [lg_entry_eq]
  generalize (lg_sl ([.long y0, .long y2]) ++ List.replicate (6 - (lg_sl ([.long y0, .long y2])).length) Slot.unset).toArray = ls at hl ⊢
  have hl : lv_has ls 6 [(0, .long y0), (2, .long y2)] := hl
  unfold f_X4_rest at hf
  refine lv_lload_n hx hb dX4_rest_0 rfl (lv_at hl 1 rfl) ?_
  refine lv_lconst (v := 1) hx hb dX4_rest_1 (by decide) ?_
  refine W.lcmp hx hb dX4_rest_2 ?_
  refine lv_if_ge (tgt := 8) hx hb dX4_rest_3 (by decide) (fun c4 => ?_) (fun c4 => ?_)
  · have hf := it_t ((lq_ge _ _).mp c4) hf
    refine lv_lload_n hx hb dX4_rest_8 rfl (lv_at hl 0 rfl) ?_
    refine lv_lload_n hx hb dX4_rest_9 rfl (lv_at hl 1 rfl) ?_
    obtain ⟨c5, hf⟩ := ckd_some hf
    refine lv_lrem hx hb dX4_rest_10 c5 ?_
    refine lv_lstore (lv' := [(4, .long (y0 - y0 / y2 * y2)), (0, .long y0), (2, .long y2)]) hx hb dX4_rest_11 hl (by decide) rfl (fun ls hl => ?_)
    refine lv_lload hx hb dX4_rest_13 (lv_at hl 0 rfl) ?_
    refine lv_lconst (v := 0) hx hb dX4_rest_15 (by decide) ?_
    refine W.lcmp hx hb dX4_rest_16 ?_
    refine lv_if_ge (tgt := 27) hx hb dX4_rest_17 (by decide) (fun c6 => ?_) (fun c6 => ?_)
    · have hf := it_t ((lq_ge _ _).mp c6) hf
      refine lv_lload hx hb dX4_rest_27 (lv_at hl 0 rfl) ?_
      exact hB29 (y0 - y0 / y2 * y2) _ (lv_sub hl [] rfl)  hf
    · have hf := it_f (fun z => c6 ((lq_ge _ _).mpr z)) hf
      refine lv_lload hx hb dX4_rest_20 (lv_at hl 0 rfl) ?_
      refine lv_lload_n hx hb dX4_rest_22 rfl (lv_at hl 2 rfl) ?_
      refine lv_ladd hx hb dX4_rest_23 ?_
      refine lv_goto (tgt := 29) hx hb dX4_rest_24 (by decide) ?_
      exact hB29 ((y0 - y0 / y2 * y2) + y2) _ (lv_sub hl [] rfl)  hf
  · have hf := it_f (fun z => c4 ((lq_ge _ _).mpr z)) hf
    refine lv_lconst (v := 0) hx hb dX4_rest_6 (by decide) ?_
    exact W.lret (v := 0) hx hb hr (fun t ht hW => ⟨_, rfl, Option.some.inj hf, ht⟩) (fun _ h => by cases h) dX4_rest_7
def f_X4_share_B13 (s0 : Int64) : Option Int64 :=
  some s0
def f_X4_share (x0 : Int64) (x2 : Int64) : Option Int64 :=
  if 1 ≤ x2 then (ck (decide (¬ x2 = 0)) (
  f_X4_share_B13 (x0 / x2))) else
  f_X4_share_B13 0
set_option maxHeartbeats 4000000 in
set_option maxRecDepth 100000 in
theorem c_X4_share (l : Launch) (D : va_G) (cy : cyT) {H : Heap} {y0 : Int64} {y2 : Int64}  {res : Int64} (hf : f_X4_share y0 y2 = some res) : Met l yX4_share wsX4_share ({ frames := 0, cells := 0, slots := 0, locals := 0 } : Room) (PcR D cy H [.long y0, .long y2]) (vp_Sl (fun r => r = res)) 0 0 (fun _ => False) := by
  refine Met.ofW (cc := cX4_share) (maxL := 4) (ret := (some .long)) (by decide) rfl ?_
  intro p e s m args below meth c s₁ B hml hv
  obtain ⟨hav, hH, hK⟩ := hv
  have hx := B.exec
  have hb := B.bytes
  have hr := B.returns
  have hts := atoms_spec (ws := wsX4_share) B.pre
  have hown : s.vm.findClass RX4 = some m.cls := findClass_of_methodNamed B.named
  have hlocks := B.notSynchronized
  subst hav
  subst hH
  have F : CallFix p m c cX4_share 4 s _ wsX4_share RX4 := ⟨hx, hb, hml, hown, hts⟩
  have hB13 : ∀ (s0 : Int64) (ls : Array Slot), lv_has ls 4 [] → f_X4_share_B13 s0 = some res → W p l e (headSpec wsX4_share ({ frames := 0, cells := 0, slots := 0, locals := 0 } : Room)).room s m ([.long y0, .long y2] : List Value).toArray below meth c s.heap [] 0 0 (MQ below (vp_Sl (fun r => r = res)) ([.long y0, .long y2] : List Value).toArray s 0 0 (fun _ => False)) (F0 m 13 ls [.long s0]) := by
    intro s0 ls hl hf
    unfold f_X4_share_B13 at hf
    exact W.lret (v := s0) hx hb hr (fun t ht hW => ⟨_, rfl, Option.some.inj hf, ht⟩) (fun _ h => by cases h) dX4_share_13
  have hl := lv_entry ([.long y0, .long y2]) (n := 4) (Nat.le_of_ble_eq_true rfl)
  rw [lg_entry_eq]
  generalize (lg_sl ([.long y0, .long y2]) ++ List.replicate (4 - (lg_sl ([.long y0, .long y2])).length) Slot.unset).toArray = ls at hl ⊢
  have hl : lv_has ls 4 [(0, .long y0), (2, .long y2)] := hl
  unfold f_X4_share at hf
  refine lv_lload_n hx hb dX4_share_0 rfl (lv_at hl 1 rfl) ?_
  refine lv_lconst (v := 1) hx hb dX4_share_1 (by decide) ?_
  refine W.lcmp hx hb dX4_share_2 ?_
  refine lv_if_ge (tgt := 10) hx hb dX4_share_3 (by decide) (fun c3 => ?_) (fun c3 => ?_)
  · have hf := it_t ((lq_ge _ _).mp c3) hf
    refine lv_lload_n hx hb dX4_share_10 rfl (lv_at hl 0 rfl) ?_
    refine lv_lload_n hx hb dX4_share_11 rfl (lv_at hl 1 rfl) ?_
    obtain ⟨c4, hf⟩ := ckd_some hf
    refine lv_ldiv hx hb dX4_share_12 c4 ?_
    exact hB13 (y0 / y2) _ (lv_sub hl [] rfl)  hf
  · have hf := it_f (fun z => c3 ((lq_ge _ _).mpr z)) hf
    refine lv_lconst (v := 0) hx hb dX4_share_6 (by decide) ?_
    refine lv_goto (tgt := 13) hx hb dX4_share_7 (by decide) ?_
    exact hB13 0 _ (lv_sub hl [] rfl)  hf
def f_X4_inverse_B79 (x8 : Int64) : Option Int64 :=
  some x8
def f_X4_inverse_L15s (kL15 : Int64 → Int64 → Int64 → Int64 → Int32 → Option Int64) (ke79 : Int64 → Option Int64) (x4 : Int64) (x6 : Int64) (x8 : Int64) (x10 : Int64) (x12 : Int32) : Option Int64 :=
  if 200 ≤ x12 then (ke79 x8) else
  if x6 ≤ 0 then (ke79 x8) else
  ck (decide (¬ x6 = 0)) (
  kL15 x6 (x4 - ((x4 / x6) * x6)) x10 (x8 - ((x4 / x6) * x10)) (x12 + 1))
def f_X4_inverse_L15 (ke79 : Int64 → Option Int64) (fu : Nat) : Int64 → Int64 → Int64 → Int64 → Int32 → Option Int64 := fx (fun kL => f_X4_inverse_L15s kL ke79) (fun _ _ _ _ _ => none) fu
def f_X4_inverse (x0 : Int64) (x2 : Int64) : Option Int64 :=
  f_X4_inverse_L15 f_X4_inverse_B79 FU x2 x0 0 1 0
set_option maxHeartbeats 4000000 in
set_option maxRecDepth 100000 in
theorem c_X4_inverse (l : Launch) (D : va_G) (cy : cyT) {H : Heap} {y0 : Int64} {y2 : Int64}  {res : Int64} (hf : f_X4_inverse y0 y2 = some res) : Met l yX4_inverse wsX4_inverse ({ frames := 0, cells := 0, slots := 0, locals := 0 } : Room) (PcR D cy H [.long y0, .long y2]) (vp_Sl (fun r => r = res)) 0 0 (fun _ => False) := by
  refine Met.ofW (cc := cX4_inverse) (maxL := 19) (ret := (some .long)) (by decide) rfl ?_
  intro p e s m args below meth c s₁ B hml hv
  obtain ⟨hav, hH, hK⟩ := hv
  have hx := B.exec
  have hb := B.bytes
  have hr := B.returns
  have hts := atoms_spec (ws := wsX4_inverse) B.pre
  have hown : s.vm.findClass RX4 = some m.cls := findClass_of_methodNamed B.named
  have hlocks := B.notSynchronized
  subst hav
  subst hH
  have F : CallFix p m c cX4_inverse 19 s _ wsX4_inverse RX4 := ⟨hx, hb, hml, hown, hts⟩
  have hB79 : ∀ (x8 : Int64) (ls : Array Slot), lv_has ls 19 [(8, .long x8)] → f_X4_inverse_B79 x8 = some res → W p l e (headSpec wsX4_inverse ({ frames := 0, cells := 0, slots := 0, locals := 0 } : Room)).room s m ([.long y0, .long y2] : List Value).toArray below meth c s.heap [] 0 0 (MQ below (vp_Sl (fun r => r = res)) ([.long y0, .long y2] : List Value).toArray s 0 0 (fun _ => False)) (F0 m 79 ls []) := by
    intro x8 ls hl hf
    unfold f_X4_inverse_B79 at hf
    refine lv_lload hx hb dX4_inverse_79 (lv_at hl 0 rfl) ?_
    exact W.lret (v := x8) hx hb hr (fun t ht hW => ⟨_, rfl, Option.some.inj hf, ht⟩) (fun _ h => by cases h) dX4_inverse_81
  have hL15 : ∀ (fu : Nat), ∀ (x4 : Int64) (x6 : Int64) (x8 : Int64) (x10 : Int64) (x12 : Int32) (ls : Array Slot), lv_has ls 19 [(4, .long x4), (6, .long x6), (8, .long x8), (10, .long x10), (12, .int x12)] → f_X4_inverse_L15 f_X4_inverse_B79 fu x4 x6 x8 x10 x12 = some res → W p l e (headSpec wsX4_inverse ({ frames := 0, cells := 0, slots := 0, locals := 0 } : Room)).room s m ([.long y0, .long y2] : List Value).toArray below meth c s.heap [] 0 0 (MQ below (vp_Sl (fun r => r = res)) ([.long y0, .long y2] : List Value).toArray s 0 0 (fun _ => False)) (F0 m 15 ls []) := by
    intro fu
    induction fu with
    | zero =>
      intro x4 x6 x8 x10 x12 ls hl hf
      have hf : (none : Option Int64) = some res := hf
      cases hf
    | succ fu ih15 =>
      intro x4 x6 x8 x10 x12 ls hl hf
      have hf : f_X4_inverse_L15s (f_X4_inverse_L15 f_X4_inverse_B79 fu) f_X4_inverse_B79 x4 x6 x8 x10 x12 = some res := hf
      unfold f_X4_inverse_L15s at hf
      refine lv_iload hx hb dX4_inverse_15 (lv_at hl 4 rfl) ?_
      refine lv_sipush (v := 200) hx hb dX4_inverse_17 (by decide) ?_
      refine lv_icmp_ge (tgt := 79) hx hb dX4_inverse_20 (by decide) (fun c4 => ?_) (fun c4 => ?_)
      · have hf := it_t c4 hf
        exact hB79 x8 _ (lv_sub hl [2] rfl)  hf
      · have hf := it_f c4 hf
        refine lv_lload hx hb dX4_inverse_23 (lv_at hl 1 rfl) ?_
        refine lv_lconst (v := 0) hx hb dX4_inverse_25 (by decide) ?_
        refine W.lcmp hx hb dX4_inverse_26 ?_
        refine lv_if_le (tgt := 79) hx hb dX4_inverse_27 (by decide) (fun c5 => ?_) (fun c5 => ?_)
        · have hf := it_t ((lq_le _ _).mp c5) hf
          exact hB79 x8 _ (lv_sub hl [2] rfl)  hf
        · have hf := it_f (fun z => c5 ((lq_le _ _).mpr z)) hf
          refine lv_lload hx hb dX4_inverse_30 (lv_at hl 0 rfl) ?_
          refine lv_lload hx hb dX4_inverse_32 (lv_at hl 1 rfl) ?_
          obtain ⟨c6, hf⟩ := ckd_some hf
          refine lv_ldiv hx hb dX4_inverse_34 c6 ?_
          refine lv_lstore (lv' := [(13, .long (x4 / x6)), (4, .long x4), (6, .long x6), (8, .long x8), (10, .long x10), (12, .int x12)]) hx hb dX4_inverse_35 hl (by decide) rfl (fun ls hl => ?_)
          refine lv_lload hx hb dX4_inverse_37 (lv_at hl 1 rfl) ?_
          refine lv_lload hx hb dX4_inverse_39 (lv_at hl 0 rfl) ?_
          refine lv_lload hx hb dX4_inverse_41 (lv_at hl 2 rfl) ?_
          refine lv_lmul hx hb dX4_inverse_43 ?_
          refine lv_lsub hx hb dX4_inverse_44 ?_
          refine lv_lstore (lv' := [(15, .long (x4 - ((x4 / x6) * x6))), (13, .long (x4 / x6)), (4, .long x4), (6, .long x6), (8, .long x8), (10, .long x10), (12, .int x12)]) hx hb dX4_inverse_45 hl (by decide) rfl (fun ls hl => ?_)
          refine lv_lload hx hb dX4_inverse_47 (lv_at hl 4 rfl) ?_
          refine lv_lload hx hb dX4_inverse_49 (lv_at hl 1 rfl) ?_
          refine lv_lload hx hb dX4_inverse_51 (lv_at hl 5 rfl) ?_
          refine lv_lmul hx hb dX4_inverse_53 ?_
          refine lv_lsub hx hb dX4_inverse_54 ?_
          refine lv_lstore (lv' := [(17, .long (x8 - ((x4 / x6) * x10))), (15, .long (x4 - ((x4 / x6) * x6))), (13, .long (x4 / x6)), (4, .long x4), (6, .long x6), (8, .long x8), (10, .long x10), (12, .int x12)]) hx hb dX4_inverse_55 hl (by decide) rfl (fun ls hl => ?_)
          refine lv_lload hx hb dX4_inverse_57 (lv_at hl 4 rfl) ?_
          refine lv_lstore (lv' := [(4, .long x6), (17, .long (x8 - ((x4 / x6) * x10))), (15, .long (x4 - ((x4 / x6) * x6))), (13, .long (x4 / x6)), (6, .long x6), (8, .long x8), (10, .long x10), (12, .int x12)]) hx hb dX4_inverse_59 hl (by decide) rfl (fun ls hl => ?_)
          refine lv_lload hx hb dX4_inverse_61 (lv_at hl 2 rfl) ?_
          refine lv_lstore (lv' := [(6, .long (x4 - ((x4 / x6) * x6))), (4, .long x6), (17, .long (x8 - ((x4 / x6) * x10))), (15, .long (x4 - ((x4 / x6) * x6))), (13, .long (x4 / x6)), (8, .long x8), (10, .long x10), (12, .int x12)]) hx hb dX4_inverse_63 hl (by decide) rfl (fun ls hl => ?_)
          refine lv_lload hx hb dX4_inverse_65 (lv_at hl 6 rfl) ?_
          refine lv_lstore (lv' := [(8, .long x10), (6, .long (x4 - ((x4 / x6) * x6))), (4, .long x6), (17, .long (x8 - ((x4 / x6) * x10))), (15, .long (x4 - ((x4 / x6) * x6))), (13, .long (x4 / x6)), (10, .long x10), (12, .int x12)]) hx hb dX4_inverse_67 hl (by decide) rfl (fun ls hl => ?_)
          refine lv_lload hx hb dX4_inverse_69 (lv_at hl 3 rfl) ?_
          refine lv_lstore (lv' := [(10, .long (x8 - ((x4 / x6) * x10))), (8, .long x10), (6, .long (x4 - ((x4 / x6) * x6))), (4, .long x6), (17, .long (x8 - ((x4 / x6) * x10))), (15, .long (x4 - ((x4 / x6) * x6))), (13, .long (x4 / x6)), (12, .int x12)]) hx hb dX4_inverse_71 hl (by decide) rfl (fun ls hl => ?_)
          refine lv_iinc (v := x12 + 1) (lv' := [(12, .int (x12 + 1)), (10, .long (x8 - ((x4 / x6) * x10))), (8, .long x10), (6, .long (x4 - ((x4 / x6) * x6))), (4, .long x6), (17, .long (x8 - ((x4 / x6) * x10))), (15, .long (x4 - ((x4 / x6) * x6))), (13, .long (x4 / x6))]) hx hb dX4_inverse_73 hl (k := 7) rfl (by rfl) (by decide) rfl (fun ls hl => ?_)
          refine lv_goto (tgt := 15) hx hb dX4_inverse_76 (by decide) ?_
          exact ih15 x6 (x4 - ((x4 / x6) * x6)) x10 (x8 - ((x4 / x6) * x10)) (x12 + 1) _ (lv_sub hl [4, 3, 2, 1, 0] rfl)  hf
  have hl := lv_entry ([.long y0, .long y2]) (n := 19) (Nat.le_of_ble_eq_true rfl)
  rw [lg_entry_eq]
  generalize (lg_sl ([.long y0, .long y2]) ++ List.replicate (19 - (lg_sl ([.long y0, .long y2])).length) Slot.unset).toArray = ls at hl ⊢
  have hl : lv_has ls 19 [(0, .long y0), (2, .long y2)] := hl
  unfold f_X4_inverse at hf
  refine lv_lload_n hx hb dX4_inverse_0 rfl (lv_at hl 1 rfl) ?_
  refine lv_lstore (lv' := [(4, .long y2), (0, .long y0), (2, .long y2)]) hx hb dX4_inverse_1 hl (by decide) rfl (fun ls hl => ?_)
  refine lv_lload_n hx hb dX4_inverse_3 rfl (lv_at hl 1 rfl) ?_
  refine lv_lstore (lv' := [(6, .long y0), (4, .long y2), (0, .long y0), (2, .long y2)]) hx hb dX4_inverse_4 hl (by decide) rfl (fun ls hl => ?_)
  refine lv_lconst (v := 0) hx hb dX4_inverse_6 (by decide) ?_
  refine lv_lstore (lv' := [(8, .long 0), (6, .long y0), (4, .long y2), (0, .long y0), (2, .long y2)]) hx hb dX4_inverse_7 hl (by decide) rfl (fun ls hl => ?_)
  refine lv_lconst (v := 1) hx hb dX4_inverse_9 (by decide) ?_
  refine lv_lstore (lv' := [(10, .long 1), (8, .long 0), (6, .long y0), (4, .long y2), (0, .long y0), (2, .long y2)]) hx hb dX4_inverse_10 hl (by decide) rfl (fun ls hl => ?_)
  refine lv_iconst (v := 0) hx hb dX4_inverse_12 (by decide) ?_
  refine lv_istore (lv' := [(12, .int 0), (10, .long 1), (8, .long 0), (6, .long y0), (4, .long y2), (0, .long y0), (2, .long y2)]) hx hb dX4_inverse_13 hl (by decide) rfl (fun ls hl => ?_)
  exact hL15 FU y2 y0 0 1 0 _ (lv_sub hl [4, 3, 2, 1, 0] rfl)  hf
def f_X0_init_B99 (S : PS) : Option PS :=
  some (S)
def f_X0_init (S : PS) (x0 : Nat) (x1 : Int32) (x2 : Int32) (x3 : Int32) : Option PS :=
  bd (f_X4_commonDivisor x1.toInt64 x3.toInt64) fun t1 =>
  bd (f_X4_rest x2.toInt64 t1) fun t4 =>
  if t4 = 0 then (bd (f_X4_share x3.toInt64 t1) fun t8 =>
  bd (f_X4_share x2.toInt64 t1) fun t11 =>
  bd (f_X4_share x1.toInt64 t1) fun t14 =>
  bd (f_X4_inverse t14 t8) fun t17 =>
  bd (f_X4_rest (t11 * t17) t8) fun t20 =>
  f_X0_init_B99 (sI (sI (sI (sI (sI S 0 x0 x1) 1 x0 x2) 2 x0 x3) 3 x0 t8.toInt32) 4 x0 t20.toInt32)) else
  f_X0_init_B99 (sI (sI (sI (sI (sI S 0 x0 x1) 1 x0 x2) 2 x0 x3) 3 x0 ((-1))) 4 x0 ((-1)))
set_option maxHeartbeats 4000000 in
set_option maxRecDepth 100000 in
theorem c_X0_init (l : Launch) (D : va_G) (cy : cyT) {S : PS} {n : Nat} {y0 : Nat} {y1 : Int32} {y2 : Int32} {y3 : Int32} (v_y0 : vd S y0 0) {res : PS} (hf : f_X0_init S y0 y1 y2 y3 = some res) : Met l yX0_init wsX0_init ({ frames := 1, cells := 0, slots := 0, locals := 38 } : Room) (PcW False D cy S n [.ref y0, .int y1, .int y2, .int y3]) (va_Qv (fun (u : PS × Nat) => u = (res, n)) (BW D cy S n) (AA cy S n)) 0 0 (AA cy S n) := by
  refine Met.ofW (cc := cX0_init) (maxL := 8) (ret := none) (by decide) rfl ?_
  intro p e s m args below meth c s₁ B hml hv
  obtain ⟨hav, hsz, hP0, hD0, hK, hZ0⟩ := hv
  have hx := B.exec
  have hb := B.bytes
  have hr := B.returns
  have hts := atoms_spec (ws := wsX0_init) B.pre
  have hown : s.vm.findClass RX0 = some m.cls := findClass_of_methodNamed B.named
  have hlocks := B.notSynchronized
  have hin : meth.name = "<init>" := (name_of_methodNamed B.named B.method).1
  subst hav
  have hw : Hw D cy (AA cy S n) s.heap S n s.heap [] := Hw.start hsz hP0 hD0
  have hA : ∀ q, s.heap.size ≤ q → AA cy S n q := fun q h => Or.inr (hsz ▸ h)
  have hE : EX S S := EX.rf
  have F : CallFix p m c cX0_init 8 s _ wsX0_init RX0 := ⟨hx, hb, hml, hown, hts⟩
  have hB99 : ∀ (Sb : PS) (H1 : Heap) (lo1 : List Loc)  (ls : Array Slot), lv_has ls 8 [] → Hw D cy (AA cy S n) s.heap Sb n H1 lo1 → EX S Sb → f_X0_init_B99 Sb = some res → W p l e (headSpec wsX0_init ({ frames := 1, cells := 0, slots := 0, locals := 38 } : Room)).room s m ([.ref y0, .int y1, .int y2, .int y3] : List Value).toArray below meth c H1 lo1 0 0 (MQ below (va_Qv (fun (u : PS × Nat) => u = (res, n)) (BW D cy S n) (AA cy S n)) ([.ref y0, .int y1, .int y2, .int y3] : List Value).toArray s 0 0 (AA cy S n)) (F0 m 99 ls []) := by
    intro Sb H1 lo1 ls hl hw hE hf
    unfold f_X0_init_B99 at hf
    exact W.vret hx hb hr (fun t ht hW => ⟨⟨(Sb, n), rfl, po1 hf, BW.of hw hE ht⟩, hw.2.2.1.F ht⟩) hw.2.2.1.2.2 dX0_init_99
  have hl := lv_entry ([.ref y0, .int y1, .int y2, .int y3]) (n := 8) (Nat.le_of_ble_eq_true rfl)
  rw [lg_entry_eq]
  generalize (lg_sl ([.ref y0, .int y1, .int y2, .int y3]) ++ List.replicate (8 - (lg_sl ([.ref y0, .int y1, .int y2, .int y3])).length) Slot.unset).toArray = ls at hl ⊢
  have hl : lv_has ls 8 [(0, .ref y0), (1, .int y1), (2, .int y2), (3, .int y3)] := hl
  unfold f_X0_init at hf
  refine lv_aload_n hx hb dX0_init_0 rfl (lv_at hl 0 rfl) ?_
  refine W.objInit hx hb hown (hts (.methodLink RX0 3 objectInit) (List.mem_of_getElem? (i := 1) rfl)) (hts (.instanceMethod objectInit) (List.mem_of_getElem? (i := 2) rfl)) (hts (.code objectInit ⟨#[0xb1]⟩ 1 none) (List.mem_of_getElem? (i := 3) rfl)) rfl (by rw [hml]; exact hl.1) rfl dX0_init_1 (Nat.le_of_ble_eq_true rfl) (Nat.le_of_ble_eq_true rfl) ?_
  refine W.eq (g2 := F0 m 4 ls []) rfl ?_
  refine lv_aload_n hx hb dX0_init_4 rfl (lv_at hl 0 rfl) ?_
  refine lv_iload_n hx hb dX0_init_5 rfl (lv_at hl 1 rfl) ?_
  refine q_put F hK hw v_y0.1 (pF_0 (S := S) v_y0.2) (fun w h => List.mem_cons_of_mem _ (List.mem_append_right _ h)) tyX0 tyX0_ok nmX0 rfl 0 (by decide) (hts (.fieldLink RX0 9 "SharedModuli$Condition" "facto\x72" "I") (List.mem_of_getElem? (i := 4) rfl)) (Or.inr ⟨hin, rfl⟩) (tyX0_ok 0 (by decide)) rfl rfl (Nat.le_of_ble_eq_true rfl) (S1 := sI S 0 y0 y1) (st_0 (S := S) v_y0.2 y1) dX0_init_6 (fun H locs hw => ?_)
  refine lv_aload_n hx hb dX0_init_9 rfl (lv_at hl 0 rfl) ?_
  refine lv_iload_n hx hb dX0_init_10 rfl (lv_at hl 2 rfl) ?_
  refine q_put F hK hw v_y0.1 (pF_0 (S := sI S 0 y0 y1) v_y0.2) (fun w h => List.mem_cons_of_mem _ (List.mem_append_right _ h)) tyX0 tyX0_ok nmX0 rfl 1 (by decide) (hts (.fieldLink RX0 15 "SharedModuli$Condition" "remainde\x72" "I") (List.mem_of_getElem? (i := 5) rfl)) (Or.inr ⟨hin, rfl⟩) (tyX0_ok 1 (by decide)) rfl rfl (Nat.le_of_ble_eq_true rfl) (S1 := sI (sI S 0 y0 y1) 1 y0 y2) (st_1 (S := sI S 0 y0 y1) v_y0.2 y2) dX0_init_11 (fun H locs hw => ?_)
  refine lv_aload_n hx hb dX0_init_14 rfl (lv_at hl 0 rfl) ?_
  refine lv_iload_n hx hb dX0_init_15 rfl (lv_at hl 3 rfl) ?_
  refine q_put F hK hw v_y0.1 (pF_0 (S := sI (sI S 0 y0 y1) 1 y0 y2) v_y0.2) (fun w h => List.mem_cons_of_mem _ (List.mem_append_right _ h)) tyX0 tyX0_ok nmX0 rfl 2 (by decide) (hts (.fieldLink RX0 18 "SharedModuli$Condition" "modulus" "I") (List.mem_of_getElem? (i := 6) rfl)) (Or.inr ⟨hin, rfl⟩) (tyX0_ok 2 (by decide)) rfl rfl (Nat.le_of_ble_eq_true rfl) (S1 := sI (sI (sI S 0 y0 y1) 1 y0 y2) 2 y0 y3) (st_2 (S := sI (sI S 0 y0 y1) 1 y0 y2) v_y0.2 y3) dX0_init_16 (fun H locs hw => ?_)
  refine lv_iload_n hx hb dX0_init_19 rfl (lv_at hl 1 rfl) ?_
  refine lv_i2l hx hb dX0_init_20 rfl ?_
  refine lv_iload_n hx hb dX0_init_21 rfl (lv_at hl 3 rfl) ?_
  refine lv_i2l hx hb dX0_init_22 rfl ?_
  obtain ⟨t23, h24, hf⟩ := bd_some hf
  refine vp_callSl (va_runSN (As := [.long y1.toInt64, .long y3.toInt64]) (rest := []) F (c_X4_commonDivisor l D cy (H := _)  h24) ⟨(va_cnB 2 hts gX0_init_X4_commonDivisor_n21 rfl rfl rfl (nk_m_RX0_21 hK.2.1) (hts (.initialized RX4) (List.mem_of_getElem? (i := 10) rfl)) ⟨ph_X4_commonDivisor.1, ph_X4_commonDivisor.2, pd_X4_commonDivisor⟩ ⟨Nat.le_of_ble_eq_true rfl, Nat.le_of_ble_eq_true rfl⟩), (hts (.static yX4_commonDivisor) (List.mem_of_getElem? (i := 9) rfl)), trivial⟩ ⟨PcR.bl, PcR.in hK⟩ rfl rfl hl.1 rfl (lv_room (Nat.le_of_ble_eq_true rfl)) dX0_init_23 ⟨Nat.zero_le _, Nat.zero_le _⟩).run (fun r25 er25 => ?_)
  subst r25
  refine lv_lstore (lv' := [(4, .long t23), (0, .ref y0), (1, .int y1), (2, .int y2), (3, .int y3)]) hx hb dX0_init_26 hl (by decide) rfl (fun ls hl => ?_)
  refine lv_iload_n hx hb dX0_init_28 rfl (lv_at hl 3 rfl) ?_
  refine lv_i2l hx hb dX0_init_29 rfl ?_
  refine lv_lload hx hb dX0_init_30 (lv_at hl 0 rfl) ?_
  obtain ⟨t26, h27, hf⟩ := bd_some hf
  refine vp_callSl (va_runSN (As := [.long y2.toInt64, .long t23]) (rest := []) F (c_X4_rest l D cy (H := _)  h27) ⟨(va_cnB 2 hts gX0_init_X4_rest_n25 rfl rfl rfl (nk_m_RX0_25 hK.2.1) (hts (.initialized RX4) (List.mem_of_getElem? (i := 10) rfl)) ⟨ph_X4_rest.1, ph_X4_rest.2, pd_X4_rest⟩ ⟨Nat.le_of_ble_eq_true rfl, Nat.le_of_ble_eq_true rfl⟩), (hts (.static yX4_rest) (List.mem_of_getElem? (i := 12) rfl)), trivial⟩ ⟨PcR.bl, PcR.in hK⟩ rfl rfl hl.1 rfl (lv_room (Nat.le_of_ble_eq_true rfl)) dX0_init_32 ⟨Nat.zero_le _, Nat.zero_le _⟩).run (fun r28 er28 => ?_)
  subst r28
  refine lv_lconst (v := 0) hx hb dX0_init_35 (by decide) ?_
  refine W.lcmp hx hb dX0_init_36 ?_
  refine lv_if_eq (tgt := 53) hx hb dX0_init_37 (by decide) (fun c29 => ?_) (fun c29 => ?_)
  · have hf := it_t ((lq_eq _ _).mp c29) hf
    refine lv_iload_n hx hb dX0_init_53 rfl (lv_at hl 4 rfl) ?_
    refine lv_i2l hx hb dX0_init_54 rfl ?_
    refine lv_lload hx hb dX0_init_55 (lv_at hl 0 rfl) ?_
    obtain ⟨t30, h31, hf⟩ := bd_some hf
    refine vp_callSl (va_runSN (As := [.long y3.toInt64, .long t23]) (rest := []) F (c_X4_share l D cy (H := _)  h31) ⟨(va_cnB 2 hts gX0_init_X4_share_n34 rfl rfl rfl (nk_m_RX0_34 hK.2.1) (hts (.initialized RX4) (List.mem_of_getElem? (i := 10) rfl)) ⟨ph_X4_share.1, ph_X4_share.2, pd_X4_share⟩ ⟨Nat.le_of_ble_eq_true rfl, Nat.le_of_ble_eq_true rfl⟩), (hts (.static yX4_share) (List.mem_of_getElem? (i := 14) rfl)), trivial⟩ ⟨PcR.bl, PcR.in hK⟩ rfl rfl hl.1 rfl (lv_room (Nat.le_of_ble_eq_true rfl)) dX0_init_57 ⟨Nat.zero_le _, Nat.zero_le _⟩).run (fun r32 er32 => ?_)
    subst r32
    refine lv_lstore (lv' := [(6, .long t30), (4, .long t23), (0, .ref y0), (1, .int y1), (2, .int y2), (3, .int y3)]) hx hb dX0_init_60 hl (by decide) rfl (fun ls hl => ?_)
    refine lv_aload_n hx hb dX0_init_62 rfl (lv_at hl 2 rfl) ?_
    refine lv_lload hx hb dX0_init_63 (lv_at hl 0 rfl) ?_
    refine lv_l2i hx hb dX0_init_65 rfl ?_
    refine q_put F hK hw v_y0.1 (pF_0 (S := sI (sI (sI S 0 y0 y1) 1 y0 y2) 2 y0 y3) v_y0.2) (fun w h => List.mem_cons_of_mem _ (List.mem_append_right _ h)) tyX0 tyX0_ok nmX0 rfl 3 (by decide) (hts (.fieldLink RX0 28 "SharedModuli$Condition" "bareModulus" "I") (List.mem_of_getElem? (i := 7) rfl)) (Or.inr ⟨hin, rfl⟩) (tyX0_ok 3 (by decide)) rfl rfl (Nat.le_of_ble_eq_true rfl) (S1 := sI (sI (sI (sI S 0 y0 y1) 1 y0 y2) 2 y0 y3) 3 y0 t30.toInt32) (st_3 (S := sI (sI (sI S 0 y0 y1) 1 y0 y2) 2 y0 y3) v_y0.2 t30.toInt32) dX0_init_66 (fun H locs hw => ?_)
    refine lv_aload_n hx hb dX0_init_69 rfl (lv_at hl 2 rfl) ?_
    refine lv_iload_n hx hb dX0_init_70 rfl (lv_at hl 4 rfl) ?_
    refine lv_i2l hx hb dX0_init_71 rfl ?_
    refine lv_lload hx hb dX0_init_72 (lv_at hl 1 rfl) ?_
    obtain ⟨t33, h34, hf⟩ := bd_some hf
    refine vp_callSl (va_runSN (As := [.long y2.toInt64, .long t23]) (rest := [.ref y0]) F (c_X4_share l D cy (H := _)  h34) ⟨(va_cnB 2 hts gX0_init_X4_share_n34 rfl rfl rfl (nk_m_RX0_34 hK.2.1) (hts (.initialized RX4) (List.mem_of_getElem? (i := 10) rfl)) ⟨ph_X4_share.1, ph_X4_share.2, pd_X4_share⟩ ⟨Nat.le_of_ble_eq_true rfl, Nat.le_of_ble_eq_true rfl⟩), (hts (.static yX4_share) (List.mem_of_getElem? (i := 14) rfl)), trivial⟩ ⟨PcR.bl, PcR.in hK⟩ rfl rfl hl.1 rfl (lv_room (Nat.le_of_ble_eq_true rfl)) dX0_init_74 ⟨Nat.zero_le _, Nat.zero_le _⟩).run (fun r35 er35 => ?_)
    subst r35
    refine lv_iload_n hx hb dX0_init_77 rfl (lv_at hl 3 rfl) ?_
    refine lv_i2l hx hb dX0_init_78 rfl ?_
    refine lv_lload hx hb dX0_init_79 (lv_at hl 1 rfl) ?_
    obtain ⟨t36, h37, hf⟩ := bd_some hf
    refine vp_callSl (va_runSN (As := [.long y1.toInt64, .long t23]) (rest := [.long t33, .ref y0]) F (c_X4_share l D cy (H := _)  h37) ⟨(va_cnB 2 hts gX0_init_X4_share_n34 rfl rfl rfl (nk_m_RX0_34 hK.2.1) (hts (.initialized RX4) (List.mem_of_getElem? (i := 10) rfl)) ⟨ph_X4_share.1, ph_X4_share.2, pd_X4_share⟩ ⟨Nat.le_of_ble_eq_true rfl, Nat.le_of_ble_eq_true rfl⟩), (hts (.static yX4_share) (List.mem_of_getElem? (i := 14) rfl)), trivial⟩ ⟨PcR.bl, PcR.in hK⟩ rfl rfl hl.1 rfl (lv_room (Nat.le_of_ble_eq_true rfl)) dX0_init_81 ⟨Nat.zero_le _, Nat.zero_le _⟩).run (fun r38 er38 => ?_)
    subst r38
    refine lv_lload hx hb dX0_init_84 (lv_at hl 0 rfl) ?_
    obtain ⟨t39, h40, hf⟩ := bd_some hf
    refine vp_callSl (va_runSN (As := [.long t36, .long t30]) (rest := [.long t33, .ref y0]) F (c_X4_inverse l D cy (H := _)  h40) ⟨(va_cnB 2 hts gX0_init_X4_inverse_n37 rfl rfl rfl (nk_m_RX0_37 hK.2.1) (hts (.initialized RX4) (List.mem_of_getElem? (i := 10) rfl)) ⟨ph_X4_inverse.1, ph_X4_inverse.2, pd_X4_inverse⟩ ⟨Nat.le_of_ble_eq_true rfl, Nat.le_of_ble_eq_true rfl⟩), (hts (.static yX4_inverse) (List.mem_of_getElem? (i := 16) rfl)), trivial⟩ ⟨PcR.bl, PcR.in hK⟩ rfl rfl hl.1 rfl (lv_room (Nat.le_of_ble_eq_true rfl)) dX0_init_86 ⟨Nat.zero_le _, Nat.zero_le _⟩).run (fun r41 er41 => ?_)
    subst r41
    refine lv_lmul hx hb dX0_init_89 ?_
    refine lv_lload hx hb dX0_init_90 (lv_at hl 0 rfl) ?_
    obtain ⟨t42, h43, hf⟩ := bd_some hf
    refine vp_callSl (va_runSN (As := [.long (t33 * t39), .long t30]) (rest := [.ref y0]) F (c_X4_rest l D cy (H := _)  h43) ⟨(va_cnB 2 hts gX0_init_X4_rest_n25 rfl rfl rfl (nk_m_RX0_25 hK.2.1) (hts (.initialized RX4) (List.mem_of_getElem? (i := 10) rfl)) ⟨ph_X4_rest.1, ph_X4_rest.2, pd_X4_rest⟩ ⟨Nat.le_of_ble_eq_true rfl, Nat.le_of_ble_eq_true rfl⟩), (hts (.static yX4_rest) (List.mem_of_getElem? (i := 12) rfl)), trivial⟩ ⟨PcR.bl, PcR.in hK⟩ rfl rfl hl.1 rfl (lv_room (Nat.le_of_ble_eq_true rfl)) dX0_init_92 ⟨Nat.zero_le _, Nat.zero_le _⟩).run (fun r44 er44 => ?_)
    subst r44
    refine lv_l2i hx hb dX0_init_95 rfl ?_
    refine q_put F hK hw v_y0.1 (pF_0 (S := sI (sI (sI (sI S 0 y0 y1) 1 y0 y2) 2 y0 y3) 3 y0 t30.toInt32) v_y0.2) (fun w h => List.mem_cons_of_mem _ (List.mem_append_right _ h)) tyX0 tyX0_ok nmX0 rfl 4 (by decide) (hts (.fieldLink RX0 31 "SharedModuli$Condition" "bareRemainde\x72" "I") (List.mem_of_getElem? (i := 8) rfl)) (Or.inr ⟨hin, rfl⟩) (tyX0_ok 4 (by decide)) rfl rfl (Nat.le_of_ble_eq_true rfl) (S1 := sI (sI (sI (sI (sI S 0 y0 y1) 1 y0 y2) 2 y0 y3) 3 y0 t30.toInt32) 4 y0 t42.toInt32) (st_4 (S := sI (sI (sI (sI S 0 y0 y1) 1 y0 y2) 2 y0 y3) 3 y0 t30.toInt32) v_y0.2 t42.toInt32) dX0_init_96 (fun H locs hw => ?_)
    exact hB99 (sI (sI (sI (sI (sI S 0 y0 y1) 1 y0 y2) 2 y0 y3) 3 y0 t30.toInt32) 4 y0 t42.toInt32) _ _ _ (lv_sub hl [] rfl) hw hE  hf
  · have hf := it_f (fun z => c29 ((lq_eq _ _).mpr z)) hf
    refine lv_aload_n hx hb dX0_init_40 rfl (lv_at hl 1 rfl) ?_
    refine lv_iconst (v := (-1)) hx hb dX0_init_41 (by decide) ?_
    refine q_put F hK hw v_y0.1 (pF_0 (S := sI (sI (sI S 0 y0 y1) 1 y0 y2) 2 y0 y3) v_y0.2) (fun w h => List.mem_cons_of_mem _ (List.mem_append_right _ h)) tyX0 tyX0_ok nmX0 rfl 3 (by decide) (hts (.fieldLink RX0 28 "SharedModuli$Condition" "bareModulus" "I") (List.mem_of_getElem? (i := 7) rfl)) (Or.inr ⟨hin, rfl⟩) (tyX0_ok 3 (by decide)) rfl rfl (Nat.le_of_ble_eq_true rfl) (S1 := sI (sI (sI (sI S 0 y0 y1) 1 y0 y2) 2 y0 y3) 3 y0 ((-1))) (st_3 (S := sI (sI (sI S 0 y0 y1) 1 y0 y2) 2 y0 y3) v_y0.2 ((-1))) dX0_init_42 (fun H locs hw => ?_)
    refine lv_aload_n hx hb dX0_init_45 rfl (lv_at hl 1 rfl) ?_
    refine lv_iconst (v := (-1)) hx hb dX0_init_46 (by decide) ?_
    refine q_put F hK hw v_y0.1 (pF_0 (S := sI (sI (sI (sI S 0 y0 y1) 1 y0 y2) 2 y0 y3) 3 y0 ((-1))) v_y0.2) (fun w h => List.mem_cons_of_mem _ (List.mem_append_right _ h)) tyX0 tyX0_ok nmX0 rfl 4 (by decide) (hts (.fieldLink RX0 31 "SharedModuli$Condition" "bareRemainde\x72" "I") (List.mem_of_getElem? (i := 8) rfl)) (Or.inr ⟨hin, rfl⟩) (tyX0_ok 4 (by decide)) rfl rfl (Nat.le_of_ble_eq_true rfl) (S1 := sI (sI (sI (sI (sI S 0 y0 y1) 1 y0 y2) 2 y0 y3) 3 y0 ((-1))) 4 y0 ((-1))) (st_4 (S := sI (sI (sI (sI S 0 y0 y1) 1 y0 y2) 2 y0 y3) 3 y0 ((-1))) v_y0.2 ((-1))) dX0_init_47 (fun H locs hw => ?_)
    refine lv_goto (tgt := 99) hx hb dX0_init_50 (by decide) ?_
    exact hB99 (sI (sI (sI (sI (sI S 0 y0 y1) 1 y0 y2) 2 y0 y3) 3 y0 ((-1))) 4 y0 ((-1))) _ _ _ (lv_sub hl [] rfl) hw hE  hf
def f_X0_isVoid_B13 (S : PS) (s0 : Int32) : Option Int32 :=
  ck (decide (s0 &&& 1 = s0)) (
  some s0)
def f_X0_isVoid (S : PS) (x0 : Nat) : Option Int32 :=
  if (fI S 3 x0) = ((-1)) then (f_X0_isVoid_B13 S 1) else
  f_X0_isVoid_B13 S 0
set_option maxHeartbeats 4000000 in
set_option maxRecDepth 100000 in
theorem c_X0_isVoid (l : Launch) (D : va_G) (cy : cyT) {H : Heap} {S : PS} (hP : va_P D vwCl (wl cy S) H) {y0 : Nat} (v_y0 : vd S y0 0) {res : Int32} (hf : f_X0_isVoid S y0 = some res) : Met l yX0_isVoid wsX0_isVoid ({ frames := 0, cells := 0, slots := 0, locals := 0 } : Room) (PcR D cy H [.ref y0]) (vp_Si (fun r => r = res)) 0 0 (fun _ => False) := by
  refine Met.ofW (cc := cX0_isVoid) (maxL := 1) (ret := (some .boolean)) (by decide) rfl ?_
  intro p e s m args below meth c s₁ B hml hv
  obtain ⟨hav, hH, hK⟩ := hv
  have hx := B.exec
  have hb := B.bytes
  have hr := B.returns
  have hts := atoms_spec (ws := wsX0_isVoid) B.pre
  have hown : s.vm.findClass RX0 = some m.cls := findClass_of_methodNamed B.named
  have hlocks := B.notSynchronized
  subst hav
  subst hH
  have F : CallFix p m c cX0_isVoid 1 s _ wsX0_isVoid RX0 := ⟨hx, hb, hml, hown, hts⟩
  have hB13 : ∀ (s0 : Int32) (ls : Array Slot), lv_has ls 1 [] → f_X0_isVoid_B13 S s0 = some res → W p l e (headSpec wsX0_isVoid ({ frames := 0, cells := 0, slots := 0, locals := 0 } : Room)).room s m ([.ref y0] : List Value).toArray below meth c s.heap [] 0 0 (MQ below (vp_Si (fun r => r = res)) ([.ref y0] : List Value).toArray s 0 0 (fun _ => False)) (F0 m 13 ls [.int s0]) := by
    intro s0 ls hl hf
    unfold f_X0_isVoid_B13 at hf
    obtain ⟨c3, hf⟩ := ckd_some hf
    exact W.zret (v := s0) hx hb hr (nz c3) (fun t ht hW => ⟨_, rfl, Option.some.inj hf, ht⟩) (fun _ h => by cases h) dX0_isVoid_13
  have hl := lv_entry ([.ref y0]) (n := 1) (Nat.le_of_ble_eq_true rfl)
  rw [lg_entry_eq]
  generalize (lg_sl ([.ref y0]) ++ List.replicate (1 - (lg_sl ([.ref y0])).length) Slot.unset).toArray = ls at hl ⊢
  have hl : lv_has ls 1 [(0, .ref y0)] := hl
  unfold f_X0_isVoid at hf
  refine lv_aload_n hx hb dX0_isVoid_0 rfl (lv_at hl 0 rfl) ?_
  refine q_get F hK hP v_y0.1 (pF_0 (S := S) v_y0.2) (fun w h => List.mem_cons_of_mem _ (List.mem_append_right _ h)) rfl 3 (by decide) (hts (.fieldLink RX0 28 "SharedModuli$Condition" "bareModulus" "I") (List.mem_of_getElem? (i := 1) rfl)) (v := .int (fI S 3 y0)) rfl dX0_isVoid_1 ?_
  refine lv_iconst (v := (-1)) hx hb dX0_isVoid_4 (by decide) ?_
  refine lv_icmp_ne (tgt := 12) hx hb dX0_isVoid_5 (by decide) (fun c4 => ?_) (fun c4 => ?_)
  · have hf := it_f c4 hf
    refine lv_iconst (v := 0) hx hb dX0_isVoid_12 (by decide) ?_
    exact hB13 0 _ (lv_sub hl [] rfl)  hf
  · have hf := it_t c4 hf
    refine lv_iconst (v := 1) hx hb dX0_isVoid_8 (by decide) ?_
    refine lv_goto (tgt := 13) hx hb dX0_isVoid_9 (by decide) ?_
    exact hB13 1 _ (lv_sub hl [] rfl)  hf
def f_X0_isPartnerOf_B14 (S : PS)  : Option Int32 :=
  some 0
def f_X0_isPartnerOf_B57 (S : PS) (s0 : Int32) : Option Int32 :=
  ck (decide (s0 &&& 1 = s0)) (
  some s0)
def f_X0_isPartnerOf (S : PS) (x0 : Nat) (x1 : Nat) : Option Int32 :=
  bd (f_X0_isVoid S x0) fun t2 =>
  if t2 = 0 then (bd (f_X0_isVoid S x1) fun t6 =>
  if t6 = 0 then (bd (f_X4_commonDivisor ((fI S 3 x0).toInt64) ((fI S 3 x1).toInt64)) fun t10 =>
  bd (f_X4_rest ((fI S 4 x0).toInt64) t10) fun t13 =>
  bd (f_X4_rest ((fI S 4 x1).toInt64) t10) fun t16 =>
  if t13 = t16 then (f_X0_isPartnerOf_B57 S 1) else
  f_X0_isPartnerOf_B57 S 0) else
  f_X0_isPartnerOf_B14 S) else
  f_X0_isPartnerOf_B14 S
set_option maxHeartbeats 4000000 in
set_option maxRecDepth 100000 in
theorem c_X0_isPartnerOf (l : Launch) (D : va_G) (cy : cyT) {H : Heap} {S : PS} (hP : va_P D vwCl (wl cy S) H) {y0 : Nat} {y1 : Nat} (v_y0 : vd S y0 0) (v_y1 : vd S y1 0) {res : Int32} (hf : f_X0_isPartnerOf S y0 y1 = some res) : Met l yX0_isPartnerOf wsX0_isPartnerOf ({ frames := 1, cells := 0, slots := 0, locals := 30 } : Room) (PcR D cy H [.ref y0, .ref y1]) (vp_Si (fun r => r = res)) 0 0 (fun _ => False) := by
  refine Met.ofW (cc := cX0_isPartnerOf) (maxL := 4) (ret := (some .boolean)) (by decide) rfl ?_
  intro p e s m args below meth c s₁ B hml hv
  obtain ⟨hav, hH, hK⟩ := hv
  have hx := B.exec
  have hb := B.bytes
  have hr := B.returns
  have hts := atoms_spec (ws := wsX0_isPartnerOf) B.pre
  have hown : s.vm.findClass RX0 = some m.cls := findClass_of_methodNamed B.named
  have hlocks := B.notSynchronized
  subst hav
  subst hH
  have F : CallFix p m c cX0_isPartnerOf 4 s _ wsX0_isPartnerOf RX0 := ⟨hx, hb, hml, hown, hts⟩
  have hB14 : ∀  (ls : Array Slot), lv_has ls 4 [] → f_X0_isPartnerOf_B14 S = some res → W p l e (headSpec wsX0_isPartnerOf ({ frames := 1, cells := 0, slots := 0, locals := 30 } : Room)).room s m ([.ref y0, .ref y1] : List Value).toArray below meth c s.heap [] 0 0 (MQ below (vp_Si (fun r => r = res)) ([.ref y0, .ref y1] : List Value).toArray s 0 0 (fun _ => False)) (F0 m 14 ls []) := by
    intro ls hl hf
    unfold f_X0_isPartnerOf_B14 at hf
    refine lv_iconst (v := 0) hx hb dX0_isPartnerOf_14 (by decide) ?_
    exact W.zret (v := 0) hx hb hr rfl (fun t ht hW => ⟨_, rfl, Option.some.inj hf, ht⟩) (fun _ h => by cases h) dX0_isPartnerOf_15
  have hB57 : ∀ (s0 : Int32) (ls : Array Slot), lv_has ls 4 [] → f_X0_isPartnerOf_B57 S s0 = some res → W p l e (headSpec wsX0_isPartnerOf ({ frames := 1, cells := 0, slots := 0, locals := 30 } : Room)).room s m ([.ref y0, .ref y1] : List Value).toArray below meth c s.heap [] 0 0 (MQ below (vp_Si (fun r => r = res)) ([.ref y0, .ref y1] : List Value).toArray s 0 0 (fun _ => False)) (F0 m 57 ls [.int s0]) := by
    intro s0 ls hl hf
    unfold f_X0_isPartnerOf_B57 at hf
    obtain ⟨c20, hf⟩ := ckd_some hf
    exact W.zret (v := s0) hx hb hr (nz c20) (fun t ht hW => ⟨_, rfl, Option.some.inj hf, ht⟩) (fun _ h => by cases h) dX0_isPartnerOf_57
  have hl := lv_entry ([.ref y0, .ref y1]) (n := 4) (Nat.le_of_ble_eq_true rfl)
  rw [lg_entry_eq]
  generalize (lg_sl ([.ref y0, .ref y1]) ++ List.replicate (4 - (lg_sl ([.ref y0, .ref y1])).length) Slot.unset).toArray = ls at hl ⊢
  have hl : lv_has ls 4 [(0, .ref y0), (1, .ref y1)] := hl
  unfold f_X0_isPartnerOf at hf
  refine lv_aload_n hx hb dX0_isPartnerOf_0 rfl (lv_at hl 0 rfl) ?_
  obtain ⟨t21, h22, hf⟩ := bd_some hf
  refine vp_callSi (va_runV (As := []) (rest := []) F (c_X0_isVoid l D cy (H := _) hP v_y0 h22) (cwV 0 hts gX0_isPartnerOf_X0_isVoid rfl rfl rfl ⟨rfl, ph_X0_isVoid.1, ph_X0_isVoid.2, pd_X0_isVoid⟩ ⟨Nat.le_of_ble_eq_true rfl, Nat.le_of_ble_eq_true rfl⟩) ⟨PcR.bl, (q_rcv hK hP v_y0.1 (pF_0 (S := S) v_y0.2) rfl), PcR.in hK⟩ rfl rfl hl.1 rfl (lv_room (Nat.le_of_ble_eq_true rfl)) dX0_isPartnerOf_1 ⟨Nat.zero_le _, Nat.zero_le _⟩).run (fun r23 er23 => ?_)
  subst r23
  refine lv_if_ne (tgt := 14) hx hb dX0_isPartnerOf_4 (by decide) (fun c24 => ?_) (fun c24 => ?_)
  · have hf := it_f c24 hf
    exact hB14 _ (lv_sub hl [] rfl)  hf
  · have hf := it_t c24 hf
    refine lv_aload_n hx hb dX0_isPartnerOf_7 rfl (lv_at hl 1 rfl) ?_
    obtain ⟨t25, h26, hf⟩ := bd_some hf
    refine vp_callSi (va_runV (As := []) (rest := []) F (c_X0_isVoid l D cy (H := _) hP v_y1 h26) (cwV 0 hts gX0_isPartnerOf_X0_isVoid rfl rfl rfl ⟨rfl, ph_X0_isVoid.1, ph_X0_isVoid.2, pd_X0_isVoid⟩ ⟨Nat.le_of_ble_eq_true rfl, Nat.le_of_ble_eq_true rfl⟩) ⟨PcR.bl, (q_rcv hK hP v_y1.1 (pF_0 (S := S) v_y1.2) rfl), PcR.in hK⟩ rfl rfl hl.1 rfl (lv_room (Nat.le_of_ble_eq_true rfl)) dX0_isPartnerOf_8 ⟨Nat.zero_le _, Nat.zero_le _⟩).run (fun r27 er27 => ?_)
    subst r27
    refine lv_if_eq (tgt := 16) hx hb dX0_isPartnerOf_11 (by decide) (fun c28 => ?_) (fun c28 => ?_)
    · have hf := it_t c28 hf
      refine lv_aload_n hx hb dX0_isPartnerOf_16 rfl (lv_at hl 0 rfl) ?_
      refine q_get F hK hP v_y0.1 (pF_0 (S := S) v_y0.2) (fun w h => List.mem_cons_of_mem _ (List.mem_append_right _ h)) rfl 3 (by decide) (hts (.fieldLink RX0 28 "SharedModuli$Condition" "bareModulus" "I") (List.mem_of_getElem? (i := 1) rfl)) (v := .int (fI S 3 y0)) rfl dX0_isPartnerOf_17 ?_
      refine lv_i2l hx hb dX0_isPartnerOf_20 rfl ?_
      refine lv_aload_n hx hb dX0_isPartnerOf_21 rfl (lv_at hl 1 rfl) ?_
      refine q_get F hK hP v_y1.1 (pF_0 (S := S) v_y1.2) (fun w h => List.mem_cons_of_mem _ (List.mem_append_right _ h)) rfl 3 (by decide) (hts (.fieldLink RX0 28 "SharedModuli$Condition" "bareModulus" "I") (List.mem_of_getElem? (i := 1) rfl)) (v := .int (fI S 3 y1)) rfl dX0_isPartnerOf_22 ?_
      refine lv_i2l hx hb dX0_isPartnerOf_25 rfl ?_
      obtain ⟨t29, h30, hf⟩ := bd_some hf
      refine vp_callSl (va_runSN (As := [.long ((fI S 3 y0).toInt64), .long ((fI S 3 y1).toInt64)]) (rest := []) F (c_X4_commonDivisor l D cy (H := _)  h30) ⟨(va_cnB 2 hts gX0_isPartnerOf_X4_commonDivisor_n21 rfl rfl rfl (nk_m_RX0_21 hK.2.1) (hts (.initialized RX4) (List.mem_of_getElem? (i := 9) rfl)) ⟨ph_X4_commonDivisor.1, ph_X4_commonDivisor.2, pd_X4_commonDivisor⟩ ⟨Nat.le_of_ble_eq_true rfl, Nat.le_of_ble_eq_true rfl⟩), (hts (.static yX4_commonDivisor) (List.mem_of_getElem? (i := 8) rfl)), trivial⟩ ⟨PcR.bl, PcR.in hK⟩ rfl rfl hl.1 rfl (lv_room (Nat.le_of_ble_eq_true rfl)) dX0_isPartnerOf_26 ⟨Nat.zero_le _, Nat.zero_le _⟩).run (fun r31 er31 => ?_)
      subst r31
      refine lv_lstore_n (lv' := [(2, .long t29), (0, .ref y0), (1, .ref y1)]) hx hb dX0_isPartnerOf_29 rfl hl (by decide) rfl (fun ls hl => ?_)
      refine lv_aload_n hx hb dX0_isPartnerOf_30 rfl (lv_at hl 1 rfl) ?_
      refine q_get F hK hP v_y0.1 (pF_0 (S := S) v_y0.2) (fun w h => List.mem_cons_of_mem _ (List.mem_append_right _ h)) rfl 4 (by decide) (hts (.fieldLink RX0 31 "SharedModuli$Condition" "bareRemainde\x72" "I") (List.mem_of_getElem? (i := 2) rfl)) (v := .int (fI S 4 y0)) rfl dX0_isPartnerOf_31 ?_
      refine lv_i2l hx hb dX0_isPartnerOf_34 rfl ?_
      refine lv_lload_n hx hb dX0_isPartnerOf_35 rfl (lv_at hl 0 rfl) ?_
      obtain ⟨t32, h33, hf⟩ := bd_some hf
      refine vp_callSl (va_runSN (As := [.long ((fI S 4 y0).toInt64), .long t29]) (rest := []) F (c_X4_rest l D cy (H := _)  h33) ⟨(va_cnB 2 hts gX0_isPartnerOf_X4_rest_n25 rfl rfl rfl (nk_m_RX0_25 hK.2.1) (hts (.initialized RX4) (List.mem_of_getElem? (i := 9) rfl)) ⟨ph_X4_rest.1, ph_X4_rest.2, pd_X4_rest⟩ ⟨Nat.le_of_ble_eq_true rfl, Nat.le_of_ble_eq_true rfl⟩), (hts (.static yX4_rest) (List.mem_of_getElem? (i := 11) rfl)), trivial⟩ ⟨PcR.bl, PcR.in hK⟩ rfl rfl hl.1 rfl (lv_room (Nat.le_of_ble_eq_true rfl)) dX0_isPartnerOf_36 ⟨Nat.zero_le _, Nat.zero_le _⟩).run (fun r34 er34 => ?_)
      subst r34
      refine lv_aload_n hx hb dX0_isPartnerOf_39 rfl (lv_at hl 2 rfl) ?_
      refine q_get F hK hP v_y1.1 (pF_0 (S := S) v_y1.2) (fun w h => List.mem_cons_of_mem _ (List.mem_append_right _ h)) rfl 4 (by decide) (hts (.fieldLink RX0 31 "SharedModuli$Condition" "bareRemainde\x72" "I") (List.mem_of_getElem? (i := 2) rfl)) (v := .int (fI S 4 y1)) rfl dX0_isPartnerOf_40 ?_
      refine lv_i2l hx hb dX0_isPartnerOf_43 rfl ?_
      refine lv_lload_n hx hb dX0_isPartnerOf_44 rfl (lv_at hl 0 rfl) ?_
      obtain ⟨t35, h36, hf⟩ := bd_some hf
      refine vp_callSl (va_runSN (As := [.long ((fI S 4 y1).toInt64), .long t29]) (rest := [.long t32]) F (c_X4_rest l D cy (H := _)  h36) ⟨(va_cnB 2 hts gX0_isPartnerOf_X4_rest_n25 rfl rfl rfl (nk_m_RX0_25 hK.2.1) (hts (.initialized RX4) (List.mem_of_getElem? (i := 9) rfl)) ⟨ph_X4_rest.1, ph_X4_rest.2, pd_X4_rest⟩ ⟨Nat.le_of_ble_eq_true rfl, Nat.le_of_ble_eq_true rfl⟩), (hts (.static yX4_rest) (List.mem_of_getElem? (i := 11) rfl)), trivial⟩ ⟨PcR.bl, PcR.in hK⟩ rfl rfl hl.1 rfl (lv_room (Nat.le_of_ble_eq_true rfl)) dX0_isPartnerOf_45 ⟨Nat.zero_le _, Nat.zero_le _⟩).run (fun r37 er37 => ?_)
      subst r37
      refine W.lcmp hx hb dX0_isPartnerOf_48 ?_
      refine lv_if_ne (tgt := 56) hx hb dX0_isPartnerOf_49 (by decide) (fun c38 => ?_) (fun c38 => ?_)
      · have hf := it_f (fun z => c38 ((lq_eq _ _).mpr z)) hf
        refine lv_iconst (v := 0) hx hb dX0_isPartnerOf_56 (by decide) ?_
        exact hB57 0 _ (lv_sub hl [] rfl)  hf
      · have hf := it_t ((lq_eq _ _).mp c38) hf
        refine lv_iconst (v := 1) hx hb dX0_isPartnerOf_52 (by decide) ?_
        refine lv_goto (tgt := 57) hx hb dX0_isPartnerOf_53 (by decide) ?_
        exact hB57 1 _ (lv_sub hl [] rfl)  hf
    · have hf := it_f c28 hf
      exact hB14 _ (lv_sub hl [] rfl)  hf
def f_X0_isFulfilledBy_B30 (S : PS) (s0 : Int32) : Option Int32 :=
  ck (decide (s0 &&& 1 = s0)) (
  some s0)
def f_X0_isFulfilledBy_B29 (S : PS)  : Option Int32 :=
  f_X0_isFulfilledBy_B30 S 0
def f_X0_isFulfilledBy (S : PS) (x0 : Nat) (x1 : Int64) : Option Int32 :=
  bd (f_X0_isVoid S x0) fun t2 =>
  if t2 = 0 then (bd (f_X4_rest x1 ((fI S 3 x0).toInt64)) fun t6 =>
  if t6 = ((fI S 4 x0).toInt64) then (f_X0_isFulfilledBy_B30 S 1) else
  f_X0_isFulfilledBy_B29 S) else
  f_X0_isFulfilledBy_B29 S
set_option maxHeartbeats 4000000 in
set_option maxRecDepth 100000 in
theorem c_X0_isFulfilledBy (l : Launch) (D : va_G) (cy : cyT) {H : Heap} {S : PS} (hP : va_P D vwCl (wl cy S) H) {y0 : Nat} {y1 : Int64} (v_y0 : vd S y0 0) {res : Int32} (hf : f_X0_isFulfilledBy S y0 y1 = some res) : Met l yX0_isFulfilledBy wsX0_isFulfilledBy ({ frames := 1, cells := 0, slots := 0, locals := 25 } : Room) (PcR D cy H [.ref y0, .long y1]) (vp_Si (fun r => r = res)) 0 0 (fun _ => False) := by
  refine Met.ofW (cc := cX0_isFulfilledBy) (maxL := 3) (ret := (some .boolean)) (by decide) rfl ?_
  intro p e s m args below meth c s₁ B hml hv
  obtain ⟨hav, hH, hK⟩ := hv
  have hx := B.exec
  have hb := B.bytes
  have hr := B.returns
  have hts := atoms_spec (ws := wsX0_isFulfilledBy) B.pre
  have hown : s.vm.findClass RX0 = some m.cls := findClass_of_methodNamed B.named
  have hlocks := B.notSynchronized
  subst hav
  subst hH
  have F : CallFix p m c cX0_isFulfilledBy 3 s _ wsX0_isFulfilledBy RX0 := ⟨hx, hb, hml, hown, hts⟩
  have hB30 : ∀ (s0 : Int32) (ls : Array Slot), lv_has ls 3 [] → f_X0_isFulfilledBy_B30 S s0 = some res → W p l e (headSpec wsX0_isFulfilledBy ({ frames := 1, cells := 0, slots := 0, locals := 25 } : Room)).room s m ([.ref y0, .long y1] : List Value).toArray below meth c s.heap [] 0 0 (MQ below (vp_Si (fun r => r = res)) ([.ref y0, .long y1] : List Value).toArray s 0 0 (fun _ => False)) (F0 m 30 ls [.int s0]) := by
    intro s0 ls hl hf
    unfold f_X0_isFulfilledBy_B30 at hf
    obtain ⟨c10, hf⟩ := ckd_some hf
    exact W.zret (v := s0) hx hb hr (nz c10) (fun t ht hW => ⟨_, rfl, Option.some.inj hf, ht⟩) (fun _ h => by cases h) dX0_isFulfilledBy_30
  have hB29 : ∀  (ls : Array Slot), lv_has ls 3 [] → f_X0_isFulfilledBy_B29 S = some res → W p l e (headSpec wsX0_isFulfilledBy ({ frames := 1, cells := 0, slots := 0, locals := 25 } : Room)).room s m ([.ref y0, .long y1] : List Value).toArray below meth c s.heap [] 0 0 (MQ below (vp_Si (fun r => r = res)) ([.ref y0, .long y1] : List Value).toArray s 0 0 (fun _ => False)) (F0 m 29 ls []) := by
    intro ls hl hf
    unfold f_X0_isFulfilledBy_B29 at hf
    refine lv_iconst (v := 0) hx hb dX0_isFulfilledBy_29 (by decide) ?_
    exact hB30 0 _ (lv_sub hl [] rfl)  hf
  have hl := lv_entry ([.ref y0, .long y1]) (n := 3) (Nat.le_of_ble_eq_true rfl)
  rw [lg_entry_eq]
  generalize (lg_sl ([.ref y0, .long y1]) ++ List.replicate (3 - (lg_sl ([.ref y0, .long y1])).length) Slot.unset).toArray = ls at hl ⊢
  have hl : lv_has ls 3 [(0, .ref y0), (1, .long y1)] := hl
  unfold f_X0_isFulfilledBy at hf
  refine lv_aload_n hx hb dX0_isFulfilledBy_0 rfl (lv_at hl 0 rfl) ?_
  obtain ⟨t11, h12, hf⟩ := bd_some hf
  refine vp_callSi (va_runV (As := []) (rest := []) F (c_X0_isVoid l D cy (H := _) hP v_y0 h12) (cwV 0 hts gX0_isFulfilledBy_X0_isVoid rfl rfl rfl ⟨rfl, ph_X0_isVoid.1, ph_X0_isVoid.2, pd_X0_isVoid⟩ ⟨Nat.le_of_ble_eq_true rfl, Nat.le_of_ble_eq_true rfl⟩) ⟨PcR.bl, (q_rcv hK hP v_y0.1 (pF_0 (S := S) v_y0.2) rfl), PcR.in hK⟩ rfl rfl hl.1 rfl (lv_room (Nat.le_of_ble_eq_true rfl)) dX0_isFulfilledBy_1 ⟨Nat.zero_le _, Nat.zero_le _⟩).run (fun r13 er13 => ?_)
  subst r13
  refine lv_if_ne (tgt := 29) hx hb dX0_isFulfilledBy_4 (by decide) (fun c14 => ?_) (fun c14 => ?_)
  · have hf := it_f c14 hf
    exact hB29 _ (lv_sub hl [] rfl)  hf
  · have hf := it_t c14 hf
    refine lv_lload_n hx hb dX0_isFulfilledBy_7 rfl (lv_at hl 1 rfl) ?_
    refine lv_aload_n hx hb dX0_isFulfilledBy_8 rfl (lv_at hl 0 rfl) ?_
    refine q_get F hK hP v_y0.1 (pF_0 (S := S) v_y0.2) (fun w h => List.mem_cons_of_mem _ (List.mem_append_right _ h)) rfl 3 (by decide) (hts (.fieldLink RX0 28 "SharedModuli$Condition" "bareModulus" "I") (List.mem_of_getElem? (i := 1) rfl)) (v := .int (fI S 3 y0)) rfl dX0_isFulfilledBy_9 ?_
    refine lv_i2l hx hb dX0_isFulfilledBy_12 rfl ?_
    obtain ⟨t15, h16, hf⟩ := bd_some hf
    refine vp_callSl (va_runSN (As := [.long y1, .long ((fI S 3 y0).toInt64)]) (rest := []) F (c_X4_rest l D cy (H := _)  h16) ⟨(va_cnB 2 hts gX0_isFulfilledBy_X4_rest_n25 rfl rfl rfl (nk_m_RX0_25 hK.2.1) (hts (.initialized RX4) (List.mem_of_getElem? (i := 9) rfl)) ⟨ph_X4_rest.1, ph_X4_rest.2, pd_X4_rest⟩ ⟨Nat.le_of_ble_eq_true rfl, Nat.le_of_ble_eq_true rfl⟩), (hts (.static yX4_rest) (List.mem_of_getElem? (i := 8) rfl)), trivial⟩ ⟨PcR.bl, PcR.in hK⟩ rfl rfl hl.1 rfl (lv_room (Nat.le_of_ble_eq_true rfl)) dX0_isFulfilledBy_13 ⟨Nat.zero_le _, Nat.zero_le _⟩).run (fun r17 er17 => ?_)
    subst r17
    refine lv_aload_n hx hb dX0_isFulfilledBy_16 rfl (lv_at hl 0 rfl) ?_
    refine q_get F hK hP v_y0.1 (pF_0 (S := S) v_y0.2) (fun w h => List.mem_cons_of_mem _ (List.mem_append_right _ h)) rfl 4 (by decide) (hts (.fieldLink RX0 31 "SharedModuli$Condition" "bareRemainde\x72" "I") (List.mem_of_getElem? (i := 2) rfl)) (v := .int (fI S 4 y0)) rfl dX0_isFulfilledBy_17 ?_
    refine lv_i2l hx hb dX0_isFulfilledBy_20 rfl ?_
    refine W.lcmp hx hb dX0_isFulfilledBy_21 ?_
    refine lv_if_ne (tgt := 29) hx hb dX0_isFulfilledBy_22 (by decide) (fun c18 => ?_) (fun c18 => ?_)
    · have hf := it_f (fun z => c18 ((lq_eq _ _).mpr z)) hf
      exact hB29 _ (lv_sub hl [] rfl)  hf
    · have hf := it_t ((lq_eq _ _).mp c18) hf
      refine lv_iconst (v := 1) hx hb dX0_isFulfilledBy_25 (by decide) ?_
      refine lv_goto (tgt := 30) hx hb dX0_isFulfilledBy_26 (by decide) ?_
      exact hB30 1 _ (lv_sub hl [] rfl)  hf
def f_X3_has_B17 (S : PS) (s0 : Int32) : Option Int32 :=
  ck (decide (s0 &&& 1 = s0)) (
  some s0)
def f_X3_has_B16 (S : PS)  : Option Int32 :=
  f_X3_has_B17 S 0
def f_X3_has (S : PS) (x0 : Nat) (x1 : Int32) : Option Int32 :=
  if x1 < 0 then (f_X3_has_B16 S) else
  if (fI S 51 x0) ≤ x1 then (f_X3_has_B16 S) else
  f_X3_has_B17 S 1
set_option maxHeartbeats 4000000 in
set_option maxRecDepth 100000 in
theorem c_X3_has (l : Launch) (D : va_G) (cy : cyT) {H : Heap} {S : PS} (hP : va_P D vwCl (wl cy S) H) {y0 : Nat} {y1 : Int32} (v_y0 : vd S y0 3) {res : Int32} (hf : f_X3_has S y0 y1 = some res) : Met l yX3_has wsX3_has ({ frames := 0, cells := 0, slots := 0, locals := 0 } : Room) (PcR D cy H [.ref y0, .int y1]) (vp_Si (fun r => r = res)) 0 0 (fun _ => False) := by
  refine Met.ofW (cc := cX3_has) (maxL := 2) (ret := (some .boolean)) (by decide) rfl ?_
  intro p e s m args below meth c s₁ B hml hv
  obtain ⟨hav, hH, hK⟩ := hv
  have hx := B.exec
  have hb := B.bytes
  have hr := B.returns
  have hts := atoms_spec (ws := wsX3_has) B.pre
  have hown : s.vm.findClass RX3 = some m.cls := findClass_of_methodNamed B.named
  have hlocks := B.notSynchronized
  subst hav
  subst hH
  have F : CallFix p m c cX3_has 2 s _ wsX3_has RX3 := ⟨hx, hb, hml, hown, hts⟩
  have hB17 : ∀ (s0 : Int32) (ls : Array Slot), lv_has ls 2 [] → f_X3_has_B17 S s0 = some res → W p l e (headSpec wsX3_has ({ frames := 0, cells := 0, slots := 0, locals := 0 } : Room)).room s m ([.ref y0, .int y1] : List Value).toArray below meth c s.heap [] 0 0 (MQ below (vp_Si (fun r => r = res)) ([.ref y0, .int y1] : List Value).toArray s 0 0 (fun _ => False)) (F0 m 17 ls [.int s0]) := by
    intro s0 ls hl hf
    unfold f_X3_has_B17 at hf
    obtain ⟨c4, hf⟩ := ckd_some hf
    exact W.zret (v := s0) hx hb hr (nz c4) (fun t ht hW => ⟨_, rfl, Option.some.inj hf, ht⟩) (fun _ h => by cases h) dX3_has_17
  have hB16 : ∀  (ls : Array Slot), lv_has ls 2 [] → f_X3_has_B16 S = some res → W p l e (headSpec wsX3_has ({ frames := 0, cells := 0, slots := 0, locals := 0 } : Room)).room s m ([.ref y0, .int y1] : List Value).toArray below meth c s.heap [] 0 0 (MQ below (vp_Si (fun r => r = res)) ([.ref y0, .int y1] : List Value).toArray s 0 0 (fun _ => False)) (F0 m 16 ls []) := by
    intro ls hl hf
    unfold f_X3_has_B16 at hf
    refine lv_iconst (v := 0) hx hb dX3_has_16 (by decide) ?_
    exact hB17 0 _ (lv_sub hl [] rfl)  hf
  have hl := lv_entry ([.ref y0, .int y1]) (n := 2) (Nat.le_of_ble_eq_true rfl)
  rw [lg_entry_eq]
  generalize (lg_sl ([.ref y0, .int y1]) ++ List.replicate (2 - (lg_sl ([.ref y0, .int y1])).length) Slot.unset).toArray = ls at hl ⊢
  have hl : lv_has ls 2 [(0, .ref y0), (1, .int y1)] := hl
  unfold f_X3_has at hf
  refine lv_iload_n hx hb dX3_has_0 rfl (lv_at hl 1 rfl) ?_
  refine lv_if_lt (tgt := 16) hx hb dX3_has_1 (by decide) (fun c5 => ?_) (fun c5 => ?_)
  · have hf := it_t c5 hf
    exact hB16 _ (lv_sub hl [] rfl)  hf
  · have hf := it_f c5 hf
    refine lv_iload_n hx hb dX3_has_4 rfl (lv_at hl 1 rfl) ?_
    refine lv_aload_n hx hb dX3_has_5 rfl (lv_at hl 0 rfl) ?_
    refine q_get F hK hP v_y0.1 (pF_3 (S := S) v_y0.2) (fun w h => List.mem_cons_of_mem _ (List.mem_append_right _ h)) rfl 3 (by decide) (hts (.fieldLink RX3 25 "SharedModuli$State" "size" "I") (List.mem_of_getElem? (i := 1) rfl)) (v := .int (fI S 51 y0)) rfl dX3_has_6 ?_
    refine lv_icmp_ge (tgt := 16) hx hb dX3_has_9 (by decide) (fun c6 => ?_) (fun c6 => ?_)
    · have hf := it_t c6 hf
      exact hB16 _ (lv_sub hl [] rfl)  hf
    · have hf := it_f c6 hf
      refine lv_iconst (v := 1) hx hb dX3_has_12 (by decide) ?_
      refine lv_goto (tgt := 17) hx hb dX3_has_13 (by decide) ?_
      exact hB17 1 _ (lv_sub hl [] rfl)  hf
def f_X4_bit (x0 : Int32) : Option Int32 :=
  some (1 <<< (x0 &&& 31))
set_option maxHeartbeats 4000000 in
set_option maxRecDepth 100000 in
theorem c_X4_bit (l : Launch) (D : va_G) (cy : cyT) {H : Heap} {y0 : Int32}  {res : Int32} (hf : f_X4_bit y0 = some res) : Met l yX4_bit wsX4_bit ({ frames := 0, cells := 0, slots := 0, locals := 0 } : Room) (PcR D cy H [.int y0]) (vp_Si (fun r => r = res)) 0 0 (fun _ => False) := by
  refine Met.ofW (cc := cX4_bit) (maxL := 1) (ret := (some .int)) (by decide) rfl ?_
  intro p e s m args below meth c s₁ B hml hv
  obtain ⟨hav, hH, hK⟩ := hv
  have hx := B.exec
  have hb := B.bytes
  have hr := B.returns
  have hts := atoms_spec (ws := wsX4_bit) B.pre
  have hown : s.vm.findClass RX4 = some m.cls := findClass_of_methodNamed B.named
  have hlocks := B.notSynchronized
  subst hav
  subst hH
  have F : CallFix p m c cX4_bit 1 s _ wsX4_bit RX4 := ⟨hx, hb, hml, hown, hts⟩
  have hl := lv_entry ([.int y0]) (n := 1) (Nat.le_of_ble_eq_true rfl)
  rw [lg_entry_eq]
  generalize (lg_sl ([.int y0]) ++ List.replicate (1 - (lg_sl ([.int y0])).length) Slot.unset).toArray = ls at hl ⊢
  have hl : lv_has ls 1 [(0, .int y0)] := hl
  unfold f_X4_bit at hf
  refine lv_iconst (v := 1) hx hb dX4_bit_0 (by decide) ?_
  refine lv_iload_n hx hb dX4_bit_1 rfl (lv_at hl 0 rfl) ?_
  refine lv_ishl hx hb dX4_bit_2 ?_
  exact W.iret (v := (1 <<< (y0 &&& 31))) hx hb hr (fun t ht hW => ⟨_, rfl, Option.some.inj hf, ht⟩) (fun _ h => by cases h) dX4_bit_3
def f_X3_isOn_B25 (S : PS) (s0 : Int32) : Option Int32 :=
  ck (decide (s0 &&& 1 = s0)) (
  some s0)
def f_X3_isOn_B24 (S : PS)  : Option Int32 :=
  f_X3_isOn_B25 S 0
def f_X3_isOn (S : PS) (x0 : Nat) (x1 : Int32) : Option Int32 :=
  bd (f_X3_has S x0 x1) fun t2 =>
  if t2 = 0 then (f_X3_isOn_B24 S) else
  bd (f_X4_bit x1) fun t6 =>
  if ((fI S 52 x0) &&& t6) = 0 then (f_X3_isOn_B24 S) else
  f_X3_isOn_B25 S 1
set_option maxHeartbeats 4000000 in
set_option maxRecDepth 100000 in
theorem c_X3_isOn (l : Launch) (D : va_G) (cy : cyT) {H : Heap} {S : PS} (hP : va_P D vwCl (wl cy S) H) {y0 : Nat} {y1 : Int32} (v_y0 : vd S y0 3) {res : Int32} (hf : f_X3_isOn S y0 y1 = some res) : Met l yX3_isOn wsX3_isOn ({ frames := 1, cells := 0, slots := 0, locals := 21 } : Room) (PcR D cy H [.ref y0, .int y1]) (vp_Si (fun r => r = res)) 0 0 (fun _ => False) := by
  refine Met.ofW (cc := cX3_isOn) (maxL := 2) (ret := (some .boolean)) (by decide) rfl ?_
  intro p e s m args below meth c s₁ B hml hv
  obtain ⟨hav, hH, hK⟩ := hv
  have hx := B.exec
  have hb := B.bytes
  have hr := B.returns
  have hts := atoms_spec (ws := wsX3_isOn) B.pre
  have hown : s.vm.findClass RX3 = some m.cls := findClass_of_methodNamed B.named
  have hlocks := B.notSynchronized
  subst hav
  subst hH
  have F : CallFix p m c cX3_isOn 2 s _ wsX3_isOn RX3 := ⟨hx, hb, hml, hown, hts⟩
  have hB25 : ∀ (s0 : Int32) (ls : Array Slot), lv_has ls 2 [] → f_X3_isOn_B25 S s0 = some res → W p l e (headSpec wsX3_isOn ({ frames := 1, cells := 0, slots := 0, locals := 21 } : Room)).room s m ([.ref y0, .int y1] : List Value).toArray below meth c s.heap [] 0 0 (MQ below (vp_Si (fun r => r = res)) ([.ref y0, .int y1] : List Value).toArray s 0 0 (fun _ => False)) (F0 m 25 ls [.int s0]) := by
    intro s0 ls hl hf
    unfold f_X3_isOn_B25 at hf
    obtain ⟨c10, hf⟩ := ckd_some hf
    exact W.zret (v := s0) hx hb hr (nz c10) (fun t ht hW => ⟨_, rfl, Option.some.inj hf, ht⟩) (fun _ h => by cases h) dX3_isOn_25
  have hB24 : ∀  (ls : Array Slot), lv_has ls 2 [] → f_X3_isOn_B24 S = some res → W p l e (headSpec wsX3_isOn ({ frames := 1, cells := 0, slots := 0, locals := 21 } : Room)).room s m ([.ref y0, .int y1] : List Value).toArray below meth c s.heap [] 0 0 (MQ below (vp_Si (fun r => r = res)) ([.ref y0, .int y1] : List Value).toArray s 0 0 (fun _ => False)) (F0 m 24 ls []) := by
    intro ls hl hf
    unfold f_X3_isOn_B24 at hf
    refine lv_iconst (v := 0) hx hb dX3_isOn_24 (by decide) ?_
    exact hB25 0 _ (lv_sub hl [] rfl)  hf
  have hl := lv_entry ([.ref y0, .int y1]) (n := 2) (Nat.le_of_ble_eq_true rfl)
  rw [lg_entry_eq]
  generalize (lg_sl ([.ref y0, .int y1]) ++ List.replicate (2 - (lg_sl ([.ref y0, .int y1])).length) Slot.unset).toArray = ls at hl ⊢
  have hl : lv_has ls 2 [(0, .ref y0), (1, .int y1)] := hl
  unfold f_X3_isOn at hf
  refine lv_aload_n hx hb dX3_isOn_0 rfl (lv_at hl 0 rfl) ?_
  refine lv_iload_n hx hb dX3_isOn_1 rfl (lv_at hl 1 rfl) ?_
  obtain ⟨t11, h12, hf⟩ := bd_some hf
  refine vp_callSi (va_runV (As := [.int y1]) (rest := []) F (c_X3_has l D cy (H := _) hP v_y0 h12) (cwV 1 hts gX3_isOn_X3_has rfl rfl rfl ⟨rfl, ph_X3_has.1, ph_X3_has.2, pd_X3_has⟩ ⟨Nat.le_of_ble_eq_true rfl, Nat.le_of_ble_eq_true rfl⟩) ⟨PcR.bl, (q_rcv hK hP v_y0.1 (pF_3 (S := S) v_y0.2) rfl), PcR.in hK⟩ rfl rfl hl.1 rfl (lv_room (Nat.le_of_ble_eq_true rfl)) dX3_isOn_2 ⟨Nat.zero_le _, Nat.zero_le _⟩).run (fun r13 er13 => ?_)
  subst r13
  refine lv_if_eq (tgt := 24) hx hb dX3_isOn_5 (by decide) (fun c14 => ?_) (fun c14 => ?_)
  · have hf := it_t c14 hf
    exact hB24 _ (lv_sub hl [] rfl)  hf
  · have hf := it_f c14 hf
    refine lv_aload_n hx hb dX3_isOn_8 rfl (lv_at hl 0 rfl) ?_
    refine q_get F hK hP v_y0.1 (pF_3 (S := S) v_y0.2) (fun w h => List.mem_cons_of_mem _ (List.mem_append_right _ h)) rfl 4 (by decide) (hts (.fieldLink RX3 29 "SharedModuli$State" "on" "I") (List.mem_of_getElem? (i := 1) rfl)) (v := .int (fI S 52 y0)) rfl dX3_isOn_9 ?_
    refine lv_iload_n hx hb dX3_isOn_12 rfl (lv_at hl 1 rfl) ?_
    obtain ⟨t15, h16, hf⟩ := bd_some hf
    refine vp_callSi (va_runSN (As := [.int y1]) (rest := [.int (fI S 52 y0)]) F (c_X4_bit l D cy (H := _)  h16) ⟨(va_cnB 1 hts gX3_isOn_X4_bit_n44 rfl rfl rfl (nk_m_RX3_44 hK.2.1) (hts (.initialized RX4) (List.mem_of_getElem? (i := 9) rfl)) ⟨ph_X4_bit.1, ph_X4_bit.2, pd_X4_bit⟩ ⟨Nat.le_of_ble_eq_true rfl, Nat.le_of_ble_eq_true rfl⟩), (hts (.static yX4_bit) (List.mem_of_getElem? (i := 8) rfl)), trivial⟩ ⟨PcR.bl, PcR.in hK⟩ rfl rfl hl.1 rfl (lv_room (Nat.le_of_ble_eq_true rfl)) dX3_isOn_13 ⟨Nat.zero_le _, Nat.zero_le _⟩).run (fun r17 er17 => ?_)
    subst r17
    refine lv_iand hx hb dX3_isOn_16 ?_
    refine lv_if_eq (tgt := 24) hx hb dX3_isOn_17 (by decide) (fun c18 => ?_) (fun c18 => ?_)
    · have hf := it_t c18 hf
      exact hB24 _ (lv_sub hl [] rfl)  hf
    · have hf := it_f c18 hf
      refine lv_iconst (v := 1) hx hb dX3_isOn_20 (by decide) ?_
      refine lv_goto (tgt := 25) hx hb dX3_isOn_21 (by decide) ?_
      exact hB25 1 _ (lv_sub hl [] rfl)  hf
def f_X3_at_B22 (S : PS) (x0 : Nat) : Option Nat :=
  rq (fR S 48 x0) S 0 fun b1 =>
  some b1
def f_X3_at (S : PS) (x0 : Nat) (x1 : Int32) : Option Nat :=
  if x1 < 0 then (f_X3_at_B22 S x0) else
  rq (fR S 49 x0) S 7 fun b4 =>
  if (nI (aN S b4)) ≤ x1 then (f_X3_at_B22 S x0) else
  rq (fR S 49 x0) S 7 fun b7 =>
  ck (decide (¬ (x1 < 0 ∨ aN S b7 ≤ x1.toNatClampNeg))) (
  nl (aR S b7 x1.toNatClampNeg) (f_X3_at_B22 S x0)
  (rq (fR S 49 x0) S 7 fun b11 =>
  ck (decide (¬ (x1 < 0 ∨ aN S b11 ≤ x1.toNatClampNeg))) (
  rq (aR S b11 x1.toNatClampNeg) S 0 fun b14 =>
  some b14)))
set_option maxHeartbeats 4000000 in
set_option maxRecDepth 100000 in
theorem c_X3_at (l : Launch) (D : va_G) (cy : cyT) {H : Heap} {S : PS} (hP : va_P D vwCl (wl cy S) H) {y0 : Nat} {y1 : Int32} (v_y0 : vd S y0 3) {res : Nat} (hf : f_X3_at S y0 y1 = some res) : Met l yX3_at wsX3_at ({ frames := 0, cells := 0, slots := 0, locals := 0 } : Room) (PcR D cy H [.ref y0, .int y1]) (va_Sr (fun k => k = res ∧ vd S k 0) (fun k => .ref k)) 0 0 (fun _ => False) := by
  refine Met.ofW (cc := cX3_at) (maxL := 2) (ret := (some (.object "SharedModuli$Condition"))) (by decide) rfl ?_
  intro p e s m args below meth c s₁ B hml hv
  obtain ⟨hav, hH, hK⟩ := hv
  have hx := B.exec
  have hb := B.bytes
  have hr := B.returns
  have hts := atoms_spec (ws := wsX3_at) B.pre
  have hown : s.vm.findClass RX3 = some m.cls := findClass_of_methodNamed B.named
  have hlocks := B.notSynchronized
  subst hav
  subst hH
  have F : CallFix p m c cX3_at 2 s _ wsX3_at RX3 := ⟨hx, hb, hml, hown, hts⟩
  have hB22 : ∀ (x0 : Nat) (ls : Array Slot), lv_has ls 2 [(0, .ref x0)] → vd S x0 3 → f_X3_at_B22 S x0 = some res → W p l e (headSpec wsX3_at ({ frames := 0, cells := 0, slots := 0, locals := 0 } : Room)).room s m ([.ref y0, .int y1] : List Value).toArray below meth c s.heap [] 0 0 (MQ below (va_Sr (fun k => k = res ∧ vd S k 0) (fun k => .ref k)) ([.ref y0, .int y1] : List Value).toArray s 0 0 (fun _ => False)) (F0 m 22 ls []) := by
    intro x0 ls hl v_x0 hf
    unfold f_X3_at_B22 at hf
    refine lv_aload_n hx hb dX3_at_22 rfl (lv_at hl 0 rfl) ?_
    obtain ⟨b16, e17, v_b16, hf⟩ := rq_some hf
    refine q_get F hK hP v_x0.1 (pF_3 (S := S) v_x0.2) (fun w h => List.mem_cons_of_mem _ (List.mem_append_right _ h)) rfl 0 (by decide) (hts (.fieldLink RX3 9 "SharedModuli$State" "blank" "LSharedModuli$Condition;") (List.mem_of_getElem? (i := 2) rfl)) (v := .ref b16) (congrArg (fun z => some (va_rf z)) e17) dX3_at_23 ?_
    exact W.aret (v := .ref b16) hx hb hr (Or.inl ⟨_, rfl⟩) (Or.inr ⟨_, rfl⟩) (fun t ht hW => ⟨_, rfl, ⟨Option.some.inj hf, Option.some.inj hf ▸ v_b16⟩, ht⟩) (fun _ h => by cases h) dX3_at_26
  have hl := lv_entry ([.ref y0, .int y1]) (n := 2) (Nat.le_of_ble_eq_true rfl)
  rw [lg_entry_eq]
  generalize (lg_sl ([.ref y0, .int y1]) ++ List.replicate (2 - (lg_sl ([.ref y0, .int y1])).length) Slot.unset).toArray = ls at hl ⊢
  have hl : lv_has ls 2 [(0, .ref y0), (1, .int y1)] := hl
  unfold f_X3_at at hf
  refine lv_iload_n hx hb dX3_at_0 rfl (lv_at hl 1 rfl) ?_
  refine lv_if_lt (tgt := 22) hx hb dX3_at_1 (by decide) (fun c18 => ?_) (fun c18 => ?_)
  · have hf := it_t c18 hf
    exact hB22 y0 _ (lv_sub hl [0] rfl) v_y0 hf
  · have hf := it_f c18 hf
    refine lv_iload_n hx hb dX3_at_4 rfl (lv_at hl 1 rfl) ?_
    refine lv_aload_n hx hb dX3_at_5 rfl (lv_at hl 0 rfl) ?_
    obtain ⟨b19, e20, v_b19, hf⟩ := rq_some hf
    refine q_get F hK hP v_y0.1 (pF_3 (S := S) v_y0.2) (fun w h => List.mem_cons_of_mem _ (List.mem_append_right _ h)) rfl 1 (by decide) (hts (.fieldLink RX3 17 "SharedModuli$State" "conditions" "[LSharedModuli$Condition;") (List.mem_of_getElem? (i := 1) rfl)) (v := .ref b19) (congrArg (fun z => some (va_rf z)) e20) dX3_at_6 ?_
    refine q_alen7 F hK hP v_b19 dX3_at_9 ?_
    refine lv_icmp_ge (tgt := 22) hx hb dX3_at_10 (by decide) (fun c21 => ?_) (fun c21 => ?_)
    · have hf := it_t c21 hf
      exact hB22 y0 _ (lv_sub hl [0] rfl) v_y0 hf
    · have hf := it_f c21 hf
      refine lv_aload_n hx hb dX3_at_13 rfl (lv_at hl 0 rfl) ?_
      obtain ⟨b22, e23, v_b22, hf⟩ := rq_some hf
      refine q_get F hK hP v_y0.1 (pF_3 (S := S) v_y0.2) (fun w h => List.mem_cons_of_mem _ (List.mem_append_right _ h)) rfl 1 (by decide) (hts (.fieldLink RX3 17 "SharedModuli$State" "conditions" "[LSharedModuli$Condition;") (List.mem_of_getElem? (i := 1) rfl)) (v := .ref b22) (congrArg (fun z => some (va_rf z)) e23) dX3_at_14 ?_
      refine lv_iload_n hx hb dX3_at_17 rfl (lv_at hl 1 rfl) ?_
      obtain ⟨c24, hf⟩ := ckd_some hf
      refine q_aald7 F hK hP v_b22 c24 dX3_at_18 ?_
      rcases hb25 : aR S b22 y1.toNatClampNeg with _ | b25
      · rw [hb25] at hf
        refine lv_ifnonnullN hx hb dX3_at_19 ?_
        exact hB22 y0 _ (lv_sub hl [0] rfl) v_y0 hf
      · rw [hb25] at hf
        refine lv_ifnonnull (tgt := 27) hx hb dX3_at_19 (by decide) ?_
        refine lv_aload_n hx hb dX3_at_27 rfl (lv_at hl 0 rfl) ?_
        obtain ⟨b26, e27, v_b26, hf⟩ := rq_some hf
        refine q_get F hK hP v_y0.1 (pF_3 (S := S) v_y0.2) (fun w h => List.mem_cons_of_mem _ (List.mem_append_right _ h)) rfl 1 (by decide) (hts (.fieldLink RX3 17 "SharedModuli$State" "conditions" "[LSharedModuli$Condition;") (List.mem_of_getElem? (i := 1) rfl)) (v := .ref b26) (congrArg (fun z => some (va_rf z)) e27) dX3_at_28 ?_
        refine lv_iload_n hx hb dX3_at_31 rfl (lv_at hl 1 rfl) ?_
        obtain ⟨c28, hf⟩ := ckd_some hf
        refine q_aald7 F hK hP v_b26 c28 dX3_at_32 ?_
        obtain ⟨b29, e30, v_b29, hf⟩ := rq_some hf
        rw [e30]
        refine W.eq (g2 := F0 m 33 ls (.ref b29 :: [])) rfl ?_
        exact W.aret (v := .ref b29) hx hb hr (Or.inl ⟨_, rfl⟩) (Or.inr ⟨_, rfl⟩) (fun t ht hW => ⟨_, rfl, ⟨Option.some.inj hf, Option.some.inj hf ▸ v_b29⟩, ht⟩) (fun _ h => by cases h) dX3_at_33

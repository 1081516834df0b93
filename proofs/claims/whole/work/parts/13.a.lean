def f_X4_commonDivisor_B45 (x4 : Int64) : Option Int64 :=
  some x4
def f_X4_commonDivisor_L9s (kL9 : Int64 → Int64 → Int32 → Option Int64) (ke45 : Int64 → Option Int64) (x4 : Int64) (x6 : Int64) (x8 : Int32) : Option Int64 :=
  if 200 ≤ x8 then (ke45 x4) else
  if x6 ≤ 0 then (ke45 x4) else
  ck (decide (¬ x6 = 0)) (
  kL9 x6 (x4 - x4 / x6 * x6) (x8 + 1))
def f_X4_commonDivisor_L9 (ke45 : Int64 → Option Int64) (fu : Nat) : Int64 → Int64 → Int32 → Option Int64 := fx (fun kL => f_X4_commonDivisor_L9s kL ke45) (fun _ _ _ => none) fu
def f_X4_commonDivisor (x0 : Int64) (x2 : Int64) : Option Int64 :=
  f_X4_commonDivisor_L9 f_X4_commonDivisor_B45 FU x0 x2 0
set_option maxHeartbeats 4000000 in
set_option maxRecDepth 100000 in
theorem c_X4_commonDivisor (l : Launch) (D : va_G) (cy : cyT) {H : Heap} {y0 : Int64} {y2 : Int64}  {res : Int64} (hf : f_X4_commonDivisor y0 y2 = some res) : Met l yX4_commonDivisor wsX4_commonDivisor ({ frames := 0, cells := 0, slots := 0, locals := 0 } : Room) (PcR D cy H [.long y0, .long y2]) (vp_Sl (fun r => r = res)) 0 0 (fun _ => False) := by
  refine Met.ofW (cc := cX4_commonDivisor) (maxL := 11) (ret := (some .long)) (by decide) rfl ?_
  intro p e s m args below meth c s₁ B hml hv
  obtain ⟨hav, hH, hK⟩ := hv
  have hx := B.exec
  have hb := B.bytes
  have hr := B.returns
  have hts := atoms_spec (ws := wsX4_commonDivisor) B.pre
  have hown : s.vm.findClass RX4 = some m.cls := findClass_of_methodNamed B.named
  have hlocks := B.notSynchronized
  subst hav
  subst hH
  have F : CallFix p m c cX4_commonDivisor 11 s _ wsX4_commonDivisor RX4 := ⟨hx, hb, hml, hown, hts⟩
  have hB45 : ∀ (x4 : Int64) (ls : Array Slot), lv_has ls 11 [(4, .long x4)] → f_X4_commonDivisor_B45 x4 = some res → W p l e (headSpec wsX4_commonDivisor ({ frames := 0, cells := 0, slots := 0, locals := 0 } : Room)).room s m ([.long y0, .long y2] : List Value).toArray below meth c s.heap [] 0 0 (MQ below (vp_Sl (fun r => r = res)) ([.long y0, .long y2] : List Value).toArray s 0 0 (fun _ => False)) (F0 m 45 ls []) := by
    intro x4 ls hl hf
    unfold f_X4_commonDivisor_B45 at hf
    refine lv_lload hx hb dX4_commonDivisor_45 (lv_at hl 0 rfl) ?_
    exact W.lret (v := x4) hx hb hr (fun t ht hW => ⟨_, rfl, Option.some.inj hf, ht⟩) (fun _ h => by cases h) dX4_commonDivisor_47
  have hL9 : ∀ (fu9 : Nat), ∀ (x4 : Int64) (x6 : Int64) (x8 : Int32) (ls : Array Slot), lv_has ls 11 [(4, .long x4), (6, .long x6), (8, .int x8)] → f_X4_commonDivisor_L9 f_X4_commonDivisor_B45 fu9 x4 x6 x8 = some res → W p l e (headSpec wsX4_commonDivisor ({ frames := 0, cells := 0, slots := 0, locals := 0 } : Room)).room s m ([.long y0, .long y2] : List Value).toArray below meth c s.heap [] 0 0 (MQ below (vp_Sl (fun r => r = res)) ([.long y0, .long y2] : List Value).toArray s 0 0 (fun _ => False)) (F0 m 9 ls []) := by
    intro fu9
    induction fu9 with
    | zero =>
      intro x4 x6 x8 ls hl hf
      have hf : (none : Option Int64) = some res := hf
      cases hf
    | succ fu9 ih9 =>
      intro x4 x6 x8 ls hl hf
      have hf : f_X4_commonDivisor_L9s (f_X4_commonDivisor_L9 f_X4_commonDivisor_B45 fu9) f_X4_commonDivisor_B45 x4 x6 x8 = some res := hf
      unfold f_X4_commonDivisor_L9s at hf
      refine lv_iload hx hb dX4_commonDivisor_9 (lv_at hl 2 rfl) ?_
      refine lv_sipush (v := 200) hx hb dX4_commonDivisor_11 (by decide) ?_
      refine lv_icmp_ge (tgt := 45) hx hb dX4_commonDivisor_14 (by decide) (fun c4 => ?_) (fun c4 => ?_)
      · have hf := it_t c4 hf
        exact hB45 x4 _ (lv_sub hl [0] rfl)  hf
      · have hf := it_f c4 hf
        refine lv_lload hx hb dX4_commonDivisor_17 (lv_at hl 1 rfl) ?_
        refine lv_lconst (v := 0) hx hb dX4_commonDivisor_19 (by decide) ?_
        refine W.lcmp hx hb dX4_commonDivisor_20 ?_
        refine lv_if_le (tgt := 45) hx hb dX4_commonDivisor_21 (by decide) (fun c5 => ?_) (fun c5 => ?_)
        · have hf := it_t ((lq_le _ _).mp c5) hf
          exact hB45 x4 _ (lv_sub hl [0] rfl)  hf
        · have hf := it_f (fun z => c5 ((lq_le _ _).mpr z)) hf
          refine lv_lload hx hb dX4_commonDivisor_24 (lv_at hl 0 rfl) ?_
          refine lv_lload hx hb dX4_commonDivisor_26 (lv_at hl 1 rfl) ?_
          obtain ⟨c6, hf⟩ := ckd_some hf
          refine lv_lrem hx hb dX4_commonDivisor_28 c6 ?_
          refine lv_lstore (lv' := [(9, .long (x4 - x4 / x6 * x6)), (4, .long x4), (6, .long x6), (8, .int x8)]) hx hb dX4_commonDivisor_29 hl (by decide) rfl (fun ls hl => ?_)
          refine lv_lload hx hb dX4_commonDivisor_31 (lv_at hl 2 rfl) ?_
          refine lv_lstore (lv' := [(4, .long x6), (9, .long (x4 - x4 / x6 * x6)), (6, .long x6), (8, .int x8)]) hx hb dX4_commonDivisor_33 hl (by decide) rfl (fun ls hl => ?_)
          refine lv_lload hx hb dX4_commonDivisor_35 (lv_at hl 1 rfl) ?_
          refine lv_lstore (lv' := [(6, .long (x4 - x4 / x6 * x6)), (4, .long x6), (9, .long (x4 - x4 / x6 * x6)), (8, .int x8)]) hx hb dX4_commonDivisor_37 hl (by decide) rfl (fun ls hl => ?_)
          refine lv_iinc (v := x8 + 1) (lv' := [(8, .int (x8 + 1)), (6, .long (x4 - x4 / x6 * x6)), (4, .long x6), (9, .long (x4 - x4 / x6 * x6))]) hx hb dX4_commonDivisor_39 hl (k := 3) rfl (by rfl) (by decide) rfl (fun ls hl => ?_)
          refine lv_goto (tgt := 9) hx hb dX4_commonDivisor_42 (by decide) ?_
          exact ih9 x6 (x4 - x4 / x6 * x6) (x8 + 1) _ (lv_sub hl [2, 1, 0] rfl)  hf
  have hl := lv_entry ([.long y0, .long y2]) (n := 11) (Nat.le_of_ble_eq_true rfl)
  rw [lg_entry_eq]
  generalize (lg_sl ([.long y0, .long y2]) ++ List.replicate (11 - (lg_sl ([.long y0, .long y2])).length) Slot.unset).toArray = ls at hl ⊢
  have hl : lv_has ls 11 [(0, .long y0), (2, .long y2)] := hl
  unfold f_X4_commonDivisor at hf
  refine lv_lload_n hx hb dX4_commonDivisor_0 rfl (lv_at hl 0 rfl) ?_
  refine lv_lstore (lv' := [(4, .long y0), (0, .long y0), (2, .long y2)]) hx hb dX4_commonDivisor_1 hl (by decide) rfl (fun ls hl => ?_)
  refine lv_lload_n hx hb dX4_commonDivisor_3 rfl (lv_at hl 2 rfl) ?_
  refine lv_lstore (lv' := [(6, .long y2), (4, .long y0), (0, .long y0), (2, .long y2)]) hx hb dX4_commonDivisor_4 hl (by decide) rfl (fun ls hl => ?_)
  refine lv_iconst (v := 0) hx hb dX4_commonDivisor_6 (by decide) ?_
  refine lv_istore (lv' := [(8, .int 0), (6, .long y2), (4, .long y0), (0, .long y0), (2, .long y2)]) hx hb dX4_commonDivisor_7 hl (by decide) rfl (fun ls hl => ?_)
  exact hL9 FU y0 y2 0 _ (lv_sub hl [2, 1, 0] rfl)  hf
def f_X4_rest_B29 (s0 : Int64) : Option Int64 :=
  some s0
def f_X4_rest (x0 : Int64) (x2 : Int64) : Option Int64 :=
  if 1 ≤ x2 then (ck (decide (¬ x2 = 0)) (
  if 0 ≤ (x0 - x0 / x2 * x2) then (f_X4_rest_B29 (x0 - x0 / x2 * x2)) else
  f_X4_rest_B29 ((x0 - x0 / x2 * x2) + x2))) else
  some 0
set_option maxHeartbeats 4000000 in
set_option maxRecDepth 100000 in
theorem c_X4_rest (l : Launch) (D : va_G) (cy : cyT) {H : Heap} {y0 : Int64} {y2 : Int64}  {res : Int64} (hf : f_X4_rest y0 y2 = some res) : Met l yX4_rest wsX4_rest ({ frames := 0, cells := 0, slots := 0, locals := 0 } : Room) (PcR D cy H [.long y0, .long y2]) (vp_Sl (fun r => r = res)) 0 0 (fun _ => False) := by
  refine Met.ofW (cc := cX4_rest) (maxL := 6) (ret := (some .long)) (by decide) rfl ?_
  intro p e s m args below meth c s₁ B hml hv
  obtain ⟨hav, hH, hK⟩ := hv
  have hx := B.exec
  have hb := B.bytes
  have hr := B.returns
  have hts := atoms_spec (ws := wsX4_rest) B.pre
  have hown : s.vm.findClass RX4 = some m.cls := findClass_of_methodNamed B.named
  have hlocks := B.notSynchronized
  subst hav
  subst hH
  have F : CallFix p m c cX4_rest 6 s _ wsX4_rest RX4 := ⟨hx, hb, hml, hown, hts⟩
  have hB29 : ∀ (s0 : Int64) (ls : Array Slot), lv_has ls 6 [] → f_X4_rest_B29 s0 = some res → W p l e (headSpec wsX4_rest ({ frames := 0, cells := 0, slots := 0, locals := 0 } : Room)).room s m ([.long y0, .long y2] : List Value).toArray below meth c s.heap [] 0 0 (MQ below (vp_Sl (fun r => r = res)) ([.long y0, .long y2] : List Value).toArray s 0 0 (fun _ => False)) (F0 m 29 ls [.long s0]) := by
    intro s0 ls hl hf
    unfold f_X4_rest_B29 at hf
    exact W.lret (v := s0) hx hb hr (fun t ht hW => ⟨_, rfl, Option.some.inj hf, ht⟩) (fun _ h => by cases h) dX4_rest_29
  have hl := lv_entry ([.long y0, .long y2]) (n := 6) (Nat.le_of_ble_eq_true rfl)
  rw [lg_entry_eq]
  generalize (lg_sl ([.long y0, .long y2]) ++ List.replicate (6 - (lg_sl ([.long y0, .long y2])).length) Slot.unset).toArray = ls at hl ⊢
  have hl : lv_has ls 6 [(0, .long y0), (2, .long y2)] := hl
  unfold f_X4_rest at hf
  refine lv_lload_n hx hb dX4_rest_0 rfl (lv_at hl 1 rfl) ?_
  refine lv_lconst (v := 1) hx hb dX4_rest_1 (by decide) ?_
  refine W.lcmp hx hb dX4_rest_2 ?_
  refine lv_if_ge (tgt := 8) hx hb dX4_rest_3 (by decide) (fun c4 => ?_) (fun c4 => ?_)
  · have hf := it_t ((lq_ge _ _).mp c4) hf
    refine lv_lload_n hx hb dX4_rest_8 rfl (lv_at hl 0 rfl) ?_
    refine lv_lload_n hx hb dX4_rest_9 rfl (lv_at hl 1 rfl) ?_
    obtain ⟨c5, hf⟩ := ckd_some hf
    refine lv_lrem hx hb dX4_rest_10 c5 ?_
    refine lv_lstore (lv' := [(4, .long (y0 - y0 / y2 * y2)), (0, .long y0), (2, .long y2)]) hx hb dX4_rest_11 hl (by decide) rfl (fun ls hl => ?_)
    refine lv_lload hx hb dX4_rest_13 (lv_at hl 0 rfl) ?_
    refine lv_lconst (v := 0) hx hb dX4_rest_15 (by decide) ?_
    refine W.lcmp hx hb dX4_rest_16 ?_
    refine lv_if_ge (tgt := 27) hx hb dX4_rest_17 (by decide) (fun c6 => ?_) (fun c6 => ?_)
    · have hf := it_t ((lq_ge _ _).mp c6) hf
      refine lv_lload hx hb dX4_rest_27 (lv_at hl 0 rfl) ?_
      exact hB29 (y0 - y0 / y2 * y2) _ (lv_sub hl [] rfl)  hf
    · have hf := it_f (fun z => c6 ((lq_ge _ _).mpr z)) hf
      refine lv_lload hx hb dX4_rest_20 (lv_at hl 0 rfl) ?_
      refine lv_lload_n hx hb dX4_rest_22 rfl (lv_at hl 2 rfl) ?_
      refine lv_ladd hx hb dX4_rest_23 ?_
      refine lv_goto (tgt := 29) hx hb dX4_rest_24 (by decide) ?_
      exact hB29 ((y0 - y0 / y2 * y2) + y2) _ (lv_sub hl [] rfl)  hf
  · have hf := it_f (fun z => c4 ((lq_ge _ _).mpr z)) hf
    refine lv_lconst (v := 0) hx hb dX4_rest_6 (by decide) ?_
    exact W.lret (v := 0) hx hb hr (fun t ht hW => ⟨_, rfl, Option.some.inj hf, ht⟩) (fun _ h => by cases h) dX4_rest_7
def f_X4_share_B13 (s0 : Int64) : Option Int64 :=
  some s0
def f_X4_share (x0 : Int64) (x2 : Int64) : Option Int64 :=
  if 1 ≤ x2 then (ck (decide (¬ x2 = 0)) (
  f_X4_share_B13 (x0 / x2))) else
  f_X4_share_B13 0
set_option maxHeartbeats 4000000 in
set_option maxRecDepth 100000 in
theorem c_X4_share (l : Launch) (D : va_G) (cy : cyT) {H : Heap} {y0 : Int64} {y2 : Int64}  {res : Int64} (hf : f_X4_share y0 y2 = some res) : Met l yX4_share wsX4_share ({ frames := 0, cells := 0, slots := 0, locals := 0 } : Room) (PcR D cy H [.long y0, .long y2]) (vp_Sl (fun r => r = res)) 0 0 (fun _ => False) := by
  refine Met.ofW (cc := cX4_share) (maxL := 4) (ret := (some .long)) (by decide) rfl ?_
  intro p e s m args below meth c s₁ B hml hv
  obtain ⟨hav, hH, hK⟩ := hv
  have hx := B.exec
  have hb := B.bytes
  have hr := B.returns
  have hts := atoms_spec (ws := wsX4_share) B.pre
  have hown : s.vm.findClass RX4 = some m.cls := findClass_of_methodNamed B.named
  have hlocks := B.notSynchronized
  subst hav
  subst hH
  have F : CallFix p m c cX4_share 4 s _ wsX4_share RX4 := ⟨hx, hb, hml, hown, hts⟩
  have hB13 : ∀ (s0 : Int64) (ls : Array Slot), lv_has ls 4 [] → f_X4_share_B13 s0 = some res → W p l e (headSpec wsX4_share ({ frames := 0, cells := 0, slots := 0, locals := 0 } : Room)).room s m ([.long y0, .long y2] : List Value).toArray below meth c s.heap [] 0 0 (MQ below (vp_Sl (fun r => r = res)) ([.long y0, .long y2] : List Value).toArray s 0 0 (fun _ => False)) (F0 m 13 ls [.long s0]) := by
    intro s0 ls hl hf
    unfold f_X4_share_B13 at hf
    exact W.lret (v := s0) hx hb hr (fun t ht hW => ⟨_, rfl, Option.some.inj hf, ht⟩) (fun _ h => by cases h) dX4_share_13
  have hl := lv_entry ([.long y0, .long y2]) (n := 4) (Nat.le_of_ble_eq_true rfl)
  rw [lg_entry_eq]
  generalize (lg_sl ([.long y0, .long y2]) ++ List.replicate (4 - (lg_sl ([.long y0, .long y2])).length) Slot.unset).toArray = ls at hl ⊢
  have hl : lv_has ls 4 [(0, .long y0), (2, .long y2)] := hl
  unfold f_X4_share at hf
  refine lv_lload_n hx hb dX4_share_0 rfl (lv_at hl 1 rfl) ?_
  refine lv_lconst (v := 1) hx hb dX4_share_1 (by decide) ?_
  refine W.lcmp hx hb dX4_share_2 ?_
  refine lv_if_ge (tgt := 10) hx hb dX4_share_3 (by decide) (fun c3 => ?_) (fun c3 => ?_)
  · have hf := it_t ((lq_ge _ _).mp c3) hf
    refine lv_lload_n hx hb dX4_share_10 rfl (lv_at hl 0 rfl) ?_
    refine lv_lload_n hx hb dX4_share_11 rfl (lv_at hl 1 rfl) ?_
    obtain ⟨c4, hf⟩ := ckd_some hf
    refine lv_ldiv hx hb dX4_share_12 c4 ?_
    exact hB13 (y0 / y2) _ (lv_sub hl [] rfl)  hf
  · have hf := it_f (fun z => c3 ((lq_ge _ _).mpr z)) hf
    refine lv_lconst (v := 0) hx hb dX4_share_6 (by decide) ?_
    refine lv_goto (tgt := 13) hx hb dX4_share_7 (by decide) ?_
    exact hB13 0 _ (lv_sub hl [] rfl)  hf
def f_X4_inverse_B79 (x8 : Int64) : Option Int64 :=
  some x8
def f_X4_inverse_L15s (kL15 : Int64 → Int64 → Int64 → Int64 → Int32 → Option Int64) (ke79 : Int64 → Option Int64) (x4 : Int64) (x6 : Int64) (x8 : Int64) (x10 : Int64) (x12 : Int32) : Option Int64 :=
  if 200 ≤ x12 then (ke79 x8) else
  if x6 ≤ 0 then (ke79 x8) else
  ck (decide (¬ x6 = 0)) (
  kL15 x6 (x4 - ((x4 / x6) * x6)) x10 (x8 - ((x4 / x6) * x10)) (x12 + 1))
def f_X4_inverse_L15 (ke79 : Int64 → Option Int64) (fu : Nat) : Int64 → Int64 → Int64 → Int64 → Int32 → Option Int64 := fx (fun kL => f_X4_inverse_L15s kL ke79) (fun _ _ _ _ _ => none) fu
def f_X4_inverse (x0 : Int64) (x2 : Int64) : Option Int64 :=
  f_X4_inverse_L15 f_X4_inverse_B79 FU x2 x0 0 1 0
set_option maxHeartbeats 4000000 in
set_option maxRecDepth 100000 in
theorem c_X4_inverse (l : Launch) (D : va_G) (cy : cyT) {H : Heap} {y0 : Int64} {y2 : Int64}  {res : Int64} (hf : f_X4_inverse y0 y2 = some res) : Met l yX4_inverse wsX4_inverse ({ frames := 0, cells := 0, slots := 0, locals := 0 } : Room) (PcR D cy H [.long y0, .long y2]) (vp_Sl (fun r => r = res)) 0 0 (fun _ => False) := by
  refine Met.ofW (cc := cX4_inverse) (maxL := 19) (ret := (some .long)) (by decide) rfl ?_
  intro p e s m args below meth c s₁ B hml hv
  obtain ⟨hav, hH, hK⟩ := hv
  have hx := B.exec
  have hb := B.bytes
  have hr := B.returns
  have hts := atoms_spec (ws := wsX4_inverse) B.pre
  have hown : s.vm.findClass RX4 = some m.cls := findClass_of_methodNamed B.named
  have hlocks := B.notSynchronized
  subst hav
  subst hH
  have F : CallFix p m c cX4_inverse 19 s _ wsX4_inverse RX4 := ⟨hx, hb, hml, hown, hts⟩
  have hB79 : ∀ (x8 : Int64) (ls : Array Slot), lv_has ls 19 [(8, .long x8)] → f_X4_inverse_B79 x8 = some res → W p l e (headSpec wsX4_inverse ({ frames := 0, cells := 0, slots := 0, locals := 0 } : Room)).room s m ([.long y0, .long y2] : List Value).toArray below meth c s.heap [] 0 0 (MQ below (vp_Sl (fun r => r = res)) ([.long y0, .long y2] : List Value).toArray s 0 0 (fun _ => False)) (F0 m 79 ls []) := by
    intro x8 ls hl hf
    unfold f_X4_inverse_B79 at hf
    refine lv_lload hx hb dX4_inverse_79 (lv_at hl 0 rfl) ?_
    exact W.lret (v := x8) hx hb hr (fun t ht hW => ⟨_, rfl, Option.some.inj hf, ht⟩) (fun _ h => by cases h) dX4_inverse_81
  have hL15 : ∀ (fu15 : Nat), ∀ (x4 : Int64) (x6 : Int64) (x8 : Int64) (x10 : Int64) (x12 : Int32) (ls : Array Slot), lv_has ls 19 [(4, .long x4), (6, .long x6), (8, .long x8), (10, .long x10), (12, .int x12)] → f_X4_inverse_L15 f_X4_inverse_B79 fu15 x4 x6 x8 x10 x12 = some res → W p l e (headSpec wsX4_inverse ({ frames := 0, cells := 0, slots := 0, locals := 0 } : Room)).room s m ([.long y0, .long y2] : List Value).toArray below meth c s.heap [] 0 0 (MQ below (vp_Sl (fun r => r = res)) ([.long y0, .long y2] : List Value).toArray s 0 0 (fun _ => False)) (F0 m 15 ls []) := by
    intro fu15
    induction fu15 with
    | zero =>
      intro x4 x6 x8 x10 x12 ls hl hf
      have hf : (none : Option Int64) = some res := hf
      cases hf
    | succ fu15 ih15 =>
      intro x4 x6 x8 x10 x12 ls hl hf
      have hf : f_X4_inverse_L15s (f_X4_inverse_L15 f_X4_inverse_B79 fu15) f_X4_inverse_B79 x4 x6 x8 x10 x12 = some res := hf
      unfold f_X4_inverse_L15s at hf
      refine lv_iload hx hb dX4_inverse_15 (lv_at hl 4 rfl) ?_
      refine lv_sipush (v := 200) hx hb dX4_inverse_17 (by decide) ?_
      refine lv_icmp_ge (tgt := 79) hx hb dX4_inverse_20 (by decide) (fun c4 => ?_) (fun c4 => ?_)
      · have hf := it_t c4 hf
        exact hB79 x8 _ (lv_sub hl [2] rfl)  hf
      · have hf := it_f c4 hf
        refine lv_lload hx hb dX4_inverse_23 (lv_at hl 1 rfl) ?_
        refine lv_lconst (v := 0) hx hb dX4_inverse_25 (by decide) ?_
        refine W.lcmp hx hb dX4_inverse_26 ?_
        refine lv_if_le (tgt := 79) hx hb dX4_inverse_27 (by decide) (fun c5 => ?_) (fun c5 => ?_)
        · have hf := it_t ((lq_le _ _).mp c5) hf
          exact hB79 x8 _ (lv_sub hl [2] rfl)  hf
        · have hf := it_f (fun z => c5 ((lq_le _ _).mpr z)) hf
          refine lv_lload hx hb dX4_inverse_30 (lv_at hl 0 rfl) ?_
          refine lv_lload hx hb dX4_inverse_32 (lv_at hl 1 rfl) ?_
          obtain ⟨c6, hf⟩ := ckd_some hf
          refine lv_ldiv hx hb dX4_inverse_34 c6 ?_
          refine lv_lstore (lv' := [(13, .long (x4 / x6)), (4, .long x4), (6, .long x6), (8, .long x8), (10, .long x10), (12, .int x12)]) hx hb dX4_inverse_35 hl (by decide) rfl (fun ls hl => ?_)
          refine lv_lload hx hb dX4_inverse_37 (lv_at hl 1 rfl) ?_
          refine lv_lload hx hb dX4_inverse_39 (lv_at hl 0 rfl) ?_
          refine lv_lload hx hb dX4_inverse_41 (lv_at hl 2 rfl) ?_
          refine lv_lmul hx hb dX4_inverse_43 ?_
          refine lv_lsub hx hb dX4_inverse_44 ?_
          refine lv_lstore (lv' := [(15, .long (x4 - ((x4 / x6) * x6))), (13, .long (x4 / x6)), (4, .long x4), (6, .long x6), (8, .long x8), (10, .long x10), (12, .int x12)]) hx hb dX4_inverse_45 hl (by decide) rfl (fun ls hl => ?_)
          refine lv_lload hx hb dX4_inverse_47 (lv_at hl 4 rfl) ?_
          refine lv_lload hx hb dX4_inverse_49 (lv_at hl 1 rfl) ?_
          refine lv_lload hx hb dX4_inverse_51 (lv_at hl 5 rfl) ?_
          refine lv_lmul hx hb dX4_inverse_53 ?_
          refine lv_lsub hx hb dX4_inverse_54 ?_
          refine lv_lstore (lv' := [(17, .long (x8 - ((x4 / x6) * x10))), (15, .long (x4 - ((x4 / x6) * x6))), (13, .long (x4 / x6)), (4, .long x4), (6, .long x6), (8, .long x8), (10, .long x10), (12, .int x12)]) hx hb dX4_inverse_55 hl (by decide) rfl (fun ls hl => ?_)
          refine lv_lload hx hb dX4_inverse_57 (lv_at hl 4 rfl) ?_
          refine lv_lstore (lv' := [(4, .long x6), (17, .long (x8 - ((x4 / x6) * x10))), (15, .long (x4 - ((x4 / x6) * x6))), (13, .long (x4 / x6)), (6, .long x6), (8, .long x8), (10, .long x10), (12, .int x12)]) hx hb dX4_inverse_59 hl (by decide) rfl (fun ls hl => ?_)
          refine lv_lload hx hb dX4_inverse_61 (lv_at hl 2 rfl) ?_
          refine lv_lstore (lv' := [(6, .long (x4 - ((x4 / x6) * x6))), (4, .long x6), (17, .long (x8 - ((x4 / x6) * x10))), (15, .long (x4 - ((x4 / x6) * x6))), (13, .long (x4 / x6)), (8, .long x8), (10, .long x10), (12, .int x12)]) hx hb dX4_inverse_63 hl (by decide) rfl (fun ls hl => ?_)
          refine lv_lload hx hb dX4_inverse_65 (lv_at hl 6 rfl) ?_
          refine lv_lstore (lv' := [(8, .long x10), (6, .long (x4 - ((x4 / x6) * x6))), (4, .long x6), (17, .long (x8 - ((x4 / x6) * x10))), (15, .long (x4 - ((x4 / x6) * x6))), (13, .long (x4 / x6)), (10, .long x10), (12, .int x12)]) hx hb dX4_inverse_67 hl (by decide) rfl (fun ls hl => ?_)
          refine lv_lload hx hb dX4_inverse_69 (lv_at hl 3 rfl) ?_
          refine lv_lstore (lv' := [(10, .long (x8 - ((x4 / x6) * x10))), (8, .long x10), (6, .long (x4 - ((x4 / x6) * x6))), (4, .long x6), (17, .long (x8 - ((x4 / x6) * x10))), (15, .long (x4 - ((x4 / x6) * x6))), (13, .long (x4 / x6)), (12, .int x12)]) hx hb dX4_inverse_71 hl (by decide) rfl (fun ls hl => ?_)
          refine lv_iinc (v := x12 + 1) (lv' := [(12, .int (x12 + 1)), (10, .long (x8 - ((x4 / x6) * x10))), (8, .long x10), (6, .long (x4 - ((x4 / x6) * x6))), (4, .long x6), (17, .long (x8 - ((x4 / x6) * x10))), (15, .long (x4 - ((x4 / x6) * x6))), (13, .long (x4 / x6))]) hx hb dX4_inverse_73 hl (k := 7) rfl (by rfl) (by decide) rfl (fun ls hl => ?_)
          refine lv_goto (tgt := 15) hx hb dX4_inverse_76 (by decide) ?_
          exact ih15 x6 (x4 - ((x4 / x6) * x6)) x10 (x8 - ((x4 / x6) * x10)) (x12 + 1) _ (lv_sub hl [4, 3, 2, 1, 0] rfl)  hf
  have hl := lv_entry ([.long y0, .long y2]) (n := 19) (Nat.le_of_ble_eq_true rfl)
  rw [lg_entry_eq]
  generalize (lg_sl ([.long y0, .long y2]) ++ List.replicate (19 - (lg_sl ([.long y0, .long y2])).length) Slot.unset).toArray = ls at hl ⊢
  have hl : lv_has ls 19 [(0, .long y0), (2, .long y2)] := hl
  unfold f_X4_inverse at hf
  refine lv_lload_n hx hb dX4_inverse_0 rfl (lv_at hl 1 rfl) ?_
  refine lv_lstore (lv' := [(4, .long y2), (0, .long y0), (2, .long y2)]) hx hb dX4_inverse_1 hl (by decide) rfl (fun ls hl => ?_)
  refine lv_lload_n hx hb dX4_inverse_3 rfl (lv_at hl 1 rfl) ?_
  refine lv_lstore (lv' := [(6, .long y0), (4, .long y2), (0, .long y0), (2, .long y2)]) hx hb dX4_inverse_4 hl (by decide) rfl (fun ls hl => ?_)
  refine lv_lconst (v := 0) hx hb dX4_inverse_6 (by decide) ?_
  refine lv_lstore (lv' := [(8, .long 0), (6, .long y0), (4, .long y2), (0, .long y0), (2, .long y2)]) hx hb dX4_inverse_7 hl (by decide) rfl (fun ls hl => ?_)
  refine lv_lconst (v := 1) hx hb dX4_inverse_9 (by decide) ?_
  refine lv_lstore (lv' := [(10, .long 1), (8, .long 0), (6, .long y0), (4, .long y2), (0, .long y0), (2, .long y2)]) hx hb dX4_inverse_10 hl (by decide) rfl (fun ls hl => ?_)
  refine lv_iconst (v := 0) hx hb dX4_inverse_12 (by decide) ?_
  refine lv_istore (lv' := [(12, .int 0), (10, .long 1), (8, .long 0), (6, .long y0), (4, .long y2), (0, .long y0), (2, .long y2)]) hx hb dX4_inverse_13 hl (by decide) rfl (fun ls hl => ?_)
  exact hL15 FU y2 y0 0 1 0 _ (lv_sub hl [4, 3, 2, 1, 0] rfl)  hf
def f_X0_init_B99 (S : PS) : Option PS :=
  some (S)
def f_X0_init (S : PS) (x0 : Nat) (x1 : Int32) (x2 : Int32) (x3 : Int32) : Option PS :=
  bd (f_X4_commonDivisor x1.toInt64 x3.toInt64) fun t1 =>
  bd (f_X4_rest x2.toInt64 t1) fun t4 =>
  if t4 = 0 then (bd (f_X4_share x3.toInt64 t1) fun t8 =>
  bd (f_X4_share x2.toInt64 t1) fun t11 =>
  bd (f_X4_share x1.toInt64 t1) fun t14 =>
  bd (f_X4_inverse t14 t8) fun t17 =>
  bd (f_X4_rest (t11 * t17) t8) fun t20 =>
  f_X0_init_B99 (sI (sI (sI (sI (sI S 0 x0 x1) 1 x0 x2) 2 x0 x3) 3 x0 t8.toInt32) 4 x0 t20.toInt32)) else
  f_X0_init_B99 (sI (sI (sI (sI (sI S 0 x0 x1) 1 x0 x2) 2 x0 x3) 3 x0 ((-1))) 4 x0 ((-1)))
set_option maxHeartbeats 4000000 in
set_option maxRecDepth 100000 in
theorem c_X0_init (l : Launch) (D : va_G) (cy : cyT) {S : PS} {n : Nat} {y0 : Nat} {y1 : Int32} {y2 : Int32} {y3 : Int32} (v_y0 : vd S y0 0) {res : PS} (hf : f_X0_init S y0 y1 y2 y3 = some res) : Met l yX0_init wsX0_init ({ frames := 1, cells := 0, slots := 0, locals := 38 } : Room) (PcW False D cy S n [.ref y0, .int y1, .int y2, .int y3]) (va_Qv (fun (u : PS × Nat) => u = (res, n)) (BW D cy S n) (AA cy S n)) 0 0 (AA cy S n) := by
  refine Met.ofW (cc := cX0_init) (maxL := 8) (ret := none) (by decide) rfl ?_
  intro p e s m args below meth c s₁ B hml hv
  obtain ⟨hav, hsz, hP0, hD0, hK, hZ0⟩ := hv
  have hx := B.exec
  have hb := B.bytes
  have hr := B.returns
  have hts := atoms_spec (ws := wsX0_init) B.pre
  have hown : s.vm.findClass RX0 = some m.cls := findClass_of_methodNamed B.named
  have hlocks := B.notSynchronized
  have hin : meth.name = "<init>" := (name_of_methodNamed B.named B.method).1
  subst hav
  have hw : Hw D cy (AA cy S n) s.heap S n s.heap [] := Hw.start hsz hP0 hD0
  have hA : ∀ q, s.heap.size ≤ q → AA cy S n q := fun q h => Or.inr (hsz ▸ h)
  have hE : EX S S := EX.rf
  have F : CallFix p m c cX0_init 8 s _ wsX0_init RX0 := ⟨hx, hb, hml, hown, hts⟩
  have hB99 : ∀ (Sb : PS) (H1 : Heap) (lo1 : List Loc)  (ls : Array Slot), lv_has ls 8 [] → Hw D cy (AA cy S n) s.heap Sb n H1 lo1 → EX S Sb → f_X0_init_B99 Sb = some res → W p l e (headSpec wsX0_init ({ frames := 1, cells := 0, slots := 0, locals := 38 } : Room)).room s m ([.ref y0, .int y1, .int y2, .int y3] : List Value).toArray below meth c H1 lo1 0 0 (MQ below (va_Qv (fun (u : PS × Nat) => u = (res, n)) (BW D cy S n) (AA cy S n)) ([.ref y0, .int y1, .int y2, .int y3] : List Value).toArray s 0 0 (AA cy S n)) (F0 m 99 ls []) := by
    intro Sb H1 lo1 ls hl hw hE hf
    unfold f_X0_init_B99 at hf
    exact W.vret hx hb hr (fun t ht hW => ⟨⟨(Sb, n), rfl, po1 hf, BW.of hw hE ht⟩, hw.2.2.1.F ht⟩) hw.2.2.1.2.2 dX0_init_99
  have hl := lv_entry ([.ref y0, .int y1, .int y2, .int y3]) (n := 8) (Nat.le_of_ble_eq_true rfl)
  rw [lg_entry_eq]
  generalize (lg_sl ([.ref y0, .int y1, .int y2, .int y3]) ++ List.replicate (8 - (lg_sl ([.ref y0, .int y1, .int y2, .int y3])).length) Slot.unset).toArray = ls at hl ⊢
  have hl : lv_has ls 8 [(0, .ref y0), (1, .int y1), (2, .int y2), (3, .int y3)] := hl
  unfold f_X0_init at hf
  refine lv_aload_n hx hb dX0_init_0 rfl (lv_at hl 0 rfl) ?_
  refine W.objInit hx hb hown (hts (.methodLink RX0 3 objectInit) (List.mem_of_getElem? (i := 1) rfl)) (hts (.instanceMethod objectInit) (List.mem_of_getElem? (i := 2) rfl)) (hts (.code objectInit ⟨#[0xb1]⟩ 1 none) (List.mem_of_getElem? (i := 3) rfl)) rfl (by rw [hml]; exact hl.1) rfl dX0_init_1 (Nat.le_of_ble_eq_true rfl) (Nat.le_of_ble_eq_true rfl) ?_
  refine W.eq (g2 := F0 m 4 ls []) rfl ?_
  refine lv_aload_n hx hb dX0_init_4 rfl (lv_at hl 0 rfl) ?_
  refine lv_iload_n hx hb dX0_init_5 rfl (lv_at hl 1 rfl) ?_
  refine q_put F hK hw v_y0.1 (pF_0 (S := S) v_y0.2) (fun w h => List.mem_cons_of_mem _ (List.mem_append_right _ h)) tyX0 tyX0_ok nmX0 rfl 0 (by decide) (hts (.fieldLink RX0 9 "SharedModuli$Condition" "facto\x72" "I") (List.mem_of_getElem? (i := 4) rfl)) (Or.inr ⟨hin, rfl⟩) (tyX0_ok 0 (by decide)) rfl rfl (Nat.le_of_ble_eq_true rfl) (S1 := sI S 0 y0 y1) (st_0 (S := S) v_y0.2 y1) dX0_init_6 (fun H locs hw => ?_)
  refine lv_aload_n hx hb dX0_init_9 rfl (lv_at hl 0 rfl) ?_
  refine lv_iload_n hx hb dX0_init_10 rfl (lv_at hl 2 rfl) ?_
  refine q_put F hK hw v_y0.1 (pF_0 (S := sI S 0 y0 y1) v_y0.2) (fun w h => List.mem_cons_of_mem _ (List.mem_append_right _ h)) tyX0 tyX0_ok nmX0 rfl 1 (by decide) (hts (.fieldLink RX0 15 "SharedModuli$Condition" "remainde\x72" "I") (List.mem_of_getElem? (i := 5) rfl)) (Or.inr ⟨hin, rfl⟩) (tyX0_ok 1 (by decide)) rfl rfl (Nat.le_of_ble_eq_true rfl) (S1 := sI (sI S 0 y0 y1) 1 y0 y2) (st_1 (S := sI S 0 y0 y1) v_y0.2 y2) dX0_init_11 (fun H locs hw => ?_)
  refine lv_aload_n hx hb dX0_init_14 rfl (lv_at hl 0 rfl) ?_
  refine lv_iload_n hx hb dX0_init_15 rfl (lv_at hl 3 rfl) ?_
  refine q_put F hK hw v_y0.1 (pF_0 (S := sI (sI S 0 y0 y1) 1 y0 y2) v_y0.2) (fun w h => List.mem_cons_of_mem _ (List.mem_append_right _ h)) tyX0 tyX0_ok nmX0 rfl 2 (by decide) (hts (.fieldLink RX0 18 "SharedModuli$Condition" "modulus" "I") (List.mem_of_getElem? (i := 6) rfl)) (Or.inr ⟨hin, rfl⟩) (tyX0_ok 2 (by decide)) rfl rfl (Nat.le_of_ble_eq_true rfl) (S1 := sI (sI (sI S 0 y0 y1) 1 y0 y2) 2 y0 y3) (st_2 (S := sI (sI S 0 y0 y1) 1 y0 y2) v_y0.2 y3) dX0_init_16 (fun H locs hw => ?_)
  refine lv_iload_n hx hb dX0_init_19 rfl (lv_at hl 1 rfl) ?_
  refine lv_i2l hx hb dX0_init_20 rfl ?_
  refine lv_iload_n hx hb dX0_init_21 rfl (lv_at hl 3 rfl) ?_
  refine lv_i2l hx hb dX0_init_22 rfl ?_
  obtain ⟨t23, h24, hf⟩ := bd_some hf
  refine vp_callSl (va_runSN (As := [.long y1.toInt64, .long y3.toInt64]) (rest := []) F (c_X4_commonDivisor l D cy (H := _)  h24) ⟨(va_cnB 2 hts gX0_init_X4_commonDivisor_n21 rfl rfl rfl (nk_m_RX0_21 hK.2.1) (hts (.initialized RX4) (List.mem_of_getElem? (i := 10) rfl)) ⟨ph_X4_commonDivisor.1, ph_X4_commonDivisor.2, pd_X4_commonDivisor⟩ ⟨Nat.le_of_ble_eq_true rfl, Nat.le_of_ble_eq_true rfl⟩), (hts (.static yX4_commonDivisor) (List.mem_of_getElem? (i := 9) rfl)), trivial⟩ ⟨PcR.bl, PcR.in hK⟩ rfl rfl hl.1 rfl (lv_room (Nat.le_of_ble_eq_true rfl)) dX0_init_23 ⟨Nat.zero_le _, Nat.zero_le _⟩).run (fun r25 er25 => ?_)
  subst r25
  refine lv_lstore (lv' := [(4, .long t23), (0, .ref y0), (1, .int y1), (2, .int y2), (3, .int y3)]) hx hb dX0_init_26 hl (by decide) rfl (fun ls hl => ?_)
  refine lv_iload_n hx hb dX0_init_28 rfl (lv_at hl 3 rfl) ?_
  refine lv_i2l hx hb dX0_init_29 rfl ?_
  refine lv_lload hx hb dX0_init_30 (lv_at hl 0 rfl) ?_
  obtain ⟨t26, h27, hf⟩ := bd_some hf
  refine vp_callSl (va_runSN (As := [.long y2.toInt64, .long t23]) (rest := []) F (c_X4_rest l D cy (H := _)  h27) ⟨(va_cnB 2 hts gX0_init_X4_rest_n25 rfl rfl rfl (nk_m_RX0_25 hK.2.1) (hts (.initialized RX4) (List.mem_of_getElem? (i := 10) rfl)) ⟨ph_X4_rest.1, ph_X4_rest.2, pd_X4_rest⟩ ⟨Nat.le_of_ble_eq_true rfl, Nat.le_of_ble_eq_true rfl⟩), (hts (.static yX4_rest) (List.mem_of_getElem? (i := 12) rfl)), trivial⟩ ⟨PcR.bl, PcR.in hK⟩ rfl rfl hl.1 rfl (lv_room (Nat.le_of_ble_eq_true rfl)) dX0_init_32 ⟨Nat.zero_le _, Nat.zero_le _⟩).run (fun r28 er28 => ?_)
  subst r28
  refine lv_lconst (v := 0) hx hb dX0_init_35 (by decide) ?_
  refine W.lcmp hx hb dX0_init_36 ?_
  refine lv_if_eq (tgt := 53) hx hb dX0_init_37 (by decide) (fun c29 => ?_) (fun c29 => ?_)
  · have hf := it_t ((lq_eq _ _).mp c29) hf
    refine lv_iload_n hx hb dX0_init_53 rfl (lv_at hl 4 rfl) ?_
    refine lv_i2l hx hb dX0_init_54 rfl ?_
    refine lv_lload hx hb dX0_init_55 (lv_at hl 0 rfl) ?_
    obtain ⟨t30, h31, hf⟩ := bd_some hf
    refine vp_callSl (va_runSN (As := [.long y3.toInt64, .long t23]) (rest := []) F (c_X4_share l D cy (H := _)  h31) ⟨(va_cnB 2 hts gX0_init_X4_share_n34 rfl rfl rfl (nk_m_RX0_34 hK.2.1) (hts (.initialized RX4) (List.mem_of_getElem? (i := 10) rfl)) ⟨ph_X4_share.1, ph_X4_share.2, pd_X4_share⟩ ⟨Nat.le_of_ble_eq_true rfl, Nat.le_of_ble_eq_true rfl⟩), (hts (.static yX4_share) (List.mem_of_getElem? (i := 14) rfl)), trivial⟩ ⟨PcR.bl, PcR.in hK⟩ rfl rfl hl.1 rfl (lv_room (Nat.le_of_ble_eq_true rfl)) dX0_init_57 ⟨Nat.zero_le _, Nat.zero_le _⟩).run (fun r32 er32 => ?_)
    subst r32
    refine lv_lstore (lv' := [(6, .long t30), (4, .long t23), (0, .ref y0), (1, .int y1), (2, .int y2), (3, .int y3)]) hx hb dX0_init_60 hl (by decide) rfl (fun ls hl => ?_)
    refine lv_aload_n hx hb dX0_init_62 rfl (lv_at hl 2 rfl) ?_
    refine lv_lload hx hb dX0_init_63 (lv_at hl 0 rfl) ?_
    refine lv_l2i hx hb dX0_init_65 rfl ?_
    refine q_put F hK hw v_y0.1 (pF_0 (S := sI (sI (sI S 0 y0 y1) 1 y0 y2) 2 y0 y3) v_y0.2) (fun w h => List.mem_cons_of_mem _ (List.mem_append_right _ h)) tyX0 tyX0_ok nmX0 rfl 3 (by decide) (hts (.fieldLink RX0 28 "SharedModuli$Condition" "bareModulus" "I") (List.mem_of_getElem? (i := 7) rfl)) (Or.inr ⟨hin, rfl⟩) (tyX0_ok 3 (by decide)) rfl rfl (Nat.le_of_ble_eq_true rfl) (S1 := sI (sI (sI (sI S 0 y0 y1) 1 y0 y2) 2 y0 y3) 3 y0 t30.toInt32) (st_3 (S := sI (sI (sI S 0 y0 y1) 1 y0 y2) 2 y0 y3) v_y0.2 t30.toInt32) dX0_init_66 (fun H locs hw => ?_)
    refine lv_aload_n hx hb dX0_init_69 rfl (lv_at hl 2 rfl) ?_
    refine lv_iload_n hx hb dX0_init_70 rfl (lv_at hl 4 rfl) ?_
    refine lv_i2l hx hb dX0_init_71 rfl ?_
    refine lv_lload hx hb dX0_init_72 (lv_at hl 1 rfl) ?_
    obtain ⟨t33, h34, hf⟩ := bd_some hf
    refine vp_callSl (va_runSN (As := [.long y2.toInt64, .long t23]) (rest := [.ref y0]) F (c_X4_share l D cy (H := _)  h34) ⟨(va_cnB 2 hts gX0_init_X4_share_n34 rfl rfl rfl (nk_m_RX0_34 hK.2.1) (hts (.initialized RX4) (List.mem_of_getElem? (i := 10) rfl)) ⟨ph_X4_share.1, ph_X4_share.2, pd_X4_share⟩ ⟨Nat.le_of_ble_eq_true rfl, Nat.le_of_ble_eq_true rfl⟩), (hts (.static yX4_share) (List.mem_of_getElem? (i := 14) rfl)), trivial⟩ ⟨PcR.bl, PcR.in hK⟩ rfl rfl hl.1 rfl (lv_room (Nat.le_of_ble_eq_true rfl)) dX0_init_74 ⟨Nat.zero_le _, Nat.zero_le _⟩).run (fun r35 er35 => ?_)
    subst r35
    refine lv_iload_n hx hb dX0_init_77 rfl (lv_at hl 3 rfl) ?_
    refine lv_i2l hx hb dX0_init_78 rfl ?_
    refine lv_lload hx hb dX0_init_79 (lv_at hl 1 rfl) ?_
    obtain ⟨t36, h37, hf⟩ := bd_some hf
    refine vp_callSl (va_runSN (As := [.long y1.toInt64, .long t23]) (rest := [.long t33, .ref y0]) F (c_X4_share l D cy (H := _)  h37) ⟨(va_cnB 2 hts gX0_init_X4_share_n34 rfl rfl rfl (nk_m_RX0_34 hK.2.1) (hts (.initialized RX4) (List.mem_of_getElem? (i := 10) rfl)) ⟨ph_X4_share.1, ph_X4_share.2, pd_X4_share⟩ ⟨Nat.le_of_ble_eq_true rfl, Nat.le_of_ble_eq_true rfl⟩), (hts (.static yX4_share) (List.mem_of_getElem? (i := 14) rfl)), trivial⟩ ⟨PcR.bl, PcR.in hK⟩ rfl rfl hl.1 rfl (lv_room (Nat.le_of_ble_eq_true rfl)) dX0_init_81 ⟨Nat.zero_le _, Nat.zero_le _⟩).run (fun r38 er38 => ?_)
    subst r38
    refine lv_lload hx hb dX0_init_84 (lv_at hl 0 rfl) ?_
    obtain ⟨t39, h40, hf⟩ := bd_some hf
    refine vp_callSl (va_runSN (As := [.long t36, .long t30]) (rest := [.long t33, .ref y0]) F (c_X4_inverse l D cy (H := _)  h40) ⟨(va_cnB 2 hts gX0_init_X4_inverse_n37 rfl rfl rfl (nk_m_RX0_37 hK.2.1) (hts (.initialized RX4) (List.mem_of_getElem? (i := 10) rfl)) ⟨ph_X4_inverse.1, ph_X4_inverse.2, pd_X4_inverse⟩ ⟨Nat.le_of_ble_eq_true rfl, Nat.le_of_ble_eq_true rfl⟩), (hts (.static yX4_inverse) (List.mem_of_getElem? (i := 16) rfl)), trivial⟩ ⟨PcR.bl, PcR.in hK⟩ rfl rfl hl.1 rfl (lv_room (Nat.le_of_ble_eq_true rfl)) dX0_init_86 ⟨Nat.zero_le _, Nat.zero_le _⟩).run (fun r41 er41 => ?_)
    subst r41
    refine lv_lmul hx hb dX0_init_89 ?_
    refine lv_lload hx hb dX0_init_90 (lv_at hl 0 rfl) ?_
    obtain ⟨t42, h43, hf⟩ := bd_some hf
    refine vp_callSl (va_runSN (As := [.long (t33 * t39), .long t30]) (rest := [.ref y0]) F (c_X4_rest l D cy (H := _)  h43) ⟨(va_cnB 2 hts gX0_init_X4_rest_n25 rfl rfl rfl (nk_m_RX0_25 hK.2.1) (hts (.initialized RX4) (List.mem_of_getElem? (i := 10) rfl)) ⟨ph_X4_rest.1, ph_X4_rest.2, pd_X4_rest⟩ ⟨Nat.le_of_ble_eq_true rfl, Nat.le_of_ble_eq_true rfl⟩), (hts (.static yX4_rest) (List.mem_of_getElem? (i := 12) rfl)), trivial⟩ ⟨PcR.bl, PcR.in hK⟩ rfl rfl hl.1 rfl (lv_room (Nat.le_of_ble_eq_true rfl)) dX0_init_92 ⟨Nat.zero_le _, Nat.zero_le _⟩).run (fun r44 er44 => ?_)
    subst r44
    refine lv_l2i hx hb dX0_init_95 rfl ?_
    refine q_put F hK hw v_y0.1 (pF_0 (S := sI (sI (sI (sI S 0 y0 y1) 1 y0 y2) 2 y0 y3) 3 y0 t30.toInt32) v_y0.2) (fun w h => List.mem_cons_of_mem _ (List.mem_append_right _ h)) tyX0 tyX0_ok nmX0 rfl 4 (by decide) (hts (.fieldLink RX0 31 "SharedModuli$Condition" "bareRemainde\x72" "I") (List.mem_of_getElem? (i := 8) rfl)) (Or.inr ⟨hin, rfl⟩) (tyX0_ok 4 (by decide)) rfl rfl (Nat.le_of_ble_eq_true rfl) (S1 := sI (sI (sI (sI (sI S 0 y0 y1) 1 y0 y2) 2 y0 y3) 3 y0 t30.toInt32) 4 y0 t42.toInt32) (st_4 (S := sI (sI (sI (sI S 0 y0 y1) 1 y0 y2) 2 y0 y3) 3 y0 t30.toInt32) v_y0.2 t42.toInt32) dX0_init_96 (fun H locs hw => ?_)
    exact hB99 (sI (sI (sI (sI (sI S 0 y0 y1) 1 y0 y2) 2 y0 y3) 3 y0 t30.toInt32) 4 y0 t42.toInt32) _ _ _ (lv_sub hl [] rfl) hw hE  hf
  · have hf := it_f (fun z => c29 ((lq_eq _ _).mpr z)) hf
    refine lv_aload_n hx hb dX0_init_40 rfl (lv_at hl 1 rfl) ?_
    refine lv_iconst (v := (-1)) hx hb dX0_init_41 (by decide) ?_
    refine q_put F hK hw v_y0.1 (pF_0 (S := sI (sI (sI S 0 y0 y1) 1 y0 y2) 2 y0 y3) v_y0.2) (fun w h => List.mem_cons_of_mem _ (List.mem_append_right _ h)) tyX0 tyX0_ok nmX0 rfl 3 (by decide) (hts (.fieldLink RX0 28 "SharedModuli$Condition" "bareModulus" "I") (List.mem_of_getElem? (i := 7) rfl)) (Or.inr ⟨hin, rfl⟩) (tyX0_ok 3 (by decide)) rfl rfl (Nat.le_of_ble_eq_true rfl) (S1 := sI (sI (sI (sI S 0 y0 y1) 1 y0 y2) 2 y0 y3) 3 y0 ((-1))) (st_3 (S := sI (sI (sI S 0 y0 y1) 1 y0 y2) 2 y0 y3) v_y0.2 ((-1))) dX0_init_42 (fun H locs hw => ?_)
    refine lv_aload_n hx hb dX0_init_45 rfl (lv_at hl 1 rfl) ?_
    refine lv_iconst (v := (-1)) hx hb dX0_init_46 (by decide) ?_
    refine q_put F hK hw v_y0.1 (pF_0 (S := sI (sI (sI (sI S 0 y0 y1) 1 y0 y2) 2 y0 y3) 3 y0 ((-1))) v_y0.2) (fun w h => List.mem_cons_of_mem _ (List.mem_append_right _ h)) tyX0 tyX0_ok nmX0 rfl 4 (by decide) (hts (.fieldLink RX0 31 "SharedModuli$Condition" "bareRemainde\x72" "I") (List.mem_of_getElem? (i := 8) rfl)) (Or.inr ⟨hin, rfl⟩) (tyX0_ok 4 (by decide)) rfl rfl (Nat.le_of_ble_eq_true rfl) (S1 := sI (sI (sI (sI (sI S 0 y0 y1) 1 y0 y2) 2 y0 y3) 3 y0 ((-1))) 4 y0 ((-1))) (st_4 (S := sI (sI (sI (sI S 0 y0 y1) 1 y0 y2) 2 y0 y3) 3 y0 ((-1))) v_y0.2 ((-1))) dX0_init_47 (fun H locs hw => ?_)
    refine lv_goto (tgt := 99) hx hb dX0_init_50 (by decide) ?_
    exact hB99 (sI (sI (sI (sI (sI S 0 y0 y1) 1 y0 y2) 2 y0 y3) 3 y0 ((-1))) 4 y0 ((-1))) _ _ _ (lv_sub hl [] rfl) hw hE  hf
def f_X0_isVoid_B13 (S : PS) (s0 : Int32) : Option Int32 :=
  ck (decide (s0 &&& 1 = s0)) (
  some s0)
def f_X0_isVoid (S : PS) (x0 : Nat) : Option Int32 :=
  if (fI S 3 x0) = ((-1)) then (f_X0_isVoid_B13 S 1) else
  f_X0_isVoid_B13 S 0
set_option maxHeartbeats 4000000 in
set_option maxRecDepth 100000 in
theorem c_X0_isVoid (l : Launch) (D : va_G) (cy : cyT) {H : Heap} {S : PS} (hP : va_P D vwCl (wl cy S) H) {y0 : Nat} (v_y0 : vd S y0 0) {res : Int32} (hf : f_X0_isVoid S y0 = some res) : Met l yX0_isVoid wsX0_isVoid ({ frames := 0, cells := 0, slots := 0, locals := 0 } : Room) (PcR D cy H [.ref y0]) (vp_Si (fun r => r = res)) 0 0 (fun _ => False) := by
  refine Met.ofW (cc := cX0_isVoid) (maxL := 1) (ret := (some .boolean)) (by decide) rfl ?_
  intro p e s m args below meth c s₁ B hml hv
  obtain ⟨hav, hH, hK⟩ := hv
  have hx := B.exec
  have hb := B.bytes
  have hr := B.returns
  have hts := atoms_spec (ws := wsX0_isVoid) B.pre
  have hown : s.vm.findClass RX0 = some m.cls := findClass_of_methodNamed B.named
  have hlocks := B.notSynchronized
  subst hav
  subst hH
  have F : CallFix p m c cX0_isVoid 1 s _ wsX0_isVoid RX0 := ⟨hx, hb, hml, hown, hts⟩
  have hB13 : ∀ (s0 : Int32) (ls : Array Slot), lv_has ls 1 [] → f_X0_isVoid_B13 S s0 = some res → W p l e (headSpec wsX0_isVoid ({ frames := 0, cells := 0, slots := 0, locals := 0 } : Room)).room s m ([.ref y0] : List Value).toArray below meth c s.heap [] 0 0 (MQ below (vp_Si (fun r => r = res)) ([.ref y0] : List Value).toArray s 0 0 (fun _ => False)) (F0 m 13 ls [.int s0]) := by
    intro s0 ls hl hf
    unfold f_X0_isVoid_B13 at hf
    obtain ⟨c3, hf⟩ := ckd_some hf
    exact W.zret (v := s0) hx hb hr (nz c3) (fun t ht hW => ⟨_, rfl, Option.some.inj hf, ht⟩) (fun _ h => by cases h) dX0_isVoid_13
  have hl := lv_entry ([.ref y0]) (n := 1) (Nat.le_of_ble_eq_true rfl)
  rw [lg_entry_eq]
  generalize (lg_sl ([.ref y0]) ++ List.replicate (1 - (lg_sl ([.ref y0])).length) Slot.unset).toArray = ls at hl ⊢
  have hl : lv_has ls 1 [(0, .ref y0)] := hl
  unfold f_X0_isVoid at hf
  refine lv_aload_n hx hb dX0_isVoid_0 rfl (lv_at hl 0 rfl) ?_
  refine q_get F hK hP v_y0.1 (pF_0 (S := S) v_y0.2) (fun w h => List.mem_cons_of_mem _ (List.mem_append_right _ h)) rfl 3 (by decide) (hts (.fieldLink RX0 28 "SharedModuli$Condition" "bareModulus" "I") (List.mem_of_getElem? (i := 1) rfl)) (v := .int (fI S 3 y0)) rfl dX0_isVoid_1 ?_
  refine lv_iconst (v := (-1)) hx hb dX0_isVoid_4 (by decide) ?_
  refine lv_icmp_ne (tgt := 12) hx hb dX0_isVoid_5 (by decide) (fun c4 => ?_) (fun c4 => ?_)
  · have hf := it_f c4 hf
    refine lv_iconst (v := 0) hx hb dX0_isVoid_12 (by decide) ?_
    exact hB13 0 _ (lv_sub hl [] rfl)  hf
  · have hf := it_t c4 hf
    refine lv_iconst (v := 1) hx hb dX0_isVoid_8 (by decide) ?_
    refine lv_goto (tgt := 13) hx hb dX0_isVoid_9 (by decide) ?_
    exact hB13 1 _ (lv_sub hl [] rfl)  hf
def f_X0_isPartnerOf_B14 (S : PS)  : Option Int32 :=
  some 0
def f_X0_isPartnerOf_B57 (S : PS) (s0 : Int32) : Option Int32 :=
  ck (decide (s0 &&& 1 = s0)) (
  some s0)
def f_X0_isPartnerOf (S : PS) (x0 : Nat) (x1 : Nat) : Option Int32 :=
  bd (f_X0_isVoid S x0) fun t2 =>
  if t2 = 0 then (bd (f_X0_isVoid S x1) fun t6 =>
  if t6 = 0 then (bd (f_X4_commonDivisor ((fI S 3 x0).toInt64) ((fI S 3 x1).toInt64)) fun t10 =>
  bd (f_X4_rest ((fI S 4 x0).toInt64) t10) fun t13 =>
  bd (f_X4_rest ((fI S 4 x1).toInt64) t10) fun t16 =>
  if t13 = t16 then (f_X0_isPartnerOf_B57 S 1) else
  f_X0_isPartnerOf_B57 S 0) else
  f_X0_isPartnerOf_B14 S) else
  f_X0_isPartnerOf_B14 S
set_option maxHeartbeats 4000000 in
set_option maxRecDepth 100000 in
theorem c_X0_isPartnerOf (l : Launch) (D : va_G) (cy : cyT) {H : Heap} {S : PS} (hP : va_P D vwCl (wl cy S) H) {y0 : Nat} {y1 : Nat} (v_y0 : vd S y0 0) (v_y1 : vd S y1 0) {res : Int32} (hf : f_X0_isPartnerOf S y0 y1 = some res) : Met l yX0_isPartnerOf wsX0_isPartnerOf ({ frames := 1, cells := 0, slots := 0, locals := 30 } : Room) (PcR D cy H [.ref y0, .ref y1]) (vp_Si (fun r => r = res)) 0 0 (fun _ => False) := by
  refine Met.ofW (cc := cX0_isPartnerOf) (maxL := 4) (ret := (some .boolean)) (by decide) rfl ?_
  intro p e s m args below meth c s₁ B hml hv
  obtain ⟨hav, hH, hK⟩ := hv
  have hx := B.exec
  have hb := B.bytes
  have hr := B.returns
  have hts := atoms_spec (ws := wsX0_isPartnerOf) B.pre
  have hown : s.vm.findClass RX0 = some m.cls := findClass_of_methodNamed B.named
  have hlocks := B.notSynchronized
  subst hav
  subst hH
  have F : CallFix p m c cX0_isPartnerOf 4 s _ wsX0_isPartnerOf RX0 := ⟨hx, hb, hml, hown, hts⟩
  have hB14 : ∀  (ls : Array Slot), lv_has ls 4 [] → f_X0_isPartnerOf_B14 S = some res → W p l e (headSpec wsX0_isPartnerOf ({ frames := 1, cells := 0, slots := 0, locals := 30 } : Room)).room s m ([.ref y0, .ref y1] : List Value).toArray below meth c s.heap [] 0 0 (MQ below (vp_Si (fun r => r = res)) ([.ref y0, .ref y1] : List Value).toArray s 0 0 (fun _ => False)) (F0 m 14 ls []) := by
    intro ls hl hf
    unfold f_X0_isPartnerOf_B14 at hf
    refine lv_iconst (v := 0) hx hb dX0_isPartnerOf_14 (by decide) ?_
    exact W.zret (v := 0) hx hb hr rfl (fun t ht hW => ⟨_, rfl, Option.some.inj hf, ht⟩) (fun _ h => by cases h) dX0_isPartnerOf_15
  have hB57 : ∀ (s0 : Int32) (ls : Array Slot), lv_has ls 4 [] → f_X0_isPartnerOf_B57 S s0 = some res → W p l e (headSpec wsX0_isPartnerOf ({ frames := 1, cells := 0, slots := 0, locals := 30 } : Room)).room s m ([.ref y0, .ref y1] : List Value).toArray below meth c s.heap [] 0 0 (MQ below (vp_Si (fun r => r = res)) ([.ref y0, .ref y1] : List Value).toArray s 0 0 (fun _ => False)) (F0 m 57 ls [.int s0]) := by
    intro s0 ls hl hf
    unfold f_X0_isPartnerOf_B57 at hf
    obtain ⟨c20, hf⟩ := ckd_some hf
    exact W.zret (v := s0) hx hb hr (nz c20) (fun t ht hW => ⟨_, rfl, Option.some.inj hf, ht⟩) (fun _ h => by cases h) dX0_isPartnerOf_57
  have hl := lv_entry ([.ref y0, .ref y1]) (n := 4) (Nat.le_of_ble_eq_true rfl)
  rw [lg_entry_eq]
  generalize (lg_sl ([.ref y0, .ref y1]) ++ List.replicate (4 - (lg_sl ([.ref y0, .ref y1])).length) Slot.unset).toArray = ls at hl ⊢
  have hl : lv_has ls 4 [(0, .ref y0), (1, .ref y1)] := hl
  unfold f_X0_isPartnerOf at hf
  refine lv_aload_n hx hb dX0_isPartnerOf_0 rfl (lv_at hl 0 rfl) ?_
  obtain ⟨t21, h22, hf⟩ := bd_some hf
  refine vp_callSi (va_runV (As := []) (rest := []) F (c_X0_isVoid l D cy (H := _) hP v_y0 h22) (cwV 0 hts gX0_isPartnerOf_X0_isVoid rfl rfl rfl ⟨rfl, ph_X0_isVoid.1, ph_X0_isVoid.2, pd_X0_isVoid⟩ ⟨Nat.le_of_ble_eq_true rfl, Nat.le_of_ble_eq_true rfl⟩) ⟨PcR.bl, (q_rcv hK hP v_y0.1 (pF_0 (S := S) v_y0.2) rfl), PcR.in hK⟩ rfl rfl hl.1 rfl (lv_room (Nat.le_of_ble_eq_true rfl)) dX0_isPartnerOf_1 ⟨Nat.zero_le _, Nat.zero_le _⟩).run (fun r23 er23 => ?_)
  subst r23
  refine lv_if_ne (tgt := 14) hx hb dX0_isPartnerOf_4 (by decide) (fun c24 => ?_) (fun c24 => ?_)
  · have hf := it_f c24 hf
    exact hB14 _ (lv_sub hl [] rfl)  hf
  · have hf := it_t c24 hf
    refine lv_aload_n hx hb dX0_isPartnerOf_7 rfl (lv_at hl 1 rfl) ?_
    obtain ⟨t25, h26, hf⟩ := bd_some hf
    refine vp_callSi (va_runV (As := []) (rest := []) F (c_X0_isVoid l D cy (H := _) hP v_y1 h26) (cwV 0 hts gX0_isPartnerOf_X0_isVoid rfl rfl rfl ⟨rfl, ph_X0_isVoid.1, ph_X0_isVoid.2, pd_X0_isVoid⟩ ⟨Nat.le_of_ble_eq_true rfl, Nat.le_of_ble_eq_true rfl⟩) ⟨PcR.bl, (q_rcv hK hP v_y1.1 (pF_0 (S := S) v_y1.2) rfl), PcR.in hK⟩ rfl rfl hl.1 rfl (lv_room (Nat.le_of_ble_eq_true rfl)) dX0_isPartnerOf_8 ⟨Nat.zero_le _, Nat.zero_le _⟩).run (fun r27 er27 => ?_)
    subst r27
    refine lv_if_eq (tgt := 16) hx hb dX0_isPartnerOf_11 (by decide) (fun c28 => ?_) (fun c28 => ?_)
    · have hf := it_t c28 hf
      refine lv_aload_n hx hb dX0_isPartnerOf_16 rfl (lv_at hl 0 rfl) ?_
      refine q_get F hK hP v_y0.1 (pF_0 (S := S) v_y0.2) (fun w h => List.mem_cons_of_mem _ (List.mem_append_right _ h)) rfl 3 (by decide) (hts (.fieldLink RX0 28 "SharedModuli$Condition" "bareModulus" "I") (List.mem_of_getElem? (i := 1) rfl)) (v := .int (fI S 3 y0)) rfl dX0_isPartnerOf_17 ?_
      refine lv_i2l hx hb dX0_isPartnerOf_20 rfl ?_
      refine lv_aload_n hx hb dX0_isPartnerOf_21 rfl (lv_at hl 1 rfl) ?_
      refine q_get F hK hP v_y1.1 (pF_0 (S := S) v_y1.2) (fun w h => List.mem_cons_of_mem _ (List.mem_append_right _ h)) rfl 3 (by decide) (hts (.fieldLink RX0 28 "SharedModuli$Condition" "bareModulus" "I") (List.mem_of_getElem? (i := 1) rfl)) (v := .int (fI S 3 y1)) rfl dX0_isPartnerOf_22 ?_
      refine lv_i2l hx hb dX0_isPartnerOf_25 rfl ?_
      obtain ⟨t29, h30, hf⟩ := bd_some hf
      refine vp_callSl (va_runSN (As := [.long ((fI S 3 y0).toInt64), .long ((fI S 3 y1).toInt64)]) (rest := []) F (c_X4_commonDivisor l D cy (H := _)  h30) ⟨(va_cnB 2 hts gX0_isPartnerOf_X4_commonDivisor_n21 rfl rfl rfl (nk_m_RX0_21 hK.2.1) (hts (.initialized RX4) (List.mem_of_getElem? (i := 9) rfl)) ⟨ph_X4_commonDivisor.1, ph_X4_commonDivisor.2, pd_X4_commonDivisor⟩ ⟨Nat.le_of_ble_eq_true rfl, Nat.le_of_ble_eq_true rfl⟩), (hts (.static yX4_commonDivisor) (List.mem_of_getElem? (i := 8) rfl)), trivial⟩ ⟨PcR.bl, PcR.in hK⟩ rfl rfl hl.1 rfl (lv_room (Nat.le_of_ble_eq_true rfl)) dX0_isPartnerOf_26 ⟨Nat.zero_le _, Nat.zero_le _⟩).run (fun r31 er31 => ?_)
      subst r31
      refine lv_lstore_n (lv' := [(2, .long t29), (0, .ref y0), (1, .ref y1)]) hx hb dX0_isPartnerOf_29 rfl hl (by decide) rfl (fun ls hl => ?_)
      refine lv_aload_n hx hb dX0_isPartnerOf_30 rfl (lv_at hl 1 rfl) ?_
      refine q_get F hK hP v_y0.1 (pF_0 (S := S) v_y0.2) (fun w h => List.mem_cons_of_mem _ (List.mem_append_right _ h)) rfl 4 (by decide) (hts (.fieldLink RX0 31 "SharedModuli$Condition" "bareRemainde\x72" "I") (List.mem_of_getElem? (i := 2) rfl)) (v := .int (fI S 4 y0)) rfl dX0_isPartnerOf_31 ?_
      refine lv_i2l hx hb dX0_isPartnerOf_34 rfl ?_
      refine lv_lload_n hx hb dX0_isPartnerOf_35 rfl (lv_at hl 0 rfl) ?_
      obtain ⟨t32, h33, hf⟩ := bd_some hf
      refine vp_callSl (va_runSN (As := [.long ((fI S 4 y0).toInt64), .long t29]) (rest := []) F (c_X4_rest l D cy (H := _)  h33) ⟨(va_cnB 2 hts gX0_isPartnerOf_X4_rest_n25 rfl rfl rfl (nk_m_RX0_25 hK.2.1) (hts (.initialized RX4) (List.mem_of_getElem? (i := 9) rfl)) ⟨ph_X4_rest.1, ph_X4_rest.2, pd_X4_rest⟩ ⟨Nat.le_of_ble_eq_true rfl, Nat.le_of_ble_eq_true rfl⟩), (hts (.static yX4_rest) (List.mem_of_getElem? (i := 11) rfl)), trivial⟩ ⟨PcR.bl, PcR.in hK⟩ rfl rfl hl.1 rfl (lv_room (Nat.le_of_ble_eq_true rfl)) dX0_isPartnerOf_36 ⟨Nat.zero_le _, Nat.zero_le _⟩).run (fun r34 er34 => ?_)
      subst r34
      refine lv_aload_n hx hb dX0_isPartnerOf_39 rfl (lv_at hl 2 rfl) ?_
      refine q_get F hK hP v_y1.1 (pF_0 (S := S) v_y1.2) (fun w h => List.mem_cons_of_mem _ (List.mem_append_right _ h)) rfl 4 (by decide) (hts (.fieldLink RX0 31 "SharedModuli$Condition" "bareRemainde\x72" "I") (List.mem_of_getElem? (i := 2) rfl)) (v := .int (fI S 4 y1)) rfl dX0_isPartnerOf_40 ?_
      refine lv_i2l hx hb dX0_isPartnerOf_43 rfl ?_
      refine lv_lload_n hx hb dX0_isPartnerOf_44 rfl (lv_at hl 0 rfl) ?_
      obtain ⟨t35, h36, hf⟩ := bd_some hf
      refine vp_callSl (va_runSN (As := [.long ((fI S 4 y1).toInt64), .long t29]) (rest := [.long t32]) F (c_X4_rest l D cy (H := _)  h36) ⟨(va_cnB 2 hts gX0_isPartnerOf_X4_rest_n25 rfl rfl rfl (nk_m_RX0_25 hK.2.1) (hts (.initialized RX4) (List.mem_of_getElem? (i := 9) rfl)) ⟨ph_X4_rest.1, ph_X4_rest.2, pd_X4_rest⟩ ⟨Nat.le_of_ble_eq_true rfl, Nat.le_of_ble_eq_true rfl⟩), (hts (.static yX4_rest) (List.mem_of_getElem? (i := 11) rfl)), trivial⟩ ⟨PcR.bl, PcR.in hK⟩ rfl rfl hl.1 rfl (lv_room (Nat.le_of_ble_eq_true rfl)) dX0_isPartnerOf_45 ⟨Nat.zero_le _, Nat.zero_le _⟩).run (fun r37 er37 => ?_)
      subst r37
      refine W.lcmp hx hb dX0_isPartnerOf_48 ?_
      refine lv_if_ne (tgt := 56) hx hb dX0_isPartnerOf_49 (by decide) (fun c38 => ?_) (fun c38 => ?_)
      · have hf := it_f (fun z => c38 ((lq_eq _ _).mpr z)) hf
        refine lv_iconst (v := 0) hx hb dX0_isPartnerOf_56 (by decide) ?_
        exact hB57 0 _ (lv_sub hl [] rfl)  hf
      · have hf := it_t ((lq_eq _ _).mp c38) hf
        refine lv_iconst (v := 1) hx hb dX0_isPartnerOf_52 (by decide) ?_
        refine lv_goto (tgt := 57) hx hb dX0_isPartnerOf_53 (by decide) ?_
        exact hB57 1 _ (lv_sub hl [] rfl)  hf
    · have hf := it_f c28 hf
      exact hB14 _ (lv_sub hl [] rfl)  hf
def f_X0_isFulfilledBy_B30 (S : PS) (s0 : Int32) : Option Int32 :=
  ck (decide (s0 &&& 1 = s0)) (
  some s0)
def f_X0_isFulfilledBy_B29 (S : PS)  : Option Int32 :=
  f_X0_isFulfilledBy_B30 S 0
def f_X0_isFulfilledBy (S : PS) (x0 : Nat) (x1 : Int64) : Option Int32 :=
  bd (f_X0_isVoid S x0) fun t2 =>
  if t2 = 0 then (bd (f_X4_rest x1 ((fI S 3 x0).toInt64)) fun t6 =>
  if t6 = ((fI S 4 x0).toInt64) then (f_X0_isFulfilledBy_B30 S 1) else
  f_X0_isFulfilledBy_B29 S) else
  f_X0_isFulfilledBy_B29 S
set_option maxHeartbeats 4000000 in
set_option maxRecDepth 100000 in
theorem c_X0_isFulfilledBy (l : Launch) (D : va_G) (cy : cyT) {H : Heap} {S : PS} (hP : va_P D vwCl (wl cy S) H) {y0 : Nat} {y1 : Int64} (v_y0 : vd S y0 0) {res : Int32} (hf : f_X0_isFulfilledBy S y0 y1 = some res) : Met l yX0_isFulfilledBy wsX0_isFulfilledBy ({ frames := 1, cells := 0, slots := 0, locals := 25 } : Room) (PcR D cy H [.ref y0, .long y1]) (vp_Si (fun r => r = res)) 0 0 (fun _ => False) := by
  refine Met.ofW (cc := cX0_isFulfilledBy) (maxL := 3) (ret := (some .boolean)) (by decide) rfl ?_
  intro p e s m args below meth c s₁ B hml hv
  obtain ⟨hav, hH, hK⟩ := hv
  have hx := B.exec
  have hb := B.bytes
  have hr := B.returns
  have hts := atoms_spec (ws := wsX0_isFulfilledBy) B.pre
  have hown : s.vm.findClass RX0 = some m.cls := findClass_of_methodNamed B.named
  have hlocks := B.notSynchronized
  subst hav
  subst hH
  have F : CallFix p m c cX0_isFulfilledBy 3 s _ wsX0_isFulfilledBy RX0 := ⟨hx, hb, hml, hown, hts⟩
  have hB30 : ∀ (s0 : Int32) (ls : Array Slot), lv_has ls 3 [] → f_X0_isFulfilledBy_B30 S s0 = some res → W p l e (headSpec wsX0_isFulfilledBy ({ frames := 1, cells := 0, slots := 0, locals := 25 } : Room)).room s m ([.ref y0, .long y1] : List Value).toArray below meth c s.heap [] 0 0 (MQ below (vp_Si (fun r => r = res)) ([.ref y0, .long y1] : List Value).toArray s 0 0 (fun _ => False)) (F0 m 30 ls [.int s0]) := by
    intro s0 ls hl hf
    unfold f_X0_isFulfilledBy_B30 at hf
    obtain ⟨c10, hf⟩ := ckd_some hf
    exact W.zret (v := s0) hx hb hr (nz c10) (fun t ht hW => ⟨_, rfl, Option.some.inj hf, ht⟩) (fun _ h => by cases h) dX0_isFulfilledBy_30
  have hB29 : ∀  (ls : Array Slot), lv_has ls 3 [] → f_X0_isFulfilledBy_B29 S = some res → W p l e (headSpec wsX0_isFulfilledBy ({ frames := 1, cells := 0, slots := 0, locals := 25 } : Room)).room s m ([.ref y0, .long y1] : List Value).toArray below meth c s.heap [] 0 0 (MQ below (vp_Si (fun r => r = res)) ([.ref y0, .long y1] : List Value).toArray s 0 0 (fun _ => False)) (F0 m 29 ls []) := by
    intro ls hl hf
    unfold f_X0_isFulfilledBy_B29 at hf
    refine lv_iconst (v := 0) hx hb dX0_isFulfilledBy_29 (by decide) ?_
    exact hB30 0 _ (lv_sub hl [] rfl)  hf
  have hl := lv_entry ([.ref y0, .long y1]) (n := 3) (Nat.le_of_ble_eq_true rfl)
  rw [lg_entry_eq]
  generalize (lg_sl ([.ref y0, .long y1]) ++ List.replicate (3 - (lg_sl ([.ref y0, .long y1])).length) Slot.unset).toArray = ls at hl ⊢
  have hl : lv_has ls 3 [(0, .ref y0), (1, .long y1)] := hl
  unfold f_X0_isFulfilledBy at hf
  refine lv_aload_n hx hb dX0_isFulfilledBy_0 rfl (lv_at hl 0 rfl) ?_
  obtain ⟨t11, h12, hf⟩ := bd_some hf
  refine vp_callSi (va_runV (As := []) (rest := []) F (c_X0_isVoid l D cy (H := _) hP v_y0 h12) (cwV 0 hts gX0_isFulfilledBy_X0_isVoid rfl rfl rfl ⟨rfl, ph_X0_isVoid.1, ph_X0_isVoid.2, pd_X0_isVoid⟩ ⟨Nat.le_of_ble_eq_true rfl, Nat.le_of_ble_eq_true rfl⟩) ⟨PcR.bl, (q_rcv hK hP v_y0.1 (pF_0 (S := S) v_y0.2) rfl), PcR.in hK⟩ rfl rfl hl.1 rfl (lv_room (Nat.le_of_ble_eq_true rfl)) dX0_isFulfilledBy_1 ⟨Nat.zero_le _, Nat.zero_le _⟩).run (fun r13 er13 => ?_)
  subst r13
  refine lv_if_ne (tgt := 29) hx hb dX0_isFulfilledBy_4 (by decide) (fun c14 => ?_) (fun c14 => ?_)
  · have hf := it_f c14 hf
    exact hB29 _ (lv_sub hl [] rfl)  hf
  · have hf := it_t c14 hf
    refine lv_lload_n hx hb dX0_isFulfilledBy_7 rfl (lv_at hl 1 rfl) ?_
    refine lv_aload_n hx hb dX0_isFulfilledBy_8 rfl (lv_at hl 0 rfl) ?_
    refine q_get F hK hP v_y0.1 (pF_0 (S := S) v_y0.2) (fun w h => List.mem_cons_of_mem _ (List.mem_append_right _ h)) rfl 3 (by decide) (hts (.fieldLink RX0 28 "SharedModuli$Condition" "bareModulus" "I") (List.mem_of_getElem? (i := 1) rfl)) (v := .int (fI S 3 y0)) rfl dX0_isFulfilledBy_9 ?_
    refine lv_i2l hx hb dX0_isFulfilledBy_12 rfl ?_
    obtain ⟨t15, h16, hf⟩ := bd_some hf
    refine vp_callSl (va_runSN (As := [.long y1, .long ((fI S 3 y0).toInt64)]) (rest := []) F (c_X4_rest l D cy (H := _)  h16) ⟨(va_cnB 2 hts gX0_isFulfilledBy_X4_rest_n25 rfl rfl rfl (nk_m_RX0_25 hK.2.1) (hts (.initialized RX4) (List.mem_of_getElem? (i := 9) rfl)) ⟨ph_X4_rest.1, ph_X4_rest.2, pd_X4_rest⟩ ⟨Nat.le_of_ble_eq_true rfl, Nat.le_of_ble_eq_true rfl⟩), (hts (.static yX4_rest) (List.mem_of_getElem? (i := 8) rfl)), trivial⟩ ⟨PcR.bl, PcR.in hK⟩ rfl rfl hl.1 rfl (lv_room (Nat.le_of_ble_eq_true rfl)) dX0_isFulfilledBy_13 ⟨Nat.zero_le _, Nat.zero_le _⟩).run (fun r17 er17 => ?_)
    subst r17
    refine lv_aload_n hx hb dX0_isFulfilledBy_16 rfl (lv_at hl 0 rfl) ?_
    refine q_get F hK hP v_y0.1 (pF_0 (S := S) v_y0.2) (fun w h => List.mem_cons_of_mem _ (List.mem_append_right _ h)) rfl 4 (by decide) (hts (.fieldLink RX0 31 "SharedModuli$Condition" "bareRemainde\x72" "I") (List.mem_of_getElem? (i := 2) rfl)) (v := .int (fI S 4 y0)) rfl dX0_isFulfilledBy_17 ?_
    refine lv_i2l hx hb dX0_isFulfilledBy_20 rfl ?_
    refine W.lcmp hx hb dX0_isFulfilledBy_21 ?_
    refine lv_if_ne (tgt := 29) hx hb dX0_isFulfilledBy_22 (by decide) (fun c18 => ?_) (fun c18 => ?_)
    · have hf := it_f (fun z => c18 ((lq_eq _ _).mpr z)) hf
      exact hB29 _ (lv_sub hl [] rfl)  hf
    · have hf := it_t ((lq_eq _ _).mp c18) hf
      refine lv_iconst (v := 1) hx hb dX0_isFulfilledBy_25 (by decide) ?_
      refine lv_goto (tgt := 30) hx hb dX0_isFulfilledBy_26 (by decide) ?_
      exact hB30 1 _ (lv_sub hl [] rfl)  hf
def f_X1_init (S : PS) (x0 : Nat) : Option PS :=
  some (sL (sL S 16 x0 1) 17 x0 0)
set_option maxHeartbeats 4000000 in
set_option maxRecDepth 100000 in
theorem c_X1_init (l : Launch) (D : va_G) (cy : cyT) {S : PS} {n : Nat} {y0 : Nat} (v_y0 : vd S y0 1) {res : PS} (hf : f_X1_init S y0 = some res) : Met l yX1_init wsX1_init ({ frames := 1, cells := 0, slots := 0, locals := 20 } : Room) (PcW False D cy S n [.ref y0]) (va_Qv (fun (u : PS × Nat) => u = (res, n)) (BW D cy S n) (AA cy S n)) 0 0 (AA cy S n) := by
  refine Met.ofW (cc := cX1_init) (maxL := 1) (ret := none) (by decide) rfl ?_
  intro p e s m args below meth c s₁ B hml hv
  obtain ⟨hav, hsz, hP0, hD0, hK, hZ0⟩ := hv
  have hx := B.exec
  have hb := B.bytes
  have hr := B.returns
  have hts := atoms_spec (ws := wsX1_init) B.pre
  have hown : s.vm.findClass RX1 = some m.cls := findClass_of_methodNamed B.named
  have hlocks := B.notSynchronized
  have hin : meth.name = "<init>" := (name_of_methodNamed B.named B.method).1
  subst hav
  have hw : Hw D cy (AA cy S n) s.heap S n s.heap [] := Hw.start hsz hP0 hD0
  have hA : ∀ q, s.heap.size ≤ q → AA cy S n q := fun q h => Or.inr (hsz ▸ h)
  have hE : EX S S := EX.rf
  have F : CallFix p m c cX1_init 1 s _ wsX1_init RX1 := ⟨hx, hb, hml, hown, hts⟩
  have hl := lv_entry ([.ref y0]) (n := 1) (Nat.le_of_ble_eq_true rfl)
  rw [lg_entry_eq]
  generalize (lg_sl ([.ref y0]) ++ List.replicate (1 - (lg_sl ([.ref y0])).length) Slot.unset).toArray = ls at hl ⊢
  have hl : lv_has ls 1 [(0, .ref y0)] := hl
  unfold f_X1_init at hf
  refine lv_aload_n hx hb dX1_init_0 rfl (lv_at hl 0 rfl) ?_
  refine W.objInit hx hb hown (hts (.methodLink RX1 1 objectInit) (List.mem_of_getElem? (i := 1) rfl)) (hts (.instanceMethod objectInit) (List.mem_of_getElem? (i := 2) rfl)) (hts (.code objectInit ⟨#[0xb1]⟩ 1 none) (List.mem_of_getElem? (i := 3) rfl)) rfl (by rw [hml]; exact hl.1) rfl dX1_init_1 (Nat.le_of_ble_eq_true rfl) (Nat.le_of_ble_eq_true rfl) ?_
  refine W.eq (g2 := F0 m 4 ls []) rfl ?_
  refine lv_aload_n hx hb dX1_init_4 rfl (lv_at hl 0 rfl) ?_
  refine lv_lconst (v := 1) hx hb dX1_init_5 (by decide) ?_
  refine q_put F hK hw v_y0.1 (pF_1 (S := S) v_y0.2) (fun w h => List.mem_cons_of_mem _ (List.mem_append_right _ h)) tyX1 tyX1_ok nmX1 rfl 0 (by decide) (hts (.fieldLink RX1 7 "SharedModuli$Joint" "modulus" "J") (List.mem_of_getElem? (i := 4) rfl)) (Or.inl rfl) (tyX1_ok 0 (by decide)) rfl rfl (Nat.le_of_ble_eq_true rfl) (S1 := sL S 16 y0 1) (st_16 (S := S) v_y0.2 1) dX1_init_6 (fun H locs hw => ?_)
  refine lv_aload_n hx hb dX1_init_9 rfl (lv_at hl 0 rfl) ?_
  refine lv_lconst (v := 0) hx hb dX1_init_10 (by decide) ?_
  refine q_put F hK hw v_y0.1 (pF_1 (S := sL S 16 y0 1) v_y0.2) (fun w h => List.mem_cons_of_mem _ (List.mem_append_right _ h)) tyX1 tyX1_ok nmX1 rfl 1 (by decide) (hts (.fieldLink RX1 13 "SharedModuli$Joint" "remainde\x72" "J") (List.mem_of_getElem? (i := 5) rfl)) (Or.inl rfl) (tyX1_ok 1 (by decide)) rfl rfl (Nat.le_of_ble_eq_true rfl) (S1 := sL (sL S 16 y0 1) 17 y0 0) (st_17 (S := sL S 16 y0 1) v_y0.2 0) dX1_init_11 (fun H locs hw => ?_)
  exact W.vret hx hb hr (fun t ht hW => ⟨⟨(sL (sL S 16 y0 1) 17 y0 0, n), rfl, po1 hf, BW.of hw hE ht⟩, hw.2.2.1.F ht⟩) hw.2.2.1.2.2 dX1_init_14
def f_X1_clear (S : PS) (x0 : Nat) : Option PS :=
  some (sL (sL S 16 x0 1) 17 x0 0)
set_option maxHeartbeats 4000000 in
set_option maxRecDepth 100000 in
theorem c_X1_clear (l : Launch) (D : va_G) (cy : cyT) {S : PS} {n : Nat} {y0 : Nat} (v_y0 : vd S y0 1) {res : PS} (hf : f_X1_clear S y0 = some res) : Met l yX1_clear wsX1_clear ({ frames := 0, cells := 0, slots := 0, locals := 0 } : Room) (PcW False D cy S n [.ref y0]) (va_Qv (fun (u : PS × Nat) => u = (res, n)) (BW D cy S n) (AA cy S n)) 0 0 (AA cy S n) := by
  refine Met.ofW (cc := cX1_clear) (maxL := 1) (ret := none) (by decide) rfl ?_
  intro p e s m args below meth c s₁ B hml hv
  obtain ⟨hav, hsz, hP0, hD0, hK, hZ0⟩ := hv
  have hx := B.exec
  have hb := B.bytes
  have hr := B.returns
  have hts := atoms_spec (ws := wsX1_clear) B.pre
  have hown : s.vm.findClass RX1 = some m.cls := findClass_of_methodNamed B.named
  have hlocks := B.notSynchronized
  subst hav
  have hw : Hw D cy (AA cy S n) s.heap S n s.heap [] := Hw.start hsz hP0 hD0
  have hA : ∀ q, s.heap.size ≤ q → AA cy S n q := fun q h => Or.inr (hsz ▸ h)
  have hE : EX S S := EX.rf
  have F : CallFix p m c cX1_clear 1 s _ wsX1_clear RX1 := ⟨hx, hb, hml, hown, hts⟩
  have hl := lv_entry ([.ref y0]) (n := 1) (Nat.le_of_ble_eq_true rfl)
  rw [lg_entry_eq]
  generalize (lg_sl ([.ref y0]) ++ List.replicate (1 - (lg_sl ([.ref y0])).length) Slot.unset).toArray = ls at hl ⊢
  have hl : lv_has ls 1 [(0, .ref y0)] := hl
  unfold f_X1_clear at hf
  refine lv_aload_n hx hb dX1_clear_0 rfl (lv_at hl 0 rfl) ?_
  refine lv_lconst (v := 1) hx hb dX1_clear_1 (by decide) ?_
  refine q_put F hK hw v_y0.1 (pF_1 (S := S) v_y0.2) (fun w h => List.mem_cons_of_mem _ (List.mem_append_right _ h)) tyX1 tyX1_ok nmX1 rfl 0 (by decide) (hts (.fieldLink RX1 7 "SharedModuli$Joint" "modulus" "J") (List.mem_of_getElem? (i := 1) rfl)) (Or.inl rfl) (tyX1_ok 0 (by decide)) rfl rfl (Nat.le_of_ble_eq_true rfl) (S1 := sL S 16 y0 1) (st_16 (S := S) v_y0.2 1) dX1_clear_2 (fun H locs hw => ?_)
  refine lv_aload_n hx hb dX1_clear_5 rfl (lv_at hl 0 rfl) ?_
  refine lv_lconst (v := 0) hx hb dX1_clear_6 (by decide) ?_
  refine q_put F hK hw v_y0.1 (pF_1 (S := sL S 16 y0 1) v_y0.2) (fun w h => List.mem_cons_of_mem _ (List.mem_append_right _ h)) tyX1 tyX1_ok nmX1 rfl 1 (by decide) (hts (.fieldLink RX1 13 "SharedModuli$Joint" "remainde\x72" "J") (List.mem_of_getElem? (i := 2) rfl)) (Or.inl rfl) (tyX1_ok 1 (by decide)) rfl rfl (Nat.le_of_ble_eq_true rfl) (S1 := sL (sL S 16 y0 1) 17 y0 0) (st_17 (S := sL S 16 y0 1) v_y0.2 0) dX1_clear_7 (fun H locs hw => ?_)
  exact W.vret hx hb hr (fun t ht hW => ⟨⟨(sL (sL S 16 y0 1) 17 y0 0, n), rfl, po1 hf, BW.of hw hE ht⟩, hw.2.2.1.F ht⟩) hw.2.2.1.2.2 dX1_clear_10
def f_X1_take (S : PS) (x0 : Nat) (x1 : Nat) : Option PS :=
  bd (f_X4_commonDivisor (fL S 16 x0) ((fI S 3 x1).toInt64)) fun t1 =>
  bd (f_X4_share ((fI S 3 x1).toInt64) t1) fun t4 =>
  bd (f_X4_rest (((fI S 4 x1).toInt64) - (fL S 17 x0)) ((fI S 3 x1).toInt64)) fun t7 =>
  bd (f_X4_share t7 t1) fun t10 =>
  bd (f_X4_share (fL S 16 x0) t1) fun t13 =>
  bd (f_X4_inverse t13 t4) fun t16 =>
  bd (f_X4_rest (t10 * t16) t4) fun t19 =>
  some (sL (sL S 17 x0 ((fL S 17 x0) + ((fL S 16 x0) * t19))) 16 x0 ((fL (sL S 17 x0 ((fL S 17 x0) + ((fL S 16 x0) * t19))) 16 x0) * t4))
set_option maxHeartbeats 4000000 in
set_option maxRecDepth 100000 in
theorem c_X1_take (l : Launch) (D : va_G) (cy : cyT) {S : PS} {n : Nat} {y0 : Nat} {y1 : Nat} (v_y0 : vd S y0 1) (v_y1 : vd S y1 0) {res : PS} (hf : f_X1_take S y0 y1 = some res) : Met l yX1_take wsX1_take ({ frames := 1, cells := 0, slots := 0, locals := 38 } : Room) (PcW False D cy S n [.ref y0, .ref y1]) (va_Qv (fun (u : PS × Nat) => u = (res, n)) (BW D cy S n) (AA cy S n)) 0 0 (AA cy S n) := by
  refine Met.ofW (cc := cX1_take) (maxL := 10) (ret := none) (by decide) rfl ?_
  intro p e s m args below meth c s₁ B hml hv
  obtain ⟨hav, hsz, hP0, hD0, hK, hZ0⟩ := hv
  have hx := B.exec
  have hb := B.bytes
  have hr := B.returns
  have hts := atoms_spec (ws := wsX1_take) B.pre
  have hown : s.vm.findClass RX1 = some m.cls := findClass_of_methodNamed B.named
  have hlocks := B.notSynchronized
  subst hav
  have hw : Hw D cy (AA cy S n) s.heap S n s.heap [] := Hw.start hsz hP0 hD0
  have hA : ∀ q, s.heap.size ≤ q → AA cy S n q := fun q h => Or.inr (hsz ▸ h)
  have hE : EX S S := EX.rf
  have F : CallFix p m c cX1_take 10 s _ wsX1_take RX1 := ⟨hx, hb, hml, hown, hts⟩
  have hl := lv_entry ([.ref y0, .ref y1]) (n := 10) (Nat.le_of_ble_eq_true rfl)
  rw [lg_entry_eq]
  generalize (lg_sl ([.ref y0, .ref y1]) ++ List.replicate (10 - (lg_sl ([.ref y0, .ref y1])).length) Slot.unset).toArray = ls at hl ⊢
  have hl : lv_has ls 10 [(0, .ref y0), (1, .ref y1)] := hl
  unfold f_X1_take at hf
  refine lv_aload_n hx hb dX1_take_0 rfl (lv_at hl 0 rfl) ?_
  refine q_get F hK hw.1 v_y0.1 (pF_1 (S := S) v_y0.2) (fun w h => List.mem_cons_of_mem _ (List.mem_append_left _ (List.mem_append_right _ h))) rfl 0 (by decide) (hts (.fieldLink RX1 7 "SharedModuli$Joint" "modulus" "J") (List.mem_of_getElem? (i := 1) rfl)) (v := .long (fL S 16 y0)) rfl dX1_take_1 ?_
  refine lv_aload_n hx hb dX1_take_4 rfl (lv_at hl 1 rfl) ?_
  refine q_getN F hK hw.1 v_y1.1 (pF_0 (S := S) v_y1.2) (fun w h => List.mem_cons_of_mem _ (List.mem_append_right _ h)) rfl 3 (by decide) (nk_f_RX1_16 hK.2.1) (v := .int (fI S 3 y1)) rfl dX1_take_5 ?_
  refine lv_i2l hx hb dX1_take_8 rfl ?_
  obtain ⟨t22, h23, hf⟩ := bd_some hf
  refine vp_callSl (va_runSN (As := [.long (fL S 16 y0), .long ((fI S 3 y1).toInt64)]) (rest := []) F (c_X4_commonDivisor l D cy (H := _)  h23) ⟨(va_cnB 2 hts gX1_take_X4_commonDivisor_n22 rfl rfl rfl (nk_m_RX1_22 hK.2.1) (hts (.initialized RX4) (List.mem_of_getElem? (i := 4) rfl)) ⟨ph_X4_commonDivisor.1, ph_X4_commonDivisor.2, pd_X4_commonDivisor⟩ ⟨Nat.le_of_ble_eq_true rfl, Nat.le_of_ble_eq_true rfl⟩), (hts (.static yX4_commonDivisor) (List.mem_of_getElem? (i := 3) rfl)), trivial⟩ ⟨PcR.bl, PcR.in hK⟩ rfl rfl hl.1 rfl (lv_room (Nat.le_of_ble_eq_true rfl)) dX1_take_9 ⟨Nat.zero_le _, Nat.zero_le _⟩).run (fun r24 er24 => ?_)
  subst r24
  refine lv_lstore_n (lv' := [(2, .long t22), (0, .ref y0), (1, .ref y1)]) hx hb dX1_take_12 rfl hl (by decide) rfl (fun ls hl => ?_)
  refine lv_aload_n hx hb dX1_take_13 rfl (lv_at hl 2 rfl) ?_
  refine q_getN F hK hw.1 v_y1.1 (pF_0 (S := S) v_y1.2) (fun w h => List.mem_cons_of_mem _ (List.mem_append_right _ h)) rfl 3 (by decide) (nk_f_RX1_16 hK.2.1) (v := .int (fI S 3 y1)) rfl dX1_take_14 ?_
  refine lv_i2l hx hb dX1_take_17 rfl ?_
  refine lv_lload_n hx hb dX1_take_18 rfl (lv_at hl 0 rfl) ?_
  obtain ⟨t25, h26, hf⟩ := bd_some hf
  refine vp_callSl (va_runSN (As := [.long ((fI S 3 y1).toInt64), .long t22]) (rest := []) F (c_X4_share l D cy (H := _)  h26) ⟨(va_cnB 2 hts gX1_take_X4_share_n28 rfl rfl rfl (nk_m_RX1_28 hK.2.1) (hts (.initialized RX4) (List.mem_of_getElem? (i := 4) rfl)) ⟨ph_X4_share.1, ph_X4_share.2, pd_X4_share⟩ ⟨Nat.le_of_ble_eq_true rfl, Nat.le_of_ble_eq_true rfl⟩), (hts (.static yX4_share) (List.mem_of_getElem? (i := 6) rfl)), trivial⟩ ⟨PcR.bl, PcR.in hK⟩ rfl rfl hl.1 rfl (lv_room (Nat.le_of_ble_eq_true rfl)) dX1_take_19 ⟨Nat.zero_le _, Nat.zero_le _⟩).run (fun r27 er27 => ?_)
  subst r27
  refine lv_lstore (lv' := [(4, .long t25), (2, .long t22), (0, .ref y0), (1, .ref y1)]) hx hb dX1_take_22 hl (by decide) rfl (fun ls hl => ?_)
  refine lv_aload_n hx hb dX1_take_24 rfl (lv_at hl 3 rfl) ?_
  refine q_getN F hK hw.1 v_y1.1 (pF_0 (S := S) v_y1.2) (fun w h => List.mem_cons_of_mem _ (List.mem_append_right _ h)) rfl 4 (by decide) (nk_f_RX1_31 hK.2.1) (v := .int (fI S 4 y1)) rfl dX1_take_25 ?_
  refine lv_i2l hx hb dX1_take_28 rfl ?_
  refine lv_aload_n hx hb dX1_take_29 rfl (lv_at hl 2 rfl) ?_
  refine q_get F hK hw.1 v_y0.1 (pF_1 (S := S) v_y0.2) (fun w h => List.mem_cons_of_mem _ (List.mem_append_left _ (List.mem_append_right _ h))) rfl 1 (by decide) (hts (.fieldLink RX1 13 "SharedModuli$Joint" "remainde\x72" "J") (List.mem_of_getElem? (i := 2) rfl)) (v := .long (fL S 17 y0)) rfl dX1_take_30 ?_
  refine lv_lsub hx hb dX1_take_33 ?_
  refine lv_aload_n hx hb dX1_take_34 rfl (lv_at hl 3 rfl) ?_
  refine q_getN F hK hw.1 v_y1.1 (pF_0 (S := S) v_y1.2) (fun w h => List.mem_cons_of_mem _ (List.mem_append_right _ h)) rfl 3 (by decide) (nk_f_RX1_16 hK.2.1) (v := .int (fI S 3 y1)) rfl dX1_take_35 ?_
  refine lv_i2l hx hb dX1_take_38 rfl ?_
  obtain ⟨t28, h29, hf⟩ := bd_some hf
  refine vp_callSl (va_runSN (As := [.long (((fI S 4 y1).toInt64) - (fL S 17 y0)), .long ((fI S 3 y1).toInt64)]) (rest := []) F (c_X4_rest l D cy (H := _)  h29) ⟨(va_cnB 2 hts gX1_take_X4_rest_n34 rfl rfl rfl (nk_m_RX1_34 hK.2.1) (hts (.initialized RX4) (List.mem_of_getElem? (i := 4) rfl)) ⟨ph_X4_rest.1, ph_X4_rest.2, pd_X4_rest⟩ ⟨Nat.le_of_ble_eq_true rfl, Nat.le_of_ble_eq_true rfl⟩), (hts (.static yX4_rest) (List.mem_of_getElem? (i := 8) rfl)), trivial⟩ ⟨PcR.bl, PcR.in hK⟩ rfl rfl hl.1 rfl (lv_room (Nat.le_of_ble_eq_true rfl)) dX1_take_39 ⟨Nat.zero_le _, Nat.zero_le _⟩).run (fun r30 er30 => ?_)
  subst r30
  refine lv_lload_n hx hb dX1_take_42 rfl (lv_at hl 1 rfl) ?_
  obtain ⟨t31, h32, hf⟩ := bd_some hf
  refine vp_callSl (va_runSN (As := [.long t28, .long t22]) (rest := []) F (c_X4_share l D cy (H := _)  h32) ⟨(va_cnB 2 hts gX1_take_X4_share_n28 rfl rfl rfl (nk_m_RX1_28 hK.2.1) (hts (.initialized RX4) (List.mem_of_getElem? (i := 4) rfl)) ⟨ph_X4_share.1, ph_X4_share.2, pd_X4_share⟩ ⟨Nat.le_of_ble_eq_true rfl, Nat.le_of_ble_eq_true rfl⟩), (hts (.static yX4_share) (List.mem_of_getElem? (i := 6) rfl)), trivial⟩ ⟨PcR.bl, PcR.in hK⟩ rfl rfl hl.1 rfl (lv_room (Nat.le_of_ble_eq_true rfl)) dX1_take_43 ⟨Nat.zero_le _, Nat.zero_le _⟩).run (fun r33 er33 => ?_)
  subst r33
  refine lv_lstore (lv' := [(6, .long t31), (4, .long t25), (2, .long t22), (0, .ref y0), (1, .ref y1)]) hx hb dX1_take_46 hl (by decide) rfl (fun ls hl => ?_)
  refine lv_lload hx hb dX1_take_48 (lv_at hl 0 rfl) ?_
  refine lv_aload_n hx hb dX1_take_50 rfl (lv_at hl 3 rfl) ?_
  refine q_get F hK hw.1 v_y0.1 (pF_1 (S := S) v_y0.2) (fun w h => List.mem_cons_of_mem _ (List.mem_append_left _ (List.mem_append_right _ h))) rfl 0 (by decide) (hts (.fieldLink RX1 7 "SharedModuli$Joint" "modulus" "J") (List.mem_of_getElem? (i := 1) rfl)) (v := .long (fL S 16 y0)) rfl dX1_take_51 ?_
  refine lv_lload_n hx hb dX1_take_54 rfl (lv_at hl 2 rfl) ?_
  obtain ⟨t34, h35, hf⟩ := bd_some hf
  refine vp_callSl (va_runSN (As := [.long (fL S 16 y0), .long t22]) (rest := [.long t31]) F (c_X4_share l D cy (H := _)  h35) ⟨(va_cnB 2 hts gX1_take_X4_share_n28 rfl rfl rfl (nk_m_RX1_28 hK.2.1) (hts (.initialized RX4) (List.mem_of_getElem? (i := 4) rfl)) ⟨ph_X4_share.1, ph_X4_share.2, pd_X4_share⟩ ⟨Nat.le_of_ble_eq_true rfl, Nat.le_of_ble_eq_true rfl⟩), (hts (.static yX4_share) (List.mem_of_getElem? (i := 6) rfl)), trivial⟩ ⟨PcR.bl, PcR.in hK⟩ rfl rfl hl.1 rfl (lv_room (Nat.le_of_ble_eq_true rfl)) dX1_take_55 ⟨Nat.zero_le _, Nat.zero_le _⟩).run (fun r36 er36 => ?_)
  subst r36
  refine lv_lload hx hb dX1_take_58 (lv_at hl 1 rfl) ?_
  obtain ⟨t37, h38, hf⟩ := bd_some hf
  refine vp_callSl (va_runSN (As := [.long t34, .long t25]) (rest := [.long t31]) F (c_X4_inverse l D cy (H := _)  h38) ⟨(va_cnB 2 hts gX1_take_X4_inverse_n37 rfl rfl rfl (nk_m_RX1_37 hK.2.1) (hts (.initialized RX4) (List.mem_of_getElem? (i := 4) rfl)) ⟨ph_X4_inverse.1, ph_X4_inverse.2, pd_X4_inverse⟩ ⟨Nat.le_of_ble_eq_true rfl, Nat.le_of_ble_eq_true rfl⟩), (hts (.static yX4_inverse) (List.mem_of_getElem? (i := 10) rfl)), trivial⟩ ⟨PcR.bl, PcR.in hK⟩ rfl rfl hl.1 rfl (lv_room (Nat.le_of_ble_eq_true rfl)) dX1_take_60 ⟨Nat.zero_le _, Nat.zero_le _⟩).run (fun r39 er39 => ?_)
  subst r39
  refine lv_lmul hx hb dX1_take_63 ?_
  refine lv_lload hx hb dX1_take_64 (lv_at hl 1 rfl) ?_
  obtain ⟨t40, h41, hf⟩ := bd_some hf
  refine vp_callSl (va_runSN (As := [.long (t31 * t37), .long t25]) (rest := []) F (c_X4_rest l D cy (H := _)  h41) ⟨(va_cnB 2 hts gX1_take_X4_rest_n34 rfl rfl rfl (nk_m_RX1_34 hK.2.1) (hts (.initialized RX4) (List.mem_of_getElem? (i := 4) rfl)) ⟨ph_X4_rest.1, ph_X4_rest.2, pd_X4_rest⟩ ⟨Nat.le_of_ble_eq_true rfl, Nat.le_of_ble_eq_true rfl⟩), (hts (.static yX4_rest) (List.mem_of_getElem? (i := 8) rfl)), trivial⟩ ⟨PcR.bl, PcR.in hK⟩ rfl rfl hl.1 rfl (lv_room (Nat.le_of_ble_eq_true rfl)) dX1_take_66 ⟨Nat.zero_le _, Nat.zero_le _⟩).run (fun r42 er42 => ?_)
  subst r42
  refine lv_lstore (lv' := [(8, .long t40), (6, .long t31), (4, .long t25), (2, .long t22), (0, .ref y0), (1, .ref y1)]) hx hb dX1_take_69 hl (by decide) rfl (fun ls hl => ?_)
  refine lv_aload_n hx hb dX1_take_71 rfl (lv_at hl 4 rfl) ?_
  refine lv_dup hx hb dX1_take_72 rfl ?_
  refine q_get F hK hw.1 v_y0.1 (pF_1 (S := S) v_y0.2) (fun w h => List.mem_cons_of_mem _ (List.mem_append_left _ (List.mem_append_right _ h))) rfl 1 (by decide) (hts (.fieldLink RX1 13 "SharedModuli$Joint" "remainde\x72" "J") (List.mem_of_getElem? (i := 2) rfl)) (v := .long (fL S 17 y0)) rfl dX1_take_73 ?_
  refine lv_aload_n hx hb dX1_take_76 rfl (lv_at hl 4 rfl) ?_
  refine q_get F hK hw.1 v_y0.1 (pF_1 (S := S) v_y0.2) (fun w h => List.mem_cons_of_mem _ (List.mem_append_left _ (List.mem_append_right _ h))) rfl 0 (by decide) (hts (.fieldLink RX1 7 "SharedModuli$Joint" "modulus" "J") (List.mem_of_getElem? (i := 1) rfl)) (v := .long (fL S 16 y0)) rfl dX1_take_77 ?_
  refine lv_lload hx hb dX1_take_80 (lv_at hl 0 rfl) ?_
  refine lv_lmul hx hb dX1_take_82 ?_
  refine lv_ladd hx hb dX1_take_83 ?_
  refine q_put F hK hw v_y0.1 (pF_1 (S := S) v_y0.2) (fun w h => List.mem_cons_of_mem _ (List.mem_append_left _ (List.mem_append_right _ h))) tyX1 tyX1_ok nmX1 rfl 1 (by decide) (hts (.fieldLink RX1 13 "SharedModuli$Joint" "remainde\x72" "J") (List.mem_of_getElem? (i := 2) rfl)) (Or.inl rfl) (tyX1_ok 1 (by decide)) rfl rfl (Nat.le_of_ble_eq_true rfl) (S1 := sL S 17 y0 ((fL S 17 y0) + ((fL S 16 y0) * t40))) (st_17 (S := S) v_y0.2 ((fL S 17 y0) + ((fL S 16 y0) * t40))) dX1_take_84 (fun H locs hw => ?_)
  refine lv_aload_n hx hb dX1_take_87 rfl (lv_at hl 4 rfl) ?_
  refine lv_dup hx hb dX1_take_88 rfl ?_
  refine q_get F hK hw.1 v_y0.1 (pF_1 (S := sL S 17 y0 ((fL S 17 y0) + ((fL S 16 y0) * t40))) v_y0.2) (fun w h => List.mem_cons_of_mem _ (List.mem_append_left _ (List.mem_append_right _ h))) rfl 0 (by decide) (hts (.fieldLink RX1 7 "SharedModuli$Joint" "modulus" "J") (List.mem_of_getElem? (i := 1) rfl)) (v := .long (fL (sL S 17 y0 ((fL S 17 y0) + ((fL S 16 y0) * t40))) 16 y0)) rfl dX1_take_89 ?_
  refine lv_lload hx hb dX1_take_92 (lv_at hl 2 rfl) ?_
  refine lv_lmul hx hb dX1_take_94 ?_
  refine q_put F hK hw v_y0.1 (pF_1 (S := sL S 17 y0 ((fL S 17 y0) + ((fL S 16 y0) * t40))) v_y0.2) (fun w h => List.mem_cons_of_mem _ (List.mem_append_left _ (List.mem_append_right _ h))) tyX1 tyX1_ok nmX1 rfl 0 (by decide) (hts (.fieldLink RX1 7 "SharedModuli$Joint" "modulus" "J") (List.mem_of_getElem? (i := 1) rfl)) (Or.inl rfl) (tyX1_ok 0 (by decide)) rfl rfl (Nat.le_of_ble_eq_true rfl) (S1 := sL (sL S 17 y0 ((fL S 17 y0) + ((fL S 16 y0) * t40))) 16 y0 ((fL (sL S 17 y0 ((fL S 17 y0) + ((fL S 16 y0) * t40))) 16 y0) * t25)) (st_16 (S := sL S 17 y0 ((fL S 17 y0) + ((fL S 16 y0) * t40))) v_y0.2 ((fL (sL S 17 y0 ((fL S 17 y0) + ((fL S 16 y0) * t40))) 16 y0) * t25)) dX1_take_95 (fun H locs hw => ?_)
  exact W.vret hx hb hr (fun t ht hW => ⟨⟨(sL (sL S 17 y0 ((fL S 17 y0) + ((fL S 16 y0) * t40))) 16 y0 ((fL (sL S 17 y0 ((fL S 17 y0) + ((fL S 16 y0) * t40))) 16 y0) * t25), n), rfl, po1 hf, BW.of hw hE ht⟩, hw.2.2.1.F ht⟩) hw.2.2.1.2.2 dX1_take_98
def f_X1_tells_B40 (S : PS) (s0 : Int32) : Option Int32 :=
  ck (decide (s0 &&& 1 = s0)) (
  some s0)
def f_X1_tells_B39 (S : PS)  : Option Int32 :=
  f_X1_tells_B40 S 0
def f_X1_tells (S : PS) (x0 : Nat) (x1 : Nat) : Option Int32 :=
  bd (f_X0_isVoid S x1) fun t2 =>
  if t2 = 0 then (bd (f_X4_rest (fL S 16 x0) ((fI S 3 x1).toInt64)) fun t6 =>
  if t6 = 0 then (bd (f_X0_isFulfilledBy S x1 (fL S 17 x0)) fun t10 =>
  if t10 = 0 then (f_X1_tells_B39 S) else
  f_X1_tells_B40 S 1) else
  f_X1_tells_B39 S) else
  f_X1_tells_B39 S
set_option maxHeartbeats 4000000 in
set_option maxRecDepth 100000 in
theorem c_X1_tells (l : Launch) (D : va_G) (cy : cyT) {H : Heap} {S : PS} (hP : va_P D vwCl (wl cy S) H) {y0 : Nat} {y1 : Nat} (v_y0 : vd S y0 1) (v_y1 : vd S y1 0) {res : Int32} (hf : f_X1_tells S y0 y1 = some res) : Met l yX1_tells wsX1_tells ({ frames := 2, cells := 0, slots := 0, locals := 47 } : Room) (PcR D cy H [.ref y0, .ref y1]) (vp_Si (fun r => r = res)) 0 0 (fun _ => False) := by
  refine Met.ofW (cc := cX1_tells) (maxL := 2) (ret := (some .boolean)) (by decide) rfl ?_
  intro p e s m args below meth c s₁ B hml hv
  obtain ⟨hav, hH, hK⟩ := hv
  have hx := B.exec
  have hb := B.bytes
  have hr := B.returns
  have hts := atoms_spec (ws := wsX1_tells) B.pre
  have hown : s.vm.findClass RX1 = some m.cls := findClass_of_methodNamed B.named
  have hlocks := B.notSynchronized
  subst hav
  subst hH
  have F : CallFix p m c cX1_tells 2 s _ wsX1_tells RX1 := ⟨hx, hb, hml, hown, hts⟩
  have hB40 : ∀ (s0 : Int32) (ls : Array Slot), lv_has ls 2 [] → f_X1_tells_B40 S s0 = some res → W p l e (headSpec wsX1_tells ({ frames := 2, cells := 0, slots := 0, locals := 47 } : Room)).room s m ([.ref y0, .ref y1] : List Value).toArray below meth c s.heap [] 0 0 (MQ below (vp_Si (fun r => r = res)) ([.ref y0, .ref y1] : List Value).toArray s 0 0 (fun _ => False)) (F0 m 40 ls [.int s0]) := by
    intro s0 ls hl hf
    unfold f_X1_tells_B40 at hf
    obtain ⟨c14, hf⟩ := ckd_some hf
    exact W.zret (v := s0) hx hb hr (nz c14) (fun t ht hW => ⟨_, rfl, Option.some.inj hf, ht⟩) (fun _ h => by cases h) dX1_tells_40
  have hB39 : ∀  (ls : Array Slot), lv_has ls 2 [] → f_X1_tells_B39 S = some res → W p l e (headSpec wsX1_tells ({ frames := 2, cells := 0, slots := 0, locals := 47 } : Room)).room s m ([.ref y0, .ref y1] : List Value).toArray below meth c s.heap [] 0 0 (MQ below (vp_Si (fun r => r = res)) ([.ref y0, .ref y1] : List Value).toArray s 0 0 (fun _ => False)) (F0 m 39 ls []) := by
    intro ls hl hf
    unfold f_X1_tells_B39 at hf
    refine lv_iconst (v := 0) hx hb dX1_tells_39 (by decide) ?_
    exact hB40 0 _ (lv_sub hl [] rfl)  hf
  have hl := lv_entry ([.ref y0, .ref y1]) (n := 2) (Nat.le_of_ble_eq_true rfl)
  rw [lg_entry_eq]
  generalize (lg_sl ([.ref y0, .ref y1]) ++ List.replicate (2 - (lg_sl ([.ref y0, .ref y1])).length) Slot.unset).toArray = ls at hl ⊢
  have hl : lv_has ls 2 [(0, .ref y0), (1, .ref y1)] := hl
  unfold f_X1_tells at hf
  refine lv_aload_n hx hb dX1_tells_0 rfl (lv_at hl 1 rfl) ?_
  obtain ⟨t15, h16, hf⟩ := bd_some hf
  refine vp_callSi (va_runV (As := []) (rest := []) F (c_X0_isVoid l D cy (H := _) hP v_y1 h16) (cwV 0 hts gX1_tells_X0_isVoid rfl rfl rfl ⟨rfl, ph_X0_isVoid.1, ph_X0_isVoid.2, pd_X0_isVoid⟩ ⟨Nat.le_of_ble_eq_true rfl, Nat.le_of_ble_eq_true rfl⟩) ⟨PcR.bl, (q_rcv hK hP v_y1.1 (pF_0 (S := S) v_y1.2) rfl), PcR.in hK⟩ rfl rfl hl.1 rfl (lv_room (Nat.le_of_ble_eq_true rfl)) dX1_tells_1 ⟨Nat.zero_le _, Nat.zero_le _⟩).run (fun r17 er17 => ?_)
  subst r17
  refine lv_if_ne (tgt := 39) hx hb dX1_tells_4 (by decide) (fun c18 => ?_) (fun c18 => ?_)
  · have hf := it_f c18 hf
    exact hB39 _ (lv_sub hl [] rfl)  hf
  · have hf := it_t c18 hf
    refine lv_aload_n hx hb dX1_tells_7 rfl (lv_at hl 0 rfl) ?_
    refine q_get F hK hP v_y0.1 (pF_1 (S := S) v_y0.2) (fun w h => List.mem_cons_of_mem _ (List.mem_append_left _ (List.mem_append_right _ h))) rfl 0 (by decide) (hts (.fieldLink RX1 7 "SharedModuli$Joint" "modulus" "J") (List.mem_of_getElem? (i := 1) rfl)) (v := .long (fL S 16 y0)) rfl dX1_tells_8 ?_
    refine lv_aload_n hx hb dX1_tells_11 rfl (lv_at hl 1 rfl) ?_
    refine q_getN F hK hP v_y1.1 (pF_0 (S := S) v_y1.2) (fun w h => List.mem_cons_of_mem _ (List.mem_append_right _ h)) rfl 3 (by decide) (nk_f_RX1_16 hK.2.1) (v := .int (fI S 3 y1)) rfl dX1_tells_12 ?_
    refine lv_i2l hx hb dX1_tells_15 rfl ?_
    obtain ⟨t19, h20, hf⟩ := bd_some hf
    refine vp_callSl (va_runSN (As := [.long (fL S 16 y0), .long ((fI S 3 y1).toInt64)]) (rest := []) F (c_X4_rest l D cy (H := _)  h20) ⟨(va_cnB 2 hts gX1_tells_X4_rest_n34 rfl rfl rfl (nk_m_RX1_34 hK.2.1) (hts (.initialized RX4) (List.mem_of_getElem? (i := 10) rfl)) ⟨ph_X4_rest.1, ph_X4_rest.2, pd_X4_rest⟩ ⟨Nat.le_of_ble_eq_true rfl, Nat.le_of_ble_eq_true rfl⟩), (hts (.static yX4_rest) (List.mem_of_getElem? (i := 9) rfl)), trivial⟩ ⟨PcR.bl, PcR.in hK⟩ rfl rfl hl.1 rfl (lv_room (Nat.le_of_ble_eq_true rfl)) dX1_tells_16 ⟨Nat.zero_le _, Nat.zero_le _⟩).run (fun r21 er21 => ?_)
    subst r21
    refine lv_lconst (v := 0) hx hb dX1_tells_19 (by decide) ?_
    refine W.lcmp hx hb dX1_tells_20 ?_
    refine lv_if_ne (tgt := 39) hx hb dX1_tells_21 (by decide) (fun c22 => ?_) (fun c22 => ?_)
    · have hf := it_f (fun z => c22 ((lq_eq _ _).mpr z)) hf
      exact hB39 _ (lv_sub hl [] rfl)  hf
    · have hf := it_t ((lq_eq _ _).mp c22) hf
      refine lv_aload_n hx hb dX1_tells_24 rfl (lv_at hl 1 rfl) ?_
      refine lv_aload_n hx hb dX1_tells_25 rfl (lv_at hl 0 rfl) ?_
      refine q_get F hK hP v_y0.1 (pF_1 (S := S) v_y0.2) (fun w h => List.mem_cons_of_mem _ (List.mem_append_left _ (List.mem_append_right _ h))) rfl 1 (by decide) (hts (.fieldLink RX1 13 "SharedModuli$Joint" "remainde\x72" "J") (List.mem_of_getElem? (i := 2) rfl)) (v := .long (fL S 17 y0)) rfl dX1_tells_26 ?_
      obtain ⟨t23, h24, hf⟩ := bd_some hf
      refine vp_callSi (va_runV (As := [.long (fL S 17 y0)]) (rest := []) F (c_X0_isFulfilledBy l D cy (H := _) hP v_y1 h24) (cwV 1 hts gX1_tells_X0_isFulfilledBy rfl rfl rfl ⟨rfl, ph_X0_isFulfilledBy.1, ph_X0_isFulfilledBy.2, pd_X0_isFulfilledBy⟩ ⟨Nat.le_of_ble_eq_true rfl, Nat.le_of_ble_eq_true rfl⟩) ⟨PcR.bl, (q_rcv hK hP v_y1.1 (pF_0 (S := S) v_y1.2) rfl), PcR.in hK⟩ rfl rfl hl.1 rfl (lv_room (Nat.le_of_ble_eq_true rfl)) dX1_tells_29 ⟨Nat.zero_le _, Nat.zero_le _⟩).run (fun r25 er25 => ?_)
      subst r25
      refine lv_if_eq (tgt := 39) hx hb dX1_tells_32 (by decide) (fun c26 => ?_) (fun c26 => ?_)
      · have hf := it_t c26 hf
        exact hB39 _ (lv_sub hl [] rfl)  hf
      · have hf := it_f c26 hf
        refine lv_iconst (v := 1) hx hb dX1_tells_35 (by decide) ?_
        refine lv_goto (tgt := 40) hx hb dX1_tells_36 (by decide) ?_
        exact hB40 1 _ (lv_sub hl [] rfl)  hf
def f_X1_leastFrom (S : PS) (x0 : Nat) (x1 : Int64) : Option Int64 :=
  bd (f_X4_rest ((fL S 17 x0) - x1) (fL S 16 x0)) fun t1 =>
  some (x1 + t1)
set_option maxHeartbeats 4000000 in
set_option maxRecDepth 100000 in
theorem c_X1_leastFrom (l : Launch) (D : va_G) (cy : cyT) {H : Heap} {S : PS} (hP : va_P D vwCl (wl cy S) H) {y0 : Nat} {y1 : Int64} (v_y0 : vd S y0 1) {res : Int64} (hf : f_X1_leastFrom S y0 y1 = some res) : Met l yX1_leastFrom wsX1_leastFrom ({ frames := 1, cells := 0, slots := 0, locals := 25 } : Room) (PcR D cy H [.ref y0, .long y1]) (vp_Sl (fun r => r = res)) 0 0 (fun _ => False) := by
  refine Met.ofW (cc := cX1_leastFrom) (maxL := 3) (ret := (some .long)) (by decide) rfl ?_
  intro p e s m args below meth c s₁ B hml hv
  obtain ⟨hav, hH, hK⟩ := hv
  have hx := B.exec
  have hb := B.bytes
  have hr := B.returns
  have hts := atoms_spec (ws := wsX1_leastFrom) B.pre
  have hown : s.vm.findClass RX1 = some m.cls := findClass_of_methodNamed B.named
  have hlocks := B.notSynchronized
  subst hav
  subst hH
  have F : CallFix p m c cX1_leastFrom 3 s _ wsX1_leastFrom RX1 := ⟨hx, hb, hml, hown, hts⟩
  have hl := lv_entry ([.ref y0, .long y1]) (n := 3) (Nat.le_of_ble_eq_true rfl)
  rw [lg_entry_eq]
  generalize (lg_sl ([.ref y0, .long y1]) ++ List.replicate (3 - (lg_sl ([.ref y0, .long y1])).length) Slot.unset).toArray = ls at hl ⊢
  have hl : lv_has ls 3 [(0, .ref y0), (1, .long y1)] := hl
  unfold f_X1_leastFrom at hf
  refine lv_lload_n hx hb dX1_leastFrom_0 rfl (lv_at hl 1 rfl) ?_
  refine lv_aload_n hx hb dX1_leastFrom_1 rfl (lv_at hl 0 rfl) ?_
  refine q_get F hK hP v_y0.1 (pF_1 (S := S) v_y0.2) (fun w h => List.mem_cons_of_mem _ (List.mem_append_right _ h)) rfl 1 (by decide) (hts (.fieldLink RX1 13 "SharedModuli$Joint" "remainde\x72" "J") (List.mem_of_getElem? (i := 1) rfl)) (v := .long (fL S 17 y0)) rfl dX1_leastFrom_2 ?_
  refine lv_lload_n hx hb dX1_leastFrom_5 rfl (lv_at hl 1 rfl) ?_
  refine lv_lsub hx hb dX1_leastFrom_6 ?_
  refine lv_aload_n hx hb dX1_leastFrom_7 rfl (lv_at hl 0 rfl) ?_
  refine q_get F hK hP v_y0.1 (pF_1 (S := S) v_y0.2) (fun w h => List.mem_cons_of_mem _ (List.mem_append_right _ h)) rfl 0 (by decide) (hts (.fieldLink RX1 7 "SharedModuli$Joint" "modulus" "J") (List.mem_of_getElem? (i := 2) rfl)) (v := .long (fL S 16 y0)) rfl dX1_leastFrom_8 ?_
  obtain ⟨t4, h5, hf⟩ := bd_some hf
  refine vp_callSl (va_runSN (As := [.long ((fL S 17 y0) - y1), .long (fL S 16 y0)]) (rest := [.long y1]) F (c_X4_rest l D cy (H := _)  h5) ⟨(va_cnB 2 hts gX1_leastFrom_X4_rest_n34 rfl rfl rfl (nk_m_RX1_34 hK.2.1) (hts (.initialized RX4) (List.mem_of_getElem? (i := 4) rfl)) ⟨ph_X4_rest.1, ph_X4_rest.2, pd_X4_rest⟩ ⟨Nat.le_of_ble_eq_true rfl, Nat.le_of_ble_eq_true rfl⟩), (hts (.static yX4_rest) (List.mem_of_getElem? (i := 3) rfl)), trivial⟩ ⟨PcR.bl, PcR.in hK⟩ rfl rfl hl.1 rfl (lv_room (Nat.le_of_ble_eq_true rfl)) dX1_leastFrom_11 ⟨Nat.zero_le _, Nat.zero_le _⟩).run (fun r6 er6 => ?_)
  subst r6
  refine lv_ladd hx hb dX1_leastFrom_14 ?_
  exact W.lret (v := (y1 + t4)) hx hb hr (fun t ht hW => ⟨_, rfl, Option.some.inj hf, ht⟩) (fun _ h => by cases h) dX1_leastFrom_15
def f_X1_answersUpTo_B28 (S : PS) (s0 : Int64) : Option Int64 :=
  some s0
def f_X1_answersUpTo (S : PS) (x0 : Nat) (x1 : Int64) : Option Int64 :=
  if (fL S 17 x0) ≤ x1 then (bd (f_X4_share (x1 - (fL S 17 x0)) (fL S 16 x0)) fun t2 =>
  f_X1_answersUpTo_B28 S (t2 + (1 : Int64))) else
  f_X1_answersUpTo_B28 S 0
set_option maxHeartbeats 4000000 in
set_option maxRecDepth 100000 in
theorem c_X1_answersUpTo (l : Launch) (D : va_G) (cy : cyT) {H : Heap} {S : PS} (hP : va_P D vwCl (wl cy S) H) {y0 : Nat} {y1 : Int64} (v_y0 : vd S y0 1) {res : Int64} (hf : f_X1_answersUpTo S y0 y1 = some res) : Met l yX1_answersUpTo wsX1_answersUpTo ({ frames := 1, cells := 0, slots := 0, locals := 23 } : Room) (PcR D cy H [.ref y0, .long y1]) (vp_Sl (fun r => r = res)) 0 0 (fun _ => False) := by
  refine Met.ofW (cc := cX1_answersUpTo) (maxL := 3) (ret := (some .long)) (by decide) rfl ?_
  intro p e s m args below meth c s₁ B hml hv
  obtain ⟨hav, hH, hK⟩ := hv
  have hx := B.exec
  have hb := B.bytes
  have hr := B.returns
  have hts := atoms_spec (ws := wsX1_answersUpTo) B.pre
  have hown : s.vm.findClass RX1 = some m.cls := findClass_of_methodNamed B.named
  have hlocks := B.notSynchronized
  subst hav
  subst hH
  have F : CallFix p m c cX1_answersUpTo 3 s _ wsX1_answersUpTo RX1 := ⟨hx, hb, hml, hown, hts⟩
  have hB28 : ∀ (s0 : Int64) (ls : Array Slot), lv_has ls 3 [] → f_X1_answersUpTo_B28 S s0 = some res → W p l e (headSpec wsX1_answersUpTo ({ frames := 1, cells := 0, slots := 0, locals := 23 } : Room)).room s m ([.ref y0, .long y1] : List Value).toArray below meth c s.heap [] 0 0 (MQ below (vp_Sl (fun r => r = res)) ([.ref y0, .long y1] : List Value).toArray s 0 0 (fun _ => False)) (F0 m 28 ls [.long s0]) := by
    intro s0 ls hl hf
    unfold f_X1_answersUpTo_B28 at hf
    exact W.lret (v := s0) hx hb hr (fun t ht hW => ⟨_, rfl, Option.some.inj hf, ht⟩) (fun _ h => by cases h) dX1_answersUpTo_28
  have hl := lv_entry ([.ref y0, .long y1]) (n := 3) (Nat.le_of_ble_eq_true rfl)
  rw [lg_entry_eq]
  generalize (lg_sl ([.ref y0, .long y1]) ++ List.replicate (3 - (lg_sl ([.ref y0, .long y1])).length) Slot.unset).toArray = ls at hl ⊢
  have hl : lv_has ls 3 [(0, .ref y0), (1, .long y1)] := hl
  unfold f_X1_answersUpTo at hf
  refine lv_lload_n hx hb dX1_answersUpTo_0 rfl (lv_at hl 1 rfl) ?_
  refine lv_aload_n hx hb dX1_answersUpTo_1 rfl (lv_at hl 0 rfl) ?_
  refine q_get F hK hP v_y0.1 (pF_1 (S := S) v_y0.2) (fun w h => List.mem_cons_of_mem _ (List.mem_append_right _ h)) rfl 1 (by decide) (hts (.fieldLink RX1 13 "SharedModuli$Joint" "remainde\x72" "J") (List.mem_of_getElem? (i := 1) rfl)) (v := .long (fL S 17 y0)) rfl dX1_answersUpTo_2 ?_
  refine W.lcmp hx hb dX1_answersUpTo_5 ?_
  refine lv_if_ge (tgt := 13) hx hb dX1_answersUpTo_6 (by decide) (fun c5 => ?_) (fun c5 => ?_)
  · have hf := it_t ((lq_ge _ _).mp c5) hf
    refine lv_lload_n hx hb dX1_answersUpTo_13 rfl (lv_at hl 1 rfl) ?_
    refine lv_aload_n hx hb dX1_answersUpTo_14 rfl (lv_at hl 0 rfl) ?_
    refine q_get F hK hP v_y0.1 (pF_1 (S := S) v_y0.2) (fun w h => List.mem_cons_of_mem _ (List.mem_append_right _ h)) rfl 1 (by decide) (hts (.fieldLink RX1 13 "SharedModuli$Joint" "remainde\x72" "J") (List.mem_of_getElem? (i := 1) rfl)) (v := .long (fL S 17 y0)) rfl dX1_answersUpTo_15 ?_
    refine lv_lsub hx hb dX1_answersUpTo_18 ?_
    refine lv_aload_n hx hb dX1_answersUpTo_19 rfl (lv_at hl 0 rfl) ?_
    refine q_get F hK hP v_y0.1 (pF_1 (S := S) v_y0.2) (fun w h => List.mem_cons_of_mem _ (List.mem_append_right _ h)) rfl 0 (by decide) (hts (.fieldLink RX1 7 "SharedModuli$Joint" "modulus" "J") (List.mem_of_getElem? (i := 2) rfl)) (v := .long (fL S 16 y0)) rfl dX1_answersUpTo_20 ?_
    obtain ⟨t6, h7, hf⟩ := bd_some hf
    refine vp_callSl (va_runSN (As := [.long (y1 - (fL S 17 y0)), .long (fL S 16 y0)]) (rest := []) F (c_X4_share l D cy (H := _)  h7) ⟨(va_cnB 2 hts gX1_answersUpTo_X4_share_n28 rfl rfl rfl (nk_m_RX1_28 hK.2.1) (hts (.initialized RX4) (List.mem_of_getElem? (i := 4) rfl)) ⟨ph_X4_share.1, ph_X4_share.2, pd_X4_share⟩ ⟨Nat.le_of_ble_eq_true rfl, Nat.le_of_ble_eq_true rfl⟩), (hts (.static yX4_share) (List.mem_of_getElem? (i := 3) rfl)), trivial⟩ ⟨PcR.bl, PcR.in hK⟩ rfl rfl hl.1 rfl (lv_room (Nat.le_of_ble_eq_true rfl)) dX1_answersUpTo_23 ⟨Nat.zero_le _, Nat.zero_le _⟩).run (fun r8 er8 => ?_)
    subst r8
    refine lv_lconst (v := 1) hx hb dX1_answersUpTo_26 (by decide) ?_
    refine lv_ladd hx hb dX1_answersUpTo_27 ?_
    exact hB28 (t6 + (1 : Int64)) _ (lv_sub hl [] rfl)  hf
  · have hf := it_f (fun z => c5 ((lq_ge _ _).mpr z)) hf
    refine lv_lconst (v := 0) hx hb dX1_answersUpTo_9 (by decide) ?_
    refine lv_goto (tgt := 28) hx hb dX1_answersUpTo_10 (by decide) ?_
    exact hB28 0 _ (lv_sub hl [] rfl)  hf
def f_X2_start (S : PS) (x0 : Nat) : Option PS :=
  some (sI (sI (sI (sI S 32 x0 0) 33 x0 0) 34 x0 1) 35 x0 0)
set_option maxHeartbeats 4000000 in
set_option maxRecDepth 100000 in
theorem c_X2_start (l : Launch) (D : va_G) (cy : cyT) {S : PS} {n : Nat} {y0 : Nat} (v_y0 : vd S y0 2) {res : PS} (hf : f_X2_start S y0 = some res) : Met l yX2_start wsX2_start ({ frames := 0, cells := 0, slots := 0, locals := 0 } : Room) (PcW False D cy S n [.ref y0]) (va_Qv (fun (u : PS × Nat) => u = (res, n)) (BW D cy S n) (AA cy S n)) 0 0 (AA cy S n) := by
  refine Met.ofW (cc := cX2_start) (maxL := 1) (ret := none) (by decide) rfl ?_
  intro p e s m args below meth c s₁ B hml hv
  obtain ⟨hav, hsz, hP0, hD0, hK, hZ0⟩ := hv
  have hx := B.exec
  have hb := B.bytes
  have hr := B.returns
  have hts := atoms_spec (ws := wsX2_start) B.pre
  have hown : s.vm.findClass RX2 = some m.cls := findClass_of_methodNamed B.named
  have hlocks := B.notSynchronized
  subst hav
  have hw : Hw D cy (AA cy S n) s.heap S n s.heap [] := Hw.start hsz hP0 hD0
  have hA : ∀ q, s.heap.size ≤ q → AA cy S n q := fun q h => Or.inr (hsz ▸ h)
  have hE : EX S S := EX.rf
  have F : CallFix p m c cX2_start 1 s _ wsX2_start RX2 := ⟨hx, hb, hml, hown, hts⟩
  have hl := lv_entry ([.ref y0]) (n := 1) (Nat.le_of_ble_eq_true rfl)
  rw [lg_entry_eq]
  generalize (lg_sl ([.ref y0]) ++ List.replicate (1 - (lg_sl ([.ref y0])).length) Slot.unset).toArray = ls at hl ⊢
  have hl : lv_has ls 1 [(0, .ref y0)] := hl
  unfold f_X2_start at hf
  refine lv_aload_n hx hb dX2_start_0 rfl (lv_at hl 0 rfl) ?_
  refine lv_iconst (v := 0) hx hb dX2_start_1 (by decide) ?_
  refine q_put F hK hw v_y0.1 (pF_2 (S := S) v_y0.2) (fun w h => List.mem_cons_of_mem _ (List.mem_append_right _ h)) tyX2 tyX2_ok nmX2 rfl 0 (by decide) (hts (.fieldLink RX2 14 "SharedModuli$Scanner" "place" "I") (List.mem_of_getElem? (i := 1) rfl)) (Or.inl rfl) (tyX2_ok 0 (by decide)) rfl rfl (Nat.le_of_ble_eq_true rfl) (S1 := sI S 32 y0 0) (st_32 (S := S) v_y0.2 0) dX2_start_2 (fun H locs hw => ?_)
  refine lv_aload_n hx hb dX2_start_5 rfl (lv_at hl 0 rfl) ?_
  refine lv_iconst (v := 0) hx hb dX2_start_6 (by decide) ?_
  refine q_put F hK hw v_y0.1 (pF_2 (S := sI S 32 y0 0) v_y0.2) (fun w h => List.mem_cons_of_mem _ (List.mem_append_right _ h)) tyX2 tyX2_ok nmX2 rfl 1 (by decide) (hts (.fieldLink RX2 18 "SharedModuli$Scanner" "value" "I") (List.mem_of_getElem? (i := 2) rfl)) (Or.inl rfl) (tyX2_ok 1 (by decide)) rfl rfl (Nat.le_of_ble_eq_true rfl) (S1 := sI (sI S 32 y0 0) 33 y0 0) (st_33 (S := sI S 32 y0 0) v_y0.2 0) dX2_start_7 (fun H locs hw => ?_)
  refine lv_aload_n hx hb dX2_start_10 rfl (lv_at hl 0 rfl) ?_
  refine lv_iconst (v := 1) hx hb dX2_start_11 (by decide) ?_
  refine q_put F hK hw v_y0.1 (pF_2 (S := sI (sI S 32 y0 0) 33 y0 0) v_y0.2) (fun w h => List.mem_cons_of_mem _ (List.mem_append_right _ h)) tyX2 tyX2_ok nmX2 rfl 2 (by decide) (hts (.fieldLink RX2 21 "SharedModuli$Scanner" "facto\x72" "I") (List.mem_of_getElem? (i := 3) rfl)) (Or.inl rfl) (tyX2_ok 2 (by decide)) rfl rfl (Nat.le_of_ble_eq_true rfl) (S1 := sI (sI (sI S 32 y0 0) 33 y0 0) 34 y0 1) (st_34 (S := sI (sI S 32 y0 0) 33 y0 0) v_y0.2 1) dX2_start_12 (fun H locs hw => ?_)
  refine lv_aload_n hx hb dX2_start_15 rfl (lv_at hl 0 rfl) ?_
  refine lv_iconst (v := 0) hx hb dX2_start_16 (by decide) ?_
  refine q_put F hK hw v_y0.1 (pF_2 (S := sI (sI (sI S 32 y0 0) 33 y0 0) 34 y0 1) v_y0.2) (fun w h => List.mem_cons_of_mem _ (List.mem_append_right _ h)) tyX2 tyX2_ok nmX2 rfl 3 (by decide) (hts (.fieldLink RX2 24 "SharedModuli$Scanner" "remainde\x72" "I") (List.mem_of_getElem? (i := 4) rfl)) (Or.inl rfl) (tyX2_ok 3 (by decide)) rfl rfl (Nat.le_of_ble_eq_true rfl) (S1 := sI (sI (sI (sI S 32 y0 0) 33 y0 0) 34 y0 1) 35 y0 0) (st_35 (S := sI (sI (sI S 32 y0 0) 33 y0 0) 34 y0 1) v_y0.2 0) dX2_start_17 (fun H locs hw => ?_)
  exact W.vret hx hb hr (fun t ht hW => ⟨⟨(sI (sI (sI (sI S 32 y0 0) 33 y0 0) 34 y0 1) 35 y0 0, n), rfl, po1 hf, BW.of hw hE ht⟩, hw.2.2.1.F ht⟩) hw.2.2.1.2.2 dX2_start_20
def f_X2_init (S : PS) (x0 : Nat) : Option PS :=
  bd (f_X2_start S x0) fun t1 =>
  some (t1)
set_option maxHeartbeats 4000000 in
set_option maxRecDepth 100000 in
theorem c_X2_init (l : Launch) (D : va_G) (cy : cyT) {S : PS} {n : Nat} {y0 : Nat} (v_y0 : vd S y0 2) {res : PS} (hf : f_X2_init S y0 = some res) : Met l yX2_init wsX2_init ({ frames := 1, cells := 0, slots := 0, locals := 20 } : Room) (PcW False D cy S n [.ref y0]) (va_Qv (fun (u : PS × Nat) => u = (res, n)) (BW D cy S n) (AA cy S n)) 0 0 (AA cy S n) := by
  refine Met.ofW (cc := cX2_init) (maxL := 1) (ret := none) (by decide) rfl ?_
  intro p e s m args below meth c s₁ B hml hv
  obtain ⟨hav, hsz, hP0, hD0, hK, hZ0⟩ := hv
  have hx := B.exec
  have hb := B.bytes
  have hr := B.returns
  have hts := atoms_spec (ws := wsX2_init) B.pre
  have hown : s.vm.findClass RX2 = some m.cls := findClass_of_methodNamed B.named
  have hlocks := B.notSynchronized
  have hin : meth.name = "<init>" := (name_of_methodNamed B.named B.method).1
  subst hav
  have hw : Hw D cy (AA cy S n) s.heap S n s.heap [] := Hw.start hsz hP0 hD0
  have hA : ∀ q, s.heap.size ≤ q → AA cy S n q := fun q h => Or.inr (hsz ▸ h)
  have hE : EX S S := EX.rf
  have F : CallFix p m c cX2_init 1 s _ wsX2_init RX2 := ⟨hx, hb, hml, hown, hts⟩
  have hl := lv_entry ([.ref y0]) (n := 1) (Nat.le_of_ble_eq_true rfl)
  rw [lg_entry_eq]
  generalize (lg_sl ([.ref y0]) ++ List.replicate (1 - (lg_sl ([.ref y0])).length) Slot.unset).toArray = ls at hl ⊢
  have hl : lv_has ls 1 [(0, .ref y0)] := hl
  unfold f_X2_init at hf
  refine lv_aload_n hx hb dX2_init_0 rfl (lv_at hl 0 rfl) ?_
  refine W.objInit hx hb hown (hts (.methodLink RX2 3 objectInit) (List.mem_of_getElem? (i := 1) rfl)) (hts (.instanceMethod objectInit) (List.mem_of_getElem? (i := 2) rfl)) (hts (.code objectInit ⟨#[0xb1]⟩ 1 none) (List.mem_of_getElem? (i := 3) rfl)) rfl (by rw [hml]; exact hl.1) rfl dX2_init_1 (Nat.le_of_ble_eq_true rfl) (Nat.le_of_ble_eq_true rfl) ?_
  refine W.eq (g2 := F0 m 4 ls []) rfl ?_
  refine lv_aload_n hx hb dX2_init_4 rfl (lv_at hl 0 rfl) ?_
  obtain ⟨t3, h4, hf⟩ := bd_some hf
  refine q_callv (va_runV (As := []) (rest := []) F (c_X2_start l D cy (S := S) v_y0 h4) (cwV 0 hts gX2_init_X2_start rfl rfl rfl ⟨rfl, ph_X2_start.1, ph_X2_start.2, pd_X2_start⟩ ⟨Nat.le_of_ble_eq_true rfl, Nat.le_of_ble_eq_true rfl⟩) ⟨PcW.bl, (q_rcv hK hw.1 v_y0.1 (pF_2 (S := S) v_y0.2) rfl), PcW.in hK hw hA (fun z => z.elim)⟩ rfl rfl hl.1 rfl (lv_room (Nat.le_of_ble_eq_true rfl)) dX2_init_5 ⟨Nat.zero_le _, Nat.zero_le _⟩) hw hA (fun H locs hw hX => ?_)
  have hE := hE.tr hX
  have v_y0 := hX _ _ v_y0
  exact W.vret hx hb hr (fun t ht hW => ⟨⟨(t3, n), rfl, po1 hf, BW.of hw hE ht⟩, hw.2.2.1.F ht⟩) hw.2.2.1.2.2 dX2_init_8
def f_X2_isComplete_B14 (S : PS) (s0 : Int32) : Option Int32 :=
  ck (decide (s0 &&& 1 = s0)) (
  some s0)
def f_X2_isComplete (S : PS) (x0 : Nat) : Option Int32 :=
  if (fI S 32 x0) = 6 then (f_X2_isComplete_B14 S 1) else
  f_X2_isComplete_B14 S 0
set_option maxHeartbeats 4000000 in
set_option maxRecDepth 100000 in
theorem c_X2_isComplete (l : Launch) (D : va_G) (cy : cyT) {H : Heap} {S : PS} (hP : va_P D vwCl (wl cy S) H) {y0 : Nat} (v_y0 : vd S y0 2) {res : Int32} (hf : f_X2_isComplete S y0 = some res) : Met l yX2_isComplete wsX2_isComplete ({ frames := 0, cells := 0, slots := 0, locals := 0 } : Room) (PcR D cy H [.ref y0]) (vp_Si (fun r => r = res)) 0 0 (fun _ => False) := by
  refine Met.ofW (cc := cX2_isComplete) (maxL := 1) (ret := (some .boolean)) (by decide) rfl ?_
  intro p e s m args below meth c s₁ B hml hv
  obtain ⟨hav, hH, hK⟩ := hv
  have hx := B.exec
  have hb := B.bytes
  have hr := B.returns
  have hts := atoms_spec (ws := wsX2_isComplete) B.pre
  have hown : s.vm.findClass RX2 = some m.cls := findClass_of_methodNamed B.named
  have hlocks := B.notSynchronized
  subst hav
  subst hH
  have F : CallFix p m c cX2_isComplete 1 s _ wsX2_isComplete RX2 := ⟨hx, hb, hml, hown, hts⟩
  have hB14 : ∀ (s0 : Int32) (ls : Array Slot), lv_has ls 1 [] → f_X2_isComplete_B14 S s0 = some res → W p l e (headSpec wsX2_isComplete ({ frames := 0, cells := 0, slots := 0, locals := 0 } : Room)).room s m ([.ref y0] : List Value).toArray below meth c s.heap [] 0 0 (MQ below (vp_Si (fun r => r = res)) ([.ref y0] : List Value).toArray s 0 0 (fun _ => False)) (F0 m 14 ls [.int s0]) := by
    intro s0 ls hl hf
    unfold f_X2_isComplete_B14 at hf
    obtain ⟨c3, hf⟩ := ckd_some hf
    exact W.zret (v := s0) hx hb hr (nz c3) (fun t ht hW => ⟨_, rfl, Option.some.inj hf, ht⟩) (fun _ h => by cases h) dX2_isComplete_14
  have hl := lv_entry ([.ref y0]) (n := 1) (Nat.le_of_ble_eq_true rfl)
  rw [lg_entry_eq]
  generalize (lg_sl ([.ref y0]) ++ List.replicate (1 - (lg_sl ([.ref y0])).length) Slot.unset).toArray = ls at hl ⊢
  have hl : lv_has ls 1 [(0, .ref y0)] := hl
  unfold f_X2_isComplete at hf
  refine lv_aload_n hx hb dX2_isComplete_0 rfl (lv_at hl 0 rfl) ?_
  refine q_get F hK hP v_y0.1 (pF_2 (S := S) v_y0.2) (fun w h => List.mem_cons_of_mem _ (List.mem_append_right _ h)) rfl 0 (by decide) (hts (.fieldLink RX2 14 "SharedModuli$Scanner" "place" "I") (List.mem_of_getElem? (i := 1) rfl)) (v := .int (fI S 32 y0)) rfl dX2_isComplete_1 ?_
  refine lv_bipush (v := 6) hx hb dX2_isComplete_4 (by decide) ?_
  refine lv_icmp_ne (tgt := 13) hx hb dX2_isComplete_6 (by decide) (fun c4 => ?_) (fun c4 => ?_)
  · have hf := it_f c4 hf
    refine lv_iconst (v := 0) hx hb dX2_isComplete_13 (by decide) ?_
    exact hB14 0 _ (lv_sub hl [] rfl)  hf
  · have hf := it_t c4 hf
    refine lv_iconst (v := 1) hx hb dX2_isComplete_9 (by decide) ?_
    refine lv_goto (tgt := 14) hx hb dX2_isComplete_10 (by decide) ?_
    exact hB14 1 _ (lv_sub hl [] rfl)  hf
def f_X2_begins (S : PS) (x0 : Nat) (x1 : Int32) (x2 : Int32) (x3 : Int32) : Option (Int32 × PS) :=
  if x3 ≤ x2 then (some (1, sI (sI S 32 x0 x1) 33 x0 x2)) else
  some (0, S)
set_option maxHeartbeats 4000000 in
set_option maxRecDepth 100000 in
theorem c_X2_begins (l : Launch) (D : va_G) (cy : cyT) {S : PS} {n : Nat} {y0 : Nat} {y1 : Int32} {y2 : Int32} {y3 : Int32} (v_y0 : vd S y0 2) {res : Int32 × PS} (hf : f_X2_begins S y0 y1 y2 y3 = some res) : Met l yX2_begins wsX2_begins ({ frames := 0, cells := 0, slots := 0, locals := 0 } : Room) (PcW False D cy S n [.ref y0, .int y1, .int y2, .int y3]) (va_Qi (fun (r : Int32) (u : PS × Nat) => r = res.1 ∧ u = (res.2, n)) (BW D cy S n) (AA cy S n)) 0 0 (AA cy S n) := by
  refine Met.ofW (cc := cX2_begins) (maxL := 4) (ret := (some .boolean)) (by decide) rfl ?_
  intro p e s m args below meth c s₁ B hml hv
  obtain ⟨hav, hsz, hP0, hD0, hK, hZ0⟩ := hv
  have hx := B.exec
  have hb := B.bytes
  have hr := B.returns
  have hts := atoms_spec (ws := wsX2_begins) B.pre
  have hown : s.vm.findClass RX2 = some m.cls := findClass_of_methodNamed B.named
  have hlocks := B.notSynchronized
  subst hav
  have hw : Hw D cy (AA cy S n) s.heap S n s.heap [] := Hw.start hsz hP0 hD0
  have hA : ∀ q, s.heap.size ≤ q → AA cy S n q := fun q h => Or.inr (hsz ▸ h)
  have hE : EX S S := EX.rf
  have F : CallFix p m c cX2_begins 4 s _ wsX2_begins RX2 := ⟨hx, hb, hml, hown, hts⟩
  have hl := lv_entry ([.ref y0, .int y1, .int y2, .int y3]) (n := 4) (Nat.le_of_ble_eq_true rfl)
  rw [lg_entry_eq]
  generalize (lg_sl ([.ref y0, .int y1, .int y2, .int y3]) ++ List.replicate (4 - (lg_sl ([.ref y0, .int y1, .int y2, .int y3])).length) Slot.unset).toArray = ls at hl ⊢
  have hl : lv_has ls 4 [(0, .ref y0), (1, .int y1), (2, .int y2), (3, .int y3)] := hl
  unfold f_X2_begins at hf
  refine lv_iload_n hx hb dX2_begins_0 rfl (lv_at hl 2 rfl) ?_
  refine lv_iload_n hx hb dX2_begins_1 rfl (lv_at hl 3 rfl) ?_
  refine lv_icmp_ge (tgt := 7) hx hb dX2_begins_2 (by decide) (fun c2 => ?_) (fun c2 => ?_)
  · have hf := it_t c2 hf
    refine lv_aload_n hx hb dX2_begins_7 rfl (lv_at hl 0 rfl) ?_
    refine lv_iload_n hx hb dX2_begins_8 rfl (lv_at hl 1 rfl) ?_
    refine q_put F hK hw v_y0.1 (pF_2 (S := S) v_y0.2) (fun w h => List.mem_cons_of_mem _ (List.mem_append_right _ h)) tyX2 tyX2_ok nmX2 rfl 0 (by decide) (hts (.fieldLink RX2 14 "SharedModuli$Scanner" "place" "I") (List.mem_of_getElem? (i := 1) rfl)) (Or.inl rfl) (tyX2_ok 0 (by decide)) rfl rfl (Nat.le_of_ble_eq_true rfl) (S1 := sI S 32 y0 y1) (st_32 (S := S) v_y0.2 y1) dX2_begins_9 (fun H locs hw => ?_)
    refine lv_aload_n hx hb dX2_begins_12 rfl (lv_at hl 0 rfl) ?_
    refine lv_iload_n hx hb dX2_begins_13 rfl (lv_at hl 2 rfl) ?_
    refine q_put F hK hw v_y0.1 (pF_2 (S := sI S 32 y0 y1) v_y0.2) (fun w h => List.mem_cons_of_mem _ (List.mem_append_right _ h)) tyX2 tyX2_ok nmX2 rfl 1 (by decide) (hts (.fieldLink RX2 18 "SharedModuli$Scanner" "value" "I") (List.mem_of_getElem? (i := 2) rfl)) (Or.inl rfl) (tyX2_ok 1 (by decide)) rfl rfl (Nat.le_of_ble_eq_true rfl) (S1 := sI (sI S 32 y0 y1) 33 y0 y2) (st_33 (S := sI S 32 y0 y1) v_y0.2 y2) dX2_begins_14 (fun H locs hw => ?_)
    refine lv_iconst (v := 1) hx hb dX2_begins_17 (by decide) ?_
    exact W.zret (v := 1) hx hb hr rfl (fun t ht hW => ⟨⟨_, (sI (sI S 32 y0 y1) 33 y0 y2, n), rfl, po2 hf, BW.of hw hE ht⟩, hw.2.2.1.F ht⟩) hw.2.2.1.2.2 dX2_begins_18
  · have hf := it_f c2 hf
    refine lv_iconst (v := 0) hx hb dX2_begins_5 (by decide) ?_
    exact W.zret (v := 0) hx hb hr rfl (fun t ht hW => ⟨⟨_, (S, n), rfl, po2 hf, BW.of hw hE ht⟩, hw.2.2.1.F ht⟩) hw.2.2.1.2.2 dX2_begins_6
def f_X2_continues_B23 (S : PS) : Option (Int32 × PS) :=
  some (0, S)
def f_X2_continues (S : PS) (x0 : Nat) (x1 : Int32) : Option (Int32 × PS) :=
  if (fI S 33 x0) < 1 then (f_X2_continues_B23 S) else
  if (((fI S 33 x0) * (10 : Int32)) + x1) ≤ 999 then (some (1, sI S 33 x0 (((fI S 33 x0) * (10 : Int32)) + x1))) else
  f_X2_continues_B23 S
set_option maxHeartbeats 4000000 in
set_option maxRecDepth 100000 in
theorem c_X2_continues (l : Launch) (D : va_G) (cy : cyT) {S : PS} {n : Nat} {y0 : Nat} {y1 : Int32} (v_y0 : vd S y0 2) {res : Int32 × PS} (hf : f_X2_continues S y0 y1 = some res) : Met l yX2_continues wsX2_continues ({ frames := 0, cells := 0, slots := 0, locals := 0 } : Room) (PcW False D cy S n [.ref y0, .int y1]) (va_Qi (fun (r : Int32) (u : PS × Nat) => r = res.1 ∧ u = (res.2, n)) (BW D cy S n) (AA cy S n)) 0 0 (AA cy S n) := by
  refine Met.ofW (cc := cX2_continues) (maxL := 2) (ret := (some .boolean)) (by decide) rfl ?_
  intro p e s m args below meth c s₁ B hml hv
  obtain ⟨hav, hsz, hP0, hD0, hK, hZ0⟩ := hv
  have hx := B.exec
  have hb := B.bytes
  have hr := B.returns
  have hts := atoms_spec (ws := wsX2_continues) B.pre
  have hown : s.vm.findClass RX2 = some m.cls := findClass_of_methodNamed B.named
  have hlocks := B.notSynchronized
  subst hav
  have hw : Hw D cy (AA cy S n) s.heap S n s.heap [] := Hw.start hsz hP0 hD0
  have hA : ∀ q, s.heap.size ≤ q → AA cy S n q := fun q h => Or.inr (hsz ▸ h)
  have hE : EX S S := EX.rf
  have F : CallFix p m c cX2_continues 2 s _ wsX2_continues RX2 := ⟨hx, hb, hml, hown, hts⟩
  have hB23 : ∀ (Sb : PS) (H1 : Heap) (lo1 : List Loc)  (ls : Array Slot), lv_has ls 2 [] → Hw D cy (AA cy S n) s.heap Sb n H1 lo1 → EX S Sb → f_X2_continues_B23 Sb = some res → W p l e (headSpec wsX2_continues ({ frames := 0, cells := 0, slots := 0, locals := 0 } : Room)).room s m ([.ref y0, .int y1] : List Value).toArray below meth c H1 lo1 0 0 (MQ below (va_Qi (fun (r : Int32) (u : PS × Nat) => r = res.1 ∧ u = (res.2, n)) (BW D cy S n) (AA cy S n)) ([.ref y0, .int y1] : List Value).toArray s 0 0 (AA cy S n)) (F0 m 23 ls []) := by
    intro Sb H1 lo1 ls hl hw hE hf
    unfold f_X2_continues_B23 at hf
    refine lv_iconst (v := 0) hx hb dX2_continues_23 (by decide) ?_
    exact W.zret (v := 0) hx hb hr rfl (fun t ht hW => ⟨⟨_, (Sb, n), rfl, po2 hf, BW.of hw hE ht⟩, hw.2.2.1.F ht⟩) hw.2.2.1.2.2 dX2_continues_24
  have hl := lv_entry ([.ref y0, .int y1]) (n := 2) (Nat.le_of_ble_eq_true rfl)
  rw [lg_entry_eq]
  generalize (lg_sl ([.ref y0, .int y1]) ++ List.replicate (2 - (lg_sl ([.ref y0, .int y1])).length) Slot.unset).toArray = ls at hl ⊢
  have hl : lv_has ls 2 [(0, .ref y0), (1, .int y1)] := hl
  unfold f_X2_continues at hf
  refine lv_aload_n hx hb dX2_continues_0 rfl (lv_at hl 0 rfl) ?_
  refine q_get F hK hw.1 v_y0.1 (pF_2 (S := S) v_y0.2) (fun w h => List.mem_cons_of_mem _ (List.mem_append_right _ h)) rfl 1 (by decide) (hts (.fieldLink RX2 18 "SharedModuli$Scanner" "value" "I") (List.mem_of_getElem? (i := 1) rfl)) (v := .int (fI S 33 y0)) rfl dX2_continues_1 ?_
  refine lv_iconst (v := 1) hx hb dX2_continues_4 (by decide) ?_
  refine lv_icmp_lt (tgt := 23) hx hb dX2_continues_5 (by decide) (fun c3 => ?_) (fun c3 => ?_)
  · have hf := it_t c3 hf
    exact hB23 S _ _ _ (lv_sub hl [] rfl) hw hE  hf
  · have hf := it_f c3 hf
    refine lv_aload_n hx hb dX2_continues_8 rfl (lv_at hl 0 rfl) ?_
    refine q_get F hK hw.1 v_y0.1 (pF_2 (S := S) v_y0.2) (fun w h => List.mem_cons_of_mem _ (List.mem_append_right _ h)) rfl 1 (by decide) (hts (.fieldLink RX2 18 "SharedModuli$Scanner" "value" "I") (List.mem_of_getElem? (i := 1) rfl)) (v := .int (fI S 33 y0)) rfl dX2_continues_9 ?_
    refine lv_bipush (v := 10) hx hb dX2_continues_12 (by decide) ?_
    refine lv_imul hx hb dX2_continues_14 ?_
    refine lv_iload_n hx hb dX2_continues_15 rfl (lv_at hl 1 rfl) ?_
    refine lv_iadd hx hb dX2_continues_16 ?_
    refine lv_sipush (v := 999) hx hb dX2_continues_17 (by decide) ?_
    refine lv_icmp_le (tgt := 25) hx hb dX2_continues_20 (by decide) (fun c4 => ?_) (fun c4 => ?_)
    · have hf := it_t c4 hf
      refine lv_aload_n hx hb dX2_continues_25 rfl (lv_at hl 0 rfl) ?_
      refine lv_aload_n hx hb dX2_continues_26 rfl (lv_at hl 0 rfl) ?_
      refine q_get F hK hw.1 v_y0.1 (pF_2 (S := S) v_y0.2) (fun w h => List.mem_cons_of_mem _ (List.mem_append_right _ h)) rfl 1 (by decide) (hts (.fieldLink RX2 18 "SharedModuli$Scanner" "value" "I") (List.mem_of_getElem? (i := 1) rfl)) (v := .int (fI S 33 y0)) rfl dX2_continues_27 ?_
      refine lv_bipush (v := 10) hx hb dX2_continues_30 (by decide) ?_
      refine lv_imul hx hb dX2_continues_32 ?_
      refine lv_iload_n hx hb dX2_continues_33 rfl (lv_at hl 1 rfl) ?_
      refine lv_iadd hx hb dX2_continues_34 ?_
      refine q_put F hK hw v_y0.1 (pF_2 (S := S) v_y0.2) (fun w h => List.mem_cons_of_mem _ (List.mem_append_right _ h)) tyX2 tyX2_ok nmX2 rfl 1 (by decide) (hts (.fieldLink RX2 18 "SharedModuli$Scanner" "value" "I") (List.mem_of_getElem? (i := 1) rfl)) (Or.inl rfl) (tyX2_ok 1 (by decide)) rfl rfl (Nat.le_of_ble_eq_true rfl) (S1 := sI S 33 y0 (((fI S 33 y0) * (10 : Int32)) + y1)) (st_33 (S := S) v_y0.2 (((fI S 33 y0) * (10 : Int32)) + y1)) dX2_continues_35 (fun H locs hw => ?_)
      refine lv_iconst (v := 1) hx hb dX2_continues_38 (by decide) ?_
      exact W.zret (v := 1) hx hb hr rfl (fun t ht hW => ⟨⟨_, (sI S 33 y0 (((fI S 33 y0) * (10 : Int32)) + y1), n), rfl, po2 hf, BW.of hw hE ht⟩, hw.2.2.1.F ht⟩) hw.2.2.1.2.2 dX2_continues_39
    · have hf := it_f c4 hf
      exact hB23 S _ _ _ (lv_sub hl [] rfl) hw hE  hf
def f_X2_takesDigit (S : PS) (x0 : Nat) (x1 : Int32) : Option (Int32 × PS) :=
  if (fI S 32 x0) = 0 then (bd (f_X2_begins S x0 1 x1 1) fun t2 =>
  ck (decide (t2.1 &&& 1 = t2.1)) (
  some (t2.1, t2.2))) else
  if (fI S 32 x0) = 1 then (bd (f_X2_continues S x0 x1) fun t5 =>
  ck (decide (t5.1 &&& 1 = t5.1)) (
  some (t5.1, t5.2))) else
  if (fI S 32 x0) = 2 then (some (0, S)) else
  if (fI S 32 x0) = 3 then (bd (f_X2_begins S x0 4 x1 0) fun t8 =>
  ck (decide (t8.1 &&& 1 = t8.1)) (
  some (t8.1, t8.2))) else
  if (fI S 32 x0) = 4 then (bd (f_X2_continues S x0 x1) fun t11 =>
  ck (decide (t11.1 &&& 1 = t11.1)) (
  some (t11.1, t11.2))) else
  if (fI S 32 x0) = 5 then (bd (f_X2_begins S x0 6 x1 1) fun t14 =>
  ck (decide (t14.1 &&& 1 = t14.1)) (
  some (t14.1, t14.2))) else
  if (fI S 32 x0) = 6 then (bd (f_X2_continues S x0 x1) fun t17 =>
  ck (decide (t17.1 &&& 1 = t17.1)) (
  some (t17.1, t17.2))) else
  some (0, S)
set_option maxHeartbeats 4000000 in
set_option maxRecDepth 100000 in
theorem c_X2_takesDigit (l : Launch) (D : va_G) (cy : cyT) {S : PS} {n : Nat} {y0 : Nat} {y1 : Int32} (v_y0 : vd S y0 2) {res : Int32 × PS} (hf : f_X2_takesDigit S y0 y1 = some res) : Met l yX2_takesDigit wsX2_takesDigit ({ frames := 1, cells := 0, slots := 0, locals := 23 } : Room) (PcW False D cy S n [.ref y0, .int y1]) (va_Qi (fun (r : Int32) (u : PS × Nat) => r = res.1 ∧ u = (res.2, n)) (BW D cy S n) (AA cy S n)) 0 0 (AA cy S n) := by
  refine Met.ofW (cc := cX2_takesDigit) (maxL := 2) (ret := (some .boolean)) (by decide) rfl ?_
  intro p e s m args below meth c s₁ B hml hv
  obtain ⟨hav, hsz, hP0, hD0, hK, hZ0⟩ := hv
  have hx := B.exec
  have hb := B.bytes
  have hr := B.returns
  have hts := atoms_spec (ws := wsX2_takesDigit) B.pre
  have hown : s.vm.findClass RX2 = some m.cls := findClass_of_methodNamed B.named
  have hlocks := B.notSynchronized
  subst hav
  have hw : Hw D cy (AA cy S n) s.heap S n s.heap [] := Hw.start hsz hP0 hD0
  have hA : ∀ q, s.heap.size ≤ q → AA cy S n q := fun q h => Or.inr (hsz ▸ h)
  have hE : EX S S := EX.rf
  have F : CallFix p m c cX2_takesDigit 2 s _ wsX2_takesDigit RX2 := ⟨hx, hb, hml, hown, hts⟩
  have hl := lv_entry ([.ref y0, .int y1]) (n := 2) (Nat.le_of_ble_eq_true rfl)
  rw [lg_entry_eq]
  generalize (lg_sl ([.ref y0, .int y1]) ++ List.replicate (2 - (lg_sl ([.ref y0, .int y1])).length) Slot.unset).toArray = ls at hl ⊢
  have hl : lv_has ls 2 [(0, .ref y0), (1, .int y1)] := hl
  unfold f_X2_takesDigit at hf
  refine lv_aload_n hx hb dX2_takesDigit_0 rfl (lv_at hl 0 rfl) ?_
  refine q_get F hK hw.1 v_y0.1 (pF_2 (S := S) v_y0.2) (fun w h => List.mem_cons_of_mem _ (List.mem_append_right _ h)) rfl 0 (by decide) (hts (.fieldLink RX2 14 "SharedModuli$Scanner" "place" "I") (List.mem_of_getElem? (i := 1) rfl)) (v := .int (fI S 32 y0)) rfl dX2_takesDigit_1 ?_
  by_cases c20_0 : (fI S 32 y0) = 0
  · have hf := it_t c20_0 hf
    refine lv_tableIn (off := 44) (tgt := 48) hx hb dX2_takesDigit_4 (by rw [c20_0]; decide) (by rw [c20_0]; decide) (by rw [c20_0]; rfl) (by decide) ?_
    refine lv_aload_n hx hb dX2_takesDigit_48 rfl (lv_at hl 0 rfl) ?_
    refine lv_iconst (v := 1) hx hb dX2_takesDigit_49 (by decide) ?_
    refine lv_iload_n hx hb dX2_takesDigit_50 rfl (lv_at hl 1 rfl) ?_
    refine lv_iconst (v := 1) hx hb dX2_takesDigit_51 (by decide) ?_
    obtain ⟨t21, h22, hf⟩ := bd_some hf
    refine q_calli (va_runV (As := [.int 1, .int y1, .int 1]) (rest := []) F (c_X2_begins l D cy (S := S) v_y0 h22) (cwV 3 hts gX2_takesDigit_X2_begins rfl rfl rfl ⟨rfl, ph_X2_begins.1, ph_X2_begins.2, pd_X2_begins⟩ ⟨Nat.le_of_ble_eq_true rfl, Nat.le_of_ble_eq_true rfl⟩) ⟨PcW.bl, (q_rcv hK hw.1 v_y0.1 (pF_2 (S := S) v_y0.2) rfl), PcW.in hK hw hA (fun z => z.elim)⟩ rfl rfl hl.1 rfl (lv_room (Nat.le_of_ble_eq_true rfl)) dX2_takesDigit_52 ⟨Nat.zero_le _, Nat.zero_le _⟩) hw hA (fun H locs hw hX => ?_)
    have hE := hE.tr hX
    have v_y0 := hX _ _ v_y0
    obtain ⟨c23, hf⟩ := ckd_some hf
    exact W.zret (v := t21.1) hx hb hr (nz c23) (fun t ht hW => ⟨⟨_, (t21.2, n), rfl, po2 hf, BW.of hw hE ht⟩, hw.2.2.1.F ht⟩) hw.2.2.1.2.2 dX2_takesDigit_55
  have hf := it_f c20_0 hf
  by_cases c20_1 : (fI S 32 y0) = 1
  · have hf := it_t c20_1 hf
    refine lv_tableIn (off := 69) (tgt := 73) hx hb dX2_takesDigit_4 (by rw [c20_1]; decide) (by rw [c20_1]; decide) (by rw [c20_1]; rfl) (by decide) ?_
    refine lv_aload_n hx hb dX2_takesDigit_73 rfl (lv_at hl 0 rfl) ?_
    refine lv_iload_n hx hb dX2_takesDigit_74 rfl (lv_at hl 1 rfl) ?_
    obtain ⟨t24, h25, hf⟩ := bd_some hf
    refine q_calli (va_runV (As := [.int y1]) (rest := []) F (c_X2_continues l D cy (S := S) v_y0 h25) (cwV 1 hts gX2_takesDigit_X2_continues rfl rfl rfl ⟨rfl, ph_X2_continues.1, ph_X2_continues.2, pd_X2_continues⟩ ⟨Nat.le_of_ble_eq_true rfl, Nat.le_of_ble_eq_true rfl⟩) ⟨PcW.bl, (q_rcv hK hw.1 v_y0.1 (pF_2 (S := S) v_y0.2) rfl), PcW.in hK hw hA (fun z => z.elim)⟩ rfl rfl hl.1 rfl (lv_room (Nat.le_of_ble_eq_true rfl)) dX2_takesDigit_75 ⟨Nat.zero_le _, Nat.zero_le _⟩) hw hA (fun H locs hw hX => ?_)
    have hE := hE.tr hX
    have v_y0 := hX _ _ v_y0
    obtain ⟨c26, hf⟩ := ckd_some hf
    exact W.zret (v := t24.1) hx hb hr (nz c26) (fun t ht hW => ⟨⟨_, (t24.2, n), rfl, po2 hf, BW.of hw hE ht⟩, hw.2.2.1.F ht⟩) hw.2.2.1.2.2 dX2_takesDigit_78
  have hf := it_f c20_1 hf
  by_cases c20_2 : (fI S 32 y0) = 2
  · have hf := it_t c20_2 hf
    refine lv_tableIn (off := 75) (tgt := 79) hx hb dX2_takesDigit_4 (by rw [c20_2]; decide) (by rw [c20_2]; decide) (by rw [c20_2]; rfl) (by decide) ?_
    refine lv_iconst (v := 0) hx hb dX2_takesDigit_79 (by decide) ?_
    exact W.zret (v := 0) hx hb hr rfl (fun t ht hW => ⟨⟨_, (S, n), rfl, po2 hf, BW.of hw hE ht⟩, hw.2.2.1.F ht⟩) hw.2.2.1.2.2 dX2_takesDigit_80
  have hf := it_f c20_2 hf
  by_cases c20_3 : (fI S 32 y0) = 3
  · have hf := it_t c20_3 hf
    refine lv_tableIn (off := 52) (tgt := 56) hx hb dX2_takesDigit_4 (by rw [c20_3]; decide) (by rw [c20_3]; decide) (by rw [c20_3]; rfl) (by decide) ?_
    refine lv_aload_n hx hb dX2_takesDigit_56 rfl (lv_at hl 0 rfl) ?_
    refine lv_iconst (v := 4) hx hb dX2_takesDigit_57 (by decide) ?_
    refine lv_iload_n hx hb dX2_takesDigit_58 rfl (lv_at hl 1 rfl) ?_
    refine lv_iconst (v := 0) hx hb dX2_takesDigit_59 (by decide) ?_
    obtain ⟨t27, h28, hf⟩ := bd_some hf
    refine q_calli (va_runV (As := [.int 4, .int y1, .int 0]) (rest := []) F (c_X2_begins l D cy (S := S) v_y0 h28) (cwV 3 hts gX2_takesDigit_X2_begins rfl rfl rfl ⟨rfl, ph_X2_begins.1, ph_X2_begins.2, pd_X2_begins⟩ ⟨Nat.le_of_ble_eq_true rfl, Nat.le_of_ble_eq_true rfl⟩) ⟨PcW.bl, (q_rcv hK hw.1 v_y0.1 (pF_2 (S := S) v_y0.2) rfl), PcW.in hK hw hA (fun z => z.elim)⟩ rfl rfl hl.1 rfl (lv_room (Nat.le_of_ble_eq_true rfl)) dX2_takesDigit_60 ⟨Nat.zero_le _, Nat.zero_le _⟩) hw hA (fun H locs hw hX => ?_)
    have hE := hE.tr hX
    have v_y0 := hX _ _ v_y0
    obtain ⟨c29, hf⟩ := ckd_some hf
    exact W.zret (v := t27.1) hx hb hr (nz c29) (fun t ht hW => ⟨⟨_, (t27.2, n), rfl, po2 hf, BW.of hw hE ht⟩, hw.2.2.1.F ht⟩) hw.2.2.1.2.2 dX2_takesDigit_63
  have hf := it_f c20_3 hf
  by_cases c20_4 : (fI S 32 y0) = 4
  · have hf := it_t c20_4 hf
    refine lv_tableIn (off := 69) (tgt := 73) hx hb dX2_takesDigit_4 (by rw [c20_4]; decide) (by rw [c20_4]; decide) (by rw [c20_4]; rfl) (by decide) ?_
    refine lv_aload_n hx hb dX2_takesDigit_73 rfl (lv_at hl 0 rfl) ?_
    refine lv_iload_n hx hb dX2_takesDigit_74 rfl (lv_at hl 1 rfl) ?_
    obtain ⟨t30, h31, hf⟩ := bd_some hf
    refine q_calli (va_runV (As := [.int y1]) (rest := []) F (c_X2_continues l D cy (S := S) v_y0 h31) (cwV 1 hts gX2_takesDigit_X2_continues rfl rfl rfl ⟨rfl, ph_X2_continues.1, ph_X2_continues.2, pd_X2_continues⟩ ⟨Nat.le_of_ble_eq_true rfl, Nat.le_of_ble_eq_true rfl⟩) ⟨PcW.bl, (q_rcv hK hw.1 v_y0.1 (pF_2 (S := S) v_y0.2) rfl), PcW.in hK hw hA (fun z => z.elim)⟩ rfl rfl hl.1 rfl (lv_room (Nat.le_of_ble_eq_true rfl)) dX2_takesDigit_75 ⟨Nat.zero_le _, Nat.zero_le _⟩) hw hA (fun H locs hw hX => ?_)
    have hE := hE.tr hX
    have v_y0 := hX _ _ v_y0
    obtain ⟨c32, hf⟩ := ckd_some hf
    exact W.zret (v := t30.1) hx hb hr (nz c32) (fun t ht hW => ⟨⟨_, (t30.2, n), rfl, po2 hf, BW.of hw hE ht⟩, hw.2.2.1.F ht⟩) hw.2.2.1.2.2 dX2_takesDigit_78
  have hf := it_f c20_4 hf
  by_cases c20_5 : (fI S 32 y0) = 5
  · have hf := it_t c20_5 hf
    refine lv_tableIn (off := 60) (tgt := 64) hx hb dX2_takesDigit_4 (by rw [c20_5]; decide) (by rw [c20_5]; decide) (by rw [c20_5]; rfl) (by decide) ?_
    refine lv_aload_n hx hb dX2_takesDigit_64 rfl (lv_at hl 0 rfl) ?_
    refine lv_bipush (v := 6) hx hb dX2_takesDigit_65 (by decide) ?_
    refine lv_iload_n hx hb dX2_takesDigit_67 rfl (lv_at hl 1 rfl) ?_
    refine lv_iconst (v := 1) hx hb dX2_takesDigit_68 (by decide) ?_
    obtain ⟨t33, h34, hf⟩ := bd_some hf
    refine q_calli (va_runV (As := [.int 6, .int y1, .int 1]) (rest := []) F (c_X2_begins l D cy (S := S) v_y0 h34) (cwV 3 hts gX2_takesDigit_X2_begins rfl rfl rfl ⟨rfl, ph_X2_begins.1, ph_X2_begins.2, pd_X2_begins⟩ ⟨Nat.le_of_ble_eq_true rfl, Nat.le_of_ble_eq_true rfl⟩) ⟨PcW.bl, (q_rcv hK hw.1 v_y0.1 (pF_2 (S := S) v_y0.2) rfl), PcW.in hK hw hA (fun z => z.elim)⟩ rfl rfl hl.1 rfl (lv_room (Nat.le_of_ble_eq_true rfl)) dX2_takesDigit_69 ⟨Nat.zero_le _, Nat.zero_le _⟩) hw hA (fun H locs hw hX => ?_)
    have hE := hE.tr hX
    have v_y0 := hX _ _ v_y0
    obtain ⟨c35, hf⟩ := ckd_some hf
    exact W.zret (v := t33.1) hx hb hr (nz c35) (fun t ht hW => ⟨⟨_, (t33.2, n), rfl, po2 hf, BW.of hw hE ht⟩, hw.2.2.1.F ht⟩) hw.2.2.1.2.2 dX2_takesDigit_72
  have hf := it_f c20_5 hf
  by_cases c20_6 : (fI S 32 y0) = 6
  · have hf := it_t c20_6 hf
    refine lv_tableIn (off := 69) (tgt := 73) hx hb dX2_takesDigit_4 (by rw [c20_6]; decide) (by rw [c20_6]; decide) (by rw [c20_6]; rfl) (by decide) ?_
    refine lv_aload_n hx hb dX2_takesDigit_73 rfl (lv_at hl 0 rfl) ?_
    refine lv_iload_n hx hb dX2_takesDigit_74 rfl (lv_at hl 1 rfl) ?_
    obtain ⟨t36, h37, hf⟩ := bd_some hf
    refine q_calli (va_runV (As := [.int y1]) (rest := []) F (c_X2_continues l D cy (S := S) v_y0 h37) (cwV 1 hts gX2_takesDigit_X2_continues rfl rfl rfl ⟨rfl, ph_X2_continues.1, ph_X2_continues.2, pd_X2_continues⟩ ⟨Nat.le_of_ble_eq_true rfl, Nat.le_of_ble_eq_true rfl⟩) ⟨PcW.bl, (q_rcv hK hw.1 v_y0.1 (pF_2 (S := S) v_y0.2) rfl), PcW.in hK hw hA (fun z => z.elim)⟩ rfl rfl hl.1 rfl (lv_room (Nat.le_of_ble_eq_true rfl)) dX2_takesDigit_75 ⟨Nat.zero_le _, Nat.zero_le _⟩) hw hA (fun H locs hw hX => ?_)
    have hE := hE.tr hX
    have v_y0 := hX _ _ v_y0
    obtain ⟨c38, hf⟩ := ckd_some hf
    exact W.zret (v := t36.1) hx hb hr (nz c38) (fun t ht hW => ⟨⟨_, (t36.2, n), rfl, po2 hf, BW.of hw hE ht⟩, hw.2.2.1.F ht⟩) hw.2.2.1.2.2 dX2_takesDigit_78
  have hf := it_f c20_6 hf
  have c20n_0 := i32_ne (n := 0) (by decide) c20_0
  have c20n_1 := i32_ne (n := 1) (by decide) c20_1
  have c20n_2 := i32_ne (n := 2) (by decide) c20_2
  have c20n_3 := i32_ne (n := 3) (by decide) c20_3
  have c20n_4 := i32_ne (n := 4) (by decide) c20_4
  have c20n_5 := i32_ne (n := 5) (by decide) c20_5
  have c20n_6 := i32_ne (n := 6) (by decide) c20_6
  refine lv_tableOut (tgt := 79) hx hb dX2_takesDigit_4 (by omega) (by decide) ?_
  refine lv_iconst (v := 0) hx hb dX2_takesDigit_79 (by decide) ?_
  exact W.zret (v := 0) hx hb hr rfl (fun t ht hW => ⟨⟨_, (S, n), rfl, po2 hf, BW.of hw hE ht⟩, hw.2.2.1.F ht⟩) hw.2.2.1.2.2 dX2_takesDigit_80
def f_X2_takesSign_B119 (S : PS) : Option (Int32 × PS) :=
  some (0, S)
def f_X2_takesSign_B97 (S : PS) (x0 : Nat) (x1 : Int32) : Option (Int32 × PS) :=
  if x1 = 59 then (if (fI S 32 x0) = 6 then (some (1, sI S 32 x0 0)) else
  f_X2_takesSign_B119 S) else
  f_X2_takesSign_B119 S
def f_X2_takesSign_B68 (S : PS) (x0 : Nat) (x1 : Int32) : Option (Int32 × PS) :=
  if x1 = 37 then (if (fI S 32 x0) = 4 then (some (1, sI (sI S 35 x0 (fI S 33 x0)) 32 x0 5)) else
  f_X2_takesSign_B97 S x0 x1) else
  f_X2_takesSign_B97 S x0 x1
def f_X2_takesSign_B47 (S : PS) (x0 : Nat) (x1 : Int32) : Option (Int32 × PS) :=
  if x1 = 61 then (if (fI S 32 x0) = 2 then (some (1, sI S 32 x0 3)) else
  f_X2_takesSign_B68 S x0 x1) else
  f_X2_takesSign_B68 S x0 x1
def f_X2_takesSign_B37 (S : PS) (x0 : Nat) (s0 : Nat) (s1 : Int32) : Option (Int32 × PS) :=
  some (1, sI (sI S 34 s0 s1) 32 x0 2)
def f_X2_takesSign_B21 (S : PS) (x0 : Nat) : Option (Int32 × PS) :=
  if (fI S 32 x0) = 0 then (f_X2_takesSign_B37 S x0 x0 1) else
  f_X2_takesSign_B37 S x0 x0 (fI S 33 x0)
def f_X2_takesSign (S : PS) (x0 : Nat) (x1 : Int32) : Option (Int32 × PS) :=
  if x1 = 120 then (if (fI S 32 x0) = 0 then (f_X2_takesSign_B21 S x0) else
  if (fI S 32 x0) = 1 then (f_X2_takesSign_B21 S x0) else
  f_X2_takesSign_B47 S x0 x1) else
  f_X2_takesSign_B47 S x0 x1
set_option maxHeartbeats 4000000 in
set_option maxRecDepth 100000 in
theorem c_X2_takesSign (l : Launch) (D : va_G) (cy : cyT) {S : PS} {n : Nat} {y0 : Nat} {y1 : Int32} (v_y0 : vd S y0 2) {res : Int32 × PS} (hf : f_X2_takesSign S y0 y1 = some res) : Met l yX2_takesSign wsX2_takesSign ({ frames := 0, cells := 0, slots := 0, locals := 0 } : Room) (PcW False D cy S n [.ref y0, .int y1]) (va_Qi (fun (r : Int32) (u : PS × Nat) => r = res.1 ∧ u = (res.2, n)) (BW D cy S n) (AA cy S n)) 0 0 (AA cy S n) := by
  refine Met.ofW (cc := cX2_takesSign) (maxL := 2) (ret := (some .boolean)) (by decide) rfl ?_
  intro p e s m args below meth c s₁ B hml hv
  obtain ⟨hav, hsz, hP0, hD0, hK, hZ0⟩ := hv
  have hx := B.exec
  have hb := B.bytes
  have hr := B.returns
  have hts := atoms_spec (ws := wsX2_takesSign) B.pre
  have hown : s.vm.findClass RX2 = some m.cls := findClass_of_methodNamed B.named
  have hlocks := B.notSynchronized
  subst hav
  have hw : Hw D cy (AA cy S n) s.heap S n s.heap [] := Hw.start hsz hP0 hD0
  have hA : ∀ q, s.heap.size ≤ q → AA cy S n q := fun q h => Or.inr (hsz ▸ h)
  have hE : EX S S := EX.rf
  have F : CallFix p m c cX2_takesSign 2 s _ wsX2_takesSign RX2 := ⟨hx, hb, hml, hown, hts⟩
  have hB119 : ∀ (Sb : PS) (H1 : Heap) (lo1 : List Loc)  (ls : Array Slot), lv_has ls 2 [] → Hw D cy (AA cy S n) s.heap Sb n H1 lo1 → EX S Sb → f_X2_takesSign_B119 Sb = some res → W p l e (headSpec wsX2_takesSign ({ frames := 0, cells := 0, slots := 0, locals := 0 } : Room)).room s m ([.ref y0, .int y1] : List Value).toArray below meth c H1 lo1 0 0 (MQ below (va_Qi (fun (r : Int32) (u : PS × Nat) => r = res.1 ∧ u = (res.2, n)) (BW D cy S n) (AA cy S n)) ([.ref y0, .int y1] : List Value).toArray s 0 0 (AA cy S n)) (F0 m 119 ls []) := by
    intro Sb H1 lo1 ls hl hw hE hf
    unfold f_X2_takesSign_B119 at hf
    refine lv_iconst (v := 0) hx hb dX2_takesSign_119 (by decide) ?_
    exact W.zret (v := 0) hx hb hr rfl (fun t ht hW => ⟨⟨_, (Sb, n), rfl, po2 hf, BW.of hw hE ht⟩, hw.2.2.1.F ht⟩) hw.2.2.1.2.2 dX2_takesSign_120
  have hB97 : ∀ (Sb : PS) (H1 : Heap) (lo1 : List Loc) (x0 : Nat) (x1 : Int32) (ls : Array Slot), lv_has ls 2 [(0, .ref x0), (1, .int x1)] → Hw D cy (AA cy S n) s.heap Sb n H1 lo1 → EX S Sb → vd Sb x0 2 → f_X2_takesSign_B97 Sb x0 x1 = some res → W p l e (headSpec wsX2_takesSign ({ frames := 0, cells := 0, slots := 0, locals := 0 } : Room)).room s m ([.ref y0, .int y1] : List Value).toArray below meth c H1 lo1 0 0 (MQ below (va_Qi (fun (r : Int32) (u : PS × Nat) => r = res.1 ∧ u = (res.2, n)) (BW D cy S n) (AA cy S n)) ([.ref y0, .int y1] : List Value).toArray s 0 0 (AA cy S n)) (F0 m 97 ls []) := by
    intro Sb H1 lo1 x0 x1 ls hl hw hE v_x0 hf
    unfold f_X2_takesSign_B97 at hf
    refine lv_iload_n hx hb dX2_takesSign_97 rfl (lv_at hl 1 rfl) ?_
    refine lv_bipush (v := 59) hx hb dX2_takesSign_98 (by decide) ?_
    refine lv_icmp_ne (tgt := 119) hx hb dX2_takesSign_100 (by decide) (fun c11 => ?_) (fun c11 => ?_)
    · have hf := it_f c11 hf
      exact hB119 Sb _ _ _ (lv_sub hl [] rfl) hw hE  hf
    · have hf := it_t c11 hf
      refine lv_aload_n hx hb dX2_takesSign_103 rfl (lv_at hl 0 rfl) ?_
      refine q_get F hK hw.1 v_x0.1 (pF_2 (S := Sb) v_x0.2) (fun w h => List.mem_cons_of_mem _ (List.mem_append_right _ h)) rfl 0 (by decide) (hts (.fieldLink RX2 14 "SharedModuli$Scanner" "place" "I") (List.mem_of_getElem? (i := 1) rfl)) (v := .int (fI Sb 32 x0)) rfl dX2_takesSign_104 ?_
      refine lv_bipush (v := 6) hx hb dX2_takesSign_107 (by decide) ?_
      refine lv_icmp_ne (tgt := 119) hx hb dX2_takesSign_109 (by decide) (fun c12 => ?_) (fun c12 => ?_)
      · have hf := it_f c12 hf
        exact hB119 Sb _ _ _ (lv_sub hl [] rfl) hw hE  hf
      · have hf := it_t c12 hf
        refine lv_aload_n hx hb dX2_takesSign_112 rfl (lv_at hl 0 rfl) ?_
        refine lv_iconst (v := 0) hx hb dX2_takesSign_113 (by decide) ?_
        refine q_put F hK hw v_x0.1 (pF_2 (S := Sb) v_x0.2) (fun w h => List.mem_cons_of_mem _ (List.mem_append_right _ h)) tyX2 tyX2_ok nmX2 rfl 0 (by decide) (hts (.fieldLink RX2 14 "SharedModuli$Scanner" "place" "I") (List.mem_of_getElem? (i := 1) rfl)) (Or.inl rfl) (tyX2_ok 0 (by decide)) rfl rfl (Nat.le_of_ble_eq_true rfl) (S1 := sI Sb 32 x0 0) (st_32 (S := Sb) v_x0.2 0) dX2_takesSign_114 (fun H locs hw => ?_)
        refine lv_iconst (v := 1) hx hb dX2_takesSign_117 (by decide) ?_
        exact W.zret (v := 1) hx hb hr rfl (fun t ht hW => ⟨⟨_, (sI Sb 32 x0 0, n), rfl, po2 hf, BW.of hw hE ht⟩, hw.2.2.1.F ht⟩) hw.2.2.1.2.2 dX2_takesSign_118
  have hB68 : ∀ (Sb : PS) (H1 : Heap) (lo1 : List Loc) (x0 : Nat) (x1 : Int32) (ls : Array Slot), lv_has ls 2 [(0, .ref x0), (1, .int x1)] → Hw D cy (AA cy S n) s.heap Sb n H1 lo1 → EX S Sb → vd Sb x0 2 → f_X2_takesSign_B68 Sb x0 x1 = some res → W p l e (headSpec wsX2_takesSign ({ frames := 0, cells := 0, slots := 0, locals := 0 } : Room)).room s m ([.ref y0, .int y1] : List Value).toArray below meth c H1 lo1 0 0 (MQ below (va_Qi (fun (r : Int32) (u : PS × Nat) => r = res.1 ∧ u = (res.2, n)) (BW D cy S n) (AA cy S n)) ([.ref y0, .int y1] : List Value).toArray s 0 0 (AA cy S n)) (F0 m 68 ls []) := by
    intro Sb H1 lo1 x0 x1 ls hl hw hE v_x0 hf
    unfold f_X2_takesSign_B68 at hf
    refine lv_iload_n hx hb dX2_takesSign_68 rfl (lv_at hl 1 rfl) ?_
    refine lv_bipush (v := 37) hx hb dX2_takesSign_69 (by decide) ?_
    refine lv_icmp_ne (tgt := 97) hx hb dX2_takesSign_71 (by decide) (fun c13 => ?_) (fun c13 => ?_)
    · have hf := it_f c13 hf
      exact hB97 Sb _ _ x0 x1 _ (lv_sub hl [0, 1] rfl) hw hE v_x0 hf
    · have hf := it_t c13 hf
      refine lv_aload_n hx hb dX2_takesSign_74 rfl (lv_at hl 0 rfl) ?_
      refine q_get F hK hw.1 v_x0.1 (pF_2 (S := Sb) v_x0.2) (fun w h => List.mem_cons_of_mem _ (List.mem_append_right _ h)) rfl 0 (by decide) (hts (.fieldLink RX2 14 "SharedModuli$Scanner" "place" "I") (List.mem_of_getElem? (i := 1) rfl)) (v := .int (fI Sb 32 x0)) rfl dX2_takesSign_75 ?_
      refine lv_iconst (v := 4) hx hb dX2_takesSign_78 (by decide) ?_
      refine lv_icmp_ne (tgt := 97) hx hb dX2_takesSign_79 (by decide) (fun c14 => ?_) (fun c14 => ?_)
      · have hf := it_f c14 hf
        exact hB97 Sb _ _ x0 x1 _ (lv_sub hl [0, 1] rfl) hw hE v_x0 hf
      · have hf := it_t c14 hf
        refine lv_aload_n hx hb dX2_takesSign_82 rfl (lv_at hl 0 rfl) ?_
        refine lv_aload_n hx hb dX2_takesSign_83 rfl (lv_at hl 0 rfl) ?_
        refine q_get F hK hw.1 v_x0.1 (pF_2 (S := Sb) v_x0.2) (fun w h => List.mem_cons_of_mem _ (List.mem_append_right _ h)) rfl 1 (by decide) (hts (.fieldLink RX2 18 "SharedModuli$Scanner" "value" "I") (List.mem_of_getElem? (i := 2) rfl)) (v := .int (fI Sb 33 x0)) rfl dX2_takesSign_84 ?_
        refine q_put F hK hw v_x0.1 (pF_2 (S := Sb) v_x0.2) (fun w h => List.mem_cons_of_mem _ (List.mem_append_right _ h)) tyX2 tyX2_ok nmX2 rfl 3 (by decide) (hts (.fieldLink RX2 24 "SharedModuli$Scanner" "remainde\x72" "I") (List.mem_of_getElem? (i := 4) rfl)) (Or.inl rfl) (tyX2_ok 3 (by decide)) rfl rfl (Nat.le_of_ble_eq_true rfl) (S1 := sI Sb 35 x0 (fI Sb 33 x0)) (st_35 (S := Sb) v_x0.2 (fI Sb 33 x0)) dX2_takesSign_87 (fun H locs hw => ?_)
        refine lv_aload_n hx hb dX2_takesSign_90 rfl (lv_at hl 0 rfl) ?_
        refine lv_iconst (v := 5) hx hb dX2_takesSign_91 (by decide) ?_
        refine q_put F hK hw v_x0.1 (pF_2 (S := sI Sb 35 x0 (fI Sb 33 x0)) v_x0.2) (fun w h => List.mem_cons_of_mem _ (List.mem_append_right _ h)) tyX2 tyX2_ok nmX2 rfl 0 (by decide) (hts (.fieldLink RX2 14 "SharedModuli$Scanner" "place" "I") (List.mem_of_getElem? (i := 1) rfl)) (Or.inl rfl) (tyX2_ok 0 (by decide)) rfl rfl (Nat.le_of_ble_eq_true rfl) (S1 := sI (sI Sb 35 x0 (fI Sb 33 x0)) 32 x0 5) (st_32 (S := sI Sb 35 x0 (fI Sb 33 x0)) v_x0.2 5) dX2_takesSign_92 (fun H locs hw => ?_)
        refine lv_iconst (v := 1) hx hb dX2_takesSign_95 (by decide) ?_
        exact W.zret (v := 1) hx hb hr rfl (fun t ht hW => ⟨⟨_, (sI (sI Sb 35 x0 (fI Sb 33 x0)) 32 x0 5, n), rfl, po2 hf, BW.of hw hE ht⟩, hw.2.2.1.F ht⟩) hw.2.2.1.2.2 dX2_takesSign_96
  have hB47 : ∀ (Sb : PS) (H1 : Heap) (lo1 : List Loc) (x0 : Nat) (x1 : Int32) (ls : Array Slot), lv_has ls 2 [(0, .ref x0), (1, .int x1)] → Hw D cy (AA cy S n) s.heap Sb n H1 lo1 → EX S Sb → vd Sb x0 2 → f_X2_takesSign_B47 Sb x0 x1 = some res → W p l e (headSpec wsX2_takesSign ({ frames := 0, cells := 0, slots := 0, locals := 0 } : Room)).room s m ([.ref y0, .int y1] : List Value).toArray below meth c H1 lo1 0 0 (MQ below (va_Qi (fun (r : Int32) (u : PS × Nat) => r = res.1 ∧ u = (res.2, n)) (BW D cy S n) (AA cy S n)) ([.ref y0, .int y1] : List Value).toArray s 0 0 (AA cy S n)) (F0 m 47 ls []) := by
    intro Sb H1 lo1 x0 x1 ls hl hw hE v_x0 hf
    unfold f_X2_takesSign_B47 at hf
    refine lv_iload_n hx hb dX2_takesSign_47 rfl (lv_at hl 1 rfl) ?_
    refine lv_bipush (v := 61) hx hb dX2_takesSign_48 (by decide) ?_
    refine lv_icmp_ne (tgt := 68) hx hb dX2_takesSign_50 (by decide) (fun c15 => ?_) (fun c15 => ?_)
    · have hf := it_f c15 hf
      exact hB68 Sb _ _ x0 x1 _ (lv_sub hl [0, 1] rfl) hw hE v_x0 hf
    · have hf := it_t c15 hf
      refine lv_aload_n hx hb dX2_takesSign_53 rfl (lv_at hl 0 rfl) ?_
      refine q_get F hK hw.1 v_x0.1 (pF_2 (S := Sb) v_x0.2) (fun w h => List.mem_cons_of_mem _ (List.mem_append_right _ h)) rfl 0 (by decide) (hts (.fieldLink RX2 14 "SharedModuli$Scanner" "place" "I") (List.mem_of_getElem? (i := 1) rfl)) (v := .int (fI Sb 32 x0)) rfl dX2_takesSign_54 ?_
      refine lv_iconst (v := 2) hx hb dX2_takesSign_57 (by decide) ?_
      refine lv_icmp_ne (tgt := 68) hx hb dX2_takesSign_58 (by decide) (fun c16 => ?_) (fun c16 => ?_)
      · have hf := it_f c16 hf
        exact hB68 Sb _ _ x0 x1 _ (lv_sub hl [0, 1] rfl) hw hE v_x0 hf
      · have hf := it_t c16 hf
        refine lv_aload_n hx hb dX2_takesSign_61 rfl (lv_at hl 0 rfl) ?_
        refine lv_iconst (v := 3) hx hb dX2_takesSign_62 (by decide) ?_
        refine q_put F hK hw v_x0.1 (pF_2 (S := Sb) v_x0.2) (fun w h => List.mem_cons_of_mem _ (List.mem_append_right _ h)) tyX2 tyX2_ok nmX2 rfl 0 (by decide) (hts (.fieldLink RX2 14 "SharedModuli$Scanner" "place" "I") (List.mem_of_getElem? (i := 1) rfl)) (Or.inl rfl) (tyX2_ok 0 (by decide)) rfl rfl (Nat.le_of_ble_eq_true rfl) (S1 := sI Sb 32 x0 3) (st_32 (S := Sb) v_x0.2 3) dX2_takesSign_63 (fun H locs hw => ?_)
        refine lv_iconst (v := 1) hx hb dX2_takesSign_66 (by decide) ?_
        exact W.zret (v := 1) hx hb hr rfl (fun t ht hW => ⟨⟨_, (sI Sb 32 x0 3, n), rfl, po2 hf, BW.of hw hE ht⟩, hw.2.2.1.F ht⟩) hw.2.2.1.2.2 dX2_takesSign_67
  have hB37 : ∀ (Sb : PS) (H1 : Heap) (lo1 : List Loc) (x0 : Nat) (s0 : Nat) (s1 : Int32) (ls : Array Slot), lv_has ls 2 [(0, .ref x0)] → Hw D cy (AA cy S n) s.heap Sb n H1 lo1 → EX S Sb → vd Sb x0 2 → vd Sb s0 2 → f_X2_takesSign_B37 Sb x0 s0 s1 = some res → W p l e (headSpec wsX2_takesSign ({ frames := 0, cells := 0, slots := 0, locals := 0 } : Room)).room s m ([.ref y0, .int y1] : List Value).toArray below meth c H1 lo1 0 0 (MQ below (va_Qi (fun (r : Int32) (u : PS × Nat) => r = res.1 ∧ u = (res.2, n)) (BW D cy S n) (AA cy S n)) ([.ref y0, .int y1] : List Value).toArray s 0 0 (AA cy S n)) (F0 m 37 ls [.int s1, .ref s0]) := by
    intro Sb H1 lo1 x0 s0 s1 ls hl hw hE v_x0 v_s0 hf
    unfold f_X2_takesSign_B37 at hf
    refine q_put F hK hw v_s0.1 (pF_2 (S := Sb) v_s0.2) (fun w h => List.mem_cons_of_mem _ (List.mem_append_right _ h)) tyX2 tyX2_ok nmX2 rfl 2 (by decide) (hts (.fieldLink RX2 21 "SharedModuli$Scanner" "facto\x72" "I") (List.mem_of_getElem? (i := 3) rfl)) (Or.inl rfl) (tyX2_ok 2 (by decide)) rfl rfl (Nat.le_of_ble_eq_true rfl) (S1 := sI Sb 34 s0 s1) (st_34 (S := Sb) v_s0.2 s1) dX2_takesSign_37 (fun H locs hw => ?_)
    refine lv_aload_n hx hb dX2_takesSign_40 rfl (lv_at hl 0 rfl) ?_
    refine lv_iconst (v := 2) hx hb dX2_takesSign_41 (by decide) ?_
    refine q_put F hK hw v_x0.1 (pF_2 (S := sI Sb 34 s0 s1) v_x0.2) (fun w h => List.mem_cons_of_mem _ (List.mem_append_right _ h)) tyX2 tyX2_ok nmX2 rfl 0 (by decide) (hts (.fieldLink RX2 14 "SharedModuli$Scanner" "place" "I") (List.mem_of_getElem? (i := 1) rfl)) (Or.inl rfl) (tyX2_ok 0 (by decide)) rfl rfl (Nat.le_of_ble_eq_true rfl) (S1 := sI (sI Sb 34 s0 s1) 32 x0 2) (st_32 (S := sI Sb 34 s0 s1) v_x0.2 2) dX2_takesSign_42 (fun H locs hw => ?_)
    refine lv_iconst (v := 1) hx hb dX2_takesSign_45 (by decide) ?_
    exact W.zret (v := 1) hx hb hr rfl (fun t ht hW => ⟨⟨_, (sI (sI Sb 34 s0 s1) 32 x0 2, n), rfl, po2 hf, BW.of hw hE ht⟩, hw.2.2.1.F ht⟩) hw.2.2.1.2.2 dX2_takesSign_46
  have hB21 : ∀ (Sb : PS) (H1 : Heap) (lo1 : List Loc) (x0 : Nat) (ls : Array Slot), lv_has ls 2 [(0, .ref x0)] → Hw D cy (AA cy S n) s.heap Sb n H1 lo1 → EX S Sb → vd Sb x0 2 → f_X2_takesSign_B21 Sb x0 = some res → W p l e (headSpec wsX2_takesSign ({ frames := 0, cells := 0, slots := 0, locals := 0 } : Room)).room s m ([.ref y0, .int y1] : List Value).toArray below meth c H1 lo1 0 0 (MQ below (va_Qi (fun (r : Int32) (u : PS × Nat) => r = res.1 ∧ u = (res.2, n)) (BW D cy S n) (AA cy S n)) ([.ref y0, .int y1] : List Value).toArray s 0 0 (AA cy S n)) (F0 m 21 ls []) := by
    intro Sb H1 lo1 x0 ls hl hw hE v_x0 hf
    unfold f_X2_takesSign_B21 at hf
    refine lv_aload_n hx hb dX2_takesSign_21 rfl (lv_at hl 0 rfl) ?_
    refine lv_aload_n hx hb dX2_takesSign_22 rfl (lv_at hl 0 rfl) ?_
    refine q_get F hK hw.1 v_x0.1 (pF_2 (S := Sb) v_x0.2) (fun w h => List.mem_cons_of_mem _ (List.mem_append_right _ h)) rfl 0 (by decide) (hts (.fieldLink RX2 14 "SharedModuli$Scanner" "place" "I") (List.mem_of_getElem? (i := 1) rfl)) (v := .int (fI Sb 32 x0)) rfl dX2_takesSign_23 ?_
    refine lv_if_ne (tgt := 33) hx hb dX2_takesSign_26 (by decide) (fun c17 => ?_) (fun c17 => ?_)
    · have hf := it_f c17 hf
      refine lv_aload_n hx hb dX2_takesSign_33 rfl (lv_at hl 0 rfl) ?_
      refine q_get F hK hw.1 v_x0.1 (pF_2 (S := Sb) v_x0.2) (fun w h => List.mem_cons_of_mem _ (List.mem_append_right _ h)) rfl 1 (by decide) (hts (.fieldLink RX2 18 "SharedModuli$Scanner" "value" "I") (List.mem_of_getElem? (i := 2) rfl)) (v := .int (fI Sb 33 x0)) rfl dX2_takesSign_34 ?_
      exact hB37 Sb _ _ x0 x0 (fI Sb 33 x0) _ (lv_sub hl [0] rfl) hw hE v_x0 v_x0 hf
    · have hf := it_t c17 hf
      refine lv_iconst (v := 1) hx hb dX2_takesSign_29 (by decide) ?_
      refine lv_goto (tgt := 37) hx hb dX2_takesSign_30 (by decide) ?_
      exact hB37 Sb _ _ x0 x0 1 _ (lv_sub hl [0] rfl) hw hE v_x0 v_x0 hf
  have hl := lv_entry ([.ref y0, .int y1]) (n := 2) (Nat.le_of_ble_eq_true rfl)
  rw [lg_entry_eq]
  generalize (lg_sl ([.ref y0, .int y1]) ++ List.replicate (2 - (lg_sl ([.ref y0, .int y1])).length) Slot.unset).toArray = ls at hl ⊢
  have hl : lv_has ls 2 [(0, .ref y0), (1, .int y1)] := hl
  unfold f_X2_takesSign at hf
  refine lv_iload_n hx hb dX2_takesSign_0 rfl (lv_at hl 1 rfl) ?_
  refine lv_bipush (v := 120) hx hb dX2_takesSign_1 (by decide) ?_
  refine lv_icmp_ne (tgt := 47) hx hb dX2_takesSign_3 (by decide) (fun c18 => ?_) (fun c18 => ?_)
  · have hf := it_f c18 hf
    exact hB47 S _ _ y0 y1 _ (lv_sub hl [0, 1] rfl) hw hE v_y0 hf
  · have hf := it_t c18 hf
    refine lv_aload_n hx hb dX2_takesSign_6 rfl (lv_at hl 0 rfl) ?_
    refine q_get F hK hw.1 v_y0.1 (pF_2 (S := S) v_y0.2) (fun w h => List.mem_cons_of_mem _ (List.mem_append_right _ h)) rfl 0 (by decide) (hts (.fieldLink RX2 14 "SharedModuli$Scanner" "place" "I") (List.mem_of_getElem? (i := 1) rfl)) (v := .int (fI S 32 y0)) rfl dX2_takesSign_7 ?_
    refine lv_if_eq (tgt := 21) hx hb dX2_takesSign_10 (by decide) (fun c19 => ?_) (fun c19 => ?_)
    · have hf := it_t c19 hf
      exact hB21 S _ _ y0 _ (lv_sub hl [0] rfl) hw hE v_y0 hf
    · have hf := it_f c19 hf
      refine lv_aload_n hx hb dX2_takesSign_13 rfl (lv_at hl 0 rfl) ?_
      refine q_get F hK hw.1 v_y0.1 (pF_2 (S := S) v_y0.2) (fun w h => List.mem_cons_of_mem _ (List.mem_append_right _ h)) rfl 0 (by decide) (hts (.fieldLink RX2 14 "SharedModuli$Scanner" "place" "I") (List.mem_of_getElem? (i := 1) rfl)) (v := .int (fI S 32 y0)) rfl dX2_takesSign_14 ?_
      refine lv_iconst (v := 1) hx hb dX2_takesSign_17 (by decide) ?_
      refine lv_icmp_ne (tgt := 47) hx hb dX2_takesSign_18 (by decide) (fun c20 => ?_) (fun c20 => ?_)
      · have hf := it_f c20 hf
        exact hB47 S _ _ y0 y1 _ (lv_sub hl [0, 1] rfl) hw hE v_y0 hf
      · have hf := it_t c20 hf
        exact hB21 S _ _ y0 _ (lv_sub hl [0] rfl) hw hE v_y0 hf
def f_X2_takes_B28 (S : PS) (s0 : Int32) : Option (Int32 × PS) :=
  ck (decide (s0 &&& 1 = s0)) (
  some (s0, S))
def f_X2_takes_B23 (S : PS) (x0 : Nat) (x1 : Int32) : Option (Int32 × PS) :=
  bd (f_X2_takesSign S x0 x1) fun t2 =>
  f_X2_takes_B28 t2.2 t2.1
def f_X2_takes (S : PS) (x0 : Nat) (x1 : Int32) : Option (Int32 × PS) :=
  if x1 < 48 then (f_X2_takes_B23 S x0 x1) else
  if 57 < x1 then (f_X2_takes_B23 S x0 x1) else
  bd (f_X2_takesDigit S x0 (x1 - (48 : Int32))) fun t6 =>
  f_X2_takes_B28 t6.2 t6.1
set_option maxHeartbeats 4000000 in
set_option maxRecDepth 100000 in
theorem c_X2_takes (l : Launch) (D : va_G) (cy : cyT) {S : PS} {n : Nat} {y0 : Nat} {y1 : Int32} (v_y0 : vd S y0 2) {res : Int32 × PS} (hf : f_X2_takes S y0 y1 = some res) : Met l yX2_takes wsX2_takes ({ frames := 2, cells := 0, slots := 0, locals := 44 } : Room) (PcW False D cy S n [.ref y0, .int y1]) (va_Qi (fun (r : Int32) (u : PS × Nat) => r = res.1 ∧ u = (res.2, n)) (BW D cy S n) (AA cy S n)) 0 0 (AA cy S n) := by
  refine Met.ofW (cc := cX2_takes) (maxL := 2) (ret := (some .boolean)) (by decide) rfl ?_
  intro p e s m args below meth c s₁ B hml hv
  obtain ⟨hav, hsz, hP0, hD0, hK, hZ0⟩ := hv
  have hx := B.exec
  have hb := B.bytes
  have hr := B.returns
  have hts := atoms_spec (ws := wsX2_takes) B.pre
  have hown : s.vm.findClass RX2 = some m.cls := findClass_of_methodNamed B.named
  have hlocks := B.notSynchronized
  subst hav
  have hw : Hw D cy (AA cy S n) s.heap S n s.heap [] := Hw.start hsz hP0 hD0
  have hA : ∀ q, s.heap.size ≤ q → AA cy S n q := fun q h => Or.inr (hsz ▸ h)
  have hE : EX S S := EX.rf
  have F : CallFix p m c cX2_takes 2 s _ wsX2_takes RX2 := ⟨hx, hb, hml, hown, hts⟩
  have hB28 : ∀ (Sb : PS) (H1 : Heap) (lo1 : List Loc) (s0 : Int32) (ls : Array Slot), lv_has ls 2 [] → Hw D cy (AA cy S n) s.heap Sb n H1 lo1 → EX S Sb → f_X2_takes_B28 Sb s0 = some res → W p l e (headSpec wsX2_takes ({ frames := 2, cells := 0, slots := 0, locals := 44 } : Room)).room s m ([.ref y0, .int y1] : List Value).toArray below meth c H1 lo1 0 0 (MQ below (va_Qi (fun (r : Int32) (u : PS × Nat) => r = res.1 ∧ u = (res.2, n)) (BW D cy S n) (AA cy S n)) ([.ref y0, .int y1] : List Value).toArray s 0 0 (AA cy S n)) (F0 m 28 ls [.int s0]) := by
    intro Sb H1 lo1 s0 ls hl hw hE hf
    unfold f_X2_takes_B28 at hf
    obtain ⟨c8, hf⟩ := ckd_some hf
    exact W.zret (v := s0) hx hb hr (nz c8) (fun t ht hW => ⟨⟨_, (Sb, n), rfl, po2 hf, BW.of hw hE ht⟩, hw.2.2.1.F ht⟩) hw.2.2.1.2.2 dX2_takes_28
  have hB23 : ∀ (Sb : PS) (H1 : Heap) (lo1 : List Loc) (x0 : Nat) (x1 : Int32) (ls : Array Slot), lv_has ls 2 [(0, .ref x0), (1, .int x1)] → Hw D cy (AA cy S n) s.heap Sb n H1 lo1 → EX S Sb → vd Sb x0 2 → f_X2_takes_B23 Sb x0 x1 = some res → W p l e (headSpec wsX2_takes ({ frames := 2, cells := 0, slots := 0, locals := 44 } : Room)).room s m ([.ref y0, .int y1] : List Value).toArray below meth c H1 lo1 0 0 (MQ below (va_Qi (fun (r : Int32) (u : PS × Nat) => r = res.1 ∧ u = (res.2, n)) (BW D cy S n) (AA cy S n)) ([.ref y0, .int y1] : List Value).toArray s 0 0 (AA cy S n)) (F0 m 23 ls []) := by
    intro Sb H1 lo1 x0 x1 ls hl hw hE v_x0 hf
    unfold f_X2_takes_B23 at hf
    refine lv_aload_n hx hb dX2_takes_23 rfl (lv_at hl 0 rfl) ?_
    refine lv_iload_n hx hb dX2_takes_24 rfl (lv_at hl 1 rfl) ?_
    obtain ⟨t9, h10, hf⟩ := bd_some hf
    refine q_calli (va_runV (As := [.int x1]) (rest := []) F (c_X2_takesSign l D cy (S := Sb) v_x0 h10) (cwV 1 hts gX2_takes_X2_takesSign rfl rfl rfl ⟨rfl, ph_X2_takesSign.1, ph_X2_takesSign.2, pd_X2_takesSign⟩ ⟨Nat.le_of_ble_eq_true rfl, Nat.le_of_ble_eq_true rfl⟩) ⟨PcW.bl, (q_rcv hK hw.1 v_x0.1 (pF_2 (S := Sb) v_x0.2) rfl), PcW.in hK hw hA (fun z => z.elim)⟩ rfl rfl hl.1 rfl (lv_room (Nat.le_of_ble_eq_true rfl)) dX2_takes_25 ⟨Nat.zero_le _, Nat.zero_le _⟩) hw hA (fun H locs hw hX => ?_)
    have hE := hE.tr hX
    have v_x0 := hX _ _ v_x0
    exact hB28 t9.2 _ _ t9.1 _ (lv_sub hl [] rfl) hw hE  hf
  have hl := lv_entry ([.ref y0, .int y1]) (n := 2) (Nat.le_of_ble_eq_true rfl)
  rw [lg_entry_eq]
  generalize (lg_sl ([.ref y0, .int y1]) ++ List.replicate (2 - (lg_sl ([.ref y0, .int y1])).length) Slot.unset).toArray = ls at hl ⊢
  have hl : lv_has ls 2 [(0, .ref y0), (1, .int y1)] := hl
  unfold f_X2_takes at hf
  refine lv_iload_n hx hb dX2_takes_0 rfl (lv_at hl 1 rfl) ?_
  refine lv_bipush (v := 48) hx hb dX2_takes_1 (by decide) ?_
  refine lv_icmp_lt (tgt := 23) hx hb dX2_takes_3 (by decide) (fun c11 => ?_) (fun c11 => ?_)
  · have hf := it_t c11 hf
    exact hB23 S _ _ y0 y1 _ (lv_sub hl [0, 1] rfl) hw hE v_y0 hf
  · have hf := it_f c11 hf
    refine lv_iload_n hx hb dX2_takes_6 rfl (lv_at hl 1 rfl) ?_
    refine lv_bipush (v := 57) hx hb dX2_takes_7 (by decide) ?_
    refine lv_icmp_gt (tgt := 23) hx hb dX2_takes_9 (by decide) (fun c12 => ?_) (fun c12 => ?_)
    · have hf := it_t c12 hf
      exact hB23 S _ _ y0 y1 _ (lv_sub hl [0, 1] rfl) hw hE v_y0 hf
    · have hf := it_f c12 hf
      refine lv_aload_n hx hb dX2_takes_12 rfl (lv_at hl 0 rfl) ?_
      refine lv_iload_n hx hb dX2_takes_13 rfl (lv_at hl 1 rfl) ?_
      refine lv_bipush (v := 48) hx hb dX2_takes_14 (by decide) ?_
      refine lv_isub hx hb dX2_takes_16 ?_
      obtain ⟨t13, h14, hf⟩ := bd_some hf
      refine q_calli (va_runV (As := [.int (y1 - (48 : Int32))]) (rest := []) F (c_X2_takesDigit l D cy (S := S) v_y0 h14) (cwV 1 hts gX2_takes_X2_takesDigit rfl rfl rfl ⟨rfl, ph_X2_takesDigit.1, ph_X2_takesDigit.2, pd_X2_takesDigit⟩ ⟨Nat.le_of_ble_eq_true rfl, Nat.le_of_ble_eq_true rfl⟩) ⟨PcW.bl, (q_rcv hK hw.1 v_y0.1 (pF_2 (S := S) v_y0.2) rfl), PcW.in hK hw hA (fun z => z.elim)⟩ rfl rfl hl.1 rfl (lv_room (Nat.le_of_ble_eq_true rfl)) dX2_takes_17 ⟨Nat.zero_le _, Nat.zero_le _⟩) hw hA (fun H locs hw hX => ?_)
      have hE := hE.tr hX
      have v_y0 := hX _ _ v_y0
      refine lv_goto (tgt := 28) hx hb dX2_takes_20 (by decide) ?_
      exact hB28 t13.2 _ _ t13.1 _ (lv_sub hl [] rfl) hw hE  hf
def f_X3_init (S : PS) (n : Nat) (x0 : Nat) (x1 : Nat) : Option (PS × Nat) :=
  some (sI (sI (sR (nA (sR (nA (sR S 48 x0 (some x1)) n 7 10) 49 x0 (some n)) (n + 1) 6 10) 50 x0 (some (n + 1))) 51 x0 0) 52 x0 0, (n + 1) + 1)
set_option maxHeartbeats 4000000 in
set_option maxRecDepth 100000 in
theorem c_X3_init (l : Launch) (D : va_G) (cy : cyT) {S : PS} {n : Nat} {y0 : Nat} {y1 : Nat} (v_y0 : vd S y0 3) (v_y1 : vd S y1 0) {res : PS × Nat} (hf : f_X3_init S n y0 y1 = some res) : Met l yX3_init wsX3_init ({ frames := 1, cells := 2, slots := 20, locals := 20 } : Room) (PcW False D cy S n [.ref y0, .ref y1]) (va_Qv (fun (u : PS × Nat) => u = res) (BW D cy S n) (AA cy S n)) 2 20 (AA cy S n) := by
  refine Met.ofW (cc := cX3_init) (maxL := 2) (ret := none) (by decide) rfl ?_
  intro p e s m args below meth c s₁ B hml hv
  obtain ⟨hav, hsz, hP0, hD0, hK, hZ0⟩ := hv
  have hx := B.exec
  have hb := B.bytes
  have hr := B.returns
  have hts := atoms_spec (ws := wsX3_init) B.pre
  have hown : s.vm.findClass RX3 = some m.cls := findClass_of_methodNamed B.named
  have hlocks := B.notSynchronized
  have hin : meth.name = "<init>" := (name_of_methodNamed B.named B.method).1
  subst hav
  have hw : Hw D cy (AA cy S n) s.heap S n s.heap [] := Hw.start hsz hP0 hD0
  have hA : ∀ q, s.heap.size ≤ q → AA cy S n q := fun q h => Or.inr (hsz ▸ h)
  have hE : EX S S := EX.rf
  have F : CallFix p m c cX3_init 2 s _ wsX3_init RX3 := ⟨hx, hb, hml, hown, hts⟩
  have hl := lv_entry ([.ref y0, .ref y1]) (n := 2) (Nat.le_of_ble_eq_true rfl)
  rw [lg_entry_eq]
  generalize (lg_sl ([.ref y0, .ref y1]) ++ List.replicate (2 - (lg_sl ([.ref y0, .ref y1])).length) Slot.unset).toArray = ls at hl ⊢
  have hl : lv_has ls 2 [(0, .ref y0), (1, .ref y1)] := hl
  unfold f_X3_init at hf
  refine lv_aload_n hx hb dX3_init_0 rfl (lv_at hl 0 rfl) ?_
  refine W.objInit hx hb hown (hts (.methodLink RX3 3 objectInit) (List.mem_of_getElem? (i := 1) rfl)) (hts (.instanceMethod objectInit) (List.mem_of_getElem? (i := 2) rfl)) (hts (.code objectInit ⟨#[0xb1]⟩ 1 none) (List.mem_of_getElem? (i := 3) rfl)) rfl (by rw [hml]; exact hl.1) rfl dX3_init_1 (Nat.le_of_ble_eq_true rfl) (Nat.le_of_ble_eq_true rfl) ?_
  refine W.eq (g2 := F0 m 4 ls []) rfl ?_
  refine lv_aload_n hx hb dX3_init_4 rfl (lv_at hl 0 rfl) ?_
  refine lv_aload_n hx hb dX3_init_5 rfl (lv_at hl 1 rfl) ?_
  refine q_put F hK hw v_y0.1 (pF_3 (S := S) v_y0.2) (fun w h => List.mem_cons_of_mem _ (List.mem_append_right _ h)) tyX3 tyX3_ok nmX3 rfl 0 (by decide) (hts (.fieldLink RX3 9 "SharedModuli$State" "blank" "LSharedModuli$Condition;") (List.mem_of_getElem? (i := 4) rfl)) (Or.inr ⟨hin, rfl⟩) (tyX3_ok 0 (by decide)) rfl rfl (Nat.le_of_ble_eq_true rfl) (S1 := sR S 48 y0 (some y1)) (st_48 (S := S) v_y0.2 (some y1)) dX3_init_6 (fun H locs hw => ?_)
  refine lv_aload_n hx hb dX3_init_9 rfl (lv_at hl 0 rfl) ?_
  refine lv_bipush (v := 10) hx hb dX3_init_10 (by decide) ?_
  have hfr := hw.fresh
  refine q_newq F hK hw hA (hts (.classLink RX3 15 RX0) (List.mem_of_getElem? (i := 5) rfl)) hK.2.2.2.1 (hK.1.2 1 _ rfl).2 (N' := 10) (by decide) (by decide) (by decide) (by show _ ≤ 2; omega) (by show _ ≤ 20; omega) dX3_init_12 (S1 := nA (sR S 48 y0 (some y1)) n 7 10) (fun hq => nw_7 hq) (fun H hw => ?_)
  have hX := EX.nA (k := 7) (n := 10) hfr
  have hE := hE.tr hX
  have v_y0 := hX _ _ v_y0
  have v_y1 := hX _ _ v_y1
  have v_q3 : vd (nA (sR S 48 y0 (some y1)) n 7 10) (n) 7 := vd_nA
  refine q_put F hK hw v_y0.1 (pF_3 (S := nA (sR S 48 y0 (some y1)) n 7 10) v_y0.2) (fun w h => List.mem_cons_of_mem _ (List.mem_append_right _ h)) tyX3 tyX3_ok nmX3 rfl 1 (by decide) (hts (.fieldLink RX3 17 "SharedModuli$State" "conditions" "[LSharedModuli$Condition;") (List.mem_of_getElem? (i := 6) rfl)) (Or.inr ⟨hin, rfl⟩) (tyX3_ok 1 (by decide)) rfl rfl (Nat.le_of_ble_eq_true rfl) (S1 := sR (nA (sR S 48 y0 (some y1)) n 7 10) 49 y0 (some n)) (st_49 (S := nA (sR S 48 y0 (some y1)) n 7 10) v_y0.2 (some n)) dX3_init_15 (fun H locs hw => ?_)
  refine lv_aload_n hx hb dX3_init_18 rfl (lv_at hl 0 rfl) ?_
  refine lv_bipush (v := 10) hx hb dX3_init_19 (by decide) ?_
  have hfr := hw.fresh
  refine q_newi F hK hw hA (hts (.arrayClass .int) (List.mem_of_getElem? (i := 7) rfl)) (N' := 10) (by decide) (by decide) (by decide) (by show _ ≤ 2; omega) (by show _ ≤ 20; omega) dX3_init_21 (fun H hw => ?_)
  have hX := EX.nA (k := 6) (n := 10) hfr
  have hE := hE.tr hX
  have v_y0 := hX _ _ v_y0
  have v_y1 := hX _ _ v_y1
  have v_q3 := hX _ _ v_q3
  have v_q4 : vd (nA (sR (nA (sR S 48 y0 (some y1)) n 7 10) 49 y0 (some n)) (n + 1) 6 10) (n + 1) 6 := vd_nA
  refine q_put F hK hw v_y0.1 (pF_3 (S := nA (sR (nA (sR S 48 y0 (some y1)) n 7 10) 49 y0 (some n)) (n + 1) 6 10) v_y0.2) (fun w h => List.mem_cons_of_mem _ (List.mem_append_right _ h)) tyX3 tyX3_ok nmX3 rfl 2 (by decide) (hts (.fieldLink RX3 21 "SharedModuli$State" "partners" "[I") (List.mem_of_getElem? (i := 8) rfl)) (Or.inr ⟨hin, rfl⟩) (tyX3_ok 2 (by decide)) rfl rfl (Nat.le_of_ble_eq_true rfl) (S1 := sR (nA (sR (nA (sR S 48 y0 (some y1)) n 7 10) 49 y0 (some n)) (n + 1) 6 10) 50 y0 (some (n + 1))) (st_50 (S := nA (sR (nA (sR S 48 y0 (some y1)) n 7 10) 49 y0 (some n)) (n + 1) 6 10) v_y0.2 (some (n + 1))) dX3_init_23 (fun H locs hw => ?_)
  refine lv_aload_n hx hb dX3_init_26 rfl (lv_at hl 0 rfl) ?_
  refine lv_iconst (v := 0) hx hb dX3_init_27 (by decide) ?_
  refine q_put F hK hw v_y0.1 (pF_3 (S := sR (nA (sR (nA (sR S 48 y0 (some y1)) n 7 10) 49 y0 (some n)) (n + 1) 6 10) 50 y0 (some (n + 1))) v_y0.2) (fun w h => List.mem_cons_of_mem _ (List.mem_append_right _ h)) tyX3 tyX3_ok nmX3 rfl 3 (by decide) (hts (.fieldLink RX3 25 "SharedModuli$State" "size" "I") (List.mem_of_getElem? (i := 9) rfl)) (Or.inl rfl) (tyX3_ok 3 (by decide)) rfl rfl (Nat.le_of_ble_eq_true rfl) (S1 := sI (sR (nA (sR (nA (sR S 48 y0 (some y1)) n 7 10) 49 y0 (some n)) (n + 1) 6 10) 50 y0 (some (n + 1))) 51 y0 0) (st_51 (S := sR (nA (sR (nA (sR S 48 y0 (some y1)) n 7 10) 49 y0 (some n)) (n + 1) 6 10) 50 y0 (some (n + 1))) v_y0.2 0) dX3_init_28 (fun H locs hw => ?_)
  refine lv_aload_n hx hb dX3_init_31 rfl (lv_at hl 0 rfl) ?_
  refine lv_iconst (v := 0) hx hb dX3_init_32 (by decide) ?_
  refine q_put F hK hw v_y0.1 (pF_3 (S := sI (sR (nA (sR (nA (sR S 48 y0 (some y1)) n 7 10) 49 y0 (some n)) (n + 1) 6 10) 50 y0 (some (n + 1))) 51 y0 0) v_y0.2) (fun w h => List.mem_cons_of_mem _ (List.mem_append_right _ h)) tyX3 tyX3_ok nmX3 rfl 4 (by decide) (hts (.fieldLink RX3 29 "SharedModuli$State" "on" "I") (List.mem_of_getElem? (i := 10) rfl)) (Or.inl rfl) (tyX3_ok 4 (by decide)) rfl rfl (Nat.le_of_ble_eq_true rfl) (S1 := sI (sI (sR (nA (sR (nA (sR S 48 y0 (some y1)) n 7 10) 49 y0 (some n)) (n + 1) 6 10) 50 y0 (some (n + 1))) 51 y0 0) 52 y0 0) (st_52 (S := sI (sR (nA (sR (nA (sR S 48 y0 (some y1)) n 7 10) 49 y0 (some n)) (n + 1) 6 10) 50 y0 (some (n + 1))) 51 y0 0) v_y0.2 0) dX3_init_33 (fun H locs hw => ?_)
  refine W.widen (k := 2) (n := 20) (by omega) (by omega) ?_
  exact W.vret hx hb hr (fun t ht hW => ⟨⟨(sI (sI (sR (nA (sR (nA (sR S 48 y0 (some y1)) n 7 10) 49 y0 (some n)) (n + 1) 6 10) 50 y0 (some (n + 1))) 51 y0 0) 52 y0 0, (n + 1) + 1), rfl, po1n hf, BW.of hw hE ht⟩, hw.2.2.1.F ht⟩) hw.2.2.1.2.2 dX3_init_36
def f_X3_at_B22 (S : PS) (x0 : Nat) : Option Nat :=
  rq (fR S 48 x0) S 0 fun b1 =>
  some b1
def f_X3_at (S : PS) (x0 : Nat) (x1 : Int32) : Option Nat :=
  if x1 < 0 then (f_X3_at_B22 S x0) else
  rq (fR S 49 x0) S 7 fun b4 =>
  if (nI (aN S b4)) ≤ x1 then (f_X3_at_B22 S x0) else
  rq (fR S 49 x0) S 7 fun b7 =>
  ck (decide (¬ (x1 < 0 ∨ aN S b7 ≤ x1.toNatClampNeg))) (
  nl (aR S b7 x1.toNatClampNeg) (f_X3_at_B22 S x0)
  (rq (fR S 49 x0) S 7 fun b11 =>
  ck (decide (¬ (x1 < 0 ∨ aN S b11 ≤ x1.toNatClampNeg))) (
  rq (aR S b11 x1.toNatClampNeg) S 0 fun b14 =>
  some b14)))
set_option maxHeartbeats 4000000 in
set_option maxRecDepth 100000 in
theorem c_X3_at (l : Launch) (D : va_G) (cy : cyT) {H : Heap} {S : PS} (hP : va_P D vwCl (wl cy S) H) {y0 : Nat} {y1 : Int32} (v_y0 : vd S y0 3) {res : Nat} (hf : f_X3_at S y0 y1 = some res) : Met l yX3_at wsX3_at ({ frames := 0, cells := 0, slots := 0, locals := 0 } : Room) (PcR D cy H [.ref y0, .int y1]) (va_Sr (fun k => k = res ∧ vd S k 0) (fun k => .ref k)) 0 0 (fun _ => False) := by
  refine Met.ofW (cc := cX3_at) (maxL := 2) (ret := (some (.object "SharedModuli$Condition"))) (by decide) rfl ?_
  intro p e s m args below meth c s₁ B hml hv
  obtain ⟨hav, hH, hK⟩ := hv
  have hx := B.exec
  have hb := B.bytes
  have hr := B.returns
  have hts := atoms_spec (ws := wsX3_at) B.pre
  have hown : s.vm.findClass RX3 = some m.cls := findClass_of_methodNamed B.named
  have hlocks := B.notSynchronized
  subst hav
  subst hH
  have F : CallFix p m c cX3_at 2 s _ wsX3_at RX3 := ⟨hx, hb, hml, hown, hts⟩
  have hB22 : ∀ (x0 : Nat) (ls : Array Slot), lv_has ls 2 [(0, .ref x0)] → vd S x0 3 → f_X3_at_B22 S x0 = some res → W p l e (headSpec wsX3_at ({ frames := 0, cells := 0, slots := 0, locals := 0 } : Room)).room s m ([.ref y0, .int y1] : List Value).toArray below meth c s.heap [] 0 0 (MQ below (va_Sr (fun k => k = res ∧ vd S k 0) (fun k => .ref k)) ([.ref y0, .int y1] : List Value).toArray s 0 0 (fun _ => False)) (F0 m 22 ls []) := by
    intro x0 ls hl v_x0 hf
    unfold f_X3_at_B22 at hf
    refine lv_aload_n hx hb dX3_at_22 rfl (lv_at hl 0 rfl) ?_
    obtain ⟨b16, e17, v_b16, hf⟩ := rq_some hf
    refine q_get F hK hP v_x0.1 (pF_3 (S := S) v_x0.2) (fun w h => List.mem_cons_of_mem _ (List.mem_append_right _ h)) rfl 0 (by decide) (hts (.fieldLink RX3 9 "SharedModuli$State" "blank" "LSharedModuli$Condition;") (List.mem_of_getElem? (i := 2) rfl)) (v := .ref b16) (congrArg (fun z => some (va_rf z)) e17) dX3_at_23 ?_
    exact W.aret (v := .ref b16) hx hb hr (Or.inl ⟨_, rfl⟩) (Or.inr ⟨_, rfl⟩) (fun t ht hW => ⟨_, rfl, ⟨Option.some.inj hf, Option.some.inj hf ▸ v_b16⟩, ht⟩) (fun _ h => by cases h) dX3_at_26
  have hl := lv_entry ([.ref y0, .int y1]) (n := 2) (Nat.le_of_ble_eq_true rfl)
  rw [lg_entry_eq]
  generalize (lg_sl ([.ref y0, .int y1]) ++ List.replicate (2 - (lg_sl ([.ref y0, .int y1])).length) Slot.unset).toArray = ls at hl ⊢
  have hl : lv_has ls 2 [(0, .ref y0), (1, .int y1)] := hl
  unfold f_X3_at at hf
  refine lv_iload_n hx hb dX3_at_0 rfl (lv_at hl 1 rfl) ?_
  refine lv_if_lt (tgt := 22) hx hb dX3_at_1 (by decide) (fun c18 => ?_) (fun c18 => ?_)
  · have hf := it_t c18 hf
    exact hB22 y0 _ (lv_sub hl [0] rfl) v_y0 hf
  · have hf := it_f c18 hf
    refine lv_iload_n hx hb dX3_at_4 rfl (lv_at hl 1 rfl) ?_
    refine lv_aload_n hx hb dX3_at_5 rfl (lv_at hl 0 rfl) ?_
    obtain ⟨b19, e20, v_b19, hf⟩ := rq_some hf
    refine q_get F hK hP v_y0.1 (pF_3 (S := S) v_y0.2) (fun w h => List.mem_cons_of_mem _ (List.mem_append_right _ h)) rfl 1 (by decide) (hts (.fieldLink RX3 17 "SharedModuli$State" "conditions" "[LSharedModuli$Condition;") (List.mem_of_getElem? (i := 1) rfl)) (v := .ref b19) (congrArg (fun z => some (va_rf z)) e20) dX3_at_6 ?_
    refine q_alen7 F hK hP v_b19 dX3_at_9 ?_
    refine lv_icmp_ge (tgt := 22) hx hb dX3_at_10 (by decide) (fun c21 => ?_) (fun c21 => ?_)
    · have hf := it_t c21 hf
      exact hB22 y0 _ (lv_sub hl [0] rfl) v_y0 hf
    · have hf := it_f c21 hf
      refine lv_aload_n hx hb dX3_at_13 rfl (lv_at hl 0 rfl) ?_
      obtain ⟨b22, e23, v_b22, hf⟩ := rq_some hf
      refine q_get F hK hP v_y0.1 (pF_3 (S := S) v_y0.2) (fun w h => List.mem_cons_of_mem _ (List.mem_append_right _ h)) rfl 1 (by decide) (hts (.fieldLink RX3 17 "SharedModuli$State" "conditions" "[LSharedModuli$Condition;") (List.mem_of_getElem? (i := 1) rfl)) (v := .ref b22) (congrArg (fun z => some (va_rf z)) e23) dX3_at_14 ?_
      refine lv_iload_n hx hb dX3_at_17 rfl (lv_at hl 1 rfl) ?_
      obtain ⟨c24, hf⟩ := ckd_some hf
      refine q_aald7 F hK hP v_b22 c24 dX3_at_18 ?_
      rcases hb25 : aR S b22 y1.toNatClampNeg with _ | b25
      · rw [hb25] at hf
        refine lv_ifnonnullN hx hb dX3_at_19 ?_
        exact hB22 y0 _ (lv_sub hl [0] rfl) v_y0 hf
      · rw [hb25] at hf
        refine lv_ifnonnull (tgt := 27) hx hb dX3_at_19 (by decide) ?_
        refine lv_aload_n hx hb dX3_at_27 rfl (lv_at hl 0 rfl) ?_
        obtain ⟨b26, e27, v_b26, hf⟩ := rq_some hf
        refine q_get F hK hP v_y0.1 (pF_3 (S := S) v_y0.2) (fun w h => List.mem_cons_of_mem _ (List.mem_append_right _ h)) rfl 1 (by decide) (hts (.fieldLink RX3 17 "SharedModuli$State" "conditions" "[LSharedModuli$Condition;") (List.mem_of_getElem? (i := 1) rfl)) (v := .ref b26) (congrArg (fun z => some (va_rf z)) e27) dX3_at_28 ?_
        refine lv_iload_n hx hb dX3_at_31 rfl (lv_at hl 1 rfl) ?_
        obtain ⟨c28, hf⟩ := ckd_some hf
        refine q_aald7 F hK hP v_b26 c28 dX3_at_32 ?_
        obtain ⟨b29, e30, v_b29, hf⟩ := rq_some hf
        rw [e30]
        refine W.eq (g2 := F0 m 33 ls (.ref b29 :: [])) rfl ?_
        exact W.aret (v := .ref b29) hx hb hr (Or.inl ⟨_, rfl⟩) (Or.inr ⟨_, rfl⟩) (fun t ht hW => ⟨_, rfl, ⟨Option.some.inj hf, Option.some.inj hf ▸ v_b29⟩, ht⟩) (fun _ h => by cases h) dX3_at_33
def f_X3_partnersAt_B23 (S : PS) (s0 : Int32) : Option Int32 :=
  some s0
def f_X3_partnersAt_B22 (S : PS)  : Option Int32 :=
  f_X3_partnersAt_B23 S 0
def f_X3_partnersAt (S : PS) (x0 : Nat) (x1 : Int32) : Option Int32 :=
  if x1 < 0 then (f_X3_partnersAt_B22 S) else
  rq (fR S 50 x0) S 6 fun b2 =>
  if (nI (aN S b2)) ≤ x1 then (f_X3_partnersAt_B22 S) else
  rq (fR S 50 x0) S 6 fun b5 =>
  ck (decide (¬ (x1 < 0 ∨ aN S b5 ≤ x1.toNatClampNeg))) (
  f_X3_partnersAt_B23 S (aI S b5 x1.toNatClampNeg))
set_option maxHeartbeats 4000000 in
set_option maxRecDepth 100000 in
theorem c_X3_partnersAt (l : Launch) (D : va_G) (cy : cyT) {H : Heap} {S : PS} (hP : va_P D vwCl (wl cy S) H) {y0 : Nat} {y1 : Int32} (v_y0 : vd S y0 3) {res : Int32} (hf : f_X3_partnersAt S y0 y1 = some res) : Met l yX3_partnersAt wsX3_partnersAt ({ frames := 0, cells := 0, slots := 0, locals := 0 } : Room) (PcR D cy H [.ref y0, .int y1]) (vp_Si (fun r => r = res)) 0 0 (fun _ => False) := by
  refine Met.ofW (cc := cX3_partnersAt) (maxL := 2) (ret := (some .int)) (by decide) rfl ?_
  intro p e s m args below meth c s₁ B hml hv
  obtain ⟨hav, hH, hK⟩ := hv
  have hx := B.exec
  have hb := B.bytes
  have hr := B.returns
  have hts := atoms_spec (ws := wsX3_partnersAt) B.pre
  have hown : s.vm.findClass RX3 = some m.cls := findClass_of_methodNamed B.named
  have hlocks := B.notSynchronized
  subst hav
  subst hH
  have F : CallFix p m c cX3_partnersAt 2 s _ wsX3_partnersAt RX3 := ⟨hx, hb, hml, hown, hts⟩
  have hB23 : ∀ (s0 : Int32) (ls : Array Slot), lv_has ls 2 [] → f_X3_partnersAt_B23 S s0 = some res → W p l e (headSpec wsX3_partnersAt ({ frames := 0, cells := 0, slots := 0, locals := 0 } : Room)).room s m ([.ref y0, .int y1] : List Value).toArray below meth c s.heap [] 0 0 (MQ below (vp_Si (fun r => r = res)) ([.ref y0, .int y1] : List Value).toArray s 0 0 (fun _ => False)) (F0 m 23 ls [.int s0]) := by
    intro s0 ls hl hf
    unfold f_X3_partnersAt_B23 at hf
    exact W.iret (v := s0) hx hb hr (fun t ht hW => ⟨_, rfl, Option.some.inj hf, ht⟩) (fun _ h => by cases h) dX3_partnersAt_23
  have hB22 : ∀  (ls : Array Slot), lv_has ls 2 [] → f_X3_partnersAt_B22 S = some res → W p l e (headSpec wsX3_partnersAt ({ frames := 0, cells := 0, slots := 0, locals := 0 } : Room)).room s m ([.ref y0, .int y1] : List Value).toArray below meth c s.heap [] 0 0 (MQ below (vp_Si (fun r => r = res)) ([.ref y0, .int y1] : List Value).toArray s 0 0 (fun _ => False)) (F0 m 22 ls []) := by
    intro ls hl hf
    unfold f_X3_partnersAt_B22 at hf
    refine lv_iconst (v := 0) hx hb dX3_partnersAt_22 (by decide) ?_
    exact hB23 0 _ (lv_sub hl [] rfl)  hf
  have hl := lv_entry ([.ref y0, .int y1]) (n := 2) (Nat.le_of_ble_eq_true rfl)
  rw [lg_entry_eq]
  generalize (lg_sl ([.ref y0, .int y1]) ++ List.replicate (2 - (lg_sl ([.ref y0, .int y1])).length) Slot.unset).toArray = ls at hl ⊢
  have hl : lv_has ls 2 [(0, .ref y0), (1, .int y1)] := hl
  unfold f_X3_partnersAt at hf
  refine lv_iload_n hx hb dX3_partnersAt_0 rfl (lv_at hl 1 rfl) ?_
  refine lv_if_lt (tgt := 22) hx hb dX3_partnersAt_1 (by decide) (fun c8 => ?_) (fun c8 => ?_)
  · have hf := it_t c8 hf
    exact hB22 _ (lv_sub hl [] rfl)  hf
  · have hf := it_f c8 hf
    refine lv_iload_n hx hb dX3_partnersAt_4 rfl (lv_at hl 1 rfl) ?_
    refine lv_aload_n hx hb dX3_partnersAt_5 rfl (lv_at hl 0 rfl) ?_
    obtain ⟨b9, e10, v_b9, hf⟩ := rq_some hf
    refine q_get F hK hP v_y0.1 (pF_3 (S := S) v_y0.2) (fun w h => List.mem_cons_of_mem _ (List.mem_append_right _ h)) rfl 2 (by decide) (hts (.fieldLink RX3 21 "SharedModuli$State" "partners" "[I") (List.mem_of_getElem? (i := 1) rfl)) (v := .ref b9) (congrArg (fun z => some (va_rf z)) e10) dX3_partnersAt_6 ?_
    refine q_alen6 F hK hP v_b9 dX3_partnersAt_9 ?_
    refine lv_icmp_ge (tgt := 22) hx hb dX3_partnersAt_10 (by decide) (fun c11 => ?_) (fun c11 => ?_)
    · have hf := it_t c11 hf
      exact hB22 _ (lv_sub hl [] rfl)  hf
    · have hf := it_f c11 hf
      refine lv_aload_n hx hb dX3_partnersAt_13 rfl (lv_at hl 0 rfl) ?_
      obtain ⟨b12, e13, v_b12, hf⟩ := rq_some hf
      refine q_get F hK hP v_y0.1 (pF_3 (S := S) v_y0.2) (fun w h => List.mem_cons_of_mem _ (List.mem_append_right _ h)) rfl 2 (by decide) (hts (.fieldLink RX3 21 "SharedModuli$State" "partners" "[I") (List.mem_of_getElem? (i := 1) rfl)) (v := .ref b12) (congrArg (fun z => some (va_rf z)) e13) dX3_partnersAt_14 ?_
      refine lv_iload_n hx hb dX3_partnersAt_17 rfl (lv_at hl 1 rfl) ?_
      obtain ⟨c14, hf⟩ := ckd_some hf
      refine q_iald F hK hP v_b12 c14 dX3_partnersAt_18 ?_
      refine lv_goto (tgt := 23) hx hb dX3_partnersAt_19 (by decide) ?_
      exact hB23 (aI S b12 y1.toNatClampNeg) _ (lv_sub hl [] rfl)  hf
def f_X3_copyFrom_B72 (S : PS) : Option PS :=
  some (S)
def f_X3_copyFrom_L46s (kL46 : PS → Nat → Nat → Int32 → Option PS) (ke72 : PS → Option PS) (S : PS) (x0 : Nat) (x1 : Nat) (x2 : Int32) : Option PS :=
  rq (fR S 50 x0) S 6 fun b1 =>
  if (nI (aN S b1)) ≤ x2 then (ke72 S) else
  rq (fR S 50 x0) S 6 fun b4 =>
  bd (f_X3_partnersAt S x1 x2) fun t6 =>
  ck (decide (¬ (x2 < 0 ∨ aN S b4 ≤ x2.toNatClampNeg))) (
  kL46 (sA S b4 x2 t6) x0 x1 (x2 + 1))
def f_X3_copyFrom_L46 (ke72 : PS → Option PS) (fu : Nat) : PS → Nat → Nat → Int32 → Option PS := fx (fun kL => f_X3_copyFrom_L46s kL ke72) (fun _ _ _ _ => none) fu
def f_X3_copyFrom_B44 (S : PS) (x0 : Nat) (x1 : Nat) : Option PS :=
  f_X3_copyFrom_L46 f_X3_copyFrom_B72 FU S x0 x1 0
def f_X3_copyFrom_L18s (kL18 : PS → Nat → Nat → Int32 → Option PS) (ke44 : PS → Nat → Nat → Option PS) (S : PS) (x0 : Nat) (x1 : Nat) (x2 : Int32) : Option PS :=
  rq (fR S 49 x0) S 7 fun b10 =>
  if (nI (aN S b10)) ≤ x2 then (ke44 S x0 x1) else
  rq (fR S 49 x0) S 7 fun b13 =>
  bd (f_X3_at S x1 x2) fun t15 =>
  ck (decide (¬ (x2 < 0 ∨ aN S b13 ≤ x2.toNatClampNeg))) (
  kL18 (sQ S b13 x2 (some t15)) x0 x1 (x2 + 1))
def f_X3_copyFrom_L18 (ke44 : PS → Nat → Nat → Option PS) (fu : Nat) : PS → Nat → Nat → Int32 → Option PS := fx (fun kL => f_X3_copyFrom_L18s kL ke44) (fun _ _ _ _ => none) fu
def f_X3_copyFrom (S : PS) (x0 : Nat) (x1 : Nat) : Option PS :=
  f_X3_copyFrom_L18 f_X3_copyFrom_B44 FU (sI (sI S 51 x0 (fI S 51 x1)) 52 x0 (fI (sI S 51 x0 (fI S 51 x1)) 52 x1)) x0 x1 0
set_option maxHeartbeats 4000000 in
set_option maxRecDepth 100000 in
theorem c_X3_copyFrom (l : Launch) (D : va_G) (cy : cyT) {S : PS} {n : Nat} {y0 : Nat} {y1 : Nat} (v_y0 : vd S y0 3) (v_y1 : vd S y1 3) {res : PS} (hf : f_X3_copyFrom S y0 y1 = some res) : Met l yX3_copyFrom wsX3_copyFrom ({ frames := 1, cells := 0, slots := 0, locals := 21 } : Room) (PcW False D cy S n [.ref y0, .ref y1]) (va_Qv (fun (u : PS × Nat) => u = (res, n)) (BW D cy S n) (AA cy S n)) 0 0 (AA cy S n) := by
  refine Met.ofW (cc := cX3_copyFrom) (maxL := 3) (ret := none) (by decide) rfl ?_
  intro p e s m args below meth c s₁ B hml hv
  obtain ⟨hav, hsz, hP0, hD0, hK, hZ0⟩ := hv
  have hx := B.exec
  have hb := B.bytes
  have hr := B.returns
  have hts := atoms_spec (ws := wsX3_copyFrom) B.pre
  have hown : s.vm.findClass RX3 = some m.cls := findClass_of_methodNamed B.named
  have hlocks := B.notSynchronized
  subst hav
  have hw : Hw D cy (AA cy S n) s.heap S n s.heap [] := Hw.start hsz hP0 hD0
  have hA : ∀ q, s.heap.size ≤ q → AA cy S n q := fun q h => Or.inr (hsz ▸ h)
  have hE : EX S S := EX.rf
  have F : CallFix p m c cX3_copyFrom 3 s _ wsX3_copyFrom RX3 := ⟨hx, hb, hml, hown, hts⟩
  have hB72 : ∀ (Sb : PS) (H1 : Heap) (lo1 : List Loc)  (ls : Array Slot), lv_has ls 3 [] → Hw D cy (AA cy S n) s.heap Sb n H1 lo1 → EX S Sb → f_X3_copyFrom_B72 Sb = some res → W p l e (headSpec wsX3_copyFrom ({ frames := 1, cells := 0, slots := 0, locals := 21 } : Room)).room s m ([.ref y0, .ref y1] : List Value).toArray below meth c H1 lo1 0 0 (MQ below (va_Qv (fun (u : PS × Nat) => u = (res, n)) (BW D cy S n) (AA cy S n)) ([.ref y0, .ref y1] : List Value).toArray s 0 0 (AA cy S n)) (F0 m 72 ls []) := by
    intro Sb H1 lo1 ls hl hw hE hf
    unfold f_X3_copyFrom_B72 at hf
    exact W.vret hx hb hr (fun t ht hW => ⟨⟨(Sb, n), rfl, po1 hf, BW.of hw hE ht⟩, hw.2.2.1.F ht⟩) hw.2.2.1.2.2 dX3_copyFrom_72
  have hL46 : ∀ (fu46 : Nat), ∀ (Sb : PS) (H1 : Heap) (lo1 : List Loc) (x0 : Nat) (x1 : Nat) (x2 : Int32) (ls : Array Slot), lv_has ls 3 [(0, .ref x0), (1, .ref x1), (2, .int x2)] → Hw D cy (AA cy S n) s.heap Sb n H1 lo1 → EX S Sb → vd Sb x0 3 → vd Sb x1 3 → f_X3_copyFrom_L46 f_X3_copyFrom_B72 fu46 Sb x0 x1 x2 = some res → W p l e (headSpec wsX3_copyFrom ({ frames := 1, cells := 0, slots := 0, locals := 21 } : Room)).room s m ([.ref y0, .ref y1] : List Value).toArray below meth c H1 lo1 0 0 (MQ below (va_Qv (fun (u : PS × Nat) => u = (res, n)) (BW D cy S n) (AA cy S n)) ([.ref y0, .ref y1] : List Value).toArray s 0 0 (AA cy S n)) (F0 m 46 ls []) := by
    intro fu46
    induction fu46 with
    | zero =>
      intro Sb H1 lo1 x0 x1 x2 ls hl hw hE v_x0 v_x1 hf
      have hf : (none : Option PS) = some res := hf
      cases hf
    | succ fu46 ih46 =>
      intro Sb H1 lo1 x0 x1 x2 ls hl hw hE v_x0 v_x1 hf
      have hf : f_X3_copyFrom_L46s (f_X3_copyFrom_L46 f_X3_copyFrom_B72 fu46) f_X3_copyFrom_B72 Sb x0 x1 x2 = some res := hf
      unfold f_X3_copyFrom_L46s at hf
      refine lv_iload_n hx hb dX3_copyFrom_46 rfl (lv_at hl 2 rfl) ?_
      refine lv_aload_n hx hb dX3_copyFrom_47 rfl (lv_at hl 0 rfl) ?_
      obtain ⟨b19, e20, v_b19, hf⟩ := rq_some hf
      refine q_get F hK hw.1 v_x0.1 (pF_3 (S := Sb) v_x0.2) (fun w h => List.mem_cons_of_mem _ (List.mem_append_right _ h)) rfl 2 (by decide) (hts (.fieldLink RX3 21 "SharedModuli$State" "partners" "[I") (List.mem_of_getElem? (i := 4) rfl)) (v := .ref b19) (congrArg (fun z => some (va_rf z)) e20) dX3_copyFrom_48 ?_
      refine q_alen6 F hK hw.1 v_b19 dX3_copyFrom_51 ?_
      refine lv_icmp_ge (tgt := 72) hx hb dX3_copyFrom_52 (by decide) (fun c21 => ?_) (fun c21 => ?_)
      · have hf := it_t c21 hf
        exact hB72 Sb _ _ _ (lv_sub hl [] rfl) hw hE  hf
      · have hf := it_f c21 hf
        refine lv_aload_n hx hb dX3_copyFrom_55 rfl (lv_at hl 0 rfl) ?_
        obtain ⟨b22, e23, v_b22, hf⟩ := rq_some hf
        refine q_get F hK hw.1 v_x0.1 (pF_3 (S := Sb) v_x0.2) (fun w h => List.mem_cons_of_mem _ (List.mem_append_right _ h)) rfl 2 (by decide) (hts (.fieldLink RX3 21 "SharedModuli$State" "partners" "[I") (List.mem_of_getElem? (i := 4) rfl)) (v := .ref b22) (congrArg (fun z => some (va_rf z)) e23) dX3_copyFrom_56 ?_
        refine lv_iload_n hx hb dX3_copyFrom_59 rfl (lv_at hl 2 rfl) ?_
        refine lv_aload_n hx hb dX3_copyFrom_60 rfl (lv_at hl 1 rfl) ?_
        refine lv_iload_n hx hb dX3_copyFrom_61 rfl (lv_at hl 2 rfl) ?_
        obtain ⟨t24, h25, hf⟩ := bd_some hf
        refine vp_callSi (va_runV (As := [.int x2]) (rest := [.int x2, .ref b22]) F (c_X3_partnersAt l D cy (H := _) hw.1 v_x1 h25) (cwV 1 hts gX3_copyFrom_X3_partnersAt rfl rfl rfl ⟨rfl, ph_X3_partnersAt.1, ph_X3_partnersAt.2, pd_X3_partnersAt⟩ ⟨Nat.le_of_ble_eq_true rfl, Nat.le_of_ble_eq_true rfl⟩) ⟨PcR.bl, (q_rcv hK hw.1 v_x1.1 (pF_3 (S := Sb) v_x1.2) rfl), PcR.in hK⟩ rfl rfl hl.1 rfl (lv_room (Nat.le_of_ble_eq_true rfl)) dX3_copyFrom_62 ⟨Nat.zero_le _, Nat.zero_le _⟩).run (fun r26 er26 => ?_)
        subst r26
        obtain ⟨c27, hf⟩ := ckd_some hf
        refine q_iast F hK hw v_b22 c27 dX3_copyFrom_65 (fun H locs hw => ?_)
        refine lv_iinc (v := x2 + 1) (lv' := [(2, .int (x2 + 1)), (0, .ref x0), (1, .ref x1)]) hx hb dX3_copyFrom_66 hl (k := 2) rfl (by rfl) (by decide) rfl (fun ls hl => ?_)
        refine lv_goto (tgt := 46) hx hb dX3_copyFrom_69 (by decide) ?_
        exact ih46 (sA Sb b22 x2 t24) _ _ x0 x1 (x2 + 1) _ (lv_sub hl [1, 2, 0] rfl) hw hE v_x0 v_x1 hf
  have hB44 : ∀ (Sb : PS) (H1 : Heap) (lo1 : List Loc) (x0 : Nat) (x1 : Nat) (ls : Array Slot), lv_has ls 3 [(0, .ref x0), (1, .ref x1)] → Hw D cy (AA cy S n) s.heap Sb n H1 lo1 → EX S Sb → vd Sb x0 3 → vd Sb x1 3 → f_X3_copyFrom_B44 Sb x0 x1 = some res → W p l e (headSpec wsX3_copyFrom ({ frames := 1, cells := 0, slots := 0, locals := 21 } : Room)).room s m ([.ref y0, .ref y1] : List Value).toArray below meth c H1 lo1 0 0 (MQ below (va_Qv (fun (u : PS × Nat) => u = (res, n)) (BW D cy S n) (AA cy S n)) ([.ref y0, .ref y1] : List Value).toArray s 0 0 (AA cy S n)) (F0 m 44 ls []) := by
    intro Sb H1 lo1 x0 x1 ls hl hw hE v_x0 v_x1 hf
    unfold f_X3_copyFrom_B44 at hf
    refine lv_iconst (v := 0) hx hb dX3_copyFrom_44 (by decide) ?_
    refine lv_istore_n (lv' := [(2, .int 0), (0, .ref x0), (1, .ref x1)]) hx hb dX3_copyFrom_45 rfl hl (by decide) rfl (fun ls hl => ?_)
    exact hL46 FU Sb _ _ x0 x1 0 _ (lv_sub hl [1, 2, 0] rfl) hw hE v_x0 v_x1 hf
  have hL18 : ∀ (fu18 : Nat), ∀ (Sb : PS) (H1 : Heap) (lo1 : List Loc) (x0 : Nat) (x1 : Nat) (x2 : Int32) (ls : Array Slot), lv_has ls 3 [(0, .ref x0), (1, .ref x1), (2, .int x2)] → Hw D cy (AA cy S n) s.heap Sb n H1 lo1 → EX S Sb → vd Sb x0 3 → vd Sb x1 3 → f_X3_copyFrom_L18 f_X3_copyFrom_B44 fu18 Sb x0 x1 x2 = some res → W p l e (headSpec wsX3_copyFrom ({ frames := 1, cells := 0, slots := 0, locals := 21 } : Room)).room s m ([.ref y0, .ref y1] : List Value).toArray below meth c H1 lo1 0 0 (MQ below (va_Qv (fun (u : PS × Nat) => u = (res, n)) (BW D cy S n) (AA cy S n)) ([.ref y0, .ref y1] : List Value).toArray s 0 0 (AA cy S n)) (F0 m 18 ls []) := by
    intro fu18
    induction fu18 with
    | zero =>
      intro Sb H1 lo1 x0 x1 x2 ls hl hw hE v_x0 v_x1 hf
      have hf : (none : Option PS) = some res := hf
      cases hf
    | succ fu18 ih18 =>
      intro Sb H1 lo1 x0 x1 x2 ls hl hw hE v_x0 v_x1 hf
      have hf : f_X3_copyFrom_L18s (f_X3_copyFrom_L18 f_X3_copyFrom_B44 fu18) f_X3_copyFrom_B44 Sb x0 x1 x2 = some res := hf
      unfold f_X3_copyFrom_L18s at hf
      refine lv_iload_n hx hb dX3_copyFrom_18 rfl (lv_at hl 2 rfl) ?_
      refine lv_aload_n hx hb dX3_copyFrom_19 rfl (lv_at hl 0 rfl) ?_
      obtain ⟨b28, e29, v_b28, hf⟩ := rq_some hf
      refine q_get F hK hw.1 v_x0.1 (pF_3 (S := Sb) v_x0.2) (fun w h => List.mem_cons_of_mem _ (List.mem_append_right _ h)) rfl 1 (by decide) (hts (.fieldLink RX3 17 "SharedModuli$State" "conditions" "[LSharedModuli$Condition;") (List.mem_of_getElem? (i := 3) rfl)) (v := .ref b28) (congrArg (fun z => some (va_rf z)) e29) dX3_copyFrom_20 ?_
      refine q_alen7 F hK hw.1 v_b28 dX3_copyFrom_23 ?_
      refine lv_icmp_ge (tgt := 44) hx hb dX3_copyFrom_24 (by decide) (fun c30 => ?_) (fun c30 => ?_)
      · have hf := it_t c30 hf
        exact hB44 Sb _ _ x0 x1 _ (lv_sub hl [0, 1] rfl) hw hE v_x0 v_x1 hf
      · have hf := it_f c30 hf
        refine lv_aload_n hx hb dX3_copyFrom_27 rfl (lv_at hl 0 rfl) ?_
        obtain ⟨b31, e32, v_b31, hf⟩ := rq_some hf
        refine q_get F hK hw.1 v_x0.1 (pF_3 (S := Sb) v_x0.2) (fun w h => List.mem_cons_of_mem _ (List.mem_append_right _ h)) rfl 1 (by decide) (hts (.fieldLink RX3 17 "SharedModuli$State" "conditions" "[LSharedModuli$Condition;") (List.mem_of_getElem? (i := 3) rfl)) (v := .ref b31) (congrArg (fun z => some (va_rf z)) e32) dX3_copyFrom_28 ?_
        refine lv_iload_n hx hb dX3_copyFrom_31 rfl (lv_at hl 2 rfl) ?_
        refine lv_aload_n hx hb dX3_copyFrom_32 rfl (lv_at hl 1 rfl) ?_
        refine lv_iload_n hx hb dX3_copyFrom_33 rfl (lv_at hl 2 rfl) ?_
        obtain ⟨t33, h34, hf⟩ := bd_some hf
        refine va_csr (va_runV (As := [.int x2]) (rest := [.int x2, .ref b31]) F (c_X3_at l D cy (H := _) hw.1 v_x1 h34) (cwV 1 hts gX3_copyFrom_X3_at rfl rfl rfl ⟨rfl, ph_X3_at.1, ph_X3_at.2, pd_X3_at⟩ ⟨Nat.le_of_ble_eq_true rfl, Nat.le_of_ble_eq_true rfl⟩) ⟨PcR.bl, (q_rcv hK hw.1 v_x1.1 (pF_3 (S := Sb) v_x1.2) rfl), PcR.in hK⟩ rfl rfl hl.1 rfl (lv_room (Nat.le_of_ble_eq_true rfl)) dX3_copyFrom_34 ⟨Nat.zero_le _, Nat.zero_le _⟩).run (fun r35 er35 => ?_)
        obtain ⟨er35, v_t33⟩ := er35
        subst r35
        obtain ⟨c36, hf⟩ := ckd_some hf
        refine q_aast7 F hK hw v_b31 v_t33 c36 dX3_copyFrom_37 (fun H locs hw => ?_)
        refine lv_iinc (v := x2 + 1) (lv' := [(2, .int (x2 + 1)), (0, .ref x0), (1, .ref x1)]) hx hb dX3_copyFrom_38 hl (k := 2) rfl (by rfl) (by decide) rfl (fun ls hl => ?_)
        refine lv_goto (tgt := 18) hx hb dX3_copyFrom_41 (by decide) ?_
        exact ih18 (sQ Sb b31 x2 (some t33)) _ _ x0 x1 (x2 + 1) _ (lv_sub hl [1, 2, 0] rfl) hw hE v_x0 v_x1 hf
  have hl := lv_entry ([.ref y0, .ref y1]) (n := 3) (Nat.le_of_ble_eq_true rfl)
  rw [lg_entry_eq]
  generalize (lg_sl ([.ref y0, .ref y1]) ++ List.replicate (3 - (lg_sl ([.ref y0, .ref y1])).length) Slot.unset).toArray = ls at hl ⊢
  have hl : lv_has ls 3 [(0, .ref y0), (1, .ref y1)] := hl
  unfold f_X3_copyFrom at hf
  refine lv_aload_n hx hb dX3_copyFrom_0 rfl (lv_at hl 0 rfl) ?_
  refine lv_aload_n hx hb dX3_copyFrom_1 rfl (lv_at hl 1 rfl) ?_
  refine q_get F hK hw.1 v_y1.1 (pF_3 (S := S) v_y1.2) (fun w h => List.mem_cons_of_mem _ (List.mem_append_right _ h)) rfl 3 (by decide) (hts (.fieldLink RX3 25 "SharedModuli$State" "size" "I") (List.mem_of_getElem? (i := 1) rfl)) (v := .int (fI S 51 y1)) rfl dX3_copyFrom_2 ?_
  refine q_put F hK hw v_y0.1 (pF_3 (S := S) v_y0.2) (fun w h => List.mem_cons_of_mem _ (List.mem_append_right _ h)) tyX3 tyX3_ok nmX3 rfl 3 (by decide) (hts (.fieldLink RX3 25 "SharedModuli$State" "size" "I") (List.mem_of_getElem? (i := 1) rfl)) (Or.inl rfl) (tyX3_ok 3 (by decide)) rfl rfl (Nat.le_of_ble_eq_true rfl) (S1 := sI S 51 y0 (fI S 51 y1)) (st_51 (S := S) v_y0.2 (fI S 51 y1)) dX3_copyFrom_5 (fun H locs hw => ?_)
  refine lv_aload_n hx hb dX3_copyFrom_8 rfl (lv_at hl 0 rfl) ?_
  refine lv_aload_n hx hb dX3_copyFrom_9 rfl (lv_at hl 1 rfl) ?_
  refine q_get F hK hw.1 v_y1.1 (pF_3 (S := sI S 51 y0 (fI S 51 y1)) v_y1.2) (fun w h => List.mem_cons_of_mem _ (List.mem_append_right _ h)) rfl 4 (by decide) (hts (.fieldLink RX3 29 "SharedModuli$State" "on" "I") (List.mem_of_getElem? (i := 2) rfl)) (v := .int (fI (sI S 51 y0 (fI S 51 y1)) 52 y1)) rfl dX3_copyFrom_10 ?_
  refine q_put F hK hw v_y0.1 (pF_3 (S := sI S 51 y0 (fI S 51 y1)) v_y0.2) (fun w h => List.mem_cons_of_mem _ (List.mem_append_right _ h)) tyX3 tyX3_ok nmX3 rfl 4 (by decide) (hts (.fieldLink RX3 29 "SharedModuli$State" "on" "I") (List.mem_of_getElem? (i := 2) rfl)) (Or.inl rfl) (tyX3_ok 4 (by decide)) rfl rfl (Nat.le_of_ble_eq_true rfl) (S1 := sI (sI S 51 y0 (fI S 51 y1)) 52 y0 (fI (sI S 51 y0 (fI S 51 y1)) 52 y1)) (st_52 (S := sI S 51 y0 (fI S 51 y1)) v_y0.2 (fI (sI S 51 y0 (fI S 51 y1)) 52 y1)) dX3_copyFrom_13 (fun H locs hw => ?_)
  refine lv_iconst (v := 0) hx hb dX3_copyFrom_16 (by decide) ?_
  refine lv_istore_n (lv' := [(2, .int 0), (0, .ref y0), (1, .ref y1)]) hx hb dX3_copyFrom_17 rfl hl (by decide) rfl (fun ls hl => ?_)
  exact hL18 FU (sI (sI S 51 y0 (fI S 51 y1)) 52 y0 (fI (sI S 51 y0 (fI S 51 y1)) 52 y1)) _ _ y0 y1 0 _ (lv_sub hl [1, 2, 0] rfl) hw hE v_y0 v_y1 hf
def f_X3_has_B17 (S : PS) (s0 : Int32) : Option Int32 :=
  ck (decide (s0 &&& 1 = s0)) (
  some s0)
def f_X3_has_B16 (S : PS)  : Option Int32 :=
  f_X3_has_B17 S 0
def f_X3_has (S : PS) (x0 : Nat) (x1 : Int32) : Option Int32 :=
  if x1 < 0 then (f_X3_has_B16 S) else
  if (fI S 51 x0) ≤ x1 then (f_X3_has_B16 S) else
  f_X3_has_B17 S 1
set_option maxHeartbeats 4000000 in
set_option maxRecDepth 100000 in
theorem c_X3_has (l : Launch) (D : va_G) (cy : cyT) {H : Heap} {S : PS} (hP : va_P D vwCl (wl cy S) H) {y0 : Nat} {y1 : Int32} (v_y0 : vd S y0 3) {res : Int32} (hf : f_X3_has S y0 y1 = some res) : Met l yX3_has wsX3_has ({ frames := 0, cells := 0, slots := 0, locals := 0 } : Room) (PcR D cy H [.ref y0, .int y1]) (vp_Si (fun r => r = res)) 0 0 (fun _ => False) := by
  refine Met.ofW (cc := cX3_has) (maxL := 2) (ret := (some .boolean)) (by decide) rfl ?_
  intro p e s m args below meth c s₁ B hml hv
  obtain ⟨hav, hH, hK⟩ := hv
  have hx := B.exec
  have hb := B.bytes
  have hr := B.returns
  have hts := atoms_spec (ws := wsX3_has) B.pre
  have hown : s.vm.findClass RX3 = some m.cls := findClass_of_methodNamed B.named
  have hlocks := B.notSynchronized
  subst hav
  subst hH
  have F : CallFix p m c cX3_has 2 s _ wsX3_has RX3 := ⟨hx, hb, hml, hown, hts⟩
  have hB17 : ∀ (s0 : Int32) (ls : Array Slot), lv_has ls 2 [] → f_X3_has_B17 S s0 = some res → W p l e (headSpec wsX3_has ({ frames := 0, cells := 0, slots := 0, locals := 0 } : Room)).room s m ([.ref y0, .int y1] : List Value).toArray below meth c s.heap [] 0 0 (MQ below (vp_Si (fun r => r = res)) ([.ref y0, .int y1] : List Value).toArray s 0 0 (fun _ => False)) (F0 m 17 ls [.int s0]) := by
    intro s0 ls hl hf
    unfold f_X3_has_B17 at hf
    obtain ⟨c4, hf⟩ := ckd_some hf
    exact W.zret (v := s0) hx hb hr (nz c4) (fun t ht hW => ⟨_, rfl, Option.some.inj hf, ht⟩) (fun _ h => by cases h) dX3_has_17
  have hB16 : ∀  (ls : Array Slot), lv_has ls 2 [] → f_X3_has_B16 S = some res → W p l e (headSpec wsX3_has ({ frames := 0, cells := 0, slots := 0, locals := 0 } : Room)).room s m ([.ref y0, .int y1] : List Value).toArray below meth c s.heap [] 0 0 (MQ below (vp_Si (fun r => r = res)) ([.ref y0, .int y1] : List Value).toArray s 0 0 (fun _ => False)) (F0 m 16 ls []) := by
    intro ls hl hf
    unfold f_X3_has_B16 at hf
    refine lv_iconst (v := 0) hx hb dX3_has_16 (by decide) ?_
    exact hB17 0 _ (lv_sub hl [] rfl)  hf
  have hl := lv_entry ([.ref y0, .int y1]) (n := 2) (Nat.le_of_ble_eq_true rfl)
  rw [lg_entry_eq]
  generalize (lg_sl ([.ref y0, .int y1]) ++ List.replicate (2 - (lg_sl ([.ref y0, .int y1])).length) Slot.unset).toArray = ls at hl ⊢
  have hl : lv_has ls 2 [(0, .ref y0), (1, .int y1)] := hl
  unfold f_X3_has at hf
  refine lv_iload_n hx hb dX3_has_0 rfl (lv_at hl 1 rfl) ?_
  refine lv_if_lt (tgt := 16) hx hb dX3_has_1 (by decide) (fun c5 => ?_) (fun c5 => ?_)
  · have hf := it_t c5 hf
    exact hB16 _ (lv_sub hl [] rfl)  hf
  · have hf := it_f c5 hf
    refine lv_iload_n hx hb dX3_has_4 rfl (lv_at hl 1 rfl) ?_
    refine lv_aload_n hx hb dX3_has_5 rfl (lv_at hl 0 rfl) ?_
    refine q_get F hK hP v_y0.1 (pF_3 (S := S) v_y0.2) (fun w h => List.mem_cons_of_mem _ (List.mem_append_right _ h)) rfl 3 (by decide) (hts (.fieldLink RX3 25 "SharedModuli$State" "size" "I") (List.mem_of_getElem? (i := 1) rfl)) (v := .int (fI S 51 y0)) rfl dX3_has_6 ?_
    refine lv_icmp_ge (tgt := 16) hx hb dX3_has_9 (by decide) (fun c6 => ?_) (fun c6 => ?_)
    · have hf := it_t c6 hf
      exact hB16 _ (lv_sub hl [] rfl)  hf
    · have hf := it_f c6 hf
      refine lv_iconst (v := 1) hx hb dX3_has_12 (by decide) ?_
      refine lv_goto (tgt := 17) hx hb dX3_has_13 (by decide) ?_
      exact hB17 1 _ (lv_sub hl [] rfl)  hf
def f_X4_bit (x0 : Int32) : Option Int32 :=
  some ((1 : Int32) <<< (x0 &&& 31))
set_option maxHeartbeats 4000000 in
set_option maxRecDepth 100000 in
theorem c_X4_bit (l : Launch) (D : va_G) (cy : cyT) {H : Heap} {y0 : Int32}  {res : Int32} (hf : f_X4_bit y0 = some res) : Met l yX4_bit wsX4_bit ({ frames := 0, cells := 0, slots := 0, locals := 0 } : Room) (PcR D cy H [.int y0]) (vp_Si (fun r => r = res)) 0 0 (fun _ => False) := by
  refine Met.ofW (cc := cX4_bit) (maxL := 1) (ret := (some .int)) (by decide) rfl ?_
  intro p e s m args below meth c s₁ B hml hv
  obtain ⟨hav, hH, hK⟩ := hv
  have hx := B.exec
  have hb := B.bytes
  have hr := B.returns
  have hts := atoms_spec (ws := wsX4_bit) B.pre
  have hown : s.vm.findClass RX4 = some m.cls := findClass_of_methodNamed B.named
  have hlocks := B.notSynchronized
  subst hav
  subst hH
  have F : CallFix p m c cX4_bit 1 s _ wsX4_bit RX4 := ⟨hx, hb, hml, hown, hts⟩
  have hl := lv_entry ([.int y0]) (n := 1) (Nat.le_of_ble_eq_true rfl)
  rw [lg_entry_eq]
  generalize (lg_sl ([.int y0]) ++ List.replicate (1 - (lg_sl ([.int y0])).length) Slot.unset).toArray = ls at hl ⊢
  have hl : lv_has ls 1 [(0, .int y0)] := hl
  unfold f_X4_bit at hf
  refine lv_iconst (v := 1) hx hb dX4_bit_0 (by decide) ?_
  refine lv_iload_n hx hb dX4_bit_1 rfl (lv_at hl 0 rfl) ?_
  refine lv_ishl hx hb dX4_bit_2 ?_
  exact W.iret (v := ((1 : Int32) <<< (y0 &&& 31))) hx hb hr (fun t ht hW => ⟨_, rfl, Option.some.inj hf, ht⟩) (fun _ h => by cases h) dX4_bit_3
def f_X3_isOn_B25 (S : PS) (s0 : Int32) : Option Int32 :=
  ck (decide (s0 &&& 1 = s0)) (
  some s0)
def f_X3_isOn_B24 (S : PS)  : Option Int32 :=
  f_X3_isOn_B25 S 0
def f_X3_isOn (S : PS) (x0 : Nat) (x1 : Int32) : Option Int32 :=
  bd (f_X3_has S x0 x1) fun t2 =>
  if t2 = 0 then (f_X3_isOn_B24 S) else
  bd (f_X4_bit x1) fun t6 =>
  if ((fI S 52 x0) &&& t6) = 0 then (f_X3_isOn_B24 S) else
  f_X3_isOn_B25 S 1
set_option maxHeartbeats 4000000 in
set_option maxRecDepth 100000 in
theorem c_X3_isOn (l : Launch) (D : va_G) (cy : cyT) {H : Heap} {S : PS} (hP : va_P D vwCl (wl cy S) H) {y0 : Nat} {y1 : Int32} (v_y0 : vd S y0 3) {res : Int32} (hf : f_X3_isOn S y0 y1 = some res) : Met l yX3_isOn wsX3_isOn ({ frames := 1, cells := 0, slots := 0, locals := 21 } : Room) (PcR D cy H [.ref y0, .int y1]) (vp_Si (fun r => r = res)) 0 0 (fun _ => False) := by
  refine Met.ofW (cc := cX3_isOn) (maxL := 2) (ret := (some .boolean)) (by decide) rfl ?_
  intro p e s m args below meth c s₁ B hml hv
  obtain ⟨hav, hH, hK⟩ := hv
  have hx := B.exec
  have hb := B.bytes
  have hr := B.returns
  have hts := atoms_spec (ws := wsX3_isOn) B.pre
  have hown : s.vm.findClass RX3 = some m.cls := findClass_of_methodNamed B.named
  have hlocks := B.notSynchronized
  subst hav
  subst hH
  have F : CallFix p m c cX3_isOn 2 s _ wsX3_isOn RX3 := ⟨hx, hb, hml, hown, hts⟩
  have hB25 : ∀ (s0 : Int32) (ls : Array Slot), lv_has ls 2 [] → f_X3_isOn_B25 S s0 = some res → W p l e (headSpec wsX3_isOn ({ frames := 1, cells := 0, slots := 0, locals := 21 } : Room)).room s m ([.ref y0, .int y1] : List Value).toArray below meth c s.heap [] 0 0 (MQ below (vp_Si (fun r => r = res)) ([.ref y0, .int y1] : List Value).toArray s 0 0 (fun _ => False)) (F0 m 25 ls [.int s0]) := by
    intro s0 ls hl hf
    unfold f_X3_isOn_B25 at hf
    obtain ⟨c10, hf⟩ := ckd_some hf
    exact W.zret (v := s0) hx hb hr (nz c10) (fun t ht hW => ⟨_, rfl, Option.some.inj hf, ht⟩) (fun _ h => by cases h) dX3_isOn_25
  have hB24 : ∀  (ls : Array Slot), lv_has ls 2 [] → f_X3_isOn_B24 S = some res → W p l e (headSpec wsX3_isOn ({ frames := 1, cells := 0, slots := 0, locals := 21 } : Room)).room s m ([.ref y0, .int y1] : List Value).toArray below meth c s.heap [] 0 0 (MQ below (vp_Si (fun r => r = res)) ([.ref y0, .int y1] : List Value).toArray s 0 0 (fun _ => False)) (F0 m 24 ls []) := by
    intro ls hl hf
    unfold f_X3_isOn_B24 at hf
    refine lv_iconst (v := 0) hx hb dX3_isOn_24 (by decide) ?_
    exact hB25 0 _ (lv_sub hl [] rfl)  hf
  have hl := lv_entry ([.ref y0, .int y1]) (n := 2) (Nat.le_of_ble_eq_true rfl)
  rw [lg_entry_eq]
  generalize (lg_sl ([.ref y0, .int y1]) ++ List.replicate (2 - (lg_sl ([.ref y0, .int y1])).length) Slot.unset).toArray = ls at hl ⊢
  have hl : lv_has ls 2 [(0, .ref y0), (1, .int y1)] := hl
  unfold f_X3_isOn at hf
  refine lv_aload_n hx hb dX3_isOn_0 rfl (lv_at hl 0 rfl) ?_
  refine lv_iload_n hx hb dX3_isOn_1 rfl (lv_at hl 1 rfl) ?_
  obtain ⟨t11, h12, hf⟩ := bd_some hf
  refine vp_callSi (va_runV (As := [.int y1]) (rest := []) F (c_X3_has l D cy (H := _) hP v_y0 h12) (cwV 1 hts gX3_isOn_X3_has rfl rfl rfl ⟨rfl, ph_X3_has.1, ph_X3_has.2, pd_X3_has⟩ ⟨Nat.le_of_ble_eq_true rfl, Nat.le_of_ble_eq_true rfl⟩) ⟨PcR.bl, (q_rcv hK hP v_y0.1 (pF_3 (S := S) v_y0.2) rfl), PcR.in hK⟩ rfl rfl hl.1 rfl (lv_room (Nat.le_of_ble_eq_true rfl)) dX3_isOn_2 ⟨Nat.zero_le _, Nat.zero_le _⟩).run (fun r13 er13 => ?_)
  subst r13
  refine lv_if_eq (tgt := 24) hx hb dX3_isOn_5 (by decide) (fun c14 => ?_) (fun c14 => ?_)
  · have hf := it_t c14 hf
    exact hB24 _ (lv_sub hl [] rfl)  hf
  · have hf := it_f c14 hf
    refine lv_aload_n hx hb dX3_isOn_8 rfl (lv_at hl 0 rfl) ?_
    refine q_get F hK hP v_y0.1 (pF_3 (S := S) v_y0.2) (fun w h => List.mem_cons_of_mem _ (List.mem_append_right _ h)) rfl 4 (by decide) (hts (.fieldLink RX3 29 "SharedModuli$State" "on" "I") (List.mem_of_getElem? (i := 1) rfl)) (v := .int (fI S 52 y0)) rfl dX3_isOn_9 ?_
    refine lv_iload_n hx hb dX3_isOn_12 rfl (lv_at hl 1 rfl) ?_
    obtain ⟨t15, h16, hf⟩ := bd_some hf
    refine vp_callSi (va_runSN (As := [.int y1]) (rest := [.int (fI S 52 y0)]) F (c_X4_bit l D cy (H := _)  h16) ⟨(va_cnB 1 hts gX3_isOn_X4_bit_n44 rfl rfl rfl (nk_m_RX3_44 hK.2.1) (hts (.initialized RX4) (List.mem_of_getElem? (i := 9) rfl)) ⟨ph_X4_bit.1, ph_X4_bit.2, pd_X4_bit⟩ ⟨Nat.le_of_ble_eq_true rfl, Nat.le_of_ble_eq_true rfl⟩), (hts (.static yX4_bit) (List.mem_of_getElem? (i := 8) rfl)), trivial⟩ ⟨PcR.bl, PcR.in hK⟩ rfl rfl hl.1 rfl (lv_room (Nat.le_of_ble_eq_true rfl)) dX3_isOn_13 ⟨Nat.zero_le _, Nat.zero_le _⟩).run (fun r17 er17 => ?_)
    subst r17
    refine lv_iand hx hb dX3_isOn_16 ?_
    refine lv_if_eq (tgt := 24) hx hb dX3_isOn_17 (by decide) (fun c18 => ?_) (fun c18 => ?_)
    · have hf := it_t c18 hf
      exact hB24 _ (lv_sub hl [] rfl)  hf
    · have hf := it_f c18 hf
      refine lv_iconst (v := 1) hx hb dX3_isOn_20 (by decide) ?_
      refine lv_goto (tgt := 25) hx hb dX3_isOn_21 (by decide) ?_
      exact hB25 1 _ (lv_sub hl [] rfl)  hf
def f_X3_partnersOf_B37 (S : PS) (x2 : Int32) : Option Int32 :=
  some x2
def f_X3_partnersOf_B31 (S : PS) (kL4 : Nat → Nat → Int32 → Int32 → Option Int32) (ke37 : Int32 → Option Int32) (x0 : Nat) (x1 : Nat) (x2 : Int32) (x3 : Int32) : Option Int32 :=
  kL4 x0 x1 x2 (x3 + 1)
def f_X3_partnersOf_L4s (S : PS) (kL4 : Nat → Nat → Int32 → Int32 → Option Int32) (ke37 : Int32 → Option Int32) (x0 : Nat) (x1 : Nat) (x2 : Int32) (x3 : Int32) : Option Int32 :=
  if (fI S 51 x0) ≤ x3 then (ke37 x2) else
  bd (f_X3_at S x0 x3) fun t2 =>
  bd (f_X0_isPartnerOf S x1 t2) fun t5 =>
  if t5 = 0 then (f_X3_partnersOf_B31 S kL4 ke37 x0 x1 x2 x3) else
  bd (f_X4_bit x3) fun t9 =>
  f_X3_partnersOf_B31 S kL4 ke37 x0 x1 (x2 ||| t9) x3
def f_X3_partnersOf_L4 (S : PS) (ke37 : Int32 → Option Int32) (fu : Nat) : Nat → Nat → Int32 → Int32 → Option Int32 := fx (fun kL => f_X3_partnersOf_L4s S kL ke37) (fun _ _ _ _ => none) fu
def f_X3_partnersOf (S : PS) (x0 : Nat) (x1 : Nat) : Option Int32 :=
  f_X3_partnersOf_L4 S (f_X3_partnersOf_B37 S) FU x0 x1 0 0
set_option maxHeartbeats 4000000 in
set_option maxRecDepth 100000 in
theorem c_X3_partnersOf (l : Launch) (D : va_G) (cy : cyT) {H : Heap} {S : PS} (hP : va_P D vwCl (wl cy S) H) {y0 : Nat} {y1 : Nat} (v_y0 : vd S y0 3) (v_y1 : vd S y1 0) {res : Int32} (hf : f_X3_partnersOf S y0 y1 = some res) : Met l yX3_partnersOf wsX3_partnersOf ({ frames := 2, cells := 0, slots := 0, locals := 53 } : Room) (PcR D cy H [.ref y0, .ref y1]) (vp_Si (fun r => r = res)) 0 0 (fun _ => False) := by
  refine Met.ofW (cc := cX3_partnersOf) (maxL := 4) (ret := (some .int)) (by decide) rfl ?_
  intro p e s m args below meth c s₁ B hml hv
  obtain ⟨hav, hH, hK⟩ := hv
  have hx := B.exec
  have hb := B.bytes
  have hr := B.returns
  have hts := atoms_spec (ws := wsX3_partnersOf) B.pre
  have hown : s.vm.findClass RX3 = some m.cls := findClass_of_methodNamed B.named
  have hlocks := B.notSynchronized
  subst hav
  subst hH
  have F : CallFix p m c cX3_partnersOf 4 s _ wsX3_partnersOf RX3 := ⟨hx, hb, hml, hown, hts⟩
  have hB37 : ∀ (x2 : Int32) (ls : Array Slot), lv_has ls 4 [(2, .int x2)] → f_X3_partnersOf_B37 S x2 = some res → W p l e (headSpec wsX3_partnersOf ({ frames := 2, cells := 0, slots := 0, locals := 53 } : Room)).room s m ([.ref y0, .ref y1] : List Value).toArray below meth c s.heap [] 0 0 (MQ below (vp_Si (fun r => r = res)) ([.ref y0, .ref y1] : List Value).toArray s 0 0 (fun _ => False)) (F0 m 37 ls []) := by
    intro x2 ls hl hf
    unfold f_X3_partnersOf_B37 at hf
    refine lv_iload_n hx hb dX3_partnersOf_37 rfl (lv_at hl 0 rfl) ?_
    exact W.iret (v := x2) hx hb hr (fun t ht hW => ⟨_, rfl, Option.some.inj hf, ht⟩) (fun _ h => by cases h) dX3_partnersOf_38
  have hL4 : ∀ (fu4 : Nat), ∀ (x0 : Nat) (x1 : Nat) (x2 : Int32) (x3 : Int32) (ls : Array Slot), lv_has ls 4 [(0, .ref x0), (1, .ref x1), (2, .int x2), (3, .int x3)] → vd S x0 3 → vd S x1 0 → f_X3_partnersOf_L4 S (f_X3_partnersOf_B37 S) fu4 x0 x1 x2 x3 = some res → W p l e (headSpec wsX3_partnersOf ({ frames := 2, cells := 0, slots := 0, locals := 53 } : Room)).room s m ([.ref y0, .ref y1] : List Value).toArray below meth c s.heap [] 0 0 (MQ below (vp_Si (fun r => r = res)) ([.ref y0, .ref y1] : List Value).toArray s 0 0 (fun _ => False)) (F0 m 4 ls []) := by
    intro fu4
    induction fu4 with
    | zero =>
      intro x0 x1 x2 x3 ls hl v_x0 v_x1 hf
      have hf : (none : Option Int32) = some res := hf
      cases hf
    | succ fu4 ih4 =>
      have hB31 : ∀ (x0 : Nat) (x1 : Nat) (x2 : Int32) (x3 : Int32) (ls : Array Slot), lv_has ls 4 [(0, .ref x0), (1, .ref x1), (2, .int x2), (3, .int x3)] → vd S x0 3 → vd S x1 0 → f_X3_partnersOf_B31 S (f_X3_partnersOf_L4 S (f_X3_partnersOf_B37 S) fu4) (f_X3_partnersOf_B37 S) x0 x1 x2 x3 = some res → W p l e (headSpec wsX3_partnersOf ({ frames := 2, cells := 0, slots := 0, locals := 53 } : Room)).room s m ([.ref y0, .ref y1] : List Value).toArray below meth c s.heap [] 0 0 (MQ below (vp_Si (fun r => r = res)) ([.ref y0, .ref y1] : List Value).toArray s 0 0 (fun _ => False)) (F0 m 31 ls []) := by
        intro x0 x1 x2 x3 ls hl v_x0 v_x1 hf
        unfold f_X3_partnersOf_B31 at hf
        refine lv_iinc (v := x3 + 1) (lv' := [(3, .int (x3 + 1)), (0, .ref x0), (1, .ref x1), (2, .int x2)]) hx hb dX3_partnersOf_31 hl (k := 3) rfl (by rfl) (by decide) rfl (fun ls hl => ?_)
        refine lv_goto (tgt := 4) hx hb dX3_partnersOf_34 (by decide) ?_
        exact ih4 x0 x1 x2 (x3 + 1) _ (lv_sub hl [1, 2, 3, 0] rfl) v_x0 v_x1 hf
      intro x0 x1 x2 x3 ls hl v_x0 v_x1 hf
      have hf : f_X3_partnersOf_L4s S (f_X3_partnersOf_L4 S (f_X3_partnersOf_B37 S) fu4) (f_X3_partnersOf_B37 S) x0 x1 x2 x3 = some res := hf
      unfold f_X3_partnersOf_L4s at hf
      refine lv_iload_n hx hb dX3_partnersOf_4 rfl (lv_at hl 3 rfl) ?_
      refine lv_aload_n hx hb dX3_partnersOf_5 rfl (lv_at hl 0 rfl) ?_
      refine q_get F hK hP v_x0.1 (pF_3 (S := S) v_x0.2) (fun w h => List.mem_cons_of_mem _ (List.mem_append_left _ (List.mem_append_right _ h))) rfl 3 (by decide) (hts (.fieldLink RX3 25 "SharedModuli$State" "size" "I") (List.mem_of_getElem? (i := 1) rfl)) (v := .int (fI S 51 x0)) rfl dX3_partnersOf_6 ?_
      refine lv_icmp_ge (tgt := 37) hx hb dX3_partnersOf_9 (by decide) (fun c12 => ?_) (fun c12 => ?_)
      · have hf := it_t c12 hf
        exact hB37 x2 _ (lv_sub hl [2] rfl)  hf
      · have hf := it_f c12 hf
        refine lv_aload_n hx hb dX3_partnersOf_12 rfl (lv_at hl 1 rfl) ?_
        refine lv_aload_n hx hb dX3_partnersOf_13 rfl (lv_at hl 0 rfl) ?_
        refine lv_iload_n hx hb dX3_partnersOf_14 rfl (lv_at hl 3 rfl) ?_
        obtain ⟨t13, h14, hf⟩ := bd_some hf
        refine va_csr (va_runV (As := [.int x3]) (rest := [.ref x1]) F (c_X3_at l D cy (H := _) hP v_x0 h14) (cwV 1 hts gX3_partnersOf_X3_at rfl rfl rfl ⟨rfl, ph_X3_at.1, ph_X3_at.2, pd_X3_at⟩ ⟨Nat.le_of_ble_eq_true rfl, Nat.le_of_ble_eq_true rfl⟩) ⟨PcR.bl, (q_rcv hK hP v_x0.1 (pF_3 (S := S) v_x0.2) rfl), PcR.in hK⟩ rfl rfl hl.1 rfl (lv_room (Nat.le_of_ble_eq_true rfl)) dX3_partnersOf_15 ⟨Nat.zero_le _, Nat.zero_le _⟩).run (fun r15 er15 => ?_)
        obtain ⟨er15, v_t13⟩ := er15
        subst r15
        obtain ⟨t16, h17, hf⟩ := bd_some hf
        refine vp_callSi (va_runV (As := [.ref t13]) (rest := []) F (c_X0_isPartnerOf l D cy (H := _) hP v_x1 v_t13 h17) (cwV 1 hts gX3_partnersOf_X0_isPartnerOf rfl rfl rfl ⟨rfl, ph_X0_isPartnerOf.1, ph_X0_isPartnerOf.2, pd_X0_isPartnerOf⟩ ⟨Nat.le_of_ble_eq_true rfl, Nat.le_of_ble_eq_true rfl⟩) ⟨PcR.bl, (q_rcv hK hP v_x1.1 (pF_0 (S := S) v_x1.2) rfl), PcR.in hK⟩ rfl rfl hl.1 rfl (lv_room (Nat.le_of_ble_eq_true rfl)) dX3_partnersOf_18 ⟨Nat.zero_le _, Nat.zero_le _⟩).run (fun r18 er18 => ?_)
        subst r18
        refine lv_if_eq (tgt := 31) hx hb dX3_partnersOf_21 (by decide) (fun c19 => ?_) (fun c19 => ?_)
        · have hf := it_t c19 hf
          exact hB31 x0 x1 x2 x3 _ (lv_sub hl [0, 1, 2, 3] rfl) v_x0 v_x1 hf
        · have hf := it_f c19 hf
          refine lv_iload_n hx hb dX3_partnersOf_24 rfl (lv_at hl 2 rfl) ?_
          refine lv_iload_n hx hb dX3_partnersOf_25 rfl (lv_at hl 3 rfl) ?_
          obtain ⟨t20, h21, hf⟩ := bd_some hf
          refine vp_callSi (va_runSN (As := [.int x3]) (rest := [.int x2]) F (c_X4_bit l D cy (H := _)  h21) ⟨(va_cnB 1 hts gX3_partnersOf_X4_bit_n44 rfl rfl rfl (nk_m_RX3_44 hK.2.1) (hts (.initialized RX4) (List.mem_of_getElem? (i := 21) rfl)) ⟨ph_X4_bit.1, ph_X4_bit.2, pd_X4_bit⟩ ⟨Nat.le_of_ble_eq_true rfl, Nat.le_of_ble_eq_true rfl⟩), (hts (.static yX4_bit) (List.mem_of_getElem? (i := 25) rfl)), trivial⟩ ⟨PcR.bl, PcR.in hK⟩ rfl rfl hl.1 rfl (lv_room (Nat.le_of_ble_eq_true rfl)) dX3_partnersOf_26 ⟨Nat.zero_le _, Nat.zero_le _⟩).run (fun r22 er22 => ?_)
          subst r22
          refine lv_ior hx hb dX3_partnersOf_29 ?_
          refine lv_istore_n (lv' := [(2, .int (x2 ||| t20)), (0, .ref x0), (1, .ref x1), (3, .int x3)]) hx hb dX3_partnersOf_30 rfl hl (by decide) rfl (fun ls hl => ?_)
          exact hB31 x0 x1 (x2 ||| t20) x3 _ (lv_sub hl [1, 2, 0, 3] rfl) v_x0 v_x1 hf
  have hl := lv_entry ([.ref y0, .ref y1]) (n := 4) (Nat.le_of_ble_eq_true rfl)
  rw [lg_entry_eq]
  generalize (lg_sl ([.ref y0, .ref y1]) ++ List.replicate (4 - (lg_sl ([.ref y0, .ref y1])).length) Slot.unset).toArray = ls at hl ⊢
  have hl : lv_has ls 4 [(0, .ref y0), (1, .ref y1)] := hl
  unfold f_X3_partnersOf at hf
  refine lv_iconst (v := 0) hx hb dX3_partnersOf_0 (by decide) ?_
  refine lv_istore_n (lv' := [(2, .int 0), (0, .ref y0), (1, .ref y1)]) hx hb dX3_partnersOf_1 rfl hl (by decide) rfl (fun ls hl => ?_)
  refine lv_iconst (v := 0) hx hb dX3_partnersOf_2 (by decide) ?_
  refine lv_istore_n (lv' := [(3, .int 0), (2, .int 0), (0, .ref y0), (1, .ref y1)]) hx hb dX3_partnersOf_3 rfl hl (by decide) rfl (fun ls hl => ?_)
  exact hL4 FU y0 y1 0 0 _ (lv_sub hl [2, 3, 1, 0] rfl) v_y0 v_y1 hf
def f_X3_replace_B20 (S : PS) : Option PS :=
  some (S)
def f_X3_replace (S : PS) (x0 : Nat) (x1 : Int32) (x2 : Nat) : Option PS :=
  if x1 < 0 then (f_X3_replace_B20 S) else
  rq (fR S 49 x0) S 7 fun b2 =>
  if (nI (aN S b2)) ≤ x1 then (f_X3_replace_B20 S) else
  rq (fR S 49 x0) S 7 fun b5 =>
  ck (decide (¬ (x1 < 0 ∨ aN S b5 ≤ x1.toNatClampNeg))) (
  f_X3_replace_B20 (sQ S b5 x1 (some x2)))
set_option maxHeartbeats 4000000 in
set_option maxRecDepth 100000 in
theorem c_X3_replace (l : Launch) (D : va_G) (cy : cyT) {S : PS} {n : Nat} {y0 : Nat} {y1 : Int32} {y2 : Nat} (v_y0 : vd S y0 3) (v_y2 : vd S y2 0) {res : PS} (hf : f_X3_replace S y0 y1 y2 = some res) : Met l yX3_replace wsX3_replace ({ frames := 0, cells := 0, slots := 0, locals := 0 } : Room) (PcW False D cy S n [.ref y0, .int y1, .ref y2]) (va_Qv (fun (u : PS × Nat) => u = (res, n)) (BW D cy S n) (AA cy S n)) 0 0 (AA cy S n) := by
  refine Met.ofW (cc := cX3_replace) (maxL := 3) (ret := none) (by decide) rfl ?_
  intro p e s m args below meth c s₁ B hml hv
  obtain ⟨hav, hsz, hP0, hD0, hK, hZ0⟩ := hv
  have hx := B.exec
  have hb := B.bytes
  have hr := B.returns
  have hts := atoms_spec (ws := wsX3_replace) B.pre
  have hown : s.vm.findClass RX3 = some m.cls := findClass_of_methodNamed B.named
  have hlocks := B.notSynchronized
  subst hav
  have hw : Hw D cy (AA cy S n) s.heap S n s.heap [] := Hw.start hsz hP0 hD0
  have hA : ∀ q, s.heap.size ≤ q → AA cy S n q := fun q h => Or.inr (hsz ▸ h)
  have hE : EX S S := EX.rf
  have F : CallFix p m c cX3_replace 3 s _ wsX3_replace RX3 := ⟨hx, hb, hml, hown, hts⟩
  have hB20 : ∀ (Sb : PS) (H1 : Heap) (lo1 : List Loc)  (ls : Array Slot), lv_has ls 3 [] → Hw D cy (AA cy S n) s.heap Sb n H1 lo1 → EX S Sb → f_X3_replace_B20 Sb = some res → W p l e (headSpec wsX3_replace ({ frames := 0, cells := 0, slots := 0, locals := 0 } : Room)).room s m ([.ref y0, .int y1, .ref y2] : List Value).toArray below meth c H1 lo1 0 0 (MQ below (va_Qv (fun (u : PS × Nat) => u = (res, n)) (BW D cy S n) (AA cy S n)) ([.ref y0, .int y1, .ref y2] : List Value).toArray s 0 0 (AA cy S n)) (F0 m 20 ls []) := by
    intro Sb H1 lo1 ls hl hw hE hf
    unfold f_X3_replace_B20 at hf
    exact W.vret hx hb hr (fun t ht hW => ⟨⟨(Sb, n), rfl, po1 hf, BW.of hw hE ht⟩, hw.2.2.1.F ht⟩) hw.2.2.1.2.2 dX3_replace_20
  have hl := lv_entry ([.ref y0, .int y1, .ref y2]) (n := 3) (Nat.le_of_ble_eq_true rfl)
  rw [lg_entry_eq]
  generalize (lg_sl ([.ref y0, .int y1, .ref y2]) ++ List.replicate (3 - (lg_sl ([.ref y0, .int y1, .ref y2])).length) Slot.unset).toArray = ls at hl ⊢
  have hl : lv_has ls 3 [(0, .ref y0), (1, .int y1), (2, .ref y2)] := hl
  unfold f_X3_replace at hf
  refine lv_iload_n hx hb dX3_replace_0 rfl (lv_at hl 1 rfl) ?_
  refine lv_if_lt (tgt := 20) hx hb dX3_replace_1 (by decide) (fun c8 => ?_) (fun c8 => ?_)
  · have hf := it_t c8 hf
    exact hB20 S _ _ _ (lv_sub hl [] rfl) hw hE  hf
  · have hf := it_f c8 hf
    refine lv_iload_n hx hb dX3_replace_4 rfl (lv_at hl 1 rfl) ?_
    refine lv_aload_n hx hb dX3_replace_5 rfl (lv_at hl 0 rfl) ?_
    obtain ⟨b9, e10, v_b9, hf⟩ := rq_some hf
    refine q_get F hK hw.1 v_y0.1 (pF_3 (S := S) v_y0.2) (fun w h => List.mem_cons_of_mem _ (List.mem_append_right _ h)) rfl 1 (by decide) (hts (.fieldLink RX3 17 "SharedModuli$State" "conditions" "[LSharedModuli$Condition;") (List.mem_of_getElem? (i := 1) rfl)) (v := .ref b9) (congrArg (fun z => some (va_rf z)) e10) dX3_replace_6 ?_
    refine q_alen7 F hK hw.1 v_b9 dX3_replace_9 ?_
    refine lv_icmp_ge (tgt := 20) hx hb dX3_replace_10 (by decide) (fun c11 => ?_) (fun c11 => ?_)
    · have hf := it_t c11 hf
      exact hB20 S _ _ _ (lv_sub hl [] rfl) hw hE  hf
    · have hf := it_f c11 hf
      refine lv_aload_n hx hb dX3_replace_13 rfl (lv_at hl 0 rfl) ?_
      obtain ⟨b12, e13, v_b12, hf⟩ := rq_some hf
      refine q_get F hK hw.1 v_y0.1 (pF_3 (S := S) v_y0.2) (fun w h => List.mem_cons_of_mem _ (List.mem_append_right _ h)) rfl 1 (by decide) (hts (.fieldLink RX3 17 "SharedModuli$State" "conditions" "[LSharedModuli$Condition;") (List.mem_of_getElem? (i := 1) rfl)) (v := .ref b12) (congrArg (fun z => some (va_rf z)) e13) dX3_replace_14 ?_
      refine lv_iload_n hx hb dX3_replace_17 rfl (lv_at hl 1 rfl) ?_
      refine lv_aload_n hx hb dX3_replace_18 rfl (lv_at hl 2 rfl) ?_
      obtain ⟨c14, hf⟩ := ckd_some hf
      refine q_aast7 F hK hw v_b12 v_y2 c14 dX3_replace_19 (fun H locs hw => ?_)
      exact hB20 (sQ S b12 y1 (some y2)) _ _ _ (lv_sub hl [] rfl) hw hE  hf
def f_X3_findPartners_B44 (S : PS) : Option PS :=
  some (S)
def f_X3_findPartners_B37 (kL2 : PS → Nat → Int32 → Option PS) (ke44 : PS → Option PS) (S : PS) (x0 : Nat) (x1 : Int32) (s0 : Nat) (s1 : Int32) (s2 : Int32) : Option PS :=
  ck (decide (¬ (s1 < 0 ∨ aN S s0 ≤ s1.toNatClampNeg))) (
  kL2 (sA S s0 s1 s2) x0 (x1 + 1))
def f_X3_findPartners_L2s (kL2 : PS → Nat → Int32 → Option PS) (ke44 : PS → Option PS) (S : PS) (x0 : Nat) (x1 : Int32) : Option PS :=
  rq (fR S 50 x0) S 6 fun b2 =>
  if (nI (aN S b2)) ≤ x1 then (ke44 S) else
  rq (fR S 50 x0) S 6 fun b5 =>
  if (fI S 51 x0) ≤ x1 then (f_X3_findPartners_B37 kL2 ke44 S x0 x1 b5 x1 0) else
  bd (f_X3_at S x0 x1) fun t8 =>
  bd (f_X3_partnersOf S x0 t8) fun t11 =>
  f_X3_findPartners_B37 kL2 ke44 S x0 x1 b5 x1 t11
def f_X3_findPartners_L2 (ke44 : PS → Option PS) (fu : Nat) : PS → Nat → Int32 → Option PS := fx (fun kL => f_X3_findPartners_L2s kL ke44) (fun _ _ _ => none) fu
def f_X3_findPartners (S : PS) (x0 : Nat) : Option PS :=
  f_X3_findPartners_L2 f_X3_findPartners_B44 FU S x0 0
set_option maxHeartbeats 4000000 in
set_option maxRecDepth 100000 in
theorem c_X3_findPartners (l : Launch) (D : va_G) (cy : cyT) {S : PS} {n : Nat} {y0 : Nat} (v_y0 : vd S y0 3) {res : PS} (hf : f_X3_findPartners S y0 = some res) : Met l yX3_findPartners wsX3_findPartners ({ frames := 3, cells := 0, slots := 0, locals := 76 } : Room) (PcW False D cy S n [.ref y0]) (va_Qv (fun (u : PS × Nat) => u = (res, n)) (BW D cy S n) (AA cy S n)) 0 0 (AA cy S n) := by
  refine Met.ofW (cc := cX3_findPartners) (maxL := 2) (ret := none) (by decide) rfl ?_
  intro p e s m args below meth c s₁ B hml hv
  obtain ⟨hav, hsz, hP0, hD0, hK, hZ0⟩ := hv
  have hx := B.exec
  have hb := B.bytes
  have hr := B.returns
  have hts := atoms_spec (ws := wsX3_findPartners) B.pre
  have hown : s.vm.findClass RX3 = some m.cls := findClass_of_methodNamed B.named
  have hlocks := B.notSynchronized
  subst hav
  have hw : Hw D cy (AA cy S n) s.heap S n s.heap [] := Hw.start hsz hP0 hD0
  have hA : ∀ q, s.heap.size ≤ q → AA cy S n q := fun q h => Or.inr (hsz ▸ h)
  have hE : EX S S := EX.rf
  have F : CallFix p m c cX3_findPartners 2 s _ wsX3_findPartners RX3 := ⟨hx, hb, hml, hown, hts⟩
  have hB44 : ∀ (Sb : PS) (H1 : Heap) (lo1 : List Loc)  (ls : Array Slot), lv_has ls 2 [] → Hw D cy (AA cy S n) s.heap Sb n H1 lo1 → EX S Sb → f_X3_findPartners_B44 Sb = some res → W p l e (headSpec wsX3_findPartners ({ frames := 3, cells := 0, slots := 0, locals := 76 } : Room)).room s m ([.ref y0] : List Value).toArray below meth c H1 lo1 0 0 (MQ below (va_Qv (fun (u : PS × Nat) => u = (res, n)) (BW D cy S n) (AA cy S n)) ([.ref y0] : List Value).toArray s 0 0 (AA cy S n)) (F0 m 44 ls []) := by
    intro Sb H1 lo1 ls hl hw hE hf
    unfold f_X3_findPartners_B44 at hf
    exact W.vret hx hb hr (fun t ht hW => ⟨⟨(Sb, n), rfl, po1 hf, BW.of hw hE ht⟩, hw.2.2.1.F ht⟩) hw.2.2.1.2.2 dX3_findPartners_44
  have hL2 : ∀ (fu2 : Nat), ∀ (Sb : PS) (H1 : Heap) (lo1 : List Loc) (x0 : Nat) (x1 : Int32) (ls : Array Slot), lv_has ls 2 [(0, .ref x0), (1, .int x1)] → Hw D cy (AA cy S n) s.heap Sb n H1 lo1 → EX S Sb → vd Sb x0 3 → f_X3_findPartners_L2 f_X3_findPartners_B44 fu2 Sb x0 x1 = some res → W p l e (headSpec wsX3_findPartners ({ frames := 3, cells := 0, slots := 0, locals := 76 } : Room)).room s m ([.ref y0] : List Value).toArray below meth c H1 lo1 0 0 (MQ below (va_Qv (fun (u : PS × Nat) => u = (res, n)) (BW D cy S n) (AA cy S n)) ([.ref y0] : List Value).toArray s 0 0 (AA cy S n)) (F0 m 2 ls []) := by
    intro fu2
    induction fu2 with
    | zero =>
      intro Sb H1 lo1 x0 x1 ls hl hw hE v_x0 hf
      have hf : (none : Option PS) = some res := hf
      cases hf
    | succ fu2 ih2 =>
      have hB37 : ∀ (Sb : PS) (H1 : Heap) (lo1 : List Loc) (x0 : Nat) (x1 : Int32) (s0 : Nat) (s1 : Int32) (s2 : Int32) (ls : Array Slot), lv_has ls 2 [(0, .ref x0), (1, .int x1)] → Hw D cy (AA cy S n) s.heap Sb n H1 lo1 → EX S Sb → vd Sb x0 3 → vd Sb s0 6 → f_X3_findPartners_B37 (f_X3_findPartners_L2 f_X3_findPartners_B44 fu2) f_X3_findPartners_B44 Sb x0 x1 s0 s1 s2 = some res → W p l e (headSpec wsX3_findPartners ({ frames := 3, cells := 0, slots := 0, locals := 76 } : Room)).room s m ([.ref y0] : List Value).toArray below meth c H1 lo1 0 0 (MQ below (va_Qv (fun (u : PS × Nat) => u = (res, n)) (BW D cy S n) (AA cy S n)) ([.ref y0] : List Value).toArray s 0 0 (AA cy S n)) (F0 m 37 ls [.int s2, .int s1, .ref s0]) := by
        intro Sb H1 lo1 x0 x1 s0 s1 s2 ls hl hw hE v_x0 v_s0 hf
        unfold f_X3_findPartners_B37 at hf
        obtain ⟨c14, hf⟩ := ckd_some hf
        refine q_iast F hK hw v_s0 c14 dX3_findPartners_37 (fun H locs hw => ?_)
        refine lv_iinc (v := x1 + 1) (lv' := [(1, .int (x1 + 1)), (0, .ref x0)]) hx hb dX3_findPartners_38 hl (k := 1) rfl (by rfl) (by decide) rfl (fun ls hl => ?_)
        refine lv_goto (tgt := 2) hx hb dX3_findPartners_41 (by decide) ?_
        exact ih2 (sA Sb s0 s1 s2) _ _ x0 (x1 + 1) _ (lv_sub hl [1, 0] rfl) hw hE v_x0 hf
      intro Sb H1 lo1 x0 x1 ls hl hw hE v_x0 hf
      have hf : f_X3_findPartners_L2s (f_X3_findPartners_L2 f_X3_findPartners_B44 fu2) f_X3_findPartners_B44 Sb x0 x1 = some res := hf
      unfold f_X3_findPartners_L2s at hf
      refine lv_iload_n hx hb dX3_findPartners_2 rfl (lv_at hl 1 rfl) ?_
      refine lv_aload_n hx hb dX3_findPartners_3 rfl (lv_at hl 0 rfl) ?_
      obtain ⟨b15, e16, v_b15, hf⟩ := rq_some hf
      refine q_get F hK hw.1 v_x0.1 (pF_3 (S := Sb) v_x0.2) (fun w h => List.mem_cons_of_mem _ (List.mem_append_left _ (List.mem_append_right _ h))) rfl 2 (by decide) (hts (.fieldLink RX3 21 "SharedModuli$State" "partners" "[I") (List.mem_of_getElem? (i := 1) rfl)) (v := .ref b15) (congrArg (fun z => some (va_rf z)) e16) dX3_findPartners_4 ?_
      refine q_alen6 F hK hw.1 v_b15 dX3_findPartners_7 ?_
      refine lv_icmp_ge (tgt := 44) hx hb dX3_findPartners_8 (by decide) (fun c17 => ?_) (fun c17 => ?_)
      · have hf := it_t c17 hf
        exact hB44 Sb _ _ _ (lv_sub hl [] rfl) hw hE  hf
      · have hf := it_f c17 hf
        refine lv_aload_n hx hb dX3_findPartners_11 rfl (lv_at hl 0 rfl) ?_
        obtain ⟨b18, e19, v_b18, hf⟩ := rq_some hf
        refine q_get F hK hw.1 v_x0.1 (pF_3 (S := Sb) v_x0.2) (fun w h => List.mem_cons_of_mem _ (List.mem_append_left _ (List.mem_append_right _ h))) rfl 2 (by decide) (hts (.fieldLink RX3 21 "SharedModuli$State" "partners" "[I") (List.mem_of_getElem? (i := 1) rfl)) (v := .ref b18) (congrArg (fun z => some (va_rf z)) e19) dX3_findPartners_12 ?_
        refine lv_iload_n hx hb dX3_findPartners_15 rfl (lv_at hl 1 rfl) ?_
        refine lv_iload_n hx hb dX3_findPartners_16 rfl (lv_at hl 1 rfl) ?_
        refine lv_aload_n hx hb dX3_findPartners_17 rfl (lv_at hl 0 rfl) ?_
        refine q_get F hK hw.1 v_x0.1 (pF_3 (S := Sb) v_x0.2) (fun w h => List.mem_cons_of_mem _ (List.mem_append_left _ (List.mem_append_right _ h))) rfl 3 (by decide) (hts (.fieldLink RX3 25 "SharedModuli$State" "size" "I") (List.mem_of_getElem? (i := 2) rfl)) (v := .int (fI Sb 51 x0)) rfl dX3_findPartners_18 ?_
        refine lv_icmp_ge (tgt := 36) hx hb dX3_findPartners_21 (by decide) (fun c20 => ?_) (fun c20 => ?_)
        · have hf := it_t c20 hf
          refine lv_iconst (v := 0) hx hb dX3_findPartners_36 (by decide) ?_
          exact hB37 Sb _ _ x0 x1 b18 x1 0 _ (lv_sub hl [0, 1] rfl) hw hE v_x0 v_b18 hf
        · have hf := it_f c20 hf
          refine lv_aload_n hx hb dX3_findPartners_24 rfl (lv_at hl 0 rfl) ?_
          refine lv_aload_n hx hb dX3_findPartners_25 rfl (lv_at hl 0 rfl) ?_
          refine lv_iload_n hx hb dX3_findPartners_26 rfl (lv_at hl 1 rfl) ?_
          obtain ⟨t21, h22, hf⟩ := bd_some hf
          refine va_csr (va_runV (As := [.int x1]) (rest := [.ref x0, .int x1, .ref b18]) F (c_X3_at l D cy (H := _) hw.1 v_x0 h22) (cwV 1 hts gX3_findPartners_X3_at rfl rfl rfl ⟨rfl, ph_X3_at.1, ph_X3_at.2, pd_X3_at⟩ ⟨Nat.le_of_ble_eq_true rfl, Nat.le_of_ble_eq_true rfl⟩) ⟨PcR.bl, (q_rcv hK hw.1 v_x0.1 (pF_3 (S := Sb) v_x0.2) rfl), PcR.in hK⟩ rfl rfl hl.1 rfl (lv_room (Nat.le_of_ble_eq_true rfl)) dX3_findPartners_27 ⟨Nat.zero_le _, Nat.zero_le _⟩).run (fun r23 er23 => ?_)
          obtain ⟨er23, v_t21⟩ := er23
          subst r23
          obtain ⟨t24, h25, hf⟩ := bd_some hf
          refine vp_callSi (va_runV (As := [.ref t21]) (rest := [.int x1, .ref b18]) F (c_X3_partnersOf l D cy (H := _) hw.1 v_x0 v_t21 h25) (cwV 1 hts gX3_findPartners_X3_partnersOf rfl rfl rfl ⟨rfl, ph_X3_partnersOf.1, ph_X3_partnersOf.2, pd_X3_partnersOf⟩ ⟨Nat.le_of_ble_eq_true rfl, Nat.le_of_ble_eq_true rfl⟩) ⟨PcR.bl, (q_rcv hK hw.1 v_x0.1 (pF_3 (S := Sb) v_x0.2) rfl), PcR.in hK⟩ rfl rfl hl.1 rfl (lv_room (Nat.le_of_ble_eq_true rfl)) dX3_findPartners_30 ⟨Nat.zero_le _, Nat.zero_le _⟩).run (fun r26 er26 => ?_)
          subst r26
          refine lv_goto (tgt := 37) hx hb dX3_findPartners_33 (by decide) ?_
          exact hB37 Sb _ _ x0 x1 b18 x1 t24 _ (lv_sub hl [0, 1] rfl) hw hE v_x0 v_b18 hf
  have hl := lv_entry ([.ref y0]) (n := 2) (Nat.le_of_ble_eq_true rfl)
  rw [lg_entry_eq]
  generalize (lg_sl ([.ref y0]) ++ List.replicate (2 - (lg_sl ([.ref y0])).length) Slot.unset).toArray = ls at hl ⊢
  have hl : lv_has ls 2 [(0, .ref y0)] := hl
  unfold f_X3_findPartners at hf
  refine lv_iconst (v := 0) hx hb dX3_findPartners_0 (by decide) ?_
  refine lv_istore_n (lv' := [(1, .int 0), (0, .ref y0)]) hx hb dX3_findPartners_1 rfl hl (by decide) rfl (fun ls hl => ?_)
  exact hL2 FU S _ _ y0 0 _ (lv_sub hl [1, 0] rfl) hw hE v_y0 hf
def f_X3_put (S : PS) (x0 : Nat) (x1 : Nat) : Option (Int32 × PS) :=
  bd (f_X3_replace S x0 (fI S 51 x0) x1) fun t1 =>
  bd (f_X4_bit (fI S 51 x0)) fun t3 =>
  bd (f_X3_findPartners (sI (sI t1 51 x0 ((fI t1 51 x0) + (1 : Int32))) 52 x0 ((fI (sI t1 51 x0 ((fI t1 51 x0) + (1 : Int32))) 52 x0) ||| t3)) x0) fun t6 =>
  some ((fI S 51 x0), t6)
set_option maxHeartbeats 4000000 in
set_option maxRecDepth 100000 in
theorem c_X3_put (l : Launch) (D : va_G) (cy : cyT) {S : PS} {n : Nat} {y0 : Nat} {y1 : Nat} (v_y0 : vd S y0 3) (v_y1 : vd S y1 0) {res : Int32 × PS} (hf : f_X3_put S y0 y1 = some res) : Met l yX3_put wsX3_put ({ frames := 4, cells := 0, slots := 0, locals := 97 } : Room) (PcW False D cy S n [.ref y0, .ref y1]) (va_Qi (fun (r : Int32) (u : PS × Nat) => r = res.1 ∧ u = (res.2, n)) (BW D cy S n) (AA cy S n)) 0 0 (AA cy S n) := by
  refine Met.ofW (cc := cX3_put) (maxL := 3) (ret := (some .int)) (by decide) rfl ?_
  intro p e s m args below meth c s₁ B hml hv
  obtain ⟨hav, hsz, hP0, hD0, hK, hZ0⟩ := hv
  have hx := B.exec
  have hb := B.bytes
  have hr := B.returns
  have hts := atoms_spec (ws := wsX3_put) B.pre
  have hown : s.vm.findClass RX3 = some m.cls := findClass_of_methodNamed B.named
  have hlocks := B.notSynchronized
  subst hav
  have hw : Hw D cy (AA cy S n) s.heap S n s.heap [] := Hw.start hsz hP0 hD0
  have hA : ∀ q, s.heap.size ≤ q → AA cy S n q := fun q h => Or.inr (hsz ▸ h)
  have hE : EX S S := EX.rf
  have F : CallFix p m c cX3_put 3 s _ wsX3_put RX3 := ⟨hx, hb, hml, hown, hts⟩
  have hl := lv_entry ([.ref y0, .ref y1]) (n := 3) (Nat.le_of_ble_eq_true rfl)
  rw [lg_entry_eq]
  generalize (lg_sl ([.ref y0, .ref y1]) ++ List.replicate (3 - (lg_sl ([.ref y0, .ref y1])).length) Slot.unset).toArray = ls at hl ⊢
  have hl : lv_has ls 3 [(0, .ref y0), (1, .ref y1)] := hl
  unfold f_X3_put at hf
  refine lv_aload_n hx hb dX3_put_0 rfl (lv_at hl 0 rfl) ?_
  refine q_get F hK hw.1 v_y0.1 (pF_3 (S := S) v_y0.2) (fun w h => List.mem_cons_of_mem _ (List.mem_append_left _ (List.mem_append_right _ h))) rfl 3 (by decide) (hts (.fieldLink RX3 25 "SharedModuli$State" "size" "I") (List.mem_of_getElem? (i := 1) rfl)) (v := .int (fI S 51 y0)) rfl dX3_put_1 ?_
  refine lv_istore_n (lv' := [(2, .int (fI S 51 y0)), (0, .ref y0), (1, .ref y1)]) hx hb dX3_put_4 rfl hl (by decide) rfl (fun ls hl => ?_)
  refine lv_aload_n hx hb dX3_put_5 rfl (lv_at hl 1 rfl) ?_
  refine lv_iload_n hx hb dX3_put_6 rfl (lv_at hl 0 rfl) ?_
  refine lv_aload_n hx hb dX3_put_7 rfl (lv_at hl 2 rfl) ?_
  obtain ⟨t8, h9, hf⟩ := bd_some hf
  refine q_callv (va_runV (As := [.int (fI S 51 y0), .ref y1]) (rest := []) F (c_X3_replace l D cy (S := S) v_y0 v_y1 h9) (cwV 2 hts gX3_put_X3_replace rfl rfl rfl ⟨rfl, ph_X3_replace.1, ph_X3_replace.2, pd_X3_replace⟩ ⟨Nat.le_of_ble_eq_true rfl, Nat.le_of_ble_eq_true rfl⟩) ⟨PcW.bl, (q_rcv hK hw.1 v_y0.1 (pF_3 (S := S) v_y0.2) rfl), PcW.in hK hw hA (fun z => z.elim)⟩ rfl rfl hl.1 rfl (lv_room (Nat.le_of_ble_eq_true rfl)) dX3_put_8 ⟨Nat.zero_le _, Nat.zero_le _⟩) hw hA (fun H locs hw hX => ?_)
  have hE := hE.tr hX
  have v_y0 := hX _ _ v_y0
  have v_y1 := hX _ _ v_y1
  refine lv_aload_n hx hb dX3_put_11 rfl (lv_at hl 1 rfl) ?_
  refine lv_dup hx hb dX3_put_12 rfl ?_
  refine q_get F hK hw.1 v_y0.1 (pF_3 (S := t8) v_y0.2) (fun w h => List.mem_cons_of_mem _ (List.mem_append_left _ (List.mem_append_right _ h))) rfl 3 (by decide) (hts (.fieldLink RX3 25 "SharedModuli$State" "size" "I") (List.mem_of_getElem? (i := 1) rfl)) (v := .int (fI t8 51 y0)) rfl dX3_put_13 ?_
  refine lv_iconst (v := 1) hx hb dX3_put_16 (by decide) ?_
  refine lv_iadd hx hb dX3_put_17 ?_
  refine q_put F hK hw v_y0.1 (pF_3 (S := t8) v_y0.2) (fun w h => List.mem_cons_of_mem _ (List.mem_append_left _ (List.mem_append_right _ h))) tyX3 tyX3_ok nmX3 rfl 3 (by decide) (hts (.fieldLink RX3 25 "SharedModuli$State" "size" "I") (List.mem_of_getElem? (i := 1) rfl)) (Or.inl rfl) (tyX3_ok 3 (by decide)) rfl rfl (Nat.le_of_ble_eq_true rfl) (S1 := sI t8 51 y0 ((fI t8 51 y0) + (1 : Int32))) (st_51 (S := t8) v_y0.2 ((fI t8 51 y0) + (1 : Int32))) dX3_put_18 (fun H locs hw => ?_)
  refine lv_aload_n hx hb dX3_put_21 rfl (lv_at hl 1 rfl) ?_
  refine lv_dup hx hb dX3_put_22 rfl ?_
  refine q_get F hK hw.1 v_y0.1 (pF_3 (S := sI t8 51 y0 ((fI t8 51 y0) + (1 : Int32))) v_y0.2) (fun w h => List.mem_cons_of_mem _ (List.mem_append_left _ (List.mem_append_right _ h))) rfl 4 (by decide) (hts (.fieldLink RX3 29 "SharedModuli$State" "on" "I") (List.mem_of_getElem? (i := 2) rfl)) (v := .int (fI (sI t8 51 y0 ((fI t8 51 y0) + (1 : Int32))) 52 y0)) rfl dX3_put_23 ?_
  refine lv_iload_n hx hb dX3_put_26 rfl (lv_at hl 0 rfl) ?_
  obtain ⟨t10, h11, hf⟩ := bd_some hf
  refine vp_callSi (va_runSN (As := [.int (fI S 51 y0)]) (rest := [.int (fI (sI t8 51 y0 ((fI t8 51 y0) + (1 : Int32))) 52 y0), .ref y0]) F (c_X4_bit l D cy (H := _)  h11) ⟨(va_cnB 1 hts gX3_put_X4_bit_n44 rfl rfl rfl (nk_m_RX3_44 hK.2.1) (hts (.initialized RX4) (List.mem_of_getElem? (i := 10) rfl)) ⟨ph_X4_bit.1, ph_X4_bit.2, pd_X4_bit⟩ ⟨Nat.le_of_ble_eq_true rfl, Nat.le_of_ble_eq_true rfl⟩), (hts (.static yX4_bit) (List.mem_of_getElem? (i := 9) rfl)), trivial⟩ ⟨PcR.bl, PcR.in hK⟩ rfl rfl hl.1 rfl (lv_room (Nat.le_of_ble_eq_true rfl)) dX3_put_27 ⟨Nat.zero_le _, Nat.zero_le _⟩).run (fun r12 er12 => ?_)
  subst r12
  refine lv_ior hx hb dX3_put_30 ?_
  refine q_put F hK hw v_y0.1 (pF_3 (S := sI t8 51 y0 ((fI t8 51 y0) + (1 : Int32))) v_y0.2) (fun w h => List.mem_cons_of_mem _ (List.mem_append_left _ (List.mem_append_right _ h))) tyX3 tyX3_ok nmX3 rfl 4 (by decide) (hts (.fieldLink RX3 29 "SharedModuli$State" "on" "I") (List.mem_of_getElem? (i := 2) rfl)) (Or.inl rfl) (tyX3_ok 4 (by decide)) rfl rfl (Nat.le_of_ble_eq_true rfl) (S1 := sI (sI t8 51 y0 ((fI t8 51 y0) + (1 : Int32))) 52 y0 ((fI (sI t8 51 y0 ((fI t8 51 y0) + (1 : Int32))) 52 y0) ||| t10)) (st_52 (S := sI t8 51 y0 ((fI t8 51 y0) + (1 : Int32))) v_y0.2 ((fI (sI t8 51 y0 ((fI t8 51 y0) + (1 : Int32))) 52 y0) ||| t10)) dX3_put_31 (fun H locs hw => ?_)
  refine lv_aload_n hx hb dX3_put_34 rfl (lv_at hl 1 rfl) ?_
  obtain ⟨t13, h14, hf⟩ := bd_some hf
  refine q_callv (va_runV (As := []) (rest := []) F (c_X3_findPartners l D cy (S := sI (sI t8 51 y0 ((fI t8 51 y0) + (1 : Int32))) 52 y0 ((fI (sI t8 51 y0 ((fI t8 51 y0) + (1 : Int32))) 52 y0) ||| t10)) v_y0 h14) (cwV 0 hts gX3_put_X3_findPartners rfl rfl rfl ⟨rfl, ph_X3_findPartners.1, ph_X3_findPartners.2, pd_X3_findPartners⟩ ⟨Nat.le_of_ble_eq_true rfl, Nat.le_of_ble_eq_true rfl⟩) ⟨PcW.bl, (q_rcv hK hw.1 v_y0.1 (pF_3 (S := sI (sI t8 51 y0 ((fI t8 51 y0) + (1 : Int32))) 52 y0 ((fI (sI t8 51 y0 ((fI t8 51 y0) + (1 : Int32))) 52 y0) ||| t10)) v_y0.2) rfl), PcW.in hK hw hA (fun z => z.elim)⟩ rfl rfl hl.1 rfl (lv_room (Nat.le_of_ble_eq_true rfl)) dX3_put_35 ⟨Nat.zero_le _, Nat.zero_le _⟩) hw hA (fun H locs hw hX => ?_)
  have hE := hE.tr hX
  have v_y0 := hX _ _ v_y0
  have v_y1 := hX _ _ v_y1
  refine lv_iload_n hx hb dX3_put_38 rfl (lv_at hl 0 rfl) ?_
  exact W.iret (v := (fI S 51 y0)) hx hb hr (fun t ht hW => ⟨⟨_, (t13, n), rfl, po2 hf, BW.of hw hE ht⟩, hw.2.2.1.F ht⟩) hw.2.2.1.2.2 dX3_put_39
def f_X3_drop_B28 (S : PS) (x0 : Nat) (x1 : Int32) : Option PS :=
  bd (f_X4_bit x1) fun t1 =>
  bd (f_X3_findPartners (sI (sI S 52 x0 (((fI S 52 x0) &&& (t1 - (1 : Int32))) ||| (((fI S 52 x0) >>> ((1 : Int32) &&& 31)) &&& ((t1 - (1 : Int32)) ^^^ ((-1) : Int32))))) 51 x0 ((fI (sI S 52 x0 (((fI S 52 x0) &&& (t1 - (1 : Int32))) ||| (((fI S 52 x0) >>> ((1 : Int32) &&& 31)) &&& ((t1 - (1 : Int32)) ^^^ ((-1) : Int32))))) 51 x0) - (1 : Int32))) x0) fun t4 =>
  some (t4)
def f_X3_drop_L2s (kL2 : PS → Nat → Int32 → Int32 → Option PS) (ke28 : PS → Nat → Int32 → Option PS) (S : PS) (x0 : Nat) (x1 : Int32) (x2 : Int32) : Option PS :=
  if (fI S 51 x0) ≤ x2 then (ke28 S x0 x1) else
  bd (f_X3_at S x0 (x2 + (1 : Int32))) fun t7 =>
  bd (f_X3_replace S x0 x2 t7) fun t10 =>
  kL2 t10 x0 x1 (x2 + 1)
def f_X3_drop_L2 (ke28 : PS → Nat → Int32 → Option PS) (fu : Nat) : PS → Nat → Int32 → Int32 → Option PS := fx (fun kL => f_X3_drop_L2s kL ke28) (fun _ _ _ _ => none) fu
def f_X3_drop (S : PS) (x0 : Nat) (x1 : Int32) : Option PS :=
  f_X3_drop_L2 f_X3_drop_B28 FU S x0 x1 x1
set_option maxHeartbeats 4000000 in
set_option maxRecDepth 100000 in
theorem c_X3_drop (l : Launch) (D : va_G) (cy : cyT) {S : PS} {n : Nat} {y0 : Nat} {y1 : Int32} (v_y0 : vd S y0 3) {res : PS} (hf : f_X3_drop S y0 y1 = some res) : Met l yX3_drop wsX3_drop ({ frames := 4, cells := 0, slots := 0, locals := 97 } : Room) (PcW False D cy S n [.ref y0, .int y1]) (va_Qv (fun (u : PS × Nat) => u = (res, n)) (BW D cy S n) (AA cy S n)) 0 0 (AA cy S n) := by
  refine Met.ofW (cc := cX3_drop) (maxL := 3) (ret := none) (by decide) rfl ?_
  intro p e s m args below meth c s₁ B hml hv
  obtain ⟨hav, hsz, hP0, hD0, hK, hZ0⟩ := hv
  have hx := B.exec
  have hb := B.bytes
  have hr := B.returns
  have hts := atoms_spec (ws := wsX3_drop) B.pre
  have hown : s.vm.findClass RX3 = some m.cls := findClass_of_methodNamed B.named
  have hlocks := B.notSynchronized
  subst hav
  have hw : Hw D cy (AA cy S n) s.heap S n s.heap [] := Hw.start hsz hP0 hD0
  have hA : ∀ q, s.heap.size ≤ q → AA cy S n q := fun q h => Or.inr (hsz ▸ h)
  have hE : EX S S := EX.rf
  have F : CallFix p m c cX3_drop 3 s _ wsX3_drop RX3 := ⟨hx, hb, hml, hown, hts⟩
  have hB28 : ∀ (Sb : PS) (H1 : Heap) (lo1 : List Loc) (x0 : Nat) (x1 : Int32) (ls : Array Slot), lv_has ls 3 [(0, .ref x0), (1, .int x1)] → Hw D cy (AA cy S n) s.heap Sb n H1 lo1 → EX S Sb → vd Sb x0 3 → f_X3_drop_B28 Sb x0 x1 = some res → W p l e (headSpec wsX3_drop ({ frames := 4, cells := 0, slots := 0, locals := 97 } : Room)).room s m ([.ref y0, .int y1] : List Value).toArray below meth c H1 lo1 0 0 (MQ below (va_Qv (fun (u : PS × Nat) => u = (res, n)) (BW D cy S n) (AA cy S n)) ([.ref y0, .int y1] : List Value).toArray s 0 0 (AA cy S n)) (F0 m 28 ls []) := by
    intro Sb H1 lo1 x0 x1 ls hl hw hE v_x0 hf
    unfold f_X3_drop_B28 at hf
    refine lv_iload_n hx hb dX3_drop_28 rfl (lv_at hl 1 rfl) ?_
    obtain ⟨t12, h13, hf⟩ := bd_some hf
    refine vp_callSi (va_runSN (As := [.int x1]) (rest := []) F (c_X4_bit l D cy (H := _)  h13) ⟨(va_cnB 1 hts gX3_drop_X4_bit_n44 rfl rfl rfl (nk_m_RX3_44 hK.2.1) (hts (.initialized RX4) (List.mem_of_getElem? (i := 15) rfl)) ⟨ph_X4_bit.1, ph_X4_bit.2, pd_X4_bit⟩ ⟨Nat.le_of_ble_eq_true rfl, Nat.le_of_ble_eq_true rfl⟩), (hts (.static yX4_bit) (List.mem_of_getElem? (i := 14) rfl)), trivial⟩ ⟨PcR.bl, PcR.in hK⟩ rfl rfl hl.1 rfl (lv_room (Nat.le_of_ble_eq_true rfl)) dX3_drop_29 ⟨Nat.zero_le _, Nat.zero_le _⟩).run (fun r14 er14 => ?_)
    subst r14
    refine lv_iconst (v := 1) hx hb dX3_drop_32 (by decide) ?_
    refine lv_isub hx hb dX3_drop_33 ?_
    refine lv_istore_n (lv' := [(2, .int (t12 - (1 : Int32))), (0, .ref x0), (1, .int x1)]) hx hb dX3_drop_34 rfl hl (by decide) rfl (fun ls hl => ?_)
    refine lv_aload_n hx hb dX3_drop_35 rfl (lv_at hl 1 rfl) ?_
    refine lv_aload_n hx hb dX3_drop_36 rfl (lv_at hl 1 rfl) ?_
    refine q_get F hK hw.1 v_x0.1 (pF_3 (S := Sb) v_x0.2) (fun w h => List.mem_cons_of_mem _ (List.mem_append_left _ (List.mem_append_right _ h))) rfl 4 (by decide) (hts (.fieldLink RX3 29 "SharedModuli$State" "on" "I") (List.mem_of_getElem? (i := 2) rfl)) (v := .int (fI Sb 52 x0)) rfl dX3_drop_37 ?_
    refine lv_iload_n hx hb dX3_drop_40 rfl (lv_at hl 0 rfl) ?_
    refine lv_iand hx hb dX3_drop_41 ?_
    refine lv_aload_n hx hb dX3_drop_42 rfl (lv_at hl 1 rfl) ?_
    refine q_get F hK hw.1 v_x0.1 (pF_3 (S := Sb) v_x0.2) (fun w h => List.mem_cons_of_mem _ (List.mem_append_left _ (List.mem_append_right _ h))) rfl 4 (by decide) (hts (.fieldLink RX3 29 "SharedModuli$State" "on" "I") (List.mem_of_getElem? (i := 2) rfl)) (v := .int (fI Sb 52 x0)) rfl dX3_drop_43 ?_
    refine lv_iconst (v := 1) hx hb dX3_drop_46 (by decide) ?_
    refine lv_ishr hx hb dX3_drop_47 ?_
    refine lv_iload_n hx hb dX3_drop_48 rfl (lv_at hl 0 rfl) ?_
    refine lv_iconst (v := (-1)) hx hb dX3_drop_49 (by decide) ?_
    refine lv_ixor hx hb dX3_drop_50 ?_
    refine lv_iand hx hb dX3_drop_51 ?_
    refine lv_ior hx hb dX3_drop_52 ?_
    refine q_put F hK hw v_x0.1 (pF_3 (S := Sb) v_x0.2) (fun w h => List.mem_cons_of_mem _ (List.mem_append_left _ (List.mem_append_right _ h))) tyX3 tyX3_ok nmX3 rfl 4 (by decide) (hts (.fieldLink RX3 29 "SharedModuli$State" "on" "I") (List.mem_of_getElem? (i := 2) rfl)) (Or.inl rfl) (tyX3_ok 4 (by decide)) rfl rfl (Nat.le_of_ble_eq_true rfl) (S1 := sI Sb 52 x0 (((fI Sb 52 x0) &&& (t12 - (1 : Int32))) ||| (((fI Sb 52 x0) >>> ((1 : Int32) &&& 31)) &&& ((t12 - (1 : Int32)) ^^^ ((-1) : Int32))))) (st_52 (S := Sb) v_x0.2 (((fI Sb 52 x0) &&& (t12 - (1 : Int32))) ||| (((fI Sb 52 x0) >>> ((1 : Int32) &&& 31)) &&& ((t12 - (1 : Int32)) ^^^ ((-1) : Int32))))) dX3_drop_53 (fun H locs hw => ?_)
    refine lv_aload_n hx hb dX3_drop_56 rfl (lv_at hl 1 rfl) ?_
    refine lv_dup hx hb dX3_drop_57 rfl ?_
    refine q_get F hK hw.1 v_x0.1 (pF_3 (S := sI Sb 52 x0 (((fI Sb 52 x0) &&& (t12 - (1 : Int32))) ||| (((fI Sb 52 x0) >>> ((1 : Int32) &&& 31)) &&& ((t12 - (1 : Int32)) ^^^ ((-1) : Int32))))) v_x0.2) (fun w h => List.mem_cons_of_mem _ (List.mem_append_left _ (List.mem_append_right _ h))) rfl 3 (by decide) (hts (.fieldLink RX3 25 "SharedModuli$State" "size" "I") (List.mem_of_getElem? (i := 1) rfl)) (v := .int (fI (sI Sb 52 x0 (((fI Sb 52 x0) &&& (t12 - (1 : Int32))) ||| (((fI Sb 52 x0) >>> ((1 : Int32) &&& 31)) &&& ((t12 - (1 : Int32)) ^^^ ((-1) : Int32))))) 51 x0)) rfl dX3_drop_58 ?_
    refine lv_iconst (v := 1) hx hb dX3_drop_61 (by decide) ?_
    refine lv_isub hx hb dX3_drop_62 ?_
    refine q_put F hK hw v_x0.1 (pF_3 (S := sI Sb 52 x0 (((fI Sb 52 x0) &&& (t12 - (1 : Int32))) ||| (((fI Sb 52 x0) >>> ((1 : Int32) &&& 31)) &&& ((t12 - (1 : Int32)) ^^^ ((-1) : Int32))))) v_x0.2) (fun w h => List.mem_cons_of_mem _ (List.mem_append_left _ (List.mem_append_right _ h))) tyX3 tyX3_ok nmX3 rfl 3 (by decide) (hts (.fieldLink RX3 25 "SharedModuli$State" "size" "I") (List.mem_of_getElem? (i := 1) rfl)) (Or.inl rfl) (tyX3_ok 3 (by decide)) rfl rfl (Nat.le_of_ble_eq_true rfl) (S1 := sI (sI Sb 52 x0 (((fI Sb 52 x0) &&& (t12 - (1 : Int32))) ||| (((fI Sb 52 x0) >>> ((1 : Int32) &&& 31)) &&& ((t12 - (1 : Int32)) ^^^ ((-1) : Int32))))) 51 x0 ((fI (sI Sb 52 x0 (((fI Sb 52 x0) &&& (t12 - (1 : Int32))) ||| (((fI Sb 52 x0) >>> ((1 : Int32) &&& 31)) &&& ((t12 - (1 : Int32)) ^^^ ((-1) : Int32))))) 51 x0) - (1 : Int32))) (st_51 (S := sI Sb 52 x0 (((fI Sb 52 x0) &&& (t12 - (1 : Int32))) ||| (((fI Sb 52 x0) >>> ((1 : Int32) &&& 31)) &&& ((t12 - (1 : Int32)) ^^^ ((-1) : Int32))))) v_x0.2 ((fI (sI Sb 52 x0 (((fI Sb 52 x0) &&& (t12 - (1 : Int32))) ||| (((fI Sb 52 x0) >>> ((1 : Int32) &&& 31)) &&& ((t12 - (1 : Int32)) ^^^ ((-1) : Int32))))) 51 x0) - (1 : Int32))) dX3_drop_63 (fun H locs hw => ?_)
    refine lv_aload_n hx hb dX3_drop_66 rfl (lv_at hl 1 rfl) ?_
    obtain ⟨t15, h16, hf⟩ := bd_some hf
    refine q_callv (va_runV (As := []) (rest := []) F (c_X3_findPartners l D cy (S := sI (sI Sb 52 x0 (((fI Sb 52 x0) &&& (t12 - (1 : Int32))) ||| (((fI Sb 52 x0) >>> ((1 : Int32) &&& 31)) &&& ((t12 - (1 : Int32)) ^^^ ((-1) : Int32))))) 51 x0 ((fI (sI Sb 52 x0 (((fI Sb 52 x0) &&& (t12 - (1 : Int32))) ||| (((fI Sb 52 x0) >>> ((1 : Int32) &&& 31)) &&& ((t12 - (1 : Int32)) ^^^ ((-1) : Int32))))) 51 x0) - (1 : Int32))) v_x0 h16) (cwV 0 hts gX3_drop_X3_findPartners rfl rfl rfl ⟨rfl, ph_X3_findPartners.1, ph_X3_findPartners.2, pd_X3_findPartners⟩ ⟨Nat.le_of_ble_eq_true rfl, Nat.le_of_ble_eq_true rfl⟩) ⟨PcW.bl, (q_rcv hK hw.1 v_x0.1 (pF_3 (S := sI (sI Sb 52 x0 (((fI Sb 52 x0) &&& (t12 - (1 : Int32))) ||| (((fI Sb 52 x0) >>> ((1 : Int32) &&& 31)) &&& ((t12 - (1 : Int32)) ^^^ ((-1) : Int32))))) 51 x0 ((fI (sI Sb 52 x0 (((fI Sb 52 x0) &&& (t12 - (1 : Int32))) ||| (((fI Sb 52 x0) >>> ((1 : Int32) &&& 31)) &&& ((t12 - (1 : Int32)) ^^^ ((-1) : Int32))))) 51 x0) - (1 : Int32))) v_x0.2) rfl), PcW.in hK hw hA (fun z => z.elim)⟩ rfl rfl hl.1 rfl (lv_room (Nat.le_of_ble_eq_true rfl)) dX3_drop_67 ⟨Nat.zero_le _, Nat.zero_le _⟩) hw hA (fun H locs hw hX => ?_)
    have hE := hE.tr hX
    have v_x0 := hX _ _ v_x0
    exact W.vret hx hb hr (fun t ht hW => ⟨⟨(t15, n), rfl, po1 hf, BW.of hw hE ht⟩, hw.2.2.1.F ht⟩) hw.2.2.1.2.2 dX3_drop_70
  have hL2 : ∀ (fu2 : Nat), ∀ (Sb : PS) (H1 : Heap) (lo1 : List Loc) (x0 : Nat) (x1 : Int32) (x2 : Int32) (ls : Array Slot), lv_has ls 3 [(0, .ref x0), (1, .int x1), (2, .int x2)] → Hw D cy (AA cy S n) s.heap Sb n H1 lo1 → EX S Sb → vd Sb x0 3 → f_X3_drop_L2 f_X3_drop_B28 fu2 Sb x0 x1 x2 = some res → W p l e (headSpec wsX3_drop ({ frames := 4, cells := 0, slots := 0, locals := 97 } : Room)).room s m ([.ref y0, .int y1] : List Value).toArray below meth c H1 lo1 0 0 (MQ below (va_Qv (fun (u : PS × Nat) => u = (res, n)) (BW D cy S n) (AA cy S n)) ([.ref y0, .int y1] : List Value).toArray s 0 0 (AA cy S n)) (F0 m 2 ls []) := by
    intro fu2
    induction fu2 with
    | zero =>
      intro Sb H1 lo1 x0 x1 x2 ls hl hw hE v_x0 hf
      have hf : (none : Option PS) = some res := hf
      cases hf
    | succ fu2 ih2 =>
      intro Sb H1 lo1 x0 x1 x2 ls hl hw hE v_x0 hf
      have hf : f_X3_drop_L2s (f_X3_drop_L2 f_X3_drop_B28 fu2) f_X3_drop_B28 Sb x0 x1 x2 = some res := hf
      unfold f_X3_drop_L2s at hf
      refine lv_iload_n hx hb dX3_drop_2 rfl (lv_at hl 2 rfl) ?_
      refine lv_aload_n hx hb dX3_drop_3 rfl (lv_at hl 0 rfl) ?_
      refine q_get F hK hw.1 v_x0.1 (pF_3 (S := Sb) v_x0.2) (fun w h => List.mem_cons_of_mem _ (List.mem_append_left _ (List.mem_append_right _ h))) rfl 3 (by decide) (hts (.fieldLink RX3 25 "SharedModuli$State" "size" "I") (List.mem_of_getElem? (i := 1) rfl)) (v := .int (fI Sb 51 x0)) rfl dX3_drop_4 ?_
      refine lv_icmp_ge (tgt := 28) hx hb dX3_drop_7 (by decide) (fun c17 => ?_) (fun c17 => ?_)
      · have hf := it_t c17 hf
        exact hB28 Sb _ _ x0 x1 _ (lv_sub hl [0, 1] rfl) hw hE v_x0 hf
      · have hf := it_f c17 hf
        refine lv_aload_n hx hb dX3_drop_10 rfl (lv_at hl 0 rfl) ?_
        refine lv_iload_n hx hb dX3_drop_11 rfl (lv_at hl 2 rfl) ?_
        refine lv_aload_n hx hb dX3_drop_12 rfl (lv_at hl 0 rfl) ?_
        refine lv_iload_n hx hb dX3_drop_13 rfl (lv_at hl 2 rfl) ?_
        refine lv_iconst (v := 1) hx hb dX3_drop_14 (by decide) ?_
        refine lv_iadd hx hb dX3_drop_15 ?_
        obtain ⟨t18, h19, hf⟩ := bd_some hf
        refine va_csr (va_runV (As := [.int (x2 + (1 : Int32))]) (rest := [.int x2, .ref x0]) F (c_X3_at l D cy (H := _) hw.1 v_x0 h19) (cwV 1 hts gX3_drop_X3_at rfl rfl rfl ⟨rfl, ph_X3_at.1, ph_X3_at.2, pd_X3_at⟩ ⟨Nat.le_of_ble_eq_true rfl, Nat.le_of_ble_eq_true rfl⟩) ⟨PcR.bl, (q_rcv hK hw.1 v_x0.1 (pF_3 (S := Sb) v_x0.2) rfl), PcR.in hK⟩ rfl rfl hl.1 rfl (lv_room (Nat.le_of_ble_eq_true rfl)) dX3_drop_16 ⟨Nat.zero_le _, Nat.zero_le _⟩).run (fun r20 er20 => ?_)
        obtain ⟨er20, v_t18⟩ := er20
        subst r20
        obtain ⟨t21, h22, hf⟩ := bd_some hf
        refine q_callv (va_runV (As := [.int x2, .ref t18]) (rest := []) F (c_X3_replace l D cy (S := Sb) v_x0 v_t18 h22) (cwV 2 hts gX3_drop_X3_replace rfl rfl rfl ⟨rfl, ph_X3_replace.1, ph_X3_replace.2, pd_X3_replace⟩ ⟨Nat.le_of_ble_eq_true rfl, Nat.le_of_ble_eq_true rfl⟩) ⟨PcW.bl, (q_rcv hK hw.1 v_x0.1 (pF_3 (S := Sb) v_x0.2) rfl), PcW.in hK hw hA (fun z => z.elim)⟩ rfl rfl hl.1 rfl (lv_room (Nat.le_of_ble_eq_true rfl)) dX3_drop_19 ⟨Nat.zero_le _, Nat.zero_le _⟩) hw hA (fun H locs hw hX => ?_)
        have hE := hE.tr hX
        have v_x0 := hX _ _ v_x0
        have v_t18 := hX _ _ v_t18
        refine lv_iinc (v := x2 + 1) (lv' := [(2, .int (x2 + 1)), (0, .ref x0), (1, .int x1)]) hx hb dX3_drop_22 hl (k := 2) rfl (by rfl) (by decide) rfl (fun ls hl => ?_)
        refine lv_goto (tgt := 2) hx hb dX3_drop_25 (by decide) ?_
        exact ih2 t21 _ _ x0 x1 (x2 + 1) _ (lv_sub hl [1, 2, 0] rfl) hw hE v_x0 hf
  have hl := lv_entry ([.ref y0, .int y1]) (n := 3) (Nat.le_of_ble_eq_true rfl)
  rw [lg_entry_eq]
  generalize (lg_sl ([.ref y0, .int y1]) ++ List.replicate (3 - (lg_sl ([.ref y0, .int y1])).length) Slot.unset).toArray = ls at hl ⊢
  have hl : lv_has ls 3 [(0, .ref y0), (1, .int y1)] := hl
  unfold f_X3_drop at hf
  refine lv_iload_n hx hb dX3_drop_0 rfl (lv_at hl 1 rfl) ?_
  refine lv_istore_n (lv' := [(2, .int y1), (0, .ref y0), (1, .int y1)]) hx hb dX3_drop_1 rfl hl (by decide) rfl (fun ls hl => ?_)
  exact hL2 FU S _ _ y0 y1 y1 _ (lv_sub hl [1, 2, 0] rfl) hw hE v_y0 hf
def f_X3_voidOnes_B32 (S : PS) (x1 : Int32) : Option Int32 :=
  some x1
def f_X3_voidOnes_B26 (S : PS) (kL4 : Nat → Int32 → Int32 → Option Int32) (ke32 : Int32 → Option Int32) (x0 : Nat) (x1 : Int32) (x2 : Int32) : Option Int32 :=
  kL4 x0 x1 (x2 + 1)
def f_X3_voidOnes_L4s (S : PS) (kL4 : Nat → Int32 → Int32 → Option Int32) (ke32 : Int32 → Option Int32) (x0 : Nat) (x1 : Int32) (x2 : Int32) : Option Int32 :=
  if (fI S 51 x0) ≤ x2 then (ke32 x1) else
  bd (f_X3_at S x0 x2) fun t2 =>
  bd (f_X0_isVoid S t2) fun t5 =>
  if t5 = 0 then (f_X3_voidOnes_B26 S kL4 ke32 x0 x1 x2) else
  f_X3_voidOnes_B26 S kL4 ke32 x0 (x1 + 1) x2
def f_X3_voidOnes_L4 (S : PS) (ke32 : Int32 → Option Int32) (fu : Nat) : Nat → Int32 → Int32 → Option Int32 := fx (fun kL => f_X3_voidOnes_L4s S kL ke32) (fun _ _ _ => none) fu
def f_X3_voidOnes (S : PS) (x0 : Nat) : Option Int32 :=
  f_X3_voidOnes_L4 S (f_X3_voidOnes_B32 S) FU x0 0 0
set_option maxHeartbeats 4000000 in
set_option maxRecDepth 100000 in
theorem c_X3_voidOnes (l : Launch) (D : va_G) (cy : cyT) {H : Heap} {S : PS} (hP : va_P D vwCl (wl cy S) H) {y0 : Nat} (v_y0 : vd S y0 3) {res : Int32} (hf : f_X3_voidOnes S y0 = some res) : Met l yX3_voidOnes wsX3_voidOnes ({ frames := 1, cells := 0, slots := 0, locals := 21 } : Room) (PcR D cy H [.ref y0]) (vp_Si (fun r => r = res)) 0 0 (fun _ => False) := by
  refine Met.ofW (cc := cX3_voidOnes) (maxL := 3) (ret := (some .int)) (by decide) rfl ?_
  intro p e s m args below meth c s₁ B hml hv
  obtain ⟨hav, hH, hK⟩ := hv
  have hx := B.exec
  have hb := B.bytes
  have hr := B.returns
  have hts := atoms_spec (ws := wsX3_voidOnes) B.pre
  have hown : s.vm.findClass RX3 = some m.cls := findClass_of_methodNamed B.named
  have hlocks := B.notSynchronized
  subst hav
  subst hH
  have F : CallFix p m c cX3_voidOnes 3 s _ wsX3_voidOnes RX3 := ⟨hx, hb, hml, hown, hts⟩
  have hB32 : ∀ (x1 : Int32) (ls : Array Slot), lv_has ls 3 [(1, .int x1)] → f_X3_voidOnes_B32 S x1 = some res → W p l e (headSpec wsX3_voidOnes ({ frames := 1, cells := 0, slots := 0, locals := 21 } : Room)).room s m ([.ref y0] : List Value).toArray below meth c s.heap [] 0 0 (MQ below (vp_Si (fun r => r = res)) ([.ref y0] : List Value).toArray s 0 0 (fun _ => False)) (F0 m 32 ls []) := by
    intro x1 ls hl hf
    unfold f_X3_voidOnes_B32 at hf
    refine lv_iload_n hx hb dX3_voidOnes_32 rfl (lv_at hl 0 rfl) ?_
    exact W.iret (v := x1) hx hb hr (fun t ht hW => ⟨_, rfl, Option.some.inj hf, ht⟩) (fun _ h => by cases h) dX3_voidOnes_33
  have hL4 : ∀ (fu4 : Nat), ∀ (x0 : Nat) (x1 : Int32) (x2 : Int32) (ls : Array Slot), lv_has ls 3 [(0, .ref x0), (1, .int x1), (2, .int x2)] → vd S x0 3 → f_X3_voidOnes_L4 S (f_X3_voidOnes_B32 S) fu4 x0 x1 x2 = some res → W p l e (headSpec wsX3_voidOnes ({ frames := 1, cells := 0, slots := 0, locals := 21 } : Room)).room s m ([.ref y0] : List Value).toArray below meth c s.heap [] 0 0 (MQ below (vp_Si (fun r => r = res)) ([.ref y0] : List Value).toArray s 0 0 (fun _ => False)) (F0 m 4 ls []) := by
    intro fu4
    induction fu4 with
    | zero =>
      intro x0 x1 x2 ls hl v_x0 hf
      have hf : (none : Option Int32) = some res := hf
      cases hf
    | succ fu4 ih4 =>
      have hB26 : ∀ (x0 : Nat) (x1 : Int32) (x2 : Int32) (ls : Array Slot), lv_has ls 3 [(0, .ref x0), (1, .int x1), (2, .int x2)] → vd S x0 3 → f_X3_voidOnes_B26 S (f_X3_voidOnes_L4 S (f_X3_voidOnes_B32 S) fu4) (f_X3_voidOnes_B32 S) x0 x1 x2 = some res → W p l e (headSpec wsX3_voidOnes ({ frames := 1, cells := 0, slots := 0, locals := 21 } : Room)).room s m ([.ref y0] : List Value).toArray below meth c s.heap [] 0 0 (MQ below (vp_Si (fun r => r = res)) ([.ref y0] : List Value).toArray s 0 0 (fun _ => False)) (F0 m 26 ls []) := by
        intro x0 x1 x2 ls hl v_x0 hf
        unfold f_X3_voidOnes_B26 at hf
        refine lv_iinc (v := x2 + 1) (lv' := [(2, .int (x2 + 1)), (0, .ref x0), (1, .int x1)]) hx hb dX3_voidOnes_26 hl (k := 2) rfl (by rfl) (by decide) rfl (fun ls hl => ?_)
        refine lv_goto (tgt := 4) hx hb dX3_voidOnes_29 (by decide) ?_
        exact ih4 x0 x1 (x2 + 1) _ (lv_sub hl [1, 2, 0] rfl) v_x0 hf
      intro x0 x1 x2 ls hl v_x0 hf
      have hf : f_X3_voidOnes_L4s S (f_X3_voidOnes_L4 S (f_X3_voidOnes_B32 S) fu4) (f_X3_voidOnes_B32 S) x0 x1 x2 = some res := hf
      unfold f_X3_voidOnes_L4s at hf
      refine lv_iload_n hx hb dX3_voidOnes_4 rfl (lv_at hl 2 rfl) ?_
      refine lv_aload_n hx hb dX3_voidOnes_5 rfl (lv_at hl 0 rfl) ?_
      refine q_get F hK hP v_x0.1 (pF_3 (S := S) v_x0.2) (fun w h => List.mem_cons_of_mem _ (List.mem_append_left _ (List.mem_append_right _ h))) rfl 3 (by decide) (hts (.fieldLink RX3 25 "SharedModuli$State" "size" "I") (List.mem_of_getElem? (i := 1) rfl)) (v := .int (fI S 51 x0)) rfl dX3_voidOnes_6 ?_
      refine lv_icmp_ge (tgt := 32) hx hb dX3_voidOnes_9 (by decide) (fun c9 => ?_) (fun c9 => ?_)
      · have hf := it_t c9 hf
        exact hB32 x1 _ (lv_sub hl [1] rfl)  hf
      · have hf := it_f c9 hf
        refine lv_aload_n hx hb dX3_voidOnes_12 rfl (lv_at hl 0 rfl) ?_
        refine lv_iload_n hx hb dX3_voidOnes_13 rfl (lv_at hl 2 rfl) ?_
        obtain ⟨t10, h11, hf⟩ := bd_some hf
        refine va_csr (va_runV (As := [.int x2]) (rest := []) F (c_X3_at l D cy (H := _) hP v_x0 h11) (cwV 1 hts gX3_voidOnes_X3_at rfl rfl rfl ⟨rfl, ph_X3_at.1, ph_X3_at.2, pd_X3_at⟩ ⟨Nat.le_of_ble_eq_true rfl, Nat.le_of_ble_eq_true rfl⟩) ⟨PcR.bl, (q_rcv hK hP v_x0.1 (pF_3 (S := S) v_x0.2) rfl), PcR.in hK⟩ rfl rfl hl.1 rfl (lv_room (Nat.le_of_ble_eq_true rfl)) dX3_voidOnes_14 ⟨Nat.zero_le _, Nat.zero_le _⟩).run (fun r12 er12 => ?_)
        obtain ⟨er12, v_t10⟩ := er12
        subst r12
        obtain ⟨t13, h14, hf⟩ := bd_some hf
        refine vp_callSi (va_runV (As := []) (rest := []) F (c_X0_isVoid l D cy (H := _) hP v_t10 h14) (cwV 0 hts gX3_voidOnes_X0_isVoid rfl rfl rfl ⟨rfl, ph_X0_isVoid.1, ph_X0_isVoid.2, pd_X0_isVoid⟩ ⟨Nat.le_of_ble_eq_true rfl, Nat.le_of_ble_eq_true rfl⟩) ⟨PcR.bl, (q_rcv hK hP v_t10.1 (pF_0 (S := S) v_t10.2) rfl), PcR.in hK⟩ rfl rfl hl.1 rfl (lv_room (Nat.le_of_ble_eq_true rfl)) dX3_voidOnes_17 ⟨Nat.zero_le _, Nat.zero_le _⟩).run (fun r15 er15 => ?_)
        subst r15
        refine lv_if_eq (tgt := 26) hx hb dX3_voidOnes_20 (by decide) (fun c16 => ?_) (fun c16 => ?_)
        · have hf := it_t c16 hf
          exact hB26 x0 x1 x2 _ (lv_sub hl [0, 1, 2] rfl) v_x0 hf
        · have hf := it_f c16 hf
          refine lv_iinc (v := x1 + 1) (lv' := [(1, .int (x1 + 1)), (0, .ref x0), (2, .int x2)]) hx hb dX3_voidOnes_23 hl (k := 1) rfl (by rfl) (by decide) rfl (fun ls hl => ?_)
          exact hB26 x0 (x1 + 1) x2 _ (lv_sub hl [1, 0, 2] rfl) v_x0 hf
  have hl := lv_entry ([.ref y0]) (n := 3) (Nat.le_of_ble_eq_true rfl)
  rw [lg_entry_eq]
  generalize (lg_sl ([.ref y0]) ++ List.replicate (3 - (lg_sl ([.ref y0])).length) Slot.unset).toArray = ls at hl ⊢
  have hl : lv_has ls 3 [(0, .ref y0)] := hl
  unfold f_X3_voidOnes at hf
  refine lv_iconst (v := 0) hx hb dX3_voidOnes_0 (by decide) ?_
  refine lv_istore_n (lv' := [(1, .int 0), (0, .ref y0)]) hx hb dX3_voidOnes_1 rfl hl (by decide) rfl (fun ls hl => ?_)
  refine lv_iconst (v := 0) hx hb dX3_voidOnes_2 (by decide) ?_
  refine lv_istore_n (lv' := [(2, .int 0), (1, .int 0), (0, .ref y0)]) hx hb dX3_voidOnes_3 rfl hl (by decide) rfl (fun ls hl => ?_)
  exact hL4 FU y0 0 0 _ (lv_sub hl [2, 1, 0] rfl) v_y0 hf
def f_X3_arePossible_B39 (S : PS)  : Option Int32 :=
  some 1
def f_X3_arePossible_B33 (S : PS) (kL2 : Nat → Int32 → Int32 → Option Int32) (ke39 : Option Int32) (ke31 : Option Int32) (x0 : Nat) (x1 : Int32) (x2 : Int32) : Option Int32 :=
  kL2 x0 x1 (x2 + 1)
def f_X3_arePossible_B31 (S : PS)  : Option Int32 :=
  some 0
def f_X3_arePossible_L2s (S : PS) (kL2 : Nat → Int32 → Int32 → Option Int32) (ke39 : Option Int32) (ke31 : Option Int32) (x0 : Nat) (x1 : Int32) (x2 : Int32) : Option Int32 :=
  if (fI S 51 x0) ≤ x2 then (ke39) else
  bd (f_X4_bit x2) fun t2 =>
  if (x1 &&& t2) = 0 then (f_X3_arePossible_B33 S kL2 ke39 ke31 x0 x1 x2) else
  bd (f_X3_partnersAt S x0 x2) fun t6 =>
  if (x1 &&& (t6 ^^^ ((-1) : Int32))) = 0 then (f_X3_arePossible_B33 S kL2 ke39 ke31 x0 x1 x2) else
  ke31
def f_X3_arePossible_L2 (S : PS) (ke39 : Option Int32) (ke31 : Option Int32) (fu : Nat) : Nat → Int32 → Int32 → Option Int32 := fx (fun kL => f_X3_arePossible_L2s S kL ke39 ke31) (fun _ _ _ => none) fu
def f_X3_arePossible (S : PS) (x0 : Nat) (x1 : Int32) : Option Int32 :=
  f_X3_arePossible_L2 S (f_X3_arePossible_B39 S) (f_X3_arePossible_B31 S) FU x0 x1 0
set_option maxHeartbeats 4000000 in
set_option maxRecDepth 100000 in
theorem c_X3_arePossible (l : Launch) (D : va_G) (cy : cyT) {H : Heap} {S : PS} (hP : va_P D vwCl (wl cy S) H) {y0 : Nat} {y1 : Int32} (v_y0 : vd S y0 3) {res : Int32} (hf : f_X3_arePossible S y0 y1 = some res) : Met l yX3_arePossible wsX3_arePossible ({ frames := 1, cells := 0, slots := 0, locals := 21 } : Room) (PcR D cy H [.ref y0, .int y1]) (vp_Si (fun r => r = res)) 0 0 (fun _ => False) := by
  refine Met.ofW (cc := cX3_arePossible) (maxL := 3) (ret := (some .boolean)) (by decide) rfl ?_
  intro p e s m args below meth c s₁ B hml hv
  obtain ⟨hav, hH, hK⟩ := hv
  have hx := B.exec
  have hb := B.bytes
  have hr := B.returns
  have hts := atoms_spec (ws := wsX3_arePossible) B.pre
  have hown : s.vm.findClass RX3 = some m.cls := findClass_of_methodNamed B.named
  have hlocks := B.notSynchronized
  subst hav
  subst hH
  have F : CallFix p m c cX3_arePossible 3 s _ wsX3_arePossible RX3 := ⟨hx, hb, hml, hown, hts⟩
  have hB39 : ∀  (ls : Array Slot), lv_has ls 3 [] → f_X3_arePossible_B39 S = some res → W p l e (headSpec wsX3_arePossible ({ frames := 1, cells := 0, slots := 0, locals := 21 } : Room)).room s m ([.ref y0, .int y1] : List Value).toArray below meth c s.heap [] 0 0 (MQ below (vp_Si (fun r => r = res)) ([.ref y0, .int y1] : List Value).toArray s 0 0 (fun _ => False)) (F0 m 39 ls []) := by
    intro ls hl hf
    unfold f_X3_arePossible_B39 at hf
    refine lv_iconst (v := 1) hx hb dX3_arePossible_39 (by decide) ?_
    exact W.zret (v := 1) hx hb hr rfl (fun t ht hW => ⟨_, rfl, Option.some.inj hf, ht⟩) (fun _ h => by cases h) dX3_arePossible_40
  have hB31 : ∀  (ls : Array Slot), lv_has ls 3 [] → f_X3_arePossible_B31 S = some res → W p l e (headSpec wsX3_arePossible ({ frames := 1, cells := 0, slots := 0, locals := 21 } : Room)).room s m ([.ref y0, .int y1] : List Value).toArray below meth c s.heap [] 0 0 (MQ below (vp_Si (fun r => r = res)) ([.ref y0, .int y1] : List Value).toArray s 0 0 (fun _ => False)) (F0 m 31 ls []) := by
    intro ls hl hf
    unfold f_X3_arePossible_B31 at hf
    refine lv_iconst (v := 0) hx hb dX3_arePossible_31 (by decide) ?_
    exact W.zret (v := 0) hx hb hr rfl (fun t ht hW => ⟨_, rfl, Option.some.inj hf, ht⟩) (fun _ h => by cases h) dX3_arePossible_32
  have hL2 : ∀ (fu2 : Nat), ∀ (x0 : Nat) (x1 : Int32) (x2 : Int32) (ls : Array Slot), lv_has ls 3 [(0, .ref x0), (1, .int x1), (2, .int x2)] → vd S x0 3 → f_X3_arePossible_L2 S (f_X3_arePossible_B39 S) (f_X3_arePossible_B31 S) fu2 x0 x1 x2 = some res → W p l e (headSpec wsX3_arePossible ({ frames := 1, cells := 0, slots := 0, locals := 21 } : Room)).room s m ([.ref y0, .int y1] : List Value).toArray below meth c s.heap [] 0 0 (MQ below (vp_Si (fun r => r = res)) ([.ref y0, .int y1] : List Value).toArray s 0 0 (fun _ => False)) (F0 m 2 ls []) := by
    intro fu2
    induction fu2 with
    | zero =>
      intro x0 x1 x2 ls hl v_x0 hf
      have hf : (none : Option Int32) = some res := hf
      cases hf
    | succ fu2 ih2 =>
      have hB33 : ∀ (x0 : Nat) (x1 : Int32) (x2 : Int32) (ls : Array Slot), lv_has ls 3 [(0, .ref x0), (1, .int x1), (2, .int x2)] → vd S x0 3 → f_X3_arePossible_B33 S (f_X3_arePossible_L2 S (f_X3_arePossible_B39 S) (f_X3_arePossible_B31 S) fu2) (f_X3_arePossible_B39 S) (f_X3_arePossible_B31 S) x0 x1 x2 = some res → W p l e (headSpec wsX3_arePossible ({ frames := 1, cells := 0, slots := 0, locals := 21 } : Room)).room s m ([.ref y0, .int y1] : List Value).toArray below meth c s.heap [] 0 0 (MQ below (vp_Si (fun r => r = res)) ([.ref y0, .int y1] : List Value).toArray s 0 0 (fun _ => False)) (F0 m 33 ls []) := by
        intro x0 x1 x2 ls hl v_x0 hf
        unfold f_X3_arePossible_B33 at hf
        refine lv_iinc (v := x2 + 1) (lv' := [(2, .int (x2 + 1)), (0, .ref x0), (1, .int x1)]) hx hb dX3_arePossible_33 hl (k := 2) rfl (by rfl) (by decide) rfl (fun ls hl => ?_)
        refine lv_goto (tgt := 2) hx hb dX3_arePossible_36 (by decide) ?_
        exact ih2 x0 x1 (x2 + 1) _ (lv_sub hl [1, 2, 0] rfl) v_x0 hf
      intro x0 x1 x2 ls hl v_x0 hf
      have hf : f_X3_arePossible_L2s S (f_X3_arePossible_L2 S (f_X3_arePossible_B39 S) (f_X3_arePossible_B31 S) fu2) (f_X3_arePossible_B39 S) (f_X3_arePossible_B31 S) x0 x1 x2 = some res := hf
      unfold f_X3_arePossible_L2s at hf
      refine lv_iload_n hx hb dX3_arePossible_2 rfl (lv_at hl 2 rfl) ?_
      refine lv_aload_n hx hb dX3_arePossible_3 rfl (lv_at hl 0 rfl) ?_
      refine q_get F hK hP v_x0.1 (pF_3 (S := S) v_x0.2) (fun w h => List.mem_cons_of_mem _ (List.mem_append_right _ h)) rfl 3 (by decide) (hts (.fieldLink RX3 25 "SharedModuli$State" "size" "I") (List.mem_of_getElem? (i := 1) rfl)) (v := .int (fI S 51 x0)) rfl dX3_arePossible_4 ?_
      refine lv_icmp_ge (tgt := 39) hx hb dX3_arePossible_7 (by decide) (fun c10 => ?_) (fun c10 => ?_)
      · have hf := it_t c10 hf
        exact hB39 _ (lv_sub hl [] rfl)  hf
      · have hf := it_f c10 hf
        refine lv_iload_n hx hb dX3_arePossible_10 rfl (lv_at hl 1 rfl) ?_
        refine lv_iload_n hx hb dX3_arePossible_11 rfl (lv_at hl 2 rfl) ?_
        obtain ⟨t11, h12, hf⟩ := bd_some hf
        refine vp_callSi (va_runSN (As := [.int x2]) (rest := [.int x1]) F (c_X4_bit l D cy (H := _)  h12) ⟨(va_cnB 1 hts gX3_arePossible_X4_bit_n44 rfl rfl rfl (nk_m_RX3_44 hK.2.1) (hts (.initialized RX4) (List.mem_of_getElem? (i := 3) rfl)) ⟨ph_X4_bit.1, ph_X4_bit.2, pd_X4_bit⟩ ⟨Nat.le_of_ble_eq_true rfl, Nat.le_of_ble_eq_true rfl⟩), (hts (.static yX4_bit) (List.mem_of_getElem? (i := 2) rfl)), trivial⟩ ⟨PcR.bl, PcR.in hK⟩ rfl rfl hl.1 rfl (lv_room (Nat.le_of_ble_eq_true rfl)) dX3_arePossible_12 ⟨Nat.zero_le _, Nat.zero_le _⟩).run (fun r13 er13 => ?_)
        subst r13
        refine lv_iand hx hb dX3_arePossible_15 ?_
        refine lv_if_eq (tgt := 33) hx hb dX3_arePossible_16 (by decide) (fun c14 => ?_) (fun c14 => ?_)
        · have hf := it_t c14 hf
          exact hB33 x0 x1 x2 _ (lv_sub hl [0, 1, 2] rfl) v_x0 hf
        · have hf := it_f c14 hf
          refine lv_iload_n hx hb dX3_arePossible_19 rfl (lv_at hl 1 rfl) ?_
          refine lv_aload_n hx hb dX3_arePossible_20 rfl (lv_at hl 0 rfl) ?_
          refine lv_iload_n hx hb dX3_arePossible_21 rfl (lv_at hl 2 rfl) ?_
          obtain ⟨t15, h16, hf⟩ := bd_some hf
          refine vp_callSi (va_runV (As := [.int x2]) (rest := [.int x1]) F (c_X3_partnersAt l D cy (H := _) hP v_x0 h16) (cwV 1 hts gX3_arePossible_X3_partnersAt rfl rfl rfl ⟨rfl, ph_X3_partnersAt.1, ph_X3_partnersAt.2, pd_X3_partnersAt⟩ ⟨Nat.le_of_ble_eq_true rfl, Nat.le_of_ble_eq_true rfl⟩) ⟨PcR.bl, (q_rcv hK hP v_x0.1 (pF_3 (S := S) v_x0.2) rfl), PcR.in hK⟩ rfl rfl hl.1 rfl (lv_room (Nat.le_of_ble_eq_true rfl)) dX3_arePossible_22 ⟨Nat.zero_le _, Nat.zero_le _⟩).run (fun r17 er17 => ?_)
          subst r17
          refine lv_iconst (v := (-1)) hx hb dX3_arePossible_25 (by decide) ?_
          refine lv_ixor hx hb dX3_arePossible_26 ?_
          refine lv_iand hx hb dX3_arePossible_27 ?_
          refine lv_if_eq (tgt := 33) hx hb dX3_arePossible_28 (by decide) (fun c18 => ?_) (fun c18 => ?_)
          · have hf := it_t c18 hf
            exact hB33 x0 x1 x2 _ (lv_sub hl [0, 1, 2] rfl) v_x0 hf
          · have hf := it_f c18 hf
            exact hB31 _ (lv_sub hl [] rfl)  hf
  have hl := lv_entry ([.ref y0, .int y1]) (n := 3) (Nat.le_of_ble_eq_true rfl)
  rw [lg_entry_eq]
  generalize (lg_sl ([.ref y0, .int y1]) ++ List.replicate (3 - (lg_sl ([.ref y0, .int y1])).length) Slot.unset).toArray = ls at hl ⊢
  have hl : lv_has ls 3 [(0, .ref y0), (1, .int y1)] := hl
  unfold f_X3_arePossible at hf
  refine lv_iconst (v := 0) hx hb dX3_arePossible_0 (by decide) ?_
  refine lv_istore_n (lv' := [(2, .int 0), (0, .ref y0), (1, .int y1)]) hx hb dX3_arePossible_1 rfl hl (by decide) rfl (fun ls hl => ?_)
  exact hL2 FU y0 y1 0 _ (lv_sub hl [1, 2, 0] rfl) v_y0 hf
def f_J6_bitCount_0f7a4 (x0 : Int32) : Option Int32 :=
  some ((((((((x0 - (((x0.toUInt32 >>> ((1 : Int32).toUInt32 &&& Int32.toUInt32 31)).toInt32) &&& (1431655765 : Int32))) &&& (858993459 : Int32)) + ((((x0 - (((x0.toUInt32 >>> ((1 : Int32).toUInt32 &&& Int32.toUInt32 31)).toInt32) &&& (1431655765 : Int32))).toUInt32 >>> ((2 : Int32).toUInt32 &&& Int32.toUInt32 31)).toInt32) &&& (858993459 : Int32))) + (((((x0 - (((x0.toUInt32 >>> ((1 : Int32).toUInt32 &&& Int32.toUInt32 31)).toInt32) &&& (1431655765 : Int32))) &&& (858993459 : Int32)) + ((((x0 - (((x0.toUInt32 >>> ((1 : Int32).toUInt32 &&& Int32.toUInt32 31)).toInt32) &&& (1431655765 : Int32))).toUInt32 >>> ((2 : Int32).toUInt32 &&& Int32.toUInt32 31)).toInt32) &&& (858993459 : Int32))).toUInt32 >>> ((4 : Int32).toUInt32 &&& Int32.toUInt32 31)).toInt32)) &&& (252645135 : Int32)) + (((((((x0 - (((x0.toUInt32 >>> ((1 : Int32).toUInt32 &&& Int32.toUInt32 31)).toInt32) &&& (1431655765 : Int32))) &&& (858993459 : Int32)) + ((((x0 - (((x0.toUInt32 >>> ((1 : Int32).toUInt32 &&& Int32.toUInt32 31)).toInt32) &&& (1431655765 : Int32))).toUInt32 >>> ((2 : Int32).toUInt32 &&& Int32.toUInt32 31)).toInt32) &&& (858993459 : Int32))) + (((((x0 - (((x0.toUInt32 >>> ((1 : Int32).toUInt32 &&& Int32.toUInt32 31)).toInt32) &&& (1431655765 : Int32))) &&& (858993459 : Int32)) + ((((x0 - (((x0.toUInt32 >>> ((1 : Int32).toUInt32 &&& Int32.toUInt32 31)).toInt32) &&& (1431655765 : Int32))).toUInt32 >>> ((2 : Int32).toUInt32 &&& Int32.toUInt32 31)).toInt32) &&& (858993459 : Int32))).toUInt32 >>> ((4 : Int32).toUInt32 &&& Int32.toUInt32 31)).toInt32)) &&& (252645135 : Int32)).toUInt32 >>> ((8 : Int32).toUInt32 &&& Int32.toUInt32 31)).toInt32)) + ((((((((x0 - (((x0.toUInt32 >>> ((1 : Int32).toUInt32 &&& Int32.toUInt32 31)).toInt32) &&& (1431655765 : Int32))) &&& (858993459 : Int32)) + ((((x0 - (((x0.toUInt32 >>> ((1 : Int32).toUInt32 &&& Int32.toUInt32 31)).toInt32) &&& (1431655765 : Int32))).toUInt32 >>> ((2 : Int32).toUInt32 &&& Int32.toUInt32 31)).toInt32) &&& (858993459 : Int32))) + (((((x0 - (((x0.toUInt32 >>> ((1 : Int32).toUInt32 &&& Int32.toUInt32 31)).toInt32) &&& (1431655765 : Int32))) &&& (858993459 : Int32)) + ((((x0 - (((x0.toUInt32 >>> ((1 : Int32).toUInt32 &&& Int32.toUInt32 31)).toInt32) &&& (1431655765 : Int32))).toUInt32 >>> ((2 : Int32).toUInt32 &&& Int32.toUInt32 31)).toInt32) &&& (858993459 : Int32))).toUInt32 >>> ((4 : Int32).toUInt32 &&& Int32.toUInt32 31)).toInt32)) &&& (252645135 : Int32)) + (((((((x0 - (((x0.toUInt32 >>> ((1 : Int32).toUInt32 &&& Int32.toUInt32 31)).toInt32) &&& (1431655765 : Int32))) &&& (858993459 : Int32)) + ((((x0 - (((x0.toUInt32 >>> ((1 : Int32).toUInt32 &&& Int32.toUInt32 31)).toInt32) &&& (1431655765 : Int32))).toUInt32 >>> ((2 : Int32).toUInt32 &&& Int32.toUInt32 31)).toInt32) &&& (858993459 : Int32))) + (((((x0 - (((x0.toUInt32 >>> ((1 : Int32).toUInt32 &&& Int32.toUInt32 31)).toInt32) &&& (1431655765 : Int32))) &&& (858993459 : Int32)) + ((((x0 - (((x0.toUInt32 >>> ((1 : Int32).toUInt32 &&& Int32.toUInt32 31)).toInt32) &&& (1431655765 : Int32))).toUInt32 >>> ((2 : Int32).toUInt32 &&& Int32.toUInt32 31)).toInt32) &&& (858993459 : Int32))).toUInt32 >>> ((4 : Int32).toUInt32 &&& Int32.toUInt32 31)).toInt32)) &&& (252645135 : Int32)).toUInt32 >>> ((8 : Int32).toUInt32 &&& Int32.toUInt32 31)).toInt32)).toUInt32 >>> ((16 : Int32).toUInt32 &&& Int32.toUInt32 31)).toInt32)) &&& (63 : Int32))
set_option maxHeartbeats 4000000 in
set_option maxRecDepth 100000 in
theorem c_J6_bitCount_0f7a4 (l : Launch) (D : va_G) (cy : cyT) {H : Heap} {y0 : Int32}  {res : Int32} (hf : f_J6_bitCount_0f7a4 y0 = some res) : Met l yJ6_bitCount_0f7a4 wsJ6_bitCount_0f7a4 ({ frames := 0, cells := 0, slots := 0, locals := 0 } : Room) (PcR D cy H [.int y0]) (vp_Si (fun r => r = res)) 0 0 (fun _ => False) := by
  refine va_MetF (cc := cJ6_bitCount_0f7a4) (maxL := 1) (ret := (some .int)) (by decide +kernel) rfl ?_
  intro p e s m args below meth c s₁ B hml hv
  obtain ⟨hav, hH, hK⟩ := hv
  have hx := B.exec
  have hb := B.bytes
  have hr := B.returns
  have hts := atoms_spec (ws := wsJ6_bitCount_0f7a4) B.pre
  have hown : s.vm.findClass RJ6 = some m.cls := findClass_of_methodNamed B.named
  have hlocks := B.notSynchronized
  subst hav
  subst hH
  have F : CallFix p m c cJ6_bitCount_0f7a4 1 s _ wsJ6_bitCount_0f7a4 RJ6 := ⟨hx, hb, hml, hown, hts⟩
  have hl := lv_entry ([.int y0]) (n := 1) (Nat.le_of_ble_eq_true rfl)
  rw [lg_entry_eq]
  generalize (lg_sl ([.int y0]) ++ List.replicate (1 - (lg_sl ([.int y0])).length) Slot.unset).toArray = ls at hl ⊢
  have hl : lv_has ls 1 [(0, .int y0)] := hl
  unfold f_J6_bitCount_0f7a4 at hf
  refine lv_iload_n hx hb dJ6_bitCount_0f7a4_0 rfl (lv_at hl 0 rfl) ?_
  refine lv_iload_n hx hb dJ6_bitCount_0f7a4_1 rfl (lv_at hl 0 rfl) ?_
  refine lv_iconst (v := 1) hx hb dJ6_bitCount_0f7a4_2 (by decide) ?_
  refine lv_iushr hx hb dJ6_bitCount_0f7a4_3 rfl ?_
  refine lv_ldcw hx hb hown (hts (.constant RJ6 265 1431655765) (List.mem_of_getElem? (i := 1) rfl)) dJ6_bitCount_0f7a4_4 ?_
  refine lv_iand hx hb dJ6_bitCount_0f7a4_7 ?_
  refine lv_isub hx hb dJ6_bitCount_0f7a4_8 ?_
  refine lv_istore_n (lv' := [(0, .int (y0 - (((y0.toUInt32 >>> ((1 : Int32).toUInt32 &&& Int32.toUInt32 31)).toInt32) &&& (1431655765 : Int32))))]) hx hb dJ6_bitCount_0f7a4_9 rfl hl (by decide) rfl (fun ls hl => ?_)
  refine lv_iload_n hx hb dJ6_bitCount_0f7a4_10 rfl (lv_at hl 0 rfl) ?_
  refine lv_ldcw hx hb hown (hts (.constant RJ6 266 858993459) (List.mem_of_getElem? (i := 2) rfl)) dJ6_bitCount_0f7a4_11 ?_
  refine lv_iand hx hb dJ6_bitCount_0f7a4_14 ?_
  refine lv_iload_n hx hb dJ6_bitCount_0f7a4_15 rfl (lv_at hl 0 rfl) ?_
  refine lv_iconst (v := 2) hx hb dJ6_bitCount_0f7a4_16 (by decide) ?_
  refine lv_iushr hx hb dJ6_bitCount_0f7a4_17 rfl ?_
  refine lv_ldcw hx hb hown (hts (.constant RJ6 266 858993459) (List.mem_of_getElem? (i := 2) rfl)) dJ6_bitCount_0f7a4_18 ?_
  refine lv_iand hx hb dJ6_bitCount_0f7a4_21 ?_
  refine lv_iadd hx hb dJ6_bitCount_0f7a4_22 ?_
  refine lv_istore_n (lv' := [(0, .int (((y0 - (((y0.toUInt32 >>> ((1 : Int32).toUInt32 &&& Int32.toUInt32 31)).toInt32) &&& (1431655765 : Int32))) &&& (858993459 : Int32)) + ((((y0 - (((y0.toUInt32 >>> ((1 : Int32).toUInt32 &&& Int32.toUInt32 31)).toInt32) &&& (1431655765 : Int32))).toUInt32 >>> ((2 : Int32).toUInt32 &&& Int32.toUInt32 31)).toInt32) &&& (858993459 : Int32))))]) hx hb dJ6_bitCount_0f7a4_23 rfl hl (by decide) rfl (fun ls hl => ?_)
  refine lv_iload_n hx hb dJ6_bitCount_0f7a4_24 rfl (lv_at hl 0 rfl) ?_
  refine lv_iload_n hx hb dJ6_bitCount_0f7a4_25 rfl (lv_at hl 0 rfl) ?_
  refine lv_iconst (v := 4) hx hb dJ6_bitCount_0f7a4_26 (by decide) ?_
  refine lv_iushr hx hb dJ6_bitCount_0f7a4_27 rfl ?_
  refine lv_iadd hx hb dJ6_bitCount_0f7a4_28 ?_
  refine lv_ldcw hx hb hown (hts (.constant RJ6 267 252645135) (List.mem_of_getElem? (i := 3) rfl)) dJ6_bitCount_0f7a4_29 ?_
  refine lv_iand hx hb dJ6_bitCount_0f7a4_32 ?_
  refine lv_istore_n (lv' := [(0, .int (((((y0 - (((y0.toUInt32 >>> ((1 : Int32).toUInt32 &&& Int32.toUInt32 31)).toInt32) &&& (1431655765 : Int32))) &&& (858993459 : Int32)) + ((((y0 - (((y0.toUInt32 >>> ((1 : Int32).toUInt32 &&& Int32.toUInt32 31)).toInt32) &&& (1431655765 : Int32))).toUInt32 >>> ((2 : Int32).toUInt32 &&& Int32.toUInt32 31)).toInt32) &&& (858993459 : Int32))) + (((((y0 - (((y0.toUInt32 >>> ((1 : Int32).toUInt32 &&& Int32.toUInt32 31)).toInt32) &&& (1431655765 : Int32))) &&& (858993459 : Int32)) + ((((y0 - (((y0.toUInt32 >>> ((1 : Int32).toUInt32 &&& Int32.toUInt32 31)).toInt32) &&& (1431655765 : Int32))).toUInt32 >>> ((2 : Int32).toUInt32 &&& Int32.toUInt32 31)).toInt32) &&& (858993459 : Int32))).toUInt32 >>> ((4 : Int32).toUInt32 &&& Int32.toUInt32 31)).toInt32)) &&& (252645135 : Int32)))]) hx hb dJ6_bitCount_0f7a4_33 rfl hl (by decide) rfl (fun ls hl => ?_)
  refine lv_iload_n hx hb dJ6_bitCount_0f7a4_34 rfl (lv_at hl 0 rfl) ?_
  refine lv_iload_n hx hb dJ6_bitCount_0f7a4_35 rfl (lv_at hl 0 rfl) ?_
  refine lv_bipush (v := 8) hx hb dJ6_bitCount_0f7a4_36 (by decide) ?_
  refine lv_iushr hx hb dJ6_bitCount_0f7a4_38 rfl ?_
  refine lv_iadd hx hb dJ6_bitCount_0f7a4_39 ?_
  refine lv_istore_n (lv' := [(0, .int ((((((y0 - (((y0.toUInt32 >>> ((1 : Int32).toUInt32 &&& Int32.toUInt32 31)).toInt32) &&& (1431655765 : Int32))) &&& (858993459 : Int32)) + ((((y0 - (((y0.toUInt32 >>> ((1 : Int32).toUInt32 &&& Int32.toUInt32 31)).toInt32) &&& (1431655765 : Int32))).toUInt32 >>> ((2 : Int32).toUInt32 &&& Int32.toUInt32 31)).toInt32) &&& (858993459 : Int32))) + (((((y0 - (((y0.toUInt32 >>> ((1 : Int32).toUInt32 &&& Int32.toUInt32 31)).toInt32) &&& (1431655765 : Int32))) &&& (858993459 : Int32)) + ((((y0 - (((y0.toUInt32 >>> ((1 : Int32).toUInt32 &&& Int32.toUInt32 31)).toInt32) &&& (1431655765 : Int32))).toUInt32 >>> ((2 : Int32).toUInt32 &&& Int32.toUInt32 31)).toInt32) &&& (858993459 : Int32))).toUInt32 >>> ((4 : Int32).toUInt32 &&& Int32.toUInt32 31)).toInt32)) &&& (252645135 : Int32)) + (((((((y0 - (((y0.toUInt32 >>> ((1 : Int32).toUInt32 &&& Int32.toUInt32 31)).toInt32) &&& (1431655765 : Int32))) &&& (858993459 : Int32)) + ((((y0 - (((y0.toUInt32 >>> ((1 : Int32).toUInt32 &&& Int32.toUInt32 31)).toInt32) &&& (1431655765 : Int32))).toUInt32 >>> ((2 : Int32).toUInt32 &&& Int32.toUInt32 31)).toInt32) &&& (858993459 : Int32))) + (((((y0 - (((y0.toUInt32 >>> ((1 : Int32).toUInt32 &&& Int32.toUInt32 31)).toInt32) &&& (1431655765 : Int32))) &&& (858993459 : Int32)) + ((((y0 - (((y0.toUInt32 >>> ((1 : Int32).toUInt32 &&& Int32.toUInt32 31)).toInt32) &&& (1431655765 : Int32))).toUInt32 >>> ((2 : Int32).toUInt32 &&& Int32.toUInt32 31)).toInt32) &&& (858993459 : Int32))).toUInt32 >>> ((4 : Int32).toUInt32 &&& Int32.toUInt32 31)).toInt32)) &&& (252645135 : Int32)).toUInt32 >>> ((8 : Int32).toUInt32 &&& Int32.toUInt32 31)).toInt32)))]) hx hb dJ6_bitCount_0f7a4_40 rfl hl (by decide) rfl (fun ls hl => ?_)
  refine lv_iload_n hx hb dJ6_bitCount_0f7a4_41 rfl (lv_at hl 0 rfl) ?_
  refine lv_iload_n hx hb dJ6_bitCount_0f7a4_42 rfl (lv_at hl 0 rfl) ?_
  refine lv_bipush (v := 16) hx hb dJ6_bitCount_0f7a4_43 (by decide) ?_
  refine lv_iushr hx hb dJ6_bitCount_0f7a4_45 rfl ?_
  refine lv_iadd hx hb dJ6_bitCount_0f7a4_46 ?_
  refine lv_istore_n (lv' := [(0, .int (((((((y0 - (((y0.toUInt32 >>> ((1 : Int32).toUInt32 &&& Int32.toUInt32 31)).toInt32) &&& (1431655765 : Int32))) &&& (858993459 : Int32)) + ((((y0 - (((y0.toUInt32 >>> ((1 : Int32).toUInt32 &&& Int32.toUInt32 31)).toInt32) &&& (1431655765 : Int32))).toUInt32 >>> ((2 : Int32).toUInt32 &&& Int32.toUInt32 31)).toInt32) &&& (858993459 : Int32))) + (((((y0 - (((y0.toUInt32 >>> ((1 : Int32).toUInt32 &&& Int32.toUInt32 31)).toInt32) &&& (1431655765 : Int32))) &&& (858993459 : Int32)) + ((((y0 - (((y0.toUInt32 >>> ((1 : Int32).toUInt32 &&& Int32.toUInt32 31)).toInt32) &&& (1431655765 : Int32))).toUInt32 >>> ((2 : Int32).toUInt32 &&& Int32.toUInt32 31)).toInt32) &&& (858993459 : Int32))).toUInt32 >>> ((4 : Int32).toUInt32 &&& Int32.toUInt32 31)).toInt32)) &&& (252645135 : Int32)) + (((((((y0 - (((y0.toUInt32 >>> ((1 : Int32).toUInt32 &&& Int32.toUInt32 31)).toInt32) &&& (1431655765 : Int32))) &&& (858993459 : Int32)) + ((((y0 - (((y0.toUInt32 >>> ((1 : Int32).toUInt32 &&& Int32.toUInt32 31)).toInt32) &&& (1431655765 : Int32))).toUInt32 >>> ((2 : Int32).toUInt32 &&& Int32.toUInt32 31)).toInt32) &&& (858993459 : Int32))) + (((((y0 - (((y0.toUInt32 >>> ((1 : Int32).toUInt32 &&& Int32.toUInt32 31)).toInt32) &&& (1431655765 : Int32))) &&& (858993459 : Int32)) + ((((y0 - (((y0.toUInt32 >>> ((1 : Int32).toUInt32 &&& Int32.toUInt32 31)).toInt32) &&& (1431655765 : Int32))).toUInt32 >>> ((2 : Int32).toUInt32 &&& Int32.toUInt32 31)).toInt32) &&& (858993459 : Int32))).toUInt32 >>> ((4 : Int32).toUInt32 &&& Int32.toUInt32 31)).toInt32)) &&& (252645135 : Int32)).toUInt32 >>> ((8 : Int32).toUInt32 &&& Int32.toUInt32 31)).toInt32)) + ((((((((y0 - (((y0.toUInt32 >>> ((1 : Int32).toUInt32 &&& Int32.toUInt32 31)).toInt32) &&& (1431655765 : Int32))) &&& (858993459 : Int32)) + ((((y0 - (((y0.toUInt32 >>> ((1 : Int32).toUInt32 &&& Int32.toUInt32 31)).toInt32) &&& (1431655765 : Int32))).toUInt32 >>> ((2 : Int32).toUInt32 &&& Int32.toUInt32 31)).toInt32) &&& (858993459 : Int32))) + (((((y0 - (((y0.toUInt32 >>> ((1 : Int32).toUInt32 &&& Int32.toUInt32 31)).toInt32) &&& (1431655765 : Int32))) &&& (858993459 : Int32)) + ((((y0 - (((y0.toUInt32 >>> ((1 : Int32).toUInt32 &&& Int32.toUInt32 31)).toInt32) &&& (1431655765 : Int32))).toUInt32 >>> ((2 : Int32).toUInt32 &&& Int32.toUInt32 31)).toInt32) &&& (858993459 : Int32))).toUInt32 >>> ((4 : Int32).toUInt32 &&& Int32.toUInt32 31)).toInt32)) &&& (252645135 : Int32)) + (((((((y0 - (((y0.toUInt32 >>> ((1 : Int32).toUInt32 &&& Int32.toUInt32 31)).toInt32) &&& (1431655765 : Int32))) &&& (858993459 : Int32)) + ((((y0 - (((y0.toUInt32 >>> ((1 : Int32).toUInt32 &&& Int32.toUInt32 31)).toInt32) &&& (1431655765 : Int32))).toUInt32 >>> ((2 : Int32).toUInt32 &&& Int32.toUInt32 31)).toInt32) &&& (858993459 : Int32))) + (((((y0 - (((y0.toUInt32 >>> ((1 : Int32).toUInt32 &&& Int32.toUInt32 31)).toInt32) &&& (1431655765 : Int32))) &&& (858993459 : Int32)) + ((((y0 - (((y0.toUInt32 >>> ((1 : Int32).toUInt32 &&& Int32.toUInt32 31)).toInt32) &&& (1431655765 : Int32))).toUInt32 >>> ((2 : Int32).toUInt32 &&& Int32.toUInt32 31)).toInt32) &&& (858993459 : Int32))).toUInt32 >>> ((4 : Int32).toUInt32 &&& Int32.toUInt32 31)).toInt32)) &&& (252645135 : Int32)).toUInt32 >>> ((8 : Int32).toUInt32 &&& Int32.toUInt32 31)).toInt32)).toUInt32 >>> ((16 : Int32).toUInt32 &&& Int32.toUInt32 31)).toInt32)))]) hx hb dJ6_bitCount_0f7a4_47 rfl hl (by decide) rfl (fun ls hl => ?_)
  refine lv_iload_n hx hb dJ6_bitCount_0f7a4_48 rfl (lv_at hl 0 rfl) ?_
  refine lv_bipush (v := 63) hx hb dJ6_bitCount_0f7a4_49 (by decide) ?_
  refine lv_iand hx hb dJ6_bitCount_0f7a4_51 ?_
  exact W.iret (v := ((((((((y0 - (((y0.toUInt32 >>> ((1 : Int32).toUInt32 &&& Int32.toUInt32 31)).toInt32) &&& (1431655765 : Int32))) &&& (858993459 : Int32)) + ((((y0 - (((y0.toUInt32 >>> ((1 : Int32).toUInt32 &&& Int32.toUInt32 31)).toInt32) &&& (1431655765 : Int32))).toUInt32 >>> ((2 : Int32).toUInt32 &&& Int32.toUInt32 31)).toInt32) &&& (858993459 : Int32))) + (((((y0 - (((y0.toUInt32 >>> ((1 : Int32).toUInt32 &&& Int32.toUInt32 31)).toInt32) &&& (1431655765 : Int32))) &&& (858993459 : Int32)) + ((((y0 - (((y0.toUInt32 >>> ((1 : Int32).toUInt32 &&& Int32.toUInt32 31)).toInt32) &&& (1431655765 : Int32))).toUInt32 >>> ((2 : Int32).toUInt32 &&& Int32.toUInt32 31)).toInt32) &&& (858993459 : Int32))).toUInt32 >>> ((4 : Int32).toUInt32 &&& Int32.toUInt32 31)).toInt32)) &&& (252645135 : Int32)) + (((((((y0 - (((y0.toUInt32 >>> ((1 : Int32).toUInt32 &&& Int32.toUInt32 31)).toInt32) &&& (1431655765 : Int32))) &&& (858993459 : Int32)) + ((((y0 - (((y0.toUInt32 >>> ((1 : Int32).toUInt32 &&& Int32.toUInt32 31)).toInt32) &&& (1431655765 : Int32))).toUInt32 >>> ((2 : Int32).toUInt32 &&& Int32.toUInt32 31)).toInt32) &&& (858993459 : Int32))) + (((((y0 - (((y0.toUInt32 >>> ((1 : Int32).toUInt32 &&& Int32.toUInt32 31)).toInt32) &&& (1431655765 : Int32))) &&& (858993459 : Int32)) + ((((y0 - (((y0.toUInt32 >>> ((1 : Int32).toUInt32 &&& Int32.toUInt32 31)).toInt32) &&& (1431655765 : Int32))).toUInt32 >>> ((2 : Int32).toUInt32 &&& Int32.toUInt32 31)).toInt32) &&& (858993459 : Int32))).toUInt32 >>> ((4 : Int32).toUInt32 &&& Int32.toUInt32 31)).toInt32)) &&& (252645135 : Int32)).toUInt32 >>> ((8 : Int32).toUInt32 &&& Int32.toUInt32 31)).toInt32)) + ((((((((y0 - (((y0.toUInt32 >>> ((1 : Int32).toUInt32 &&& Int32.toUInt32 31)).toInt32) &&& (1431655765 : Int32))) &&& (858993459 : Int32)) + ((((y0 - (((y0.toUInt32 >>> ((1 : Int32).toUInt32 &&& Int32.toUInt32 31)).toInt32) &&& (1431655765 : Int32))).toUInt32 >>> ((2 : Int32).toUInt32 &&& Int32.toUInt32 31)).toInt32) &&& (858993459 : Int32))) + (((((y0 - (((y0.toUInt32 >>> ((1 : Int32).toUInt32 &&& Int32.toUInt32 31)).toInt32) &&& (1431655765 : Int32))) &&& (858993459 : Int32)) + ((((y0 - (((y0.toUInt32 >>> ((1 : Int32).toUInt32 &&& Int32.toUInt32 31)).toInt32) &&& (1431655765 : Int32))).toUInt32 >>> ((2 : Int32).toUInt32 &&& Int32.toUInt32 31)).toInt32) &&& (858993459 : Int32))).toUInt32 >>> ((4 : Int32).toUInt32 &&& Int32.toUInt32 31)).toInt32)) &&& (252645135 : Int32)) + (((((((y0 - (((y0.toUInt32 >>> ((1 : Int32).toUInt32 &&& Int32.toUInt32 31)).toInt32) &&& (1431655765 : Int32))) &&& (858993459 : Int32)) + ((((y0 - (((y0.toUInt32 >>> ((1 : Int32).toUInt32 &&& Int32.toUInt32 31)).toInt32) &&& (1431655765 : Int32))).toUInt32 >>> ((2 : Int32).toUInt32 &&& Int32.toUInt32 31)).toInt32) &&& (858993459 : Int32))) + (((((y0 - (((y0.toUInt32 >>> ((1 : Int32).toUInt32 &&& Int32.toUInt32 31)).toInt32) &&& (1431655765 : Int32))) &&& (858993459 : Int32)) + ((((y0 - (((y0.toUInt32 >>> ((1 : Int32).toUInt32 &&& Int32.toUInt32 31)).toInt32) &&& (1431655765 : Int32))).toUInt32 >>> ((2 : Int32).toUInt32 &&& Int32.toUInt32 31)).toInt32) &&& (858993459 : Int32))).toUInt32 >>> ((4 : Int32).toUInt32 &&& Int32.toUInt32 31)).toInt32)) &&& (252645135 : Int32)).toUInt32 >>> ((8 : Int32).toUInt32 &&& Int32.toUInt32 31)).toInt32)).toUInt32 >>> ((16 : Int32).toUInt32 &&& Int32.toUInt32 31)).toInt32)) &&& (63 : Int32))) hx hb hr (fun t ht hW => ⟨_, rfl, Option.some.inj hf, ht⟩) (fun _ h => by cases h) dJ6_bitCount_0f7a4_52
def f_X3_contradictions_B53 (S : PS) (x2 : Int32) : Option Int32 :=
  some x2
def f_X3_contradictions_B47 (S : PS) (kL4 : Nat → Int32 → Int32 → Int32 → Option Int32) (ke53 : Int32 → Option Int32) (x0 : Nat) (x1 : Int32) (x2 : Int32) (x3 : Int32) : Option Int32 :=
  kL4 x0 x1 x2 (x3 + 1)
def f_X3_contradictions_L4s (S : PS) (kL4 : Nat → Int32 → Int32 → Int32 → Option Int32) (ke53 : Int32 → Option Int32) (x0 : Nat) (x1 : Int32) (x2 : Int32) (x3 : Int32) : Option Int32 :=
  if (fI S 51 x0) ≤ x3 then (ke53 x2) else
  bd (f_X4_bit x3) fun t2 =>
  if (x1 &&& t2) = 0 then (f_X3_contradictions_B47 S kL4 ke53 x0 x1 x2 x3) else
  bd (f_X4_bit x3) fun t6 =>
  bd (f_X3_partnersAt S x0 x3) fun t9 =>
  bd (f_J6_bitCount_0f7a4 ((x1 &&& (t6 - (1 : Int32))) &&& (t9 ^^^ ((-1) : Int32)))) fun t12 =>
  f_X3_contradictions_B47 S kL4 ke53 x0 x1 (x2 + t12) x3
def f_X3_contradictions_L4 (S : PS) (ke53 : Int32 → Option Int32) (fu : Nat) : Nat → Int32 → Int32 → Int32 → Option Int32 := fx (fun kL => f_X3_contradictions_L4s S kL ke53) (fun _ _ _ _ => none) fu
def f_X3_contradictions (S : PS) (x0 : Nat) (x1 : Int32) : Option Int32 :=
  f_X3_contradictions_L4 S (f_X3_contradictions_B53 S) FU x0 x1 0 0
set_option maxHeartbeats 4000000 in
set_option maxRecDepth 100000 in
theorem c_X3_contradictions (l : Launch) (D : va_G) (cy : cyT) {H : Heap} {S : PS} (hP : va_P D vwCl (wl cy S) H) {y0 : Nat} {y1 : Int32} (v_y0 : vd S y0 3) {res : Int32} (hf : f_X3_contradictions S y0 y1 = some res) : Met l yX3_contradictions wsX3_contradictions ({ frames := 1, cells := 0, slots := 0, locals := 21 } : Room) (PcR D cy H [.ref y0, .int y1]) (vp_Si (fun r => r = res)) 0 0 (fun _ => False) := by
  refine Met.ofW (cc := cX3_contradictions) (maxL := 5) (ret := (some .int)) (by decide) rfl ?_
  intro p e s m args below meth c s₁ B hml hv
  obtain ⟨hav, hH, hK⟩ := hv
  have hx := B.exec
  have hb := B.bytes
  have hr := B.returns
  have hts := atoms_spec (ws := wsX3_contradictions) B.pre
  have hown : s.vm.findClass RX3 = some m.cls := findClass_of_methodNamed B.named
  have hlocks := B.notSynchronized
  subst hav
  subst hH
  have F : CallFix p m c cX3_contradictions 5 s _ wsX3_contradictions RX3 := ⟨hx, hb, hml, hown, hts⟩
  have hB53 : ∀ (x2 : Int32) (ls : Array Slot), lv_has ls 5 [(2, .int x2)] → f_X3_contradictions_B53 S x2 = some res → W p l e (headSpec wsX3_contradictions ({ frames := 1, cells := 0, slots := 0, locals := 21 } : Room)).room s m ([.ref y0, .int y1] : List Value).toArray below meth c s.heap [] 0 0 (MQ below (vp_Si (fun r => r = res)) ([.ref y0, .int y1] : List Value).toArray s 0 0 (fun _ => False)) (F0 m 53 ls []) := by
    intro x2 ls hl hf
    unfold f_X3_contradictions_B53 at hf
    refine lv_iload_n hx hb dX3_contradictions_53 rfl (lv_at hl 0 rfl) ?_
    exact W.iret (v := x2) hx hb hr (fun t ht hW => ⟨_, rfl, Option.some.inj hf, ht⟩) (fun _ h => by cases h) dX3_contradictions_54
  have hL4 : ∀ (fu4 : Nat), ∀ (x0 : Nat) (x1 : Int32) (x2 : Int32) (x3 : Int32) (ls : Array Slot), lv_has ls 5 [(0, .ref x0), (1, .int x1), (2, .int x2), (3, .int x3)] → vd S x0 3 → f_X3_contradictions_L4 S (f_X3_contradictions_B53 S) fu4 x0 x1 x2 x3 = some res → W p l e (headSpec wsX3_contradictions ({ frames := 1, cells := 0, slots := 0, locals := 21 } : Room)).room s m ([.ref y0, .int y1] : List Value).toArray below meth c s.heap [] 0 0 (MQ below (vp_Si (fun r => r = res)) ([.ref y0, .int y1] : List Value).toArray s 0 0 (fun _ => False)) (F0 m 4 ls []) := by
    intro fu4
    induction fu4 with
    | zero =>
      intro x0 x1 x2 x3 ls hl v_x0 hf
      have hf : (none : Option Int32) = some res := hf
      cases hf
    | succ fu4 ih4 =>
      have hB47 : ∀ (x0 : Nat) (x1 : Int32) (x2 : Int32) (x3 : Int32) (ls : Array Slot), lv_has ls 5 [(0, .ref x0), (1, .int x1), (2, .int x2), (3, .int x3)] → vd S x0 3 → f_X3_contradictions_B47 S (f_X3_contradictions_L4 S (f_X3_contradictions_B53 S) fu4) (f_X3_contradictions_B53 S) x0 x1 x2 x3 = some res → W p l e (headSpec wsX3_contradictions ({ frames := 1, cells := 0, slots := 0, locals := 21 } : Room)).room s m ([.ref y0, .int y1] : List Value).toArray below meth c s.heap [] 0 0 (MQ below (vp_Si (fun r => r = res)) ([.ref y0, .int y1] : List Value).toArray s 0 0 (fun _ => False)) (F0 m 47 ls []) := by
        intro x0 x1 x2 x3 ls hl v_x0 hf
        unfold f_X3_contradictions_B47 at hf
        refine lv_iinc (v := x3 + 1) (lv' := [(3, .int (x3 + 1)), (0, .ref x0), (1, .int x1), (2, .int x2)]) hx hb dX3_contradictions_47 hl (k := 3) rfl (by rfl) (by decide) rfl (fun ls hl => ?_)
        refine lv_goto (tgt := 4) hx hb dX3_contradictions_50 (by decide) ?_
        exact ih4 x0 x1 x2 (x3 + 1) _ (lv_sub hl [1, 2, 3, 0] rfl) v_x0 hf
      intro x0 x1 x2 x3 ls hl v_x0 hf
      have hf : f_X3_contradictions_L4s S (f_X3_contradictions_L4 S (f_X3_contradictions_B53 S) fu4) (f_X3_contradictions_B53 S) x0 x1 x2 x3 = some res := hf
      unfold f_X3_contradictions_L4s at hf
      refine lv_iload_n hx hb dX3_contradictions_4 rfl (lv_at hl 3 rfl) ?_
      refine lv_aload_n hx hb dX3_contradictions_5 rfl (lv_at hl 0 rfl) ?_
      refine q_get F hK hP v_x0.1 (pF_3 (S := S) v_x0.2) (fun w h => List.mem_cons_of_mem _ (List.mem_append_right _ h)) rfl 3 (by decide) (hts (.fieldLink RX3 25 "SharedModuli$State" "size" "I") (List.mem_of_getElem? (i := 1) rfl)) (v := .int (fI S 51 x0)) rfl dX3_contradictions_6 ?_
      refine lv_icmp_ge (tgt := 53) hx hb dX3_contradictions_9 (by decide) (fun c15 => ?_) (fun c15 => ?_)
      · have hf := it_t c15 hf
        exact hB53 x2 _ (lv_sub hl [2] rfl)  hf
      · have hf := it_f c15 hf
        refine lv_iload_n hx hb dX3_contradictions_12 rfl (lv_at hl 1 rfl) ?_
        refine lv_iload_n hx hb dX3_contradictions_13 rfl (lv_at hl 3 rfl) ?_
        obtain ⟨t16, h17, hf⟩ := bd_some hf
        refine vp_callSi (va_runSN (As := [.int x3]) (rest := [.int x1]) F (c_X4_bit l D cy (H := _)  h17) ⟨(va_cnB 1 hts gX3_contradictions_X4_bit_n44 rfl rfl rfl (nk_m_RX3_44 hK.2.1) (hts (.initialized RX4) (List.mem_of_getElem? (i := 3) rfl)) ⟨ph_X4_bit.1, ph_X4_bit.2, pd_X4_bit⟩ ⟨Nat.le_of_ble_eq_true rfl, Nat.le_of_ble_eq_true rfl⟩), (hts (.static yX4_bit) (List.mem_of_getElem? (i := 2) rfl)), trivial⟩ ⟨PcR.bl, PcR.in hK⟩ rfl rfl hl.1 rfl (lv_room (Nat.le_of_ble_eq_true rfl)) dX3_contradictions_14 ⟨Nat.zero_le _, Nat.zero_le _⟩).run (fun r18 er18 => ?_)
        subst r18
        refine lv_iand hx hb dX3_contradictions_17 ?_
        refine lv_if_eq (tgt := 47) hx hb dX3_contradictions_18 (by decide) (fun c19 => ?_) (fun c19 => ?_)
        · have hf := it_t c19 hf
          exact hB47 x0 x1 x2 x3 _ (lv_sub hl [0, 1, 2, 3] rfl) v_x0 hf
        · have hf := it_f c19 hf
          refine lv_iload_n hx hb dX3_contradictions_21 rfl (lv_at hl 1 rfl) ?_
          refine lv_iload_n hx hb dX3_contradictions_22 rfl (lv_at hl 3 rfl) ?_
          obtain ⟨t20, h21, hf⟩ := bd_some hf
          refine vp_callSi (va_runSN (As := [.int x3]) (rest := [.int x1]) F (c_X4_bit l D cy (H := _)  h21) ⟨(va_cnB 1 hts gX3_contradictions_X4_bit_n44 rfl rfl rfl (nk_m_RX3_44 hK.2.1) (hts (.initialized RX4) (List.mem_of_getElem? (i := 3) rfl)) ⟨ph_X4_bit.1, ph_X4_bit.2, pd_X4_bit⟩ ⟨Nat.le_of_ble_eq_true rfl, Nat.le_of_ble_eq_true rfl⟩), (hts (.static yX4_bit) (List.mem_of_getElem? (i := 2) rfl)), trivial⟩ ⟨PcR.bl, PcR.in hK⟩ rfl rfl hl.1 rfl (lv_room (Nat.le_of_ble_eq_true rfl)) dX3_contradictions_23 ⟨Nat.zero_le _, Nat.zero_le _⟩).run (fun r22 er22 => ?_)
          subst r22
          refine lv_iconst (v := 1) hx hb dX3_contradictions_26 (by decide) ?_
          refine lv_isub hx hb dX3_contradictions_27 ?_
          refine lv_iand hx hb dX3_contradictions_28 ?_
          refine lv_istore (lv' := [(4, .int (x1 &&& (t20 - (1 : Int32)))), (0, .ref x0), (1, .int x1), (2, .int x2), (3, .int x3)]) hx hb dX3_contradictions_29 hl (by decide) rfl (fun ls hl => ?_)
          refine lv_iload_n hx hb dX3_contradictions_31 rfl (lv_at hl 3 rfl) ?_
          refine lv_iload hx hb dX3_contradictions_32 (lv_at hl 0 rfl) ?_
          refine lv_aload_n hx hb dX3_contradictions_34 rfl (lv_at hl 1 rfl) ?_
          refine lv_iload_n hx hb dX3_contradictions_35 rfl (lv_at hl 4 rfl) ?_
          obtain ⟨t23, h24, hf⟩ := bd_some hf
          refine vp_callSi (va_runV (As := [.int x3]) (rest := [.int (x1 &&& (t20 - (1 : Int32))), .int x2]) F (c_X3_partnersAt l D cy (H := _) hP v_x0 h24) (cwV 1 hts gX3_contradictions_X3_partnersAt rfl rfl rfl ⟨rfl, ph_X3_partnersAt.1, ph_X3_partnersAt.2, pd_X3_partnersAt⟩ ⟨Nat.le_of_ble_eq_true rfl, Nat.le_of_ble_eq_true rfl⟩) ⟨PcR.bl, (q_rcv hK hP v_x0.1 (pF_3 (S := S) v_x0.2) rfl), PcR.in hK⟩ rfl rfl hl.1 rfl (lv_room (Nat.le_of_ble_eq_true rfl)) dX3_contradictions_36 ⟨Nat.zero_le _, Nat.zero_le _⟩).run (fun r25 er25 => ?_)
          subst r25
          refine lv_iconst (v := (-1)) hx hb dX3_contradictions_39 (by decide) ?_
          refine lv_ixor hx hb dX3_contradictions_40 ?_
          refine lv_iand hx hb dX3_contradictions_41 ?_
          obtain ⟨t26, h27, hf⟩ := bd_some hf
          refine vp_callSi (va_runS (As := [.int ((x1 &&& (t20 - (1 : Int32))) &&& (t23 ^^^ ((-1) : Int32)))]) (rest := [.int x2]) F (c_J6_bitCount_0f7a4 l D cy (H := _)  h27) (va_cwS 1 hts gX3_contradictions_J6_bitCount_0f7a4 rfl rfl rfl ⟨ph_J6_bitCount_0f7a4.1, ph_J6_bitCount_0f7a4.2, pd_J6_bitCount_0f7a4⟩ ⟨Nat.le_of_ble_eq_true rfl, Nat.le_of_ble_eq_true rfl⟩) ⟨PcR.bl, PcR.in hK⟩ rfl rfl hl.1 rfl (lv_room (Nat.le_of_ble_eq_true rfl)) dX3_contradictions_42 ⟨Nat.zero_le _, Nat.zero_le _⟩).run (fun r28 er28 => ?_)
          subst r28
          refine lv_iadd hx hb dX3_contradictions_45 ?_
          refine lv_istore_n (lv' := [(2, .int (x2 + t26)), (4, .int (x1 &&& (t20 - (1 : Int32)))), (0, .ref x0), (1, .int x1), (3, .int x3)]) hx hb dX3_contradictions_46 rfl hl (by decide) rfl (fun ls hl => ?_)
          exact hB47 x0 x1 (x2 + t26) x3 _ (lv_sub hl [2, 3, 0, 4] rfl) v_x0 hf
  have hl := lv_entry ([.ref y0, .int y1]) (n := 5) (Nat.le_of_ble_eq_true rfl)
  rw [lg_entry_eq]
  generalize (lg_sl ([.ref y0, .int y1]) ++ List.replicate (5 - (lg_sl ([.ref y0, .int y1])).length) Slot.unset).toArray = ls at hl ⊢
  have hl : lv_has ls 5 [(0, .ref y0), (1, .int y1)] := hl
  unfold f_X3_contradictions at hf
  refine lv_iconst (v := 0) hx hb dX3_contradictions_0 (by decide) ?_
  refine lv_istore_n (lv' := [(2, .int 0), (0, .ref y0), (1, .int y1)]) hx hb dX3_contradictions_1 rfl hl (by decide) rfl (fun ls hl => ?_)
  refine lv_iconst (v := 0) hx hb dX3_contradictions_2 (by decide) ?_
  refine lv_istore_n (lv' := [(3, .int 0), (2, .int 0), (0, .ref y0), (1, .int y1)]) hx hb dX3_contradictions_3 rfl hl (by decide) rfl (fun ls hl => ?_)
  exact hL4 FU y0 y1 0 0 _ (lv_sub hl [2, 3, 1, 0] rfl) v_y0 hf
def f_X4_widened_B15 (S : PS) (x0 : Int64) : Option Int64 :=
  some x0
def f_X4_widened (S : PS) (x0 : Int64) (x2 : Nat) : Option Int64 :=
  bd (f_X0_isVoid S x2) fun t1 =>
  if t1 = 0 then (if x0 ≤ 1000000000000000 then (bd (f_X4_commonDivisor x0 ((fI S 3 x2).toInt64)) fun t6 =>
  bd (f_X4_share x0 t6) fun t9 =>
  some (t9 * ((fI S 3 x2).toInt64))) else
  f_X4_widened_B15 S x0) else
  f_X4_widened_B15 S x0
set_option maxHeartbeats 4000000 in
set_option maxRecDepth 100000 in
theorem c_X4_widened (l : Launch) (D : va_G) (cy : cyT) {H : Heap} {S : PS} (hP : va_P D vwCl (wl cy S) H) {y0 : Int64} {y2 : Nat} (v_y2 : vd S y2 0) {res : Int64} (hf : f_X4_widened S y0 y2 = some res) : Met l yX4_widened wsX4_widened ({ frames := 1, cells := 0, slots := 0, locals := 30 } : Room) (PcR D cy H [.long y0, .ref y2]) (vp_Sl (fun r => r = res)) 0 0 (fun _ => False) := by
  refine Met.ofW (cc := cX4_widened) (maxL := 3) (ret := (some .long)) (by decide) rfl ?_
  intro p e s m args below meth c s₁ B hml hv
  obtain ⟨hav, hH, hK⟩ := hv
  have hx := B.exec
  have hb := B.bytes
  have hr := B.returns
  have hts := atoms_spec (ws := wsX4_widened) B.pre
  have hown : s.vm.findClass RX4 = some m.cls := findClass_of_methodNamed B.named
  have hlocks := B.notSynchronized
  subst hav
  subst hH
  have F : CallFix p m c cX4_widened 3 s _ wsX4_widened RX4 := ⟨hx, hb, hml, hown, hts⟩
  have hB15 : ∀ (x0 : Int64) (ls : Array Slot), lv_has ls 3 [(0, .long x0)] → f_X4_widened_B15 S x0 = some res → W p l e (headSpec wsX4_widened ({ frames := 1, cells := 0, slots := 0, locals := 30 } : Room)).room s m ([.long y0, .ref y2] : List Value).toArray below meth c s.heap [] 0 0 (MQ below (vp_Sl (fun r => r = res)) ([.long y0, .ref y2] : List Value).toArray s 0 0 (fun _ => False)) (F0 m 15 ls []) := by
    intro x0 ls hl hf
    unfold f_X4_widened_B15 at hf
    refine lv_lload_n hx hb dX4_widened_15 rfl (lv_at hl 0 rfl) ?_
    exact W.lret (v := x0) hx hb hr (fun t ht hW => ⟨_, rfl, Option.some.inj hf, ht⟩) (fun _ h => by cases h) dX4_widened_16
  have hl := lv_entry ([.long y0, .ref y2]) (n := 3) (Nat.le_of_ble_eq_true rfl)
  rw [lg_entry_eq]
  generalize (lg_sl ([.long y0, .ref y2]) ++ List.replicate (3 - (lg_sl ([.long y0, .ref y2])).length) Slot.unset).toArray = ls at hl ⊢
  have hl : lv_has ls 3 [(0, .long y0), (2, .ref y2)] := hl
  unfold f_X4_widened at hf
  refine lv_aload_n hx hb dX4_widened_0 rfl (lv_at hl 1 rfl) ?_
  obtain ⟨t12, h13, hf⟩ := bd_some hf
  refine vp_callSi (va_runV (As := []) (rest := []) F (c_X0_isVoid l D cy (H := _) hP v_y2 h13) (cwV 0 hts gX4_widened_X0_isVoid rfl rfl rfl ⟨rfl, ph_X0_isVoid.1, ph_X0_isVoid.2, pd_X0_isVoid⟩ ⟨Nat.le_of_ble_eq_true rfl, Nat.le_of_ble_eq_true rfl⟩) ⟨PcR.bl, (q_rcv hK hP v_y2.1 (pF_0 (S := S) v_y2.2) rfl), PcR.in hK⟩ rfl rfl hl.1 rfl (lv_room (Nat.le_of_ble_eq_true rfl)) dX4_widened_1 ⟨Nat.zero_le _, Nat.zero_le _⟩).run (fun r14 er14 => ?_)
  subst r14
  refine lv_if_ne (tgt := 15) hx hb dX4_widened_4 (by decide) (fun c15 => ?_) (fun c15 => ?_)
  · have hf := it_f c15 hf
    exact hB15 y0 _ (lv_sub hl [0] rfl)  hf
  · have hf := it_t c15 hf
    refine lv_lload_n hx hb dX4_widened_7 rfl (lv_at hl 0 rfl) ?_
    refine lv_ldc2 hx hb hown (hts (.constantLong RX4 109 1000000000000000) (List.mem_of_getElem? (i := 1) rfl)) dX4_widened_8 ?_
    refine W.lcmp hx hb dX4_widened_11 ?_
    refine lv_if_le (tgt := 17) hx hb dX4_widened_12 (by decide) (fun c16 => ?_) (fun c16 => ?_)
    · have hf := it_t ((lq_le _ _).mp c16) hf
      refine lv_lload_n hx hb dX4_widened_17 rfl (lv_at hl 0 rfl) ?_
      refine lv_lload_n hx hb dX4_widened_18 rfl (lv_at hl 0 rfl) ?_
      refine lv_aload_n hx hb dX4_widened_19 rfl (lv_at hl 1 rfl) ?_
      refine q_getN F hK hP v_y2.1 (pF_0 (S := S) v_y2.2) (fun w h => List.mem_cons_of_mem _ (List.mem_append_right _ h)) rfl 3 (by decide) (nk_f_RX4_129 hK.2.1) (v := .int (fI S 3 y2)) rfl dX4_widened_20 ?_
      refine lv_i2l hx hb dX4_widened_23 rfl ?_
      obtain ⟨t17, h18, hf⟩ := bd_some hf
      refine vp_callSl (va_runS (As := [.long y0, .long ((fI S 3 y2).toInt64)]) (rest := [.long y0]) F (c_X4_commonDivisor l D cy (H := _)  h18) (va_cwS 2 hts gX4_widened_X4_commonDivisor rfl rfl rfl ⟨ph_X4_commonDivisor.1, ph_X4_commonDivisor.2, pd_X4_commonDivisor⟩ ⟨Nat.le_of_ble_eq_true rfl, Nat.le_of_ble_eq_true rfl⟩) ⟨PcR.bl, PcR.in hK⟩ rfl rfl hl.1 rfl (lv_room (Nat.le_of_ble_eq_true rfl)) dX4_widened_24 ⟨Nat.zero_le _, Nat.zero_le _⟩).run (fun r19 er19 => ?_)
      subst r19
      obtain ⟨t20, h21, hf⟩ := bd_some hf
      refine vp_callSl (va_runS (As := [.long y0, .long t17]) (rest := []) F (c_X4_share l D cy (H := _)  h21) (va_cwS 2 hts gX4_widened_X4_share rfl rfl rfl ⟨ph_X4_share.1, ph_X4_share.2, pd_X4_share⟩ ⟨Nat.le_of_ble_eq_true rfl, Nat.le_of_ble_eq_true rfl⟩) ⟨PcR.bl, PcR.in hK⟩ rfl rfl hl.1 rfl (lv_room (Nat.le_of_ble_eq_true rfl)) dX4_widened_27 ⟨Nat.zero_le _, Nat.zero_le _⟩).run (fun r22 er22 => ?_)
      subst r22
      refine lv_aload_n hx hb dX4_widened_30 rfl (lv_at hl 1 rfl) ?_
      refine q_getN F hK hP v_y2.1 (pF_0 (S := S) v_y2.2) (fun w h => List.mem_cons_of_mem _ (List.mem_append_right _ h)) rfl 3 (by decide) (nk_f_RX4_129 hK.2.1) (v := .int (fI S 3 y2)) rfl dX4_widened_31 ?_
      refine lv_i2l hx hb dX4_widened_34 rfl ?_
      refine lv_lmul hx hb dX4_widened_35 ?_
      exact W.lret (v := (t20 * ((fI S 3 y2).toInt64))) hx hb hr (fun t ht hW => ⟨_, rfl, Option.some.inj hf, ht⟩) (fun _ h => by cases h) dX4_widened_36
    · have hf := it_f (fun z => c16 ((lq_le _ _).mpr z)) hf
      exact hB15 y0 _ (lv_sub hl [0] rfl)  hf
def f_X3_span_B41 (S : PS) (x2 : Int64) : Option Int64 :=
  some x2
def f_X3_span_B35 (S : PS) (kL5 : Nat → Int32 → Int64 → Int32 → Option Int64) (ke41 : Int64 → Option Int64) (x0 : Nat) (x1 : Int32) (x2 : Int64) (x4 : Int32) : Option Int64 :=
  kL5 x0 x1 x2 (x4 + 1)
def f_X3_span_L5s (S : PS) (kL5 : Nat → Int32 → Int64 → Int32 → Option Int64) (ke41 : Int64 → Option Int64) (x0 : Nat) (x1 : Int32) (x2 : Int64) (x4 : Int32) : Option Int64 :=
  if (fI S 51 x0) ≤ x4 then (ke41 x2) else
  bd (f_X4_bit x4) fun t2 =>
  if (x1 &&& t2) = 0 then (f_X3_span_B35 S kL5 ke41 x0 x1 x2 x4) else
  bd (f_X3_at S x0 x4) fun t6 =>
  bd (f_X4_widened S x2 t6) fun t9 =>
  f_X3_span_B35 S kL5 ke41 x0 x1 t9 x4
def f_X3_span_L5 (S : PS) (ke41 : Int64 → Option Int64) (fu : Nat) : Nat → Int32 → Int64 → Int32 → Option Int64 := fx (fun kL => f_X3_span_L5s S kL ke41) (fun _ _ _ _ => none) fu
def f_X3_span (S : PS) (x0 : Nat) (x1 : Int32) : Option Int64 :=
  f_X3_span_L5 S (f_X3_span_B41 S) FU x0 x1 1 0
set_option maxHeartbeats 4000000 in
set_option maxRecDepth 100000 in
theorem c_X3_span (l : Launch) (D : va_G) (cy : cyT) {H : Heap} {S : PS} (hP : va_P D vwCl (wl cy S) H) {y0 : Nat} {y1 : Int32} (v_y0 : vd S y0 3) {res : Int64} (hf : f_X3_span S y0 y1 = some res) : Met l yX3_span wsX3_span ({ frames := 2, cells := 0, slots := 0, locals := 52 } : Room) (PcR D cy H [.ref y0, .int y1]) (vp_Sl (fun r => r = res)) 0 0 (fun _ => False) := by
  refine Met.ofW (cc := cX3_span) (maxL := 5) (ret := (some .long)) (by decide) rfl ?_
  intro p e s m args below meth c s₁ B hml hv
  obtain ⟨hav, hH, hK⟩ := hv
  have hx := B.exec
  have hb := B.bytes
  have hr := B.returns
  have hts := atoms_spec (ws := wsX3_span) B.pre
  have hown : s.vm.findClass RX3 = some m.cls := findClass_of_methodNamed B.named
  have hlocks := B.notSynchronized
  subst hav
  subst hH
  have F : CallFix p m c cX3_span 5 s _ wsX3_span RX3 := ⟨hx, hb, hml, hown, hts⟩
  have hB41 : ∀ (x2 : Int64) (ls : Array Slot), lv_has ls 5 [(2, .long x2)] → f_X3_span_B41 S x2 = some res → W p l e (headSpec wsX3_span ({ frames := 2, cells := 0, slots := 0, locals := 52 } : Room)).room s m ([.ref y0, .int y1] : List Value).toArray below meth c s.heap [] 0 0 (MQ below (vp_Sl (fun r => r = res)) ([.ref y0, .int y1] : List Value).toArray s 0 0 (fun _ => False)) (F0 m 41 ls []) := by
    intro x2 ls hl hf
    unfold f_X3_span_B41 at hf
    refine lv_lload_n hx hb dX3_span_41 rfl (lv_at hl 0 rfl) ?_
    exact W.lret (v := x2) hx hb hr (fun t ht hW => ⟨_, rfl, Option.some.inj hf, ht⟩) (fun _ h => by cases h) dX3_span_42
  have hL5 : ∀ (fu5 : Nat), ∀ (x0 : Nat) (x1 : Int32) (x2 : Int64) (x4 : Int32) (ls : Array Slot), lv_has ls 5 [(0, .ref x0), (1, .int x1), (2, .long x2), (4, .int x4)] → vd S x0 3 → f_X3_span_L5 S (f_X3_span_B41 S) fu5 x0 x1 x2 x4 = some res → W p l e (headSpec wsX3_span ({ frames := 2, cells := 0, slots := 0, locals := 52 } : Room)).room s m ([.ref y0, .int y1] : List Value).toArray below meth c s.heap [] 0 0 (MQ below (vp_Sl (fun r => r = res)) ([.ref y0, .int y1] : List Value).toArray s 0 0 (fun _ => False)) (F0 m 5 ls []) := by
    intro fu5
    induction fu5 with
    | zero =>
      intro x0 x1 x2 x4 ls hl v_x0 hf
      have hf : (none : Option Int64) = some res := hf
      cases hf
    | succ fu5 ih5 =>
      have hB35 : ∀ (x0 : Nat) (x1 : Int32) (x2 : Int64) (x4 : Int32) (ls : Array Slot), lv_has ls 5 [(0, .ref x0), (1, .int x1), (2, .long x2), (4, .int x4)] → vd S x0 3 → f_X3_span_B35 S (f_X3_span_L5 S (f_X3_span_B41 S) fu5) (f_X3_span_B41 S) x0 x1 x2 x4 = some res → W p l e (headSpec wsX3_span ({ frames := 2, cells := 0, slots := 0, locals := 52 } : Room)).room s m ([.ref y0, .int y1] : List Value).toArray below meth c s.heap [] 0 0 (MQ below (vp_Sl (fun r => r = res)) ([.ref y0, .int y1] : List Value).toArray s 0 0 (fun _ => False)) (F0 m 35 ls []) := by
        intro x0 x1 x2 x4 ls hl v_x0 hf
        unfold f_X3_span_B35 at hf
        refine lv_iinc (v := x4 + 1) (lv' := [(4, .int (x4 + 1)), (0, .ref x0), (1, .int x1), (2, .long x2)]) hx hb dX3_span_35 hl (k := 3) rfl (by rfl) (by decide) rfl (fun ls hl => ?_)
        refine lv_goto (tgt := 5) hx hb dX3_span_38 (by decide) ?_
        exact ih5 x0 x1 x2 (x4 + 1) _ (lv_sub hl [1, 2, 3, 0] rfl) v_x0 hf
      intro x0 x1 x2 x4 ls hl v_x0 hf
      have hf : f_X3_span_L5s S (f_X3_span_L5 S (f_X3_span_B41 S) fu5) (f_X3_span_B41 S) x0 x1 x2 x4 = some res := hf
      unfold f_X3_span_L5s at hf
      refine lv_iload hx hb dX3_span_5 (lv_at hl 3 rfl) ?_
      refine lv_aload_n hx hb dX3_span_7 rfl (lv_at hl 0 rfl) ?_
      refine q_get F hK hP v_x0.1 (pF_3 (S := S) v_x0.2) (fun w h => List.mem_cons_of_mem _ (List.mem_append_left _ (List.mem_append_right _ h))) rfl 3 (by decide) (hts (.fieldLink RX3 25 "SharedModuli$State" "size" "I") (List.mem_of_getElem? (i := 1) rfl)) (v := .int (fI S 51 x0)) rfl dX3_span_8 ?_
      refine lv_icmp_ge (tgt := 41) hx hb dX3_span_11 (by decide) (fun c12 => ?_) (fun c12 => ?_)
      · have hf := it_t c12 hf
        exact hB41 x2 _ (lv_sub hl [2] rfl)  hf
      · have hf := it_f c12 hf
        refine lv_iload_n hx hb dX3_span_14 rfl (lv_at hl 1 rfl) ?_
        refine lv_iload hx hb dX3_span_15 (lv_at hl 3 rfl) ?_
        obtain ⟨t13, h14, hf⟩ := bd_some hf
        refine vp_callSi (va_runSN (As := [.int x4]) (rest := [.int x1]) F (c_X4_bit l D cy (H := _)  h14) ⟨(va_cnB 1 hts gX3_span_X4_bit_n44 rfl rfl rfl (nk_m_RX3_44 hK.2.1) (hts (.initialized RX4) (List.mem_of_getElem? (i := 3) rfl)) ⟨ph_X4_bit.1, ph_X4_bit.2, pd_X4_bit⟩ ⟨Nat.le_of_ble_eq_true rfl, Nat.le_of_ble_eq_true rfl⟩), (hts (.static yX4_bit) (List.mem_of_getElem? (i := 2) rfl)), trivial⟩ ⟨PcR.bl, PcR.in hK⟩ rfl rfl hl.1 rfl (lv_room (Nat.le_of_ble_eq_true rfl)) dX3_span_17 ⟨Nat.zero_le _, Nat.zero_le _⟩).run (fun r15 er15 => ?_)
        subst r15
        refine lv_iand hx hb dX3_span_20 ?_
        refine lv_if_eq (tgt := 35) hx hb dX3_span_21 (by decide) (fun c16 => ?_) (fun c16 => ?_)
        · have hf := it_t c16 hf
          exact hB35 x0 x1 x2 x4 _ (lv_sub hl [0, 1, 2, 3] rfl) v_x0 hf
        · have hf := it_f c16 hf
          refine lv_lload_n hx hb dX3_span_24 rfl (lv_at hl 2 rfl) ?_
          refine lv_aload_n hx hb dX3_span_25 rfl (lv_at hl 0 rfl) ?_
          refine lv_iload hx hb dX3_span_26 (lv_at hl 3 rfl) ?_
          obtain ⟨t17, h18, hf⟩ := bd_some hf
          refine va_csr (va_runV (As := [.int x4]) (rest := [.long x2]) F (c_X3_at l D cy (H := _) hP v_x0 h18) (cwV 1 hts gX3_span_X3_at rfl rfl rfl ⟨rfl, ph_X3_at.1, ph_X3_at.2, pd_X3_at⟩ ⟨Nat.le_of_ble_eq_true rfl, Nat.le_of_ble_eq_true rfl⟩) ⟨PcR.bl, (q_rcv hK hP v_x0.1 (pF_3 (S := S) v_x0.2) rfl), PcR.in hK⟩ rfl rfl hl.1 rfl (lv_room (Nat.le_of_ble_eq_true rfl)) dX3_span_28 ⟨Nat.zero_le _, Nat.zero_le _⟩).run (fun r19 er19 => ?_)
          obtain ⟨er19, v_t17⟩ := er19
          subst r19
          obtain ⟨t20, h21, hf⟩ := bd_some hf
          refine vp_callSl (va_runSN (As := [.long x2, .ref t17]) (rest := []) F (c_X4_widened l D cy (H := _) hP v_t17 h21) ⟨(va_cnB 2 hts gX3_span_X4_widened_n71 rfl rfl rfl (nk_m_RX3_71 hK.2.1) (hts (.initialized RX4) (List.mem_of_getElem? (i := 3) rfl)) ⟨ph_X4_widened.1, ph_X4_widened.2, pd_X4_widened⟩ ⟨Nat.le_of_ble_eq_true rfl, Nat.le_of_ble_eq_true rfl⟩), (hts (.static yX4_widened) (List.mem_of_getElem? (i := 12) rfl)), trivial⟩ ⟨PcR.bl, PcR.in hK⟩ rfl rfl hl.1 rfl (lv_room (Nat.le_of_ble_eq_true rfl)) dX3_span_31 ⟨Nat.zero_le _, Nat.zero_le _⟩).run (fun r22 er22 => ?_)
          subst r22
          refine lv_lstore_n (lv' := [(2, .long t20), (0, .ref x0), (1, .int x1), (4, .int x4)]) hx hb dX3_span_34 rfl hl (by decide) rfl (fun ls hl => ?_)
          exact hB35 x0 x1 t20 x4 _ (lv_sub hl [1, 2, 0, 3] rfl) v_x0 hf
  have hl := lv_entry ([.ref y0, .int y1]) (n := 5) (Nat.le_of_ble_eq_true rfl)
  rw [lg_entry_eq]
  generalize (lg_sl ([.ref y0, .int y1]) ++ List.replicate (5 - (lg_sl ([.ref y0, .int y1])).length) Slot.unset).toArray = ls at hl ⊢
  have hl : lv_has ls 5 [(0, .ref y0), (1, .int y1)] := hl
  unfold f_X3_span at hf
  refine lv_lconst (v := 1) hx hb dX3_span_0 (by decide) ?_
  refine lv_lstore_n (lv' := [(2, .long 1), (0, .ref y0), (1, .int y1)]) hx hb dX3_span_1 rfl hl (by decide) rfl (fun ls hl => ?_)
  refine lv_iconst (v := 0) hx hb dX3_span_2 (by decide) ?_
  refine lv_istore (lv' := [(4, .int 0), (2, .long 1), (0, .ref y0), (1, .int y1)]) hx hb dX3_span_3 hl (by decide) rfl (fun ls hl => ?_)
  exact hL5 FU y0 y1 1 0 _ (lv_sub hl [2, 3, 1, 0] rfl) v_y0 hf

def f_X4_condition_B31 (S : PS) : Option ((Int32 ⊕ Nat) × PS) :=
  some (.inr 0, S)
def f_X4_condition_B193 (S : PS) (s0 : Int32) : Option ((Int32 ⊕ Nat) × PS) :=
  some (.inl s0, S)
def f_X4_condition_B127 (S : PS) (s0 : Int32) : Option ((Int32 ⊕ Nat) × PS) :=
  some (.inl s0, S)
def f_X4_condition_B140 (S : PS) (s0 : Int32) : Option ((Int32 ⊕ Nat) × PS) :=
  some (.inl s0, S)
def f_X4_condition (S : PS) (x0 : Nat) (x1 : Int32) (x2 : Int32) : Option ((Int32 ⊕ Nat) × PS) :=
  rq (fR S 64 x0) S 3 fun b1 =>
  bd (f_X3_has S b1 x1) fun t3 =>
  if t3 = 0 then (some (.inr 2, S)) else
  if x2 < 0 then (f_X4_condition_B31 S) else
  if x2 ≤ 8 then (rq (fR S 64 x0) S 3 fun b9 =>
  bd (f_X3_at S b9 x1) fun t11 =>
  if x2 = 0 then (some (.inl (fI S 0 t11), S)) else
  if x2 = 1 then (some (.inl (fI S 1 t11), S)) else
  if x2 = 2 then (some (.inl (fI S 2 t11), S)) else
  if x2 = 3 then (rq (fR S 64 x0) S 3 fun b15 =>
  bd (f_X3_isOn S b15 x1) fun t17 =>
  if t17 = 0 then (f_X4_condition_B127 S 0) else
  f_X4_condition_B127 S 1) else
  if x2 = 4 then (bd (f_X0_isVoid S t11) fun t21 =>
  if t21 = 0 then (f_X4_condition_B140 S 0) else
  f_X4_condition_B140 S 1) else
  if x2 = 5 then (some (.inl (fI S 3 t11), S)) else
  if x2 = 6 then (some (.inl (fI S 4 t11), S)) else
  if x2 = 7 then (rq (fR S 64 x0) S 3 fun b25 =>
  bd (f_X4_bit x1) fun t27 =>
  rq (fR S 64 x0) S 3 fun b30 =>
  bd (f_X3_partnersAt S b30 x1) fun t32 =>
  bd (f_J6_bitCount_0f7a4 (((fI S 52 b25) &&& (t27 ^^^ ((-1) : Int32))) &&& (t32 ^^^ ((-1) : Int32)))) fun t35 =>
  some (.inl t35, S)) else
  bd (f_X4_isTold S x0 x1) fun t38 =>
  if t38.1 = 0 then (f_X4_condition_B193 t38.2 0) else
  f_X4_condition_B193 t38.2 1) else
  f_X4_condition_B31 S
set_option maxHeartbeats 4000000 in
set_option maxRecDepth 100000 in
theorem c_X4_condition (l : Launch) (hst : l.stackTraces = false) (D : va_G) (cy : cyT) {S : PS} {n : Nat} {y0 : Nat} {y1 : Int32} {y2 : Int32} (v_y0 : vd S y0 4) {res : (Int32 ⊕ Nat) × PS} (hf : f_X4_condition S y0 y1 y2 = some res) : vx_Met l yX4_condition wsX4_condition ({ frames := 6, cells := 1, slots := 6, locals := 111 } : Room) (PcW True D cy S n [.ref y0, .int y1, .int y2]) (va_Qi (fun (r : Int32) (u : PS × Nat) => Sum.inl r = res.1 ∧ u = (res.2, n)) (BW D cy S n) (AA cy S n)) (vx_X (fun k : Nat => res.1 = .inr k) (fun E k t => XO D cy S n res.2 E k t) (AA cy S n)) 1 6 (AA cy S n) := by
  refine vx_ofW (cc := cX4_condition) (maxL := 4) (ret := (some .int)) (by decide) rfl ?_
  intro p e s m args below meth c s₁ B hml hex hv
  obtain ⟨hav, hsz, hP0, hD0, hK, hZ0⟩ := hv
  have hx := B.exec
  have hb := B.bytes
  have hr := B.returns
  have hts := atoms_spec (ws := wsX4_condition) B.pre
  have hown : s.vm.findClass RX4 = some m.cls := findClass_of_methodNamed B.named
  have hlocks := B.notSynchronized
  subst hav
  have hw : Hw D cy (AA cy S n) s.heap S n s.heap [] := Hw.start hsz hP0 hD0
  have hA : ∀ q, s.heap.size ≤ q → AA cy S n q := fun q h => Or.inr (hsz ▸ h)
  have hE : EX S S := EX.rf
  have hZ := hZ0 trivial
  have F : CallFix p m c cX4_condition 4 s _ wsX4_condition RX4 := ⟨hx, hb, hml, hown, hts⟩
  have hB31 : ∀ (Sb : PS) (H1 : Heap) (lo1 : List Loc) (kc ks : Nat) (_ : kc + 1 ≤ 1) (_ : ks + 6 ≤ 6)  (ls : Array Slot), lv_has ls 4 [] → Hw D cy (AA cy S n) s.heap Sb n H1 lo1 → EX S Sb → f_X4_condition_B31 Sb = some res → W p l e (headSpec wsX4_condition ({ frames := 6, cells := 1, slots := 6, locals := 111 } : Room)).room s m ([.ref y0, .int y1, .int y2] : List Value).toArray below meth c H1 lo1 kc ks (vx_MQ below (va_Qi (fun (r : Int32) (u : PS × Nat) => Sum.inl r = res.1 ∧ u = (res.2, n)) (BW D cy S n) (AA cy S n)) (vx_X (fun k : Nat => res.1 = .inr k) (fun E k t => XO D cy S n res.2 E k t) (AA cy S n)) ([.ref y0, .int y1, .int y2] : List Value).toArray s 1 6 (AA cy S n)) (F0 m 31 ls []) := by
    intro Sb H1 lo1 kc ks hkc hks ls hl hw hE hf
    unfold f_X4_condition_B31 at hf
    obtain ⟨sa, hsa⟩ := sk_187 hK.2.2.1
    refine vx_throwS hx hb hst (names := ["java/lang/RuntimeException", "java/lang/Exception"]) hown (by decide +kernel) (by decide +kernel) (hts (.classLink RX4 59 "java/lang/IllegalArgumentException") (List.mem_of_getElem? (i := 3) rfl)) (hts (.initialized "java/lang/IllegalArgumentException") (List.mem_of_getElem? (i := 4) rfl)) hsa (vx_hat (B := xb_63) (fun w h => hts w (List.mem_cons_of_mem _ (List.mem_append_right _ h))) xn_63 (xk_63 hK.2.2.2.2.2)) xg_63 hZ.1 hZ.2.1 hw.2.2.1 (hl.1.trans hml.symm) dX4_condition_31 dX4_condition_34 dX4_condition_35 dX4_condition_37 dX4_condition_40 (fun x h => (hex x h).elim) (Nat.le_of_ble_eq_true rfl) (Nat.le_of_ble_eq_true rfl) (by show _ ≤ 1; omega) (by show _ ≤ 6; omega) hlocks (fun t hvm hz hk => ?_) hw.2.2.1.2.2 (by omega) (by omega)
    exact xo_of hw hE hz hk (by show (_ : String) = _; rfl) (po2x hf).1 (po2x hf).2
  have hB193 : ∀ (Sb : PS) (H1 : Heap) (lo1 : List Loc) (kc ks : Nat) (_ : kc + 0 ≤ 1) (_ : ks + 0 ≤ 6) (s0 : Int32) (ls : Array Slot), lv_has ls 4 [] → Hw D cy (AA cy S n) s.heap Sb n H1 lo1 → EX S Sb → f_X4_condition_B193 Sb s0 = some res → W p l e (headSpec wsX4_condition ({ frames := 6, cells := 1, slots := 6, locals := 111 } : Room)).room s m ([.ref y0, .int y1, .int y2] : List Value).toArray below meth c H1 lo1 kc ks (vx_MQ below (va_Qi (fun (r : Int32) (u : PS × Nat) => Sum.inl r = res.1 ∧ u = (res.2, n)) (BW D cy S n) (AA cy S n)) (vx_X (fun k : Nat => res.1 = .inr k) (fun E k t => XO D cy S n res.2 E k t) (AA cy S n)) ([.ref y0, .int y1, .int y2] : List Value).toArray s 1 6 (AA cy S n)) (F0 m 193 ls [.int s0]) := by
    intro Sb H1 lo1 kc ks hkc hks s0 ls hl hw hE hf
    unfold f_X4_condition_B193 at hf
    refine vx_ret ?_
    refine W.widen (k := 1) (n := 6) (by omega) (by omega) ?_
    exact W.iret (v := s0) hx hb hr (fun t ht hW => ⟨⟨_, (Sb, n), rfl, po2t hf, BW.of hw hE ht⟩, hw.2.2.1.F ht⟩) hw.2.2.1.2.2 dX4_condition_193
  have hB127 : ∀ (Sb : PS) (H1 : Heap) (lo1 : List Loc) (kc ks : Nat) (_ : kc + 0 ≤ 1) (_ : ks + 0 ≤ 6) (s0 : Int32) (ls : Array Slot), lv_has ls 4 [] → Hw D cy (AA cy S n) s.heap Sb n H1 lo1 → EX S Sb → f_X4_condition_B127 Sb s0 = some res → W p l e (headSpec wsX4_condition ({ frames := 6, cells := 1, slots := 6, locals := 111 } : Room)).room s m ([.ref y0, .int y1, .int y2] : List Value).toArray below meth c H1 lo1 kc ks (vx_MQ below (va_Qi (fun (r : Int32) (u : PS × Nat) => Sum.inl r = res.1 ∧ u = (res.2, n)) (BW D cy S n) (AA cy S n)) (vx_X (fun k : Nat => res.1 = .inr k) (fun E k t => XO D cy S n res.2 E k t) (AA cy S n)) ([.ref y0, .int y1, .int y2] : List Value).toArray s 1 6 (AA cy S n)) (F0 m 127 ls [.int s0]) := by
    intro Sb H1 lo1 kc ks hkc hks s0 ls hl hw hE hf
    unfold f_X4_condition_B127 at hf
    refine vx_ret ?_
    refine W.widen (k := 1) (n := 6) (by omega) (by omega) ?_
    exact W.iret (v := s0) hx hb hr (fun t ht hW => ⟨⟨_, (Sb, n), rfl, po2t hf, BW.of hw hE ht⟩, hw.2.2.1.F ht⟩) hw.2.2.1.2.2 dX4_condition_127
  have hB140 : ∀ (Sb : PS) (H1 : Heap) (lo1 : List Loc) (kc ks : Nat) (_ : kc + 0 ≤ 1) (_ : ks + 0 ≤ 6) (s0 : Int32) (ls : Array Slot), lv_has ls 4 [] → Hw D cy (AA cy S n) s.heap Sb n H1 lo1 → EX S Sb → f_X4_condition_B140 Sb s0 = some res → W p l e (headSpec wsX4_condition ({ frames := 6, cells := 1, slots := 6, locals := 111 } : Room)).room s m ([.ref y0, .int y1, .int y2] : List Value).toArray below meth c H1 lo1 kc ks (vx_MQ below (va_Qi (fun (r : Int32) (u : PS × Nat) => Sum.inl r = res.1 ∧ u = (res.2, n)) (BW D cy S n) (AA cy S n)) (vx_X (fun k : Nat => res.1 = .inr k) (fun E k t => XO D cy S n res.2 E k t) (AA cy S n)) ([.ref y0, .int y1, .int y2] : List Value).toArray s 1 6 (AA cy S n)) (F0 m 140 ls [.int s0]) := by
    intro Sb H1 lo1 kc ks hkc hks s0 ls hl hw hE hf
    unfold f_X4_condition_B140 at hf
    refine vx_ret ?_
    refine W.widen (k := 1) (n := 6) (by omega) (by omega) ?_
    exact W.iret (v := s0) hx hb hr (fun t ht hW => ⟨⟨_, (Sb, n), rfl, po2t hf, BW.of hw hE ht⟩, hw.2.2.1.F ht⟩) hw.2.2.1.2.2 dX4_condition_140
  have hl := lv_entry ([.ref y0, .int y1, .int y2]) (n := 4) (Nat.le_of_ble_eq_true rfl)
  rw [lg_entry_eq]
  generalize (lg_sl ([.ref y0, .int y1, .int y2]) ++ List.replicate (4 - (lg_sl ([.ref y0, .int y1, .int y2])).length) Slot.unset).toArray = ls at hl ⊢
  have hl : lv_has ls 4 [(0, .ref y0), (1, .int y1), (2, .int y2)] := hl
  unfold f_X4_condition at hf
  refine lv_aload_n hx hb dX4_condition_0 rfl (lv_at hl 0 rfl) ?_
  obtain ⟨b41, e42, v_b41, hf⟩ := rq_some hf
  refine q_get F hK hw.1 v_y0.1 (pF_4 (S := S) v_y0.2) (fun w h => List.mem_cons_of_mem _ (List.mem_append_left _ (List.mem_append_left _ (List.mem_append_left _ (List.mem_append_left _ (List.mem_append_left _ (List.mem_append_right _ h))))))) rfl 0 (by decide) (hts (.fieldLink RX4 17 "SharedModuli" "now" "LSharedModuli$State;") (List.mem_of_getElem? (i := 5) rfl)) (v := .ref b41) (congrArg (fun z => some (va_rf z)) e42) dX4_condition_1 ?_
  refine lv_iload_n hx hb dX4_condition_4 rfl (lv_at hl 1 rfl) ?_
  obtain ⟨t43, h44, hf⟩ := bd_some hf
  refine vp_callSi (va_runV (As := [.int y1]) (rest := []) F (c_X3_has l D cy (H := _) hw.1 v_b41 h44) (cwV 1 hts gX4_condition_X3_has rfl rfl rfl ⟨rfl, ph_X3_has.1, ph_X3_has.2, pd_X3_has⟩ ⟨Nat.le_of_ble_eq_true rfl, Nat.le_of_ble_eq_true rfl⟩) ⟨PcR.bl, (q_rcv hK hw.1 v_b41.1 (pF_3 (S := S) v_b41.2) rfl), PcR.in hK⟩ rfl rfl hl.1 rfl (lv_room (Nat.le_of_ble_eq_true rfl)) dX4_condition_5 ⟨by show _ ≤ 1; omega, by show _ ≤ 6; omega⟩).run (fun r45 er45 => ?_)
  subst r45
  refine lv_if_ne (tgt := 21) hx hb dX4_condition_8 (by decide) (fun c46 => ?_) (fun c46 => ?_)
  · have hf := it_f c46 hf
    refine lv_iload_n hx hb dX4_condition_21 rfl (lv_at hl 2 rfl) ?_
    refine lv_if_lt (tgt := 31) hx hb dX4_condition_22 (by decide) (fun c47 => ?_) (fun c47 => ?_)
    · have hf := it_t c47 hf
      exact hB31 S _ _ _ _ (by omega) (by omega) _ (lv_sub hl [] rfl) hw hE  hf
    · have hf := it_f c47 hf
      refine lv_iload_n hx hb dX4_condition_25 rfl (lv_at hl 2 rfl) ?_
      refine lv_bipush (v := 8) hx hb dX4_condition_26 (by decide) ?_
      refine lv_icmp_le (tgt := 41) hx hb dX4_condition_28 (by decide) (fun c48 => ?_) (fun c48 => ?_)
      · have hf := it_t c48 hf
        refine lv_aload_n hx hb dX4_condition_41 rfl (lv_at hl 0 rfl) ?_
        obtain ⟨b49, e50, v_b49, hf⟩ := rq_some hf
        refine q_get F hK hw.1 v_y0.1 (pF_4 (S := S) v_y0.2) (fun w h => List.mem_cons_of_mem _ (List.mem_append_left _ (List.mem_append_left _ (List.mem_append_left _ (List.mem_append_left _ (List.mem_append_left _ (List.mem_append_right _ h))))))) rfl 0 (by decide) (hts (.fieldLink RX4 17 "SharedModuli" "now" "LSharedModuli$State;") (List.mem_of_getElem? (i := 5) rfl)) (v := .ref b49) (congrArg (fun z => some (va_rf z)) e50) dX4_condition_42 ?_
        refine lv_iload_n hx hb dX4_condition_45 rfl (lv_at hl 1 rfl) ?_
        obtain ⟨t51, h52, hf⟩ := bd_some hf
        refine va_csr (va_runV (As := [.int y1]) (rest := []) F (c_X3_at l D cy (H := _) hw.1 v_b49 h52) (cwV 1 hts gX4_condition_X3_at rfl rfl rfl ⟨rfl, ph_X3_at.1, ph_X3_at.2, pd_X3_at⟩ ⟨Nat.le_of_ble_eq_true rfl, Nat.le_of_ble_eq_true rfl⟩) ⟨PcR.bl, (q_rcv hK hw.1 v_b49.1 (pF_3 (S := S) v_b49.2) rfl), PcR.in hK⟩ rfl rfl hl.1 rfl (lv_room (Nat.le_of_ble_eq_true rfl)) dX4_condition_46 ⟨by show _ ≤ 1; omega, by show _ ≤ 6; omega⟩).run (fun r53 er53 => ?_)
        obtain ⟨er53, v_t51⟩ := er53
        subst r53
        refine lv_astore_n (lv' := [(3, .ref t51), (0, .ref y0), (1, .int y1), (2, .int y2)]) hx hb dX4_condition_49 rfl hl (by decide) rfl (fun ls hl => ?_)
        refine lv_iload_n hx hb dX4_condition_50 rfl (lv_at hl 3 rfl) ?_
        by_cases c54_0 : y2 = 0
        · have hf := it_t c54_0 hf
          refine lv_tableIn (off := 45) (tgt := 96) hx hb dX4_condition_51 (by rw [c54_0]; decide) (by rw [c54_0]; decide) (by rw [c54_0]; rfl) (by decide) ?_
          refine lv_aload_n hx hb dX4_condition_96 rfl (lv_at hl 0 rfl) ?_
          refine q_getN F hK hw.1 v_t51.1 (pF_0 (S := S) v_t51.2) (fun w h => List.mem_cons_of_mem _ (List.mem_append_left _ (List.mem_append_left _ (List.mem_append_left _ (List.mem_append_left _ (List.mem_append_right _ h)))))) rfl 0 (by decide) (nk_f_RX4_189 hK.2.1) (v := .int (fI S 0 t51)) rfl dX4_condition_97 ?_
          refine vx_ret ?_
          refine W.widen (k := 1) (n := 6) (by omega) (by omega) ?_
          exact W.iret (v := (fI S 0 t51)) hx hb hr (fun t ht hW => ⟨⟨_, (S, n), rfl, po2t hf, BW.of hw hE ht⟩, hw.2.2.1.F ht⟩) hw.2.2.1.2.2 dX4_condition_100
        have hf := it_f c54_0 hf
        by_cases c54_1 : y2 = 1
        · have hf := it_t c54_1 hf
          refine lv_tableIn (off := 50) (tgt := 101) hx hb dX4_condition_51 (by rw [c54_1]; decide) (by rw [c54_1]; decide) (by rw [c54_1]; rfl) (by decide) ?_
          refine lv_aload_n hx hb dX4_condition_101 rfl (lv_at hl 0 rfl) ?_
          refine q_getN F hK hw.1 v_t51.1 (pF_0 (S := S) v_t51.2) (fun w h => List.mem_cons_of_mem _ (List.mem_append_left _ (List.mem_append_left _ (List.mem_append_left _ (List.mem_append_left _ (List.mem_append_right _ h)))))) rfl 1 (by decide) (nk_f_RX4_192 hK.2.1) (v := .int (fI S 1 t51)) rfl dX4_condition_102 ?_
          refine vx_ret ?_
          refine W.widen (k := 1) (n := 6) (by omega) (by omega) ?_
          exact W.iret (v := (fI S 1 t51)) hx hb hr (fun t ht hW => ⟨⟨_, (S, n), rfl, po2t hf, BW.of hw hE ht⟩, hw.2.2.1.F ht⟩) hw.2.2.1.2.2 dX4_condition_105
        have hf := it_f c54_1 hf
        by_cases c54_2 : y2 = 2
        · have hf := it_t c54_2 hf
          refine lv_tableIn (off := 55) (tgt := 106) hx hb dX4_condition_51 (by rw [c54_2]; decide) (by rw [c54_2]; decide) (by rw [c54_2]; rfl) (by decide) ?_
          refine lv_aload_n hx hb dX4_condition_106 rfl (lv_at hl 0 rfl) ?_
          refine q_getN F hK hw.1 v_t51.1 (pF_0 (S := S) v_t51.2) (fun w h => List.mem_cons_of_mem _ (List.mem_append_left _ (List.mem_append_left _ (List.mem_append_left _ (List.mem_append_left _ (List.mem_append_right _ h)))))) rfl 2 (by decide) (nk_f_RX4_195 hK.2.1) (v := .int (fI S 2 t51)) rfl dX4_condition_107 ?_
          refine vx_ret ?_
          refine W.widen (k := 1) (n := 6) (by omega) (by omega) ?_
          exact W.iret (v := (fI S 2 t51)) hx hb hr (fun t ht hW => ⟨⟨_, (S, n), rfl, po2t hf, BW.of hw hE ht⟩, hw.2.2.1.F ht⟩) hw.2.2.1.2.2 dX4_condition_110
        have hf := it_f c54_2 hf
        by_cases c54_3 : y2 = 3
        · have hf := it_t c54_3 hf
          refine lv_tableIn (off := 60) (tgt := 111) hx hb dX4_condition_51 (by rw [c54_3]; decide) (by rw [c54_3]; decide) (by rw [c54_3]; rfl) (by decide) ?_
          refine lv_aload_n hx hb dX4_condition_111 rfl (lv_at hl 1 rfl) ?_
          obtain ⟨b55, e56, v_b55, hf⟩ := rq_some hf
          refine q_get F hK hw.1 v_y0.1 (pF_4 (S := S) v_y0.2) (fun w h => List.mem_cons_of_mem _ (List.mem_append_left _ (List.mem_append_left _ (List.mem_append_left _ (List.mem_append_left _ (List.mem_append_left _ (List.mem_append_right _ h))))))) rfl 0 (by decide) (hts (.fieldLink RX4 17 "SharedModuli" "now" "LSharedModuli$State;") (List.mem_of_getElem? (i := 5) rfl)) (v := .ref b55) (congrArg (fun z => some (va_rf z)) e56) dX4_condition_112 ?_
          refine lv_iload_n hx hb dX4_condition_115 rfl (lv_at hl 2 rfl) ?_
          obtain ⟨t57, h58, hf⟩ := bd_some hf
          refine vp_callSi (va_runV (As := [.int y1]) (rest := []) F (c_X3_isOn l D cy (H := _) hw.1 v_b55 h58) (cwV 1 hts gX4_condition_X3_isOn rfl rfl rfl ⟨rfl, ph_X3_isOn.1, ph_X3_isOn.2, pd_X3_isOn⟩ ⟨Nat.le_of_ble_eq_true rfl, Nat.le_of_ble_eq_true rfl⟩) ⟨PcR.bl, (q_rcv hK hw.1 v_b55.1 (pF_3 (S := S) v_b55.2) rfl), PcR.in hK⟩ rfl rfl hl.1 rfl (lv_room (Nat.le_of_ble_eq_true rfl)) dX4_condition_116 ⟨by show _ ≤ 1; omega, by show _ ≤ 6; omega⟩).run (fun r59 er59 => ?_)
          subst r59
          refine lv_if_eq (tgt := 126) hx hb dX4_condition_119 (by decide) (fun c60 => ?_) (fun c60 => ?_)
          · have hf := it_t c60 hf
            refine lv_iconst (v := 0) hx hb dX4_condition_126 (by decide) ?_
            exact hB127 S _ _ _ _ (by omega) (by omega) 0 _ (lv_sub hl [] rfl) hw hE  hf
          · have hf := it_f c60 hf
            refine lv_iconst (v := 1) hx hb dX4_condition_122 (by decide) ?_
            refine lv_goto (tgt := 127) hx hb dX4_condition_123 (by decide) ?_
            exact hB127 S _ _ _ _ (by omega) (by omega) 1 _ (lv_sub hl [] rfl) hw hE  hf
        have hf := it_f c54_3 hf
        by_cases c54_4 : y2 = 4
        · have hf := it_t c54_4 hf
          refine lv_tableIn (off := 77) (tgt := 128) hx hb dX4_condition_51 (by rw [c54_4]; decide) (by rw [c54_4]; decide) (by rw [c54_4]; rfl) (by decide) ?_
          refine lv_aload_n hx hb dX4_condition_128 rfl (lv_at hl 0 rfl) ?_
          obtain ⟨t61, h62, hf⟩ := bd_some hf
          refine vp_callSi (va_runV (As := []) (rest := []) F (c_X0_isVoid l D cy (H := _) hw.1 v_t51 h62) (cwV 0 hts gX4_condition_X0_isVoid rfl rfl rfl ⟨rfl, ph_X0_isVoid.1, ph_X0_isVoid.2, pd_X0_isVoid⟩ ⟨Nat.le_of_ble_eq_true rfl, Nat.le_of_ble_eq_true rfl⟩) ⟨PcR.bl, (q_rcv hK hw.1 v_t51.1 (pF_0 (S := S) v_t51.2) rfl), PcR.in hK⟩ rfl rfl hl.1 rfl (lv_room (Nat.le_of_ble_eq_true rfl)) dX4_condition_129 ⟨by show _ ≤ 1; omega, by show _ ≤ 6; omega⟩).run (fun r63 er63 => ?_)
          subst r63
          refine lv_if_eq (tgt := 139) hx hb dX4_condition_132 (by decide) (fun c64 => ?_) (fun c64 => ?_)
          · have hf := it_t c64 hf
            refine lv_iconst (v := 0) hx hb dX4_condition_139 (by decide) ?_
            exact hB140 S _ _ _ _ (by omega) (by omega) 0 _ (lv_sub hl [] rfl) hw hE  hf
          · have hf := it_f c64 hf
            refine lv_iconst (v := 1) hx hb dX4_condition_135 (by decide) ?_
            refine lv_goto (tgt := 140) hx hb dX4_condition_136 (by decide) ?_
            exact hB140 S _ _ _ _ (by omega) (by omega) 1 _ (lv_sub hl [] rfl) hw hE  hf
        have hf := it_f c54_4 hf
        by_cases c54_5 : y2 = 5
        · have hf := it_t c54_5 hf
          refine lv_tableIn (off := 90) (tgt := 141) hx hb dX4_condition_51 (by rw [c54_5]; decide) (by rw [c54_5]; decide) (by rw [c54_5]; rfl) (by decide) ?_
          refine lv_aload_n hx hb dX4_condition_141 rfl (lv_at hl 0 rfl) ?_
          refine q_getN F hK hw.1 v_t51.1 (pF_0 (S := S) v_t51.2) (fun w h => List.mem_cons_of_mem _ (List.mem_append_left _ (List.mem_append_left _ (List.mem_append_left _ (List.mem_append_left _ (List.mem_append_right _ h)))))) rfl 3 (by decide) (nk_f_RX4_129 hK.2.1) (v := .int (fI S 3 t51)) rfl dX4_condition_142 ?_
          refine vx_ret ?_
          refine W.widen (k := 1) (n := 6) (by omega) (by omega) ?_
          exact W.iret (v := (fI S 3 t51)) hx hb hr (fun t ht hW => ⟨⟨_, (S, n), rfl, po2t hf, BW.of hw hE ht⟩, hw.2.2.1.F ht⟩) hw.2.2.1.2.2 dX4_condition_145
        have hf := it_f c54_5 hf
        by_cases c54_6 : y2 = 6
        · have hf := it_t c54_6 hf
          refine lv_tableIn (off := 95) (tgt := 146) hx hb dX4_condition_51 (by rw [c54_6]; decide) (by rw [c54_6]; decide) (by rw [c54_6]; rfl) (by decide) ?_
          refine lv_aload_n hx hb dX4_condition_146 rfl (lv_at hl 0 rfl) ?_
          refine q_getN F hK hw.1 v_t51.1 (pF_0 (S := S) v_t51.2) (fun w h => List.mem_cons_of_mem _ (List.mem_append_left _ (List.mem_append_left _ (List.mem_append_left _ (List.mem_append_left _ (List.mem_append_right _ h)))))) rfl 4 (by decide) (nk_f_RX4_126 hK.2.1) (v := .int (fI S 4 t51)) rfl dX4_condition_147 ?_
          refine vx_ret ?_
          refine W.widen (k := 1) (n := 6) (by omega) (by omega) ?_
          exact W.iret (v := (fI S 4 t51)) hx hb hr (fun t ht hW => ⟨⟨_, (S, n), rfl, po2t hf, BW.of hw hE ht⟩, hw.2.2.1.F ht⟩) hw.2.2.1.2.2 dX4_condition_150
        have hf := it_f c54_6 hf
        by_cases c54_7 : y2 = 7
        · have hf := it_t c54_7 hf
          refine lv_tableIn (off := 100) (tgt := 151) hx hb dX4_condition_51 (by rw [c54_7]; decide) (by rw [c54_7]; decide) (by rw [c54_7]; rfl) (by decide) ?_
          refine lv_aload_n hx hb dX4_condition_151 rfl (lv_at hl 1 rfl) ?_
          obtain ⟨b65, e66, v_b65, hf⟩ := rq_some hf
          refine q_get F hK hw.1 v_y0.1 (pF_4 (S := S) v_y0.2) (fun w h => List.mem_cons_of_mem _ (List.mem_append_left _ (List.mem_append_left _ (List.mem_append_left _ (List.mem_append_left _ (List.mem_append_left _ (List.mem_append_right _ h))))))) rfl 0 (by decide) (hts (.fieldLink RX4 17 "SharedModuli" "now" "LSharedModuli$State;") (List.mem_of_getElem? (i := 5) rfl)) (v := .ref b65) (congrArg (fun z => some (va_rf z)) e66) dX4_condition_152 ?_
          refine q_getN F hK hw.1 v_b65.1 (pF_3 (S := S) v_b65.2) (fun w h => List.mem_cons_of_mem _ (List.mem_append_left _ (List.mem_append_left _ (List.mem_append_left _ (List.mem_append_right _ h))))) rfl 4 (by decide) (nk_f_RX4_98 hK.2.1) (v := .int (fI S 52 b65)) rfl dX4_condition_155 ?_
          refine lv_iload_n hx hb dX4_condition_158 rfl (lv_at hl 2 rfl) ?_
          obtain ⟨t67, h68, hf⟩ := bd_some hf
          refine vp_callSi (va_runS (As := [.int y1]) (rest := [.int (fI S 52 b65)]) F (c_X4_bit l D cy (H := _)  h68) (va_cwS 1 hts gX4_condition_X4_bit rfl rfl rfl ⟨ph_X4_bit.1, ph_X4_bit.2, pd_X4_bit⟩ ⟨Nat.le_of_ble_eq_true rfl, Nat.le_of_ble_eq_true rfl⟩) ⟨PcR.bl, PcR.in hK⟩ rfl rfl hl.1 rfl (lv_room (Nat.le_of_ble_eq_true rfl)) dX4_condition_159 ⟨by show _ ≤ 1; omega, by show _ ≤ 6; omega⟩).run (fun r69 er69 => ?_)
          subst r69
          refine lv_iconst (v := (-1)) hx hb dX4_condition_162 (by decide) ?_
          refine lv_ixor hx hb dX4_condition_163 ?_
          refine lv_iand hx hb dX4_condition_164 ?_
          refine lv_aload_n hx hb dX4_condition_165 rfl (lv_at hl 1 rfl) ?_
          obtain ⟨b70, e71, v_b70, hf⟩ := rq_some hf
          refine q_get F hK hw.1 v_y0.1 (pF_4 (S := S) v_y0.2) (fun w h => List.mem_cons_of_mem _ (List.mem_append_left _ (List.mem_append_left _ (List.mem_append_left _ (List.mem_append_left _ (List.mem_append_left _ (List.mem_append_right _ h))))))) rfl 0 (by decide) (hts (.fieldLink RX4 17 "SharedModuli" "now" "LSharedModuli$State;") (List.mem_of_getElem? (i := 5) rfl)) (v := .ref b70) (congrArg (fun z => some (va_rf z)) e71) dX4_condition_166 ?_
          refine lv_iload_n hx hb dX4_condition_169 rfl (lv_at hl 2 rfl) ?_
          obtain ⟨t72, h73, hf⟩ := bd_some hf
          refine vp_callSi (va_runV (As := [.int y1]) (rest := [.int ((fI S 52 b65) &&& (t67 ^^^ ((-1) : Int32)))]) F (c_X3_partnersAt l D cy (H := _) hw.1 v_b70 h73) (cwV 1 hts gX4_condition_X3_partnersAt rfl rfl rfl ⟨rfl, ph_X3_partnersAt.1, ph_X3_partnersAt.2, pd_X3_partnersAt⟩ ⟨Nat.le_of_ble_eq_true rfl, Nat.le_of_ble_eq_true rfl⟩) ⟨PcR.bl, (q_rcv hK hw.1 v_b70.1 (pF_3 (S := S) v_b70.2) rfl), PcR.in hK⟩ rfl rfl hl.1 rfl (lv_room (Nat.le_of_ble_eq_true rfl)) dX4_condition_170 ⟨by show _ ≤ 1; omega, by show _ ≤ 6; omega⟩).run (fun r74 er74 => ?_)
          subst r74
          refine lv_iconst (v := (-1)) hx hb dX4_condition_173 (by decide) ?_
          refine lv_ixor hx hb dX4_condition_174 ?_
          refine lv_iand hx hb dX4_condition_175 ?_
          obtain ⟨t75, h76, hf⟩ := bd_some hf
          refine vp_callSi (va_runS (As := [.int (((fI S 52 b65) &&& (t67 ^^^ ((-1) : Int32))) &&& (t72 ^^^ ((-1) : Int32)))]) (rest := []) F (c_J6_bitCount_0f7a4 l D cy (H := _)  h76) (va_cwS 1 hts gX4_condition_J6_bitCount_0f7a4 rfl rfl rfl ⟨ph_J6_bitCount_0f7a4.1, ph_J6_bitCount_0f7a4.2, pd_J6_bitCount_0f7a4⟩ ⟨Nat.le_of_ble_eq_true rfl, Nat.le_of_ble_eq_true rfl⟩) ⟨PcR.bl, PcR.in hK⟩ rfl rfl hl.1 rfl (lv_room (Nat.le_of_ble_eq_true rfl)) dX4_condition_176 ⟨by show _ ≤ 1; omega, by show _ ≤ 6; omega⟩).run (fun r77 er77 => ?_)
          subst r77
          refine vx_ret ?_
          refine W.widen (k := 1) (n := 6) (by omega) (by omega) ?_
          exact W.iret (v := t75) hx hb hr (fun t ht hW => ⟨⟨_, (S, n), rfl, po2t hf, BW.of hw hE ht⟩, hw.2.2.1.F ht⟩) hw.2.2.1.2.2 dX4_condition_179
        have hf := it_f c54_7 hf
        have c54n_0 := i32_ne (n := 0) (by decide) c54_0
        have c54n_1 := i32_ne (n := 1) (by decide) c54_1
        have c54n_2 := i32_ne (n := 2) (by decide) c54_2
        have c54n_3 := i32_ne (n := 3) (by decide) c54_3
        have c54n_4 := i32_ne (n := 4) (by decide) c54_4
        have c54n_5 := i32_ne (n := 5) (by decide) c54_5
        have c54n_6 := i32_ne (n := 6) (by decide) c54_6
        have c54n_7 := i32_ne (n := 7) (by decide) c54_7
        refine lv_tableOut (tgt := 180) hx hb dX4_condition_51 (by omega) (by decide) ?_
        refine lv_aload_n hx hb dX4_condition_180 rfl (lv_at hl 1 rfl) ?_
        refine lv_iload_n hx hb dX4_condition_181 rfl (lv_at hl 2 rfl) ?_
        obtain ⟨t78, h79, hf⟩ := bd_some hf
        refine q_calli (va_runV (As := [.int y1]) (rest := []) F (c_X4_isTold l D cy (S := S) v_y0 h79) (cwV 1 hts gX4_condition_X4_isTold rfl rfl rfl ⟨rfl, ph_X4_isTold.1, ph_X4_isTold.2, pd_X4_isTold⟩ ⟨Nat.le_of_ble_eq_true rfl, Nat.le_of_ble_eq_true rfl⟩) ⟨PcW.bl, (q_rcv hK hw.1 v_y0.1 (pF_4 (S := S) v_y0.2) rfl), PcW.in hK hw hA (fun z => z.elim)⟩ rfl rfl hl.1 rfl (lv_room (Nat.le_of_ble_eq_true rfl)) dX4_condition_182 ⟨by show _ ≤ 1; omega, by show _ ≤ 6; omega⟩) hw hA (fun H locs hw hX => ?_)
        have hE := hE.tr hX
        have v_y0 := hX _ _ v_y0
        have v_b41 := hX _ _ v_b41
        have v_b49 := hX _ _ v_b49
        have v_t51 := hX _ _ v_t51
        refine lv_if_eq (tgt := 192) hx hb dX4_condition_185 (by decide) (fun c80 => ?_) (fun c80 => ?_)
        · have hf := it_t c80 hf
          refine lv_iconst (v := 0) hx hb dX4_condition_192 (by decide) ?_
          exact hB193 t78.2 _ _ _ _ (by omega) (by omega) 0 _ (lv_sub hl [] rfl) hw hE  hf
        · have hf := it_f c80 hf
          refine lv_iconst (v := 1) hx hb dX4_condition_188 (by decide) ?_
          refine lv_goto (tgt := 193) hx hb dX4_condition_189 (by decide) ?_
          exact hB193 t78.2 _ _ _ _ (by omega) (by omega) 1 _ (lv_sub hl [] rfl) hw hE  hf
      · have hf := it_f c48 hf
        exact hB31 S _ _ _ _ (by omega) (by omega) _ (lv_sub hl [] rfl) hw hE  hf
  · have hf := it_t c46 hf
    obtain ⟨sa, hsa⟩ := sk_88 hK.2.2.1
    refine vx_throwS hx hb hst (names := ["java/lang/RuntimeException", "java/lang/Exception"]) hown (by decide +kernel) (by decide +kernel) (hts (.classLink RX4 86 "java/lang/IndexOutOfBoundsException") (List.mem_of_getElem? (i := 1) rfl)) (hts (.initialized "java/lang/IndexOutOfBoundsException") (List.mem_of_getElem? (i := 2) rfl)) hsa (vx_hat (B := xb_90) (fun w h => hts w (List.mem_cons_of_mem _ (List.mem_append_left _ (List.mem_append_right _ h)))) xn_90 (xk_90 hK.2.2.2.2.2)) xg_90 hZ.1 hZ.2.1 hw.2.2.1 (hl.1.trans hml.symm) dX4_condition_11 dX4_condition_14 dX4_condition_15 dX4_condition_17 dX4_condition_20 (fun x h => (hex x h).elim) (Nat.le_of_ble_eq_true rfl) (Nat.le_of_ble_eq_true rfl) (by show _ ≤ 1; omega) (by show _ ≤ 6; omega) hlocks (fun t hvm hz hk => ?_) hw.2.2.1.2.2 (by omega) (by omega)
    exact xo_of hw hE hz hk (by show (_ : String) = _; rfl) (po2x hf).1 (po2x hf).2
def f_X4_agrees_B22 (S : PS) : Option ((Int32 ⊕ Nat) × PS) :=
  some (.inr 2, S)
def f_X4_agrees_B53 (S : PS) (s0 : Int32) : Option ((Int32 ⊕ Nat) × PS) :=
  some (.inl s0, S)
def f_X4_agrees (S : PS) (x0 : Nat) (x1 : Int32) (x2 : Int32) : Option ((Int32 ⊕ Nat) × PS) :=
  rq (fR S 64 x0) S 3 fun b1 =>
  bd (f_X3_has S b1 x1) fun t3 =>
  if t3 = 0 then (f_X4_agrees_B22 S) else
  rq (fR S 64 x0) S 3 fun b7 =>
  bd (f_X3_has S b7 x2) fun t9 =>
  if t9 = 0 then (f_X4_agrees_B22 S) else
  rq (fR S 64 x0) S 3 fun b13 =>
  bd (f_X3_partnersAt S b13 x1) fun t15 =>
  bd (f_X4_bit x2) fun t18 =>
  if (t15 &&& t18) = 0 then (f_X4_agrees_B53 S 0) else
  f_X4_agrees_B53 S 1
set_option maxHeartbeats 4000000 in
set_option maxRecDepth 100000 in
theorem c_X4_agrees (l : Launch) (hst : l.stackTraces = false) (D : va_G) (cy : cyT) {S : PS} {n : Nat} {y0 : Nat} {y1 : Int32} {y2 : Int32} (v_y0 : vd S y0 4) {res : (Int32 ⊕ Nat) × PS} (hf : f_X4_agrees S y0 y1 y2 = some res) : vx_Met l yX4_agrees wsX4_agrees ({ frames := 6, cells := 1, slots := 6, locals := 90 } : Room) (PcW True D cy S n [.ref y0, .int y1, .int y2]) (va_Qi (fun (r : Int32) (u : PS × Nat) => Sum.inl r = res.1 ∧ u = (res.2, n)) (BW D cy S n) (AA cy S n)) (vx_X (fun k : Nat => res.1 = .inr k) (fun E k t => XO D cy S n res.2 E k t) (AA cy S n)) 1 6 (AA cy S n) := by
  refine vx_ofW (cc := cX4_agrees) (maxL := 3) (ret := (some .int)) (by decide) rfl ?_
  intro p e s m args below meth c s₁ B hml hex hv
  obtain ⟨hav, hsz, hP0, hD0, hK, hZ0⟩ := hv
  have hx := B.exec
  have hb := B.bytes
  have hr := B.returns
  have hts := atoms_spec (ws := wsX4_agrees) B.pre
  have hown : s.vm.findClass RX4 = some m.cls := findClass_of_methodNamed B.named
  have hlocks := B.notSynchronized
  subst hav
  have hw : Hw D cy (AA cy S n) s.heap S n s.heap [] := Hw.start hsz hP0 hD0
  have hA : ∀ q, s.heap.size ≤ q → AA cy S n q := fun q h => Or.inr (hsz ▸ h)
  have hE : EX S S := EX.rf
  have hZ := hZ0 trivial
  have F : CallFix p m c cX4_agrees 3 s _ wsX4_agrees RX4 := ⟨hx, hb, hml, hown, hts⟩
  have hB22 : ∀ (Sb : PS) (H1 : Heap) (lo1 : List Loc) (kc ks : Nat) (_ : kc + 1 ≤ 1) (_ : ks + 6 ≤ 6)  (ls : Array Slot), lv_has ls 3 [] → Hw D cy (AA cy S n) s.heap Sb n H1 lo1 → EX S Sb → f_X4_agrees_B22 Sb = some res → W p l e (headSpec wsX4_agrees ({ frames := 6, cells := 1, slots := 6, locals := 90 } : Room)).room s m ([.ref y0, .int y1, .int y2] : List Value).toArray below meth c H1 lo1 kc ks (vx_MQ below (va_Qi (fun (r : Int32) (u : PS × Nat) => Sum.inl r = res.1 ∧ u = (res.2, n)) (BW D cy S n) (AA cy S n)) (vx_X (fun k : Nat => res.1 = .inr k) (fun E k t => XO D cy S n res.2 E k t) (AA cy S n)) ([.ref y0, .int y1, .int y2] : List Value).toArray s 1 6 (AA cy S n)) (F0 m 22 ls []) := by
    intro Sb H1 lo1 kc ks hkc hks ls hl hw hE hf
    unfold f_X4_agrees_B22 at hf
    obtain ⟨sa, hsa⟩ := sk_88 hK.2.2.1
    refine vx_throwS hx hb hst (names := ["java/lang/RuntimeException", "java/lang/Exception"]) hown (by decide +kernel) (by decide +kernel) (hts (.classLink RX4 86 "java/lang/IndexOutOfBoundsException") (List.mem_of_getElem? (i := 1) rfl)) (hts (.initialized "java/lang/IndexOutOfBoundsException") (List.mem_of_getElem? (i := 2) rfl)) hsa (vx_hat (B := xb_90) (fun w h => hts w (List.mem_cons_of_mem _ (List.mem_append_right _ h))) xn_90 (xk_90 hK.2.2.2.2.2)) xg_90 hZ.1 hZ.2.1 hw.2.2.1 (hl.1.trans hml.symm) dX4_agrees_22 dX4_agrees_25 dX4_agrees_26 dX4_agrees_28 dX4_agrees_31 (fun x h => (hex x h).elim) (Nat.le_of_ble_eq_true rfl) (Nat.le_of_ble_eq_true rfl) (by show _ ≤ 1; omega) (by show _ ≤ 6; omega) hlocks (fun t hvm hz hk => ?_) hw.2.2.1.2.2 (by omega) (by omega)
    exact xo_of hw hE hz hk (by show (_ : String) = _; rfl) (po2x hf).1 (po2x hf).2
  have hB53 : ∀ (Sb : PS) (H1 : Heap) (lo1 : List Loc) (kc ks : Nat) (_ : kc + 0 ≤ 1) (_ : ks + 0 ≤ 6) (s0 : Int32) (ls : Array Slot), lv_has ls 3 [] → Hw D cy (AA cy S n) s.heap Sb n H1 lo1 → EX S Sb → f_X4_agrees_B53 Sb s0 = some res → W p l e (headSpec wsX4_agrees ({ frames := 6, cells := 1, slots := 6, locals := 90 } : Room)).room s m ([.ref y0, .int y1, .int y2] : List Value).toArray below meth c H1 lo1 kc ks (vx_MQ below (va_Qi (fun (r : Int32) (u : PS × Nat) => Sum.inl r = res.1 ∧ u = (res.2, n)) (BW D cy S n) (AA cy S n)) (vx_X (fun k : Nat => res.1 = .inr k) (fun E k t => XO D cy S n res.2 E k t) (AA cy S n)) ([.ref y0, .int y1, .int y2] : List Value).toArray s 1 6 (AA cy S n)) (F0 m 53 ls [.int s0]) := by
    intro Sb H1 lo1 kc ks hkc hks s0 ls hl hw hE hf
    unfold f_X4_agrees_B53 at hf
    refine vx_ret ?_
    refine W.widen (k := 1) (n := 6) (by omega) (by omega) ?_
    exact W.iret (v := s0) hx hb hr (fun t ht hW => ⟨⟨_, (Sb, n), rfl, po2t hf, BW.of hw hE ht⟩, hw.2.2.1.F ht⟩) hw.2.2.1.2.2 dX4_agrees_53
  have hl := lv_entry ([.ref y0, .int y1, .int y2]) (n := 3) (Nat.le_of_ble_eq_true rfl)
  rw [lg_entry_eq]
  generalize (lg_sl ([.ref y0, .int y1, .int y2]) ++ List.replicate (3 - (lg_sl ([.ref y0, .int y1, .int y2])).length) Slot.unset).toArray = ls at hl ⊢
  have hl : lv_has ls 3 [(0, .ref y0), (1, .int y1), (2, .int y2)] := hl
  unfold f_X4_agrees at hf
  refine lv_aload_n hx hb dX4_agrees_0 rfl (lv_at hl 0 rfl) ?_
  obtain ⟨b22, e23, v_b22, hf⟩ := rq_some hf
  refine q_get F hK hw.1 v_y0.1 (pF_4 (S := S) v_y0.2) (fun w h => List.mem_cons_of_mem _ (List.mem_append_left _ (List.mem_append_left _ (List.mem_append_right _ h)))) rfl 0 (by decide) (hts (.fieldLink RX4 17 "SharedModuli" "now" "LSharedModuli$State;") (List.mem_of_getElem? (i := 3) rfl)) (v := .ref b22) (congrArg (fun z => some (va_rf z)) e23) dX4_agrees_1 ?_
  refine lv_iload_n hx hb dX4_agrees_4 rfl (lv_at hl 1 rfl) ?_
  obtain ⟨t24, h25, hf⟩ := bd_some hf
  refine vp_callSi (va_runV (As := [.int y1]) (rest := []) F (c_X3_has l D cy (H := _) hw.1 v_b22 h25) (cwV 1 hts gX4_agrees_X3_has rfl rfl rfl ⟨rfl, ph_X3_has.1, ph_X3_has.2, pd_X3_has⟩ ⟨Nat.le_of_ble_eq_true rfl, Nat.le_of_ble_eq_true rfl⟩) ⟨PcR.bl, (q_rcv hK hw.1 v_b22.1 (pF_3 (S := S) v_b22.2) rfl), PcR.in hK⟩ rfl rfl hl.1 rfl (lv_room (Nat.le_of_ble_eq_true rfl)) dX4_agrees_5 ⟨by show _ ≤ 1; omega, by show _ ≤ 6; omega⟩).run (fun r26 er26 => ?_)
  subst r26
  refine lv_if_eq (tgt := 22) hx hb dX4_agrees_8 (by decide) (fun c27 => ?_) (fun c27 => ?_)
  · have hf := it_t c27 hf
    exact hB22 S _ _ _ _ (by omega) (by omega) _ (lv_sub hl [] rfl) hw hE  hf
  · have hf := it_f c27 hf
    refine lv_aload_n hx hb dX4_agrees_11 rfl (lv_at hl 0 rfl) ?_
    obtain ⟨b28, e29, v_b28, hf⟩ := rq_some hf
    refine q_get F hK hw.1 v_y0.1 (pF_4 (S := S) v_y0.2) (fun w h => List.mem_cons_of_mem _ (List.mem_append_left _ (List.mem_append_left _ (List.mem_append_right _ h)))) rfl 0 (by decide) (hts (.fieldLink RX4 17 "SharedModuli" "now" "LSharedModuli$State;") (List.mem_of_getElem? (i := 3) rfl)) (v := .ref b28) (congrArg (fun z => some (va_rf z)) e29) dX4_agrees_12 ?_
    refine lv_iload_n hx hb dX4_agrees_15 rfl (lv_at hl 2 rfl) ?_
    obtain ⟨t30, h31, hf⟩ := bd_some hf
    refine vp_callSi (va_runV (As := [.int y2]) (rest := []) F (c_X3_has l D cy (H := _) hw.1 v_b28 h31) (cwV 1 hts gX4_agrees_X3_has rfl rfl rfl ⟨rfl, ph_X3_has.1, ph_X3_has.2, pd_X3_has⟩ ⟨Nat.le_of_ble_eq_true rfl, Nat.le_of_ble_eq_true rfl⟩) ⟨PcR.bl, (q_rcv hK hw.1 v_b28.1 (pF_3 (S := S) v_b28.2) rfl), PcR.in hK⟩ rfl rfl hl.1 rfl (lv_room (Nat.le_of_ble_eq_true rfl)) dX4_agrees_16 ⟨by show _ ≤ 1; omega, by show _ ≤ 6; omega⟩).run (fun r32 er32 => ?_)
    subst r32
    refine lv_if_ne (tgt := 32) hx hb dX4_agrees_19 (by decide) (fun c33 => ?_) (fun c33 => ?_)
    · have hf := it_f c33 hf
      refine lv_aload_n hx hb dX4_agrees_32 rfl (lv_at hl 0 rfl) ?_
      obtain ⟨b34, e35, v_b34, hf⟩ := rq_some hf
      refine q_get F hK hw.1 v_y0.1 (pF_4 (S := S) v_y0.2) (fun w h => List.mem_cons_of_mem _ (List.mem_append_left _ (List.mem_append_left _ (List.mem_append_right _ h)))) rfl 0 (by decide) (hts (.fieldLink RX4 17 "SharedModuli" "now" "LSharedModuli$State;") (List.mem_of_getElem? (i := 3) rfl)) (v := .ref b34) (congrArg (fun z => some (va_rf z)) e35) dX4_agrees_33 ?_
      refine lv_iload_n hx hb dX4_agrees_36 rfl (lv_at hl 1 rfl) ?_
      obtain ⟨t36, h37, hf⟩ := bd_some hf
      refine vp_callSi (va_runV (As := [.int y1]) (rest := []) F (c_X3_partnersAt l D cy (H := _) hw.1 v_b34 h37) (cwV 1 hts gX4_agrees_X3_partnersAt rfl rfl rfl ⟨rfl, ph_X3_partnersAt.1, ph_X3_partnersAt.2, pd_X3_partnersAt⟩ ⟨Nat.le_of_ble_eq_true rfl, Nat.le_of_ble_eq_true rfl⟩) ⟨PcR.bl, (q_rcv hK hw.1 v_b34.1 (pF_3 (S := S) v_b34.2) rfl), PcR.in hK⟩ rfl rfl hl.1 rfl (lv_room (Nat.le_of_ble_eq_true rfl)) dX4_agrees_37 ⟨by show _ ≤ 1; omega, by show _ ≤ 6; omega⟩).run (fun r38 er38 => ?_)
      subst r38
      refine lv_iload_n hx hb dX4_agrees_40 rfl (lv_at hl 2 rfl) ?_
      obtain ⟨t39, h40, hf⟩ := bd_some hf
      refine vp_callSi (va_runS (As := [.int y2]) (rest := [.int t36]) F (c_X4_bit l D cy (H := _)  h40) (va_cwS 1 hts gX4_agrees_X4_bit rfl rfl rfl ⟨ph_X4_bit.1, ph_X4_bit.2, pd_X4_bit⟩ ⟨Nat.le_of_ble_eq_true rfl, Nat.le_of_ble_eq_true rfl⟩) ⟨PcR.bl, PcR.in hK⟩ rfl rfl hl.1 rfl (lv_room (Nat.le_of_ble_eq_true rfl)) dX4_agrees_41 ⟨by show _ ≤ 1; omega, by show _ ≤ 6; omega⟩).run (fun r41 er41 => ?_)
      subst r41
      refine lv_iand hx hb dX4_agrees_44 ?_
      refine lv_if_eq (tgt := 52) hx hb dX4_agrees_45 (by decide) (fun c42 => ?_) (fun c42 => ?_)
      · have hf := it_t c42 hf
        refine lv_iconst (v := 0) hx hb dX4_agrees_52 (by decide) ?_
        exact hB53 S _ _ _ _ (by omega) (by omega) 0 _ (lv_sub hl [] rfl) hw hE  hf
      · have hf := it_f c42 hf
        refine lv_iconst (v := 1) hx hb dX4_agrees_48 (by decide) ?_
        refine lv_goto (tgt := 53) hx hb dX4_agrees_49 (by decide) ?_
        exact hB53 S _ _ _ _ (by omega) (by omega) 1 _ (lv_sub hl [] rfl) hw hE  hf
    · have hf := it_t c33 hf
      exact hB22 S _ _ _ _ (by omega) (by omega) _ (lv_sub hl [] rfl) hw hE  hf
def f_X4_joinedOf_B36 (S : PS) (s0 : Int64) : Option (Int64 × PS) :=
  some (s0, S)
def f_X4_joinedOf (S : PS) (x0 : Nat) (x1 : Int32) (x2 : Int32) : Option (Int64 × PS) :=
  rq (fR S 64 x0) S 3 fun b1 =>
  bd (f_X3_arePossible S b1 x1) fun t3 =>
  if t3 = 0 then (some (((-1)), S)) else
  bd (f_X4_join S x0 x1) fun t7 =>
  if x2 = 0 then (f_X4_joinedOf_B36 t7.2 (fL t7.2 16 t7.1)) else
  f_X4_joinedOf_B36 t7.2 (fL t7.2 17 t7.1)
set_option maxHeartbeats 4000000 in
set_option maxRecDepth 100000 in
theorem c_X4_joinedOf (l : Launch) (D : va_G) (cy : cyT) {S : PS} {n : Nat} {y0 : Nat} {y1 : Int32} {y2 : Int32} (v_y0 : vd S y0 4) {res : Int64 × PS} (hf : f_X4_joinedOf S y0 y1 y2 = some res) : Met l yX4_joinedOf wsX4_joinedOf ({ frames := 3, cells := 0, slots := 0, locals := 89 } : Room) (PcW False D cy S n [.ref y0, .int y1, .int y2]) (va_Ql (fun (r : Int64) (u : PS × Nat) => r = res.1 ∧ u = (res.2, n)) (BW D cy S n) (AA cy S n)) 0 0 (AA cy S n) := by
  refine Met.ofW (cc := cX4_joinedOf) (maxL := 4) (ret := (some .long)) (by decide) rfl ?_
  intro p e s m args below meth c s₁ B hml hv
  obtain ⟨hav, hsz, hP0, hD0, hK, hZ0⟩ := hv
  have hx := B.exec
  have hb := B.bytes
  have hr := B.returns
  have hts := atoms_spec (ws := wsX4_joinedOf) B.pre
  have hown : s.vm.findClass RX4 = some m.cls := findClass_of_methodNamed B.named
  have hlocks := B.notSynchronized
  subst hav
  have hw : Hw D cy (AA cy S n) s.heap S n s.heap [] := Hw.start hsz hP0 hD0
  have hA : ∀ q, s.heap.size ≤ q → AA cy S n q := fun q h => Or.inr (hsz ▸ h)
  have hE : EX S S := EX.rf
  have F : CallFix p m c cX4_joinedOf 4 s _ wsX4_joinedOf RX4 := ⟨hx, hb, hml, hown, hts⟩
  have hB36 : ∀ (Sb : PS) (H1 : Heap) (lo1 : List Loc) (s0 : Int64) (ls : Array Slot), lv_has ls 4 [] → Hw D cy (AA cy S n) s.heap Sb n H1 lo1 → EX S Sb → f_X4_joinedOf_B36 Sb s0 = some res → W p l e (headSpec wsX4_joinedOf ({ frames := 3, cells := 0, slots := 0, locals := 89 } : Room)).room s m ([.ref y0, .int y1, .int y2] : List Value).toArray below meth c H1 lo1 0 0 (MQ below (va_Ql (fun (r : Int64) (u : PS × Nat) => r = res.1 ∧ u = (res.2, n)) (BW D cy S n) (AA cy S n)) ([.ref y0, .int y1, .int y2] : List Value).toArray s 0 0 (AA cy S n)) (F0 m 36 ls [.long s0]) := by
    intro Sb H1 lo1 s0 ls hl hw hE hf
    unfold f_X4_joinedOf_B36 at hf
    exact W.lret (v := s0) hx hb hr (fun t ht hW => ⟨⟨_, (Sb, n), rfl, po2 hf, BW.of hw hE ht⟩, hw.2.2.1.F ht⟩) hw.2.2.1.2.2 dX4_joinedOf_36
  have hl := lv_entry ([.ref y0, .int y1, .int y2]) (n := 4) (Nat.le_of_ble_eq_true rfl)
  rw [lg_entry_eq]
  generalize (lg_sl ([.ref y0, .int y1, .int y2]) ++ List.replicate (4 - (lg_sl ([.ref y0, .int y1, .int y2])).length) Slot.unset).toArray = ls at hl ⊢
  have hl : lv_has ls 4 [(0, .ref y0), (1, .int y1), (2, .int y2)] := hl
  unfold f_X4_joinedOf at hf
  refine lv_aload_n hx hb dX4_joinedOf_0 rfl (lv_at hl 0 rfl) ?_
  obtain ⟨b10, e11, v_b10, hf⟩ := rq_some hf
  refine q_get F hK hw.1 v_y0.1 (pF_4 (S := S) v_y0.2) (fun w h => List.mem_cons_of_mem _ (List.mem_append_left _ (List.mem_append_left _ (List.mem_append_left _ (List.mem_append_right _ h))))) rfl 0 (by decide) (hts (.fieldLink RX4 17 "SharedModuli" "now" "LSharedModuli$State;") (List.mem_of_getElem? (i := 1) rfl)) (v := .ref b10) (congrArg (fun z => some (va_rf z)) e11) dX4_joinedOf_1 ?_
  refine lv_iload_n hx hb dX4_joinedOf_4 rfl (lv_at hl 1 rfl) ?_
  obtain ⟨t12, h13, hf⟩ := bd_some hf
  refine vp_callSi (va_runV (As := [.int y1]) (rest := []) F (c_X3_arePossible l D cy (H := _) hw.1 v_b10 h13) (cwV 1 hts gX4_joinedOf_X3_arePossible rfl rfl rfl ⟨rfl, ph_X3_arePossible.1, ph_X3_arePossible.2, pd_X3_arePossible⟩ ⟨Nat.le_of_ble_eq_true rfl, Nat.le_of_ble_eq_true rfl⟩) ⟨PcR.bl, (q_rcv hK hw.1 v_b10.1 (pF_3 (S := S) v_b10.2) rfl), PcR.in hK⟩ rfl rfl hl.1 rfl (lv_room (Nat.le_of_ble_eq_true rfl)) dX4_joinedOf_5 ⟨Nat.zero_le _, Nat.zero_le _⟩).run (fun r14 er14 => ?_)
  subst r14
  refine lv_if_ne (tgt := 15) hx hb dX4_joinedOf_8 (by decide) (fun c15 => ?_) (fun c15 => ?_)
  · have hf := it_f c15 hf
    refine lv_aload_n hx hb dX4_joinedOf_15 rfl (lv_at hl 0 rfl) ?_
    refine lv_iload_n hx hb dX4_joinedOf_16 rfl (lv_at hl 1 rfl) ?_
    obtain ⟨t16, h17, hf⟩ := bd_some hf
    refine q_callr (va_runV (As := [.int y1]) (rest := []) F (c_X4_join l D cy (S := S) v_y0 h17) (cwV 1 hts gX4_joinedOf_X4_join rfl rfl rfl ⟨rfl, ph_X4_join.1, ph_X4_join.2, pd_X4_join⟩ ⟨Nat.le_of_ble_eq_true rfl, Nat.le_of_ble_eq_true rfl⟩) ⟨PcW.bl, (q_rcv hK hw.1 v_y0.1 (pF_4 (S := S) v_y0.2) rfl), PcW.in hK hw hA (fun z => z.elim)⟩ rfl rfl hl.1 rfl (lv_room (Nat.le_of_ble_eq_true rfl)) dX4_joinedOf_17 ⟨Nat.zero_le _, Nat.zero_le _⟩) hw hA (fun H locs hw hX v_t16 => ?_)
    have hE := hE.tr hX
    have v_y0 := hX _ _ v_y0
    have v_b10 := hX _ _ v_b10
    refine lv_astore_n (lv' := [(3, .ref t16.1), (0, .ref y0), (1, .int y1), (2, .int y2)]) hx hb dX4_joinedOf_20 rfl hl (by decide) rfl (fun ls hl => ?_)
    refine lv_iload_n hx hb dX4_joinedOf_21 rfl (lv_at hl 3 rfl) ?_
    refine lv_if_ne (tgt := 32) hx hb dX4_joinedOf_22 (by decide) (fun c18 => ?_) (fun c18 => ?_)
    · have hf := it_f c18 hf
      refine lv_aload_n hx hb dX4_joinedOf_32 rfl (lv_at hl 0 rfl) ?_
      refine q_getN F hK hw.1 v_t16.1 (pF_1 (S := t16.2) v_t16.2) (fun w h => List.mem_cons_of_mem _ (List.mem_append_left _ (List.mem_append_left _ (List.mem_append_right _ h)))) rfl 1 (by decide) (nk_f_RX4_276 hK.2.1) (v := .long (fL t16.2 17 t16.1)) rfl dX4_joinedOf_33 ?_
      exact hB36 t16.2 _ _ (fL t16.2 17 t16.1) _ (lv_sub hl [] rfl) hw hE  hf
    · have hf := it_t c18 hf
      refine lv_aload_n hx hb dX4_joinedOf_25 rfl (lv_at hl 0 rfl) ?_
      refine q_getN F hK hw.1 v_t16.1 (pF_1 (S := t16.2) v_t16.2) (fun w h => List.mem_cons_of_mem _ (List.mem_append_left _ (List.mem_append_left _ (List.mem_append_right _ h)))) rfl 0 (by decide) (nk_f_RX4_254 hK.2.1) (v := .long (fL t16.2 16 t16.1)) rfl dX4_joinedOf_26 ?_
      refine lv_goto (tgt := 36) hx hb dX4_joinedOf_29 (by decide) ?_
      exact hB36 t16.2 _ _ (fL t16.2 16 t16.1) _ (lv_sub hl [] rfl) hw hE  hf
  · have hf := it_t c15 hf
    refine lv_ldc2 hx hb hown (hts (.constantLong RX4 244 (-1)) (List.mem_of_getElem? (i := 2) rfl)) dX4_joinedOf_11 ?_
    exact W.lret (v := ((-1))) hx hb hr (fun t ht hW => ⟨⟨_, (S, n), rfl, po2 hf, BW.of hw hE ht⟩, hw.2.2.1.F ht⟩) hw.2.2.1.2.2 dX4_joinedOf_14
def f_X4_joined_B9 (S : PS) : Option ((Int64 ⊕ Nat) × PS) :=
  some (.inr 0, S)
def f_X4_joined (S : PS) (x0 : Nat) (x1 : Int32) : Option ((Int64 ⊕ Nat) × PS) :=
  if x1 < 0 then (f_X4_joined_B9 S) else
  if x1 ≤ 1 then (rq (fR S 64 x0) S 3 fun b3 =>
  bd (f_X4_joinedOf S x0 (fI S 52 b3) x1) fun t5 =>
  some (.inl t5.1, t5.2)) else
  f_X4_joined_B9 S
set_option maxHeartbeats 4000000 in
set_option maxRecDepth 100000 in
theorem c_X4_joined (l : Launch) (hst : l.stackTraces = false) (D : va_G) (cy : cyT) {S : PS} {n : Nat} {y0 : Nat} {y1 : Int32} (v_y0 : vd S y0 4) {res : (Int64 ⊕ Nat) × PS} (hf : f_X4_joined S y0 y1 = some res) : vx_Met l yX4_joined wsX4_joined ({ frames := 6, cells := 1, slots := 6, locals := 112 } : Room) (PcW True D cy S n [.ref y0, .int y1]) (va_Ql (fun (r : Int64) (u : PS × Nat) => Sum.inl r = res.1 ∧ u = (res.2, n)) (BW D cy S n) (AA cy S n)) (vx_X (fun k : Nat => res.1 = .inr k) (fun E k t => XO D cy S n res.2 E k t) (AA cy S n)) 1 6 (AA cy S n) := by
  refine vx_ofW (cc := cX4_joined) (maxL := 2) (ret := (some .long)) (by decide) rfl ?_
  intro p e s m args below meth c s₁ B hml hex hv
  obtain ⟨hav, hsz, hP0, hD0, hK, hZ0⟩ := hv
  have hx := B.exec
  have hb := B.bytes
  have hr := B.returns
  have hts := atoms_spec (ws := wsX4_joined) B.pre
  have hown : s.vm.findClass RX4 = some m.cls := findClass_of_methodNamed B.named
  have hlocks := B.notSynchronized
  subst hav
  have hw : Hw D cy (AA cy S n) s.heap S n s.heap [] := Hw.start hsz hP0 hD0
  have hA : ∀ q, s.heap.size ≤ q → AA cy S n q := fun q h => Or.inr (hsz ▸ h)
  have hE : EX S S := EX.rf
  have hZ := hZ0 trivial
  have F : CallFix p m c cX4_joined 2 s _ wsX4_joined RX4 := ⟨hx, hb, hml, hown, hts⟩
  have hB9 : ∀ (Sb : PS) (H1 : Heap) (lo1 : List Loc) (kc ks : Nat) (_ : kc + 1 ≤ 1) (_ : ks + 6 ≤ 6)  (ls : Array Slot), lv_has ls 2 [] → Hw D cy (AA cy S n) s.heap Sb n H1 lo1 → EX S Sb → f_X4_joined_B9 Sb = some res → W p l e (headSpec wsX4_joined ({ frames := 6, cells := 1, slots := 6, locals := 112 } : Room)).room s m ([.ref y0, .int y1] : List Value).toArray below meth c H1 lo1 kc ks (vx_MQ below (va_Ql (fun (r : Int64) (u : PS × Nat) => Sum.inl r = res.1 ∧ u = (res.2, n)) (BW D cy S n) (AA cy S n)) (vx_X (fun k : Nat => res.1 = .inr k) (fun E k t => XO D cy S n res.2 E k t) (AA cy S n)) ([.ref y0, .int y1] : List Value).toArray s 1 6 (AA cy S n)) (F0 m 9 ls []) := by
    intro Sb H1 lo1 kc ks hkc hks ls hl hw hE hf
    unfold f_X4_joined_B9 at hf
    obtain ⟨sa, hsa⟩ := sk_201 hK.2.2.1
    refine vx_throwS hx hb hst (names := ["java/lang/RuntimeException", "java/lang/Exception"]) hown (by decide +kernel) (by decide +kernel) (hts (.classLink RX4 59 "java/lang/IllegalArgumentException") (List.mem_of_getElem? (i := 1) rfl)) (hts (.initialized "java/lang/IllegalArgumentException") (List.mem_of_getElem? (i := 2) rfl)) hsa (vx_hat (B := xb_63) (fun w h => hts w (List.mem_cons_of_mem _ (List.mem_append_right _ h))) xn_63 (xk_63 hK.2.2.2.2.2)) xg_63 hZ.1 hZ.2.1 hw.2.2.1 (hl.1.trans hml.symm) dX4_joined_9 dX4_joined_12 dX4_joined_13 dX4_joined_15 dX4_joined_18 (fun x h => (hex x h).elim) (Nat.le_of_ble_eq_true rfl) (Nat.le_of_ble_eq_true rfl) (by show _ ≤ 1; omega) (by show _ ≤ 6; omega) hlocks (fun t hvm hz hk => ?_) hw.2.2.1.2.2 (by omega) (by omega)
    exact xo_of hw hE hz hk (by show (_ : String) = _; rfl) (po2x hf).1 (po2x hf).2
  have hl := lv_entry ([.ref y0, .int y1]) (n := 2) (Nat.le_of_ble_eq_true rfl)
  rw [lg_entry_eq]
  generalize (lg_sl ([.ref y0, .int y1]) ++ List.replicate (2 - (lg_sl ([.ref y0, .int y1])).length) Slot.unset).toArray = ls at hl ⊢
  have hl : lv_has ls 2 [(0, .ref y0), (1, .int y1)] := hl
  unfold f_X4_joined at hf
  refine lv_iload_n hx hb dX4_joined_0 rfl (lv_at hl 1 rfl) ?_
  refine lv_if_lt (tgt := 9) hx hb dX4_joined_1 (by decide) (fun c7 => ?_) (fun c7 => ?_)
  · have hf := it_t c7 hf
    exact hB9 S _ _ _ _ (by omega) (by omega) _ (lv_sub hl [] rfl) hw hE  hf
  · have hf := it_f c7 hf
    refine lv_iload_n hx hb dX4_joined_4 rfl (lv_at hl 1 rfl) ?_
    refine lv_iconst (v := 1) hx hb dX4_joined_5 (by decide) ?_
    refine lv_icmp_le (tgt := 19) hx hb dX4_joined_6 (by decide) (fun c8 => ?_) (fun c8 => ?_)
    · have hf := it_t c8 hf
      refine lv_aload_n hx hb dX4_joined_19 rfl (lv_at hl 0 rfl) ?_
      refine lv_aload_n hx hb dX4_joined_20 rfl (lv_at hl 0 rfl) ?_
      obtain ⟨b9, e10, v_b9, hf⟩ := rq_some hf
      refine q_get F hK hw.1 v_y0.1 (pF_4 (S := S) v_y0.2) (fun w h => List.mem_cons_of_mem _ (List.mem_append_left _ (List.mem_append_left _ (List.mem_append_left _ (List.mem_append_left _ (List.mem_append_right _ h)))))) rfl 0 (by decide) (hts (.fieldLink RX4 17 "SharedModuli" "now" "LSharedModuli$State;") (List.mem_of_getElem? (i := 3) rfl)) (v := .ref b9) (congrArg (fun z => some (va_rf z)) e10) dX4_joined_21 ?_
      refine q_getN F hK hw.1 v_b9.1 (pF_3 (S := S) v_b9.2) (fun w h => List.mem_cons_of_mem _ (List.mem_append_left _ (List.mem_append_left _ (List.mem_append_left _ (List.mem_append_right _ h))))) rfl 4 (by decide) (nk_f_RX4_98 hK.2.1) (v := .int (fI S 52 b9)) rfl dX4_joined_24 ?_
      refine lv_iload_n hx hb dX4_joined_27 rfl (lv_at hl 1 rfl) ?_
      obtain ⟨t11, h12, hf⟩ := bd_some hf
      refine q_calll (va_runV (As := [.int (fI S 52 b9), .int y1]) (rest := []) F (c_X4_joinedOf l D cy (S := S) v_y0 h12) (cwV 2 hts gX4_joined_X4_joinedOf rfl rfl rfl ⟨rfl, ph_X4_joinedOf.1, ph_X4_joinedOf.2, pd_X4_joinedOf⟩ ⟨Nat.le_of_ble_eq_true rfl, Nat.le_of_ble_eq_true rfl⟩) ⟨PcW.bl, (q_rcv hK hw.1 v_y0.1 (pF_4 (S := S) v_y0.2) rfl), PcW.in hK hw hA (fun z => z.elim)⟩ rfl rfl hl.1 rfl (lv_room (Nat.le_of_ble_eq_true rfl)) dX4_joined_28 ⟨by show _ ≤ 1; omega, by show _ ≤ 6; omega⟩) hw hA (fun H locs hw hX => ?_)
      have hE := hE.tr hX
      have v_y0 := hX _ _ v_y0
      have v_b9 := hX _ _ v_b9
      refine vx_ret ?_
      refine W.widen (k := 1) (n := 6) (by omega) (by omega) ?_
      exact W.lret (v := t11.1) hx hb hr (fun t ht hW => ⟨⟨_, (t11.2, n), rfl, po2t hf, BW.of hw hE ht⟩, hw.2.2.1.F ht⟩) hw.2.2.1.2.2 dX4_joined_31
    · have hf := it_f c8 hf
      exact hB9 S _ _ _ _ (by omega) (by omega) _ (lv_sub hl [] rfl) hw hE  hf
def f_X4_toldOnes_B32 (S : PS) (x1 : Int32) : Option (Int32 × PS) :=
  some (x1, S)
def f_X4_toldOnes_B26 (kL4 : PS → Nat → Int32 → Int32 → Option (Int32 × PS)) (ke32 : PS → Int32 → Option (Int32 × PS)) (S : PS) (x0 : Nat) (x1 : Int32) (x2 : Int32) : Option (Int32 × PS) :=
  kL4 S x0 x1 (x2 + 1)
def f_X4_toldOnes_L4s (kL4 : PS → Nat → Int32 → Int32 → Option (Int32 × PS)) (ke32 : PS → Int32 → Option (Int32 × PS)) (S : PS) (x0 : Nat) (x1 : Int32) (x2 : Int32) : Option (Int32 × PS) :=
  rq (fR S 64 x0) S 3 fun b1 =>
  if (fI S 51 b1) ≤ x2 then (ke32 S x1) else
  bd (f_X4_isTold S x0 x2) fun t4 =>
  if t4.1 = 0 then (f_X4_toldOnes_B26 kL4 ke32 t4.2 x0 x1 x2) else
  f_X4_toldOnes_B26 kL4 ke32 t4.2 x0 (x1 + 1) x2
def f_X4_toldOnes_L4 (ke32 : PS → Int32 → Option (Int32 × PS)) (fu : Nat) : PS → Nat → Int32 → Int32 → Option (Int32 × PS) := fx (fun kL => f_X4_toldOnes_L4s kL ke32) (fun _ _ _ _ => none) fu
def f_X4_toldOnes (S : PS) (x0 : Nat) : Option (Int32 × PS) :=
  f_X4_toldOnes_L4 f_X4_toldOnes_B32 FU S x0 0 0
set_option maxHeartbeats 4000000 in
set_option maxRecDepth 100000 in
theorem c_X4_toldOnes (l : Launch) (D : va_G) (cy : cyT) {S : PS} {n : Nat} {y0 : Nat} (v_y0 : vd S y0 4) {res : Int32 × PS} (hf : f_X4_toldOnes S y0 = some res) : Met l yX4_toldOnes wsX4_toldOnes ({ frames := 4, cells := 0, slots := 0, locals := 111 } : Room) (PcW False D cy S n [.ref y0]) (va_Qi (fun (r : Int32) (u : PS × Nat) => r = res.1 ∧ u = (res.2, n)) (BW D cy S n) (AA cy S n)) 0 0 (AA cy S n) := by
  refine Met.ofW (cc := cX4_toldOnes) (maxL := 3) (ret := (some .int)) (by decide) rfl ?_
  intro p e s m args below meth c s₁ B hml hv
  obtain ⟨hav, hsz, hP0, hD0, hK, hZ0⟩ := hv
  have hx := B.exec
  have hb := B.bytes
  have hr := B.returns
  have hts := atoms_spec (ws := wsX4_toldOnes) B.pre
  have hown : s.vm.findClass RX4 = some m.cls := findClass_of_methodNamed B.named
  have hlocks := B.notSynchronized
  subst hav
  have hw : Hw D cy (AA cy S n) s.heap S n s.heap [] := Hw.start hsz hP0 hD0
  have hA : ∀ q, s.heap.size ≤ q → AA cy S n q := fun q h => Or.inr (hsz ▸ h)
  have hE : EX S S := EX.rf
  have F : CallFix p m c cX4_toldOnes 3 s _ wsX4_toldOnes RX4 := ⟨hx, hb, hml, hown, hts⟩
  have hB32 : ∀ (Sb : PS) (H1 : Heap) (lo1 : List Loc) (x1 : Int32) (ls : Array Slot), lv_has ls 3 [(1, .int x1)] → Hw D cy (AA cy S n) s.heap Sb n H1 lo1 → EX S Sb → f_X4_toldOnes_B32 Sb x1 = some res → W p l e (headSpec wsX4_toldOnes ({ frames := 4, cells := 0, slots := 0, locals := 111 } : Room)).room s m ([.ref y0] : List Value).toArray below meth c H1 lo1 0 0 (MQ below (va_Qi (fun (r : Int32) (u : PS × Nat) => r = res.1 ∧ u = (res.2, n)) (BW D cy S n) (AA cy S n)) ([.ref y0] : List Value).toArray s 0 0 (AA cy S n)) (F0 m 32 ls []) := by
    intro Sb H1 lo1 x1 ls hl hw hE hf
    unfold f_X4_toldOnes_B32 at hf
    refine lv_iload_n hx hb dX4_toldOnes_32 rfl (lv_at hl 0 rfl) ?_
    exact W.iret (v := x1) hx hb hr (fun t ht hW => ⟨⟨_, (Sb, n), rfl, po2 hf, BW.of hw hE ht⟩, hw.2.2.1.F ht⟩) hw.2.2.1.2.2 dX4_toldOnes_33
  have hL4 : ∀ (fu4 : Nat), ∀ (Sb : PS) (H1 : Heap) (lo1 : List Loc) (x0 : Nat) (x1 : Int32) (x2 : Int32) (ls : Array Slot), lv_has ls 3 [(0, .ref x0), (1, .int x1), (2, .int x2)] → Hw D cy (AA cy S n) s.heap Sb n H1 lo1 → EX S Sb → vd Sb x0 4 → f_X4_toldOnes_L4 f_X4_toldOnes_B32 fu4 Sb x0 x1 x2 = some res → W p l e (headSpec wsX4_toldOnes ({ frames := 4, cells := 0, slots := 0, locals := 111 } : Room)).room s m ([.ref y0] : List Value).toArray below meth c H1 lo1 0 0 (MQ below (va_Qi (fun (r : Int32) (u : PS × Nat) => r = res.1 ∧ u = (res.2, n)) (BW D cy S n) (AA cy S n)) ([.ref y0] : List Value).toArray s 0 0 (AA cy S n)) (F0 m 4 ls []) := by
    intro fu4
    induction fu4 with
    | zero =>
      intro Sb H1 lo1 x0 x1 x2 ls hl hw hE v_x0 hf
      have hf : (none : Option (Int32 × PS)) = some res := hf
      cases hf
    | succ fu4 ih4 =>
      have hB26 : ∀ (Sb : PS) (H1 : Heap) (lo1 : List Loc) (x0 : Nat) (x1 : Int32) (x2 : Int32) (ls : Array Slot), lv_has ls 3 [(0, .ref x0), (1, .int x1), (2, .int x2)] → Hw D cy (AA cy S n) s.heap Sb n H1 lo1 → EX S Sb → vd Sb x0 4 → f_X4_toldOnes_B26 (f_X4_toldOnes_L4 f_X4_toldOnes_B32 fu4) f_X4_toldOnes_B32 Sb x0 x1 x2 = some res → W p l e (headSpec wsX4_toldOnes ({ frames := 4, cells := 0, slots := 0, locals := 111 } : Room)).room s m ([.ref y0] : List Value).toArray below meth c H1 lo1 0 0 (MQ below (va_Qi (fun (r : Int32) (u : PS × Nat) => r = res.1 ∧ u = (res.2, n)) (BW D cy S n) (AA cy S n)) ([.ref y0] : List Value).toArray s 0 0 (AA cy S n)) (F0 m 26 ls []) := by
        intro Sb H1 lo1 x0 x1 x2 ls hl hw hE v_x0 hf
        unfold f_X4_toldOnes_B26 at hf
        refine lv_iinc (v := x2 + 1) (lv' := [(2, .int (x2 + 1)), (0, .ref x0), (1, .int x1)]) hx hb dX4_toldOnes_26 hl (k := 2) rfl (by rfl) (by decide) rfl (fun ls hl => ?_)
        refine lv_goto (tgt := 4) hx hb dX4_toldOnes_29 (by decide) ?_
        exact ih4 Sb _ _ x0 x1 (x2 + 1) _ (lv_sub hl [1, 2, 0] rfl) hw hE v_x0 hf
      intro Sb H1 lo1 x0 x1 x2 ls hl hw hE v_x0 hf
      have hf : f_X4_toldOnes_L4s (f_X4_toldOnes_L4 f_X4_toldOnes_B32 fu4) f_X4_toldOnes_B32 Sb x0 x1 x2 = some res := hf
      unfold f_X4_toldOnes_L4s at hf
      refine lv_iload_n hx hb dX4_toldOnes_4 rfl (lv_at hl 2 rfl) ?_
      refine lv_aload_n hx hb dX4_toldOnes_5 rfl (lv_at hl 0 rfl) ?_
      obtain ⟨b7, e8, v_b7, hf⟩ := rq_some hf
      refine q_get F hK hw.1 v_x0.1 (pF_4 (S := Sb) v_x0.2) (fun w h => List.mem_cons_of_mem _ (List.mem_append_left _ (List.mem_append_left _ (List.mem_append_left _ (List.mem_append_right _ h))))) rfl 0 (by decide) (hts (.fieldLink RX4 17 "SharedModuli" "now" "LSharedModuli$State;") (List.mem_of_getElem? (i := 1) rfl)) (v := .ref b7) (congrArg (fun z => some (va_rf z)) e8) dX4_toldOnes_6 ?_
      refine q_getN F hK hw.1 v_b7.1 (pF_3 (S := Sb) v_b7.2) (fun w h => List.mem_cons_of_mem _ (List.mem_append_left _ (List.mem_append_left _ (List.mem_append_right _ h)))) rfl 3 (by decide) (nk_f_RX4_95 hK.2.1) (v := .int (fI Sb 51 b7)) rfl dX4_toldOnes_9 ?_
      refine lv_icmp_ge (tgt := 32) hx hb dX4_toldOnes_12 (by decide) (fun c9 => ?_) (fun c9 => ?_)
      · have hf := it_t c9 hf
        exact hB32 Sb _ _ x1 _ (lv_sub hl [1] rfl) hw hE  hf
      · have hf := it_f c9 hf
        refine lv_aload_n hx hb dX4_toldOnes_15 rfl (lv_at hl 0 rfl) ?_
        refine lv_iload_n hx hb dX4_toldOnes_16 rfl (lv_at hl 2 rfl) ?_
        obtain ⟨t10, h11, hf⟩ := bd_some hf
        refine q_calli (va_runV (As := [.int x2]) (rest := []) F (c_X4_isTold l D cy (S := Sb) v_x0 h11) (cwV 1 hts gX4_toldOnes_X4_isTold rfl rfl rfl ⟨rfl, ph_X4_isTold.1, ph_X4_isTold.2, pd_X4_isTold⟩ ⟨Nat.le_of_ble_eq_true rfl, Nat.le_of_ble_eq_true rfl⟩) ⟨PcW.bl, (q_rcv hK hw.1 v_x0.1 (pF_4 (S := Sb) v_x0.2) rfl), PcW.in hK hw hA (fun z => z.elim)⟩ rfl rfl hl.1 rfl (lv_room (Nat.le_of_ble_eq_true rfl)) dX4_toldOnes_17 ⟨Nat.zero_le _, Nat.zero_le _⟩) hw hA (fun H locs hw hX => ?_)
        have hE := hE.tr hX
        have v_x0 := hX _ _ v_x0
        have v_b7 := hX _ _ v_b7
        refine lv_if_eq (tgt := 26) hx hb dX4_toldOnes_20 (by decide) (fun c12 => ?_) (fun c12 => ?_)
        · have hf := it_t c12 hf
          exact hB26 t10.2 _ _ x0 x1 x2 _ (lv_sub hl [0, 1, 2] rfl) hw hE v_x0 hf
        · have hf := it_f c12 hf
          refine lv_iinc (v := x1 + 1) (lv' := [(1, .int (x1 + 1)), (0, .ref x0), (2, .int x2)]) hx hb dX4_toldOnes_23 hl (k := 1) rfl (by rfl) (by decide) rfl (fun ls hl => ?_)
          exact hB26 t10.2 _ _ x0 (x1 + 1) x2 _ (lv_sub hl [1, 0, 2] rfl) hw hE v_x0 hf
  have hl := lv_entry ([.ref y0]) (n := 3) (Nat.le_of_ble_eq_true rfl)
  rw [lg_entry_eq]
  generalize (lg_sl ([.ref y0]) ++ List.replicate (3 - (lg_sl ([.ref y0])).length) Slot.unset).toArray = ls at hl ⊢
  have hl : lv_has ls 3 [(0, .ref y0)] := hl
  unfold f_X4_toldOnes at hf
  refine lv_iconst (v := 0) hx hb dX4_toldOnes_0 (by decide) ?_
  refine lv_istore_n (lv' := [(1, .int 0), (0, .ref y0)]) hx hb dX4_toldOnes_1 rfl hl (by decide) rfl (fun ls hl => ?_)
  refine lv_iconst (v := 0) hx hb dX4_toldOnes_2 (by decide) ?_
  refine lv_istore_n (lv' := [(2, .int 0), (1, .int 0), (0, .ref y0)]) hx hb dX4_toldOnes_3 rfl hl (by decide) rfl (fun ls hl => ?_)
  exact hL4 FU S _ _ y0 0 0 _ (lv_sub hl [2, 1, 0] rfl) hw hE v_y0 hf
def f_X4_count_B10 (S : PS) : Option ((Int32 ⊕ Nat) × PS) :=
  some (.inr 0, S)
def f_X4_count_B124 (S : PS) (s0 : Int32) : Option ((Int32 ⊕ Nat) × PS) :=
  some (.inl s0, S)
def f_X4_count (S : PS) (x0 : Nat) (x1 : Int32) : Option ((Int32 ⊕ Nat) × PS) :=
  if x1 < 0 then (f_X4_count_B10 S) else
  if x1 ≤ 6 then (if x1 = 0 then (rq (fR S 64 x0) S 3 fun b4 =>
  some (.inl (fI S 51 b4), S)) else
  if x1 = 1 then (rq (fR S 64 x0) S 3 fun b6 =>
  bd (f_J6_bitCount_0f7a4 (fI S 52 b6)) fun t8 =>
  some (.inl t8, S)) else
  if x1 = 2 then (rq (fR S 64 x0) S 3 fun b11 =>
  bd (f_X3_voidOnes S b11) fun t13 =>
  some (.inl t13, S)) else
  if x1 = 3 then (rq (fR S 64 x0) S 3 fun b16 =>
  rq (fR S 64 x0) S 3 fun b18 =>
  bd (f_X3_contradictions S b16 (fI S 52 b18)) fun t20 =>
  some (.inl t20, S)) else
  if x1 = 4 then (rq (fR S 64 x0) S 3 fun b23 =>
  rq (fR S 64 x0) S 3 fun b25 =>
  bd (f_X3_arePossible S b23 (fI S 52 b25)) fun t27 =>
  if t27 = 0 then (f_X4_count_B124 S 0) else
  f_X4_count_B124 S 1) else
  if x1 = 5 then (bd (f_X4_toldOnes S x0) fun t31 =>
  some (.inl t31.1, t31.2)) else
  some (.inl (fI S 67 x0), S)) else
  f_X4_count_B10 S
set_option maxHeartbeats 4000000 in
set_option maxRecDepth 100000 in
theorem c_X4_count (l : Launch) (hst : l.stackTraces = false) (D : va_G) (cy : cyT) {S : PS} {n : Nat} {y0 : Nat} {y1 : Int32} (v_y0 : vd S y0 4) {res : (Int32 ⊕ Nat) × PS} (hf : f_X4_count S y0 y1 = some res) : vx_Met l yX4_count wsX4_count ({ frames := 6, cells := 1, slots := 6, locals := 133 } : Room) (PcW True D cy S n [.ref y0, .int y1]) (va_Qi (fun (r : Int32) (u : PS × Nat) => Sum.inl r = res.1 ∧ u = (res.2, n)) (BW D cy S n) (AA cy S n)) (vx_X (fun k : Nat => res.1 = .inr k) (fun E k t => XO D cy S n res.2 E k t) (AA cy S n)) 1 6 (AA cy S n) := by
  refine vx_ofW (cc := cX4_count) (maxL := 2) (ret := (some .int)) (by decide) rfl ?_
  intro p e s m args below meth c s₁ B hml hex hv
  obtain ⟨hav, hsz, hP0, hD0, hK, hZ0⟩ := hv
  have hx := B.exec
  have hb := B.bytes
  have hr := B.returns
  have hts := atoms_spec (ws := wsX4_count) B.pre
  have hown : s.vm.findClass RX4 = some m.cls := findClass_of_methodNamed B.named
  have hlocks := B.notSynchronized
  subst hav
  have hw : Hw D cy (AA cy S n) s.heap S n s.heap [] := Hw.start hsz hP0 hD0
  have hA : ∀ q, s.heap.size ≤ q → AA cy S n q := fun q h => Or.inr (hsz ▸ h)
  have hE : EX S S := EX.rf
  have hZ := hZ0 trivial
  have F : CallFix p m c cX4_count 2 s _ wsX4_count RX4 := ⟨hx, hb, hml, hown, hts⟩
  have hB10 : ∀ (Sb : PS) (H1 : Heap) (lo1 : List Loc) (kc ks : Nat) (_ : kc + 1 ≤ 1) (_ : ks + 6 ≤ 6)  (ls : Array Slot), lv_has ls 2 [] → Hw D cy (AA cy S n) s.heap Sb n H1 lo1 → EX S Sb → f_X4_count_B10 Sb = some res → W p l e (headSpec wsX4_count ({ frames := 6, cells := 1, slots := 6, locals := 133 } : Room)).room s m ([.ref y0, .int y1] : List Value).toArray below meth c H1 lo1 kc ks (vx_MQ below (va_Qi (fun (r : Int32) (u : PS × Nat) => Sum.inl r = res.1 ∧ u = (res.2, n)) (BW D cy S n) (AA cy S n)) (vx_X (fun k : Nat => res.1 = .inr k) (fun E k t => XO D cy S n res.2 E k t) (AA cy S n)) ([.ref y0, .int y1] : List Value).toArray s 1 6 (AA cy S n)) (F0 m 10 ls []) := by
    intro Sb H1 lo1 kc ks hkc hks ls hl hw hE hf
    unfold f_X4_count_B10 at hf
    obtain ⟨sa, hsa⟩ := sk_207 hK.2.2.1
    refine vx_throwS hx hb hst (names := ["java/lang/RuntimeException", "java/lang/Exception"]) hown (by decide +kernel) (by decide +kernel) (hts (.classLink RX4 59 "java/lang/IllegalArgumentException") (List.mem_of_getElem? (i := 1) rfl)) (hts (.initialized "java/lang/IllegalArgumentException") (List.mem_of_getElem? (i := 2) rfl)) hsa (vx_hat (B := xb_63) (fun w h => hts w (List.mem_cons_of_mem _ (List.mem_append_right _ h))) xn_63 (xk_63 hK.2.2.2.2.2)) xg_63 hZ.1 hZ.2.1 hw.2.2.1 (hl.1.trans hml.symm) dX4_count_10 dX4_count_13 dX4_count_14 dX4_count_16 dX4_count_19 (fun x h => (hex x h).elim) (Nat.le_of_ble_eq_true rfl) (Nat.le_of_ble_eq_true rfl) (by show _ ≤ 1; omega) (by show _ ≤ 6; omega) hlocks (fun t hvm hz hk => ?_) hw.2.2.1.2.2 (by omega) (by omega)
    exact xo_of hw hE hz hk (by show (_ : String) = _; rfl) (po2x hf).1 (po2x hf).2
  have hB124 : ∀ (Sb : PS) (H1 : Heap) (lo1 : List Loc) (kc ks : Nat) (_ : kc + 0 ≤ 1) (_ : ks + 0 ≤ 6) (s0 : Int32) (ls : Array Slot), lv_has ls 2 [] → Hw D cy (AA cy S n) s.heap Sb n H1 lo1 → EX S Sb → f_X4_count_B124 Sb s0 = some res → W p l e (headSpec wsX4_count ({ frames := 6, cells := 1, slots := 6, locals := 133 } : Room)).room s m ([.ref y0, .int y1] : List Value).toArray below meth c H1 lo1 kc ks (vx_MQ below (va_Qi (fun (r : Int32) (u : PS × Nat) => Sum.inl r = res.1 ∧ u = (res.2, n)) (BW D cy S n) (AA cy S n)) (vx_X (fun k : Nat => res.1 = .inr k) (fun E k t => XO D cy S n res.2 E k t) (AA cy S n)) ([.ref y0, .int y1] : List Value).toArray s 1 6 (AA cy S n)) (F0 m 124 ls [.int s0]) := by
    intro Sb H1 lo1 kc ks hkc hks s0 ls hl hw hE hf
    unfold f_X4_count_B124 at hf
    refine vx_ret ?_
    refine W.widen (k := 1) (n := 6) (by omega) (by omega) ?_
    exact W.iret (v := s0) hx hb hr (fun t ht hW => ⟨⟨_, (Sb, n), rfl, po2t hf, BW.of hw hE ht⟩, hw.2.2.1.F ht⟩) hw.2.2.1.2.2 dX4_count_124
  have hl := lv_entry ([.ref y0, .int y1]) (n := 2) (Nat.le_of_ble_eq_true rfl)
  rw [lg_entry_eq]
  generalize (lg_sl ([.ref y0, .int y1]) ++ List.replicate (2 - (lg_sl ([.ref y0, .int y1])).length) Slot.unset).toArray = ls at hl ⊢
  have hl : lv_has ls 2 [(0, .ref y0), (1, .int y1)] := hl
  unfold f_X4_count at hf
  refine lv_iload_n hx hb dX4_count_0 rfl (lv_at hl 1 rfl) ?_
  refine lv_if_lt (tgt := 10) hx hb dX4_count_1 (by decide) (fun c33 => ?_) (fun c33 => ?_)
  · have hf := it_t c33 hf
    exact hB10 S _ _ _ _ (by omega) (by omega) _ (lv_sub hl [] rfl) hw hE  hf
  · have hf := it_f c33 hf
    refine lv_iload_n hx hb dX4_count_4 rfl (lv_at hl 1 rfl) ?_
    refine lv_bipush (v := 6) hx hb dX4_count_5 (by decide) ?_
    refine lv_icmp_le (tgt := 20) hx hb dX4_count_7 (by decide) (fun c34 => ?_) (fun c34 => ?_)
    · have hf := it_t c34 hf
      refine lv_iload_n hx hb dX4_count_20 rfl (lv_at hl 1 rfl) ?_
      by_cases c35_0 : y1 = 0
      · have hf := it_t c35_0 hf
        refine lv_tableIn (off := 39) (tgt := 60) hx hb dX4_count_21 (by rw [c35_0]; decide) (by rw [c35_0]; decide) (by rw [c35_0]; rfl) (by decide) ?_
        refine lv_aload_n hx hb dX4_count_60 rfl (lv_at hl 0 rfl) ?_
        obtain ⟨b36, e37, v_b36, hf⟩ := rq_some hf
        refine q_get F hK hw.1 v_y0.1 (pF_4 (S := S) v_y0.2) (fun w h => List.mem_cons_of_mem _ (List.mem_append_left _ (List.mem_append_left _ (List.mem_append_left _ (List.mem_append_left _ (List.mem_append_right _ h)))))) rfl 0 (by decide) (hts (.fieldLink RX4 17 "SharedModuli" "now" "LSharedModuli$State;") (List.mem_of_getElem? (i := 3) rfl)) (v := .ref b36) (congrArg (fun z => some (va_rf z)) e37) dX4_count_61 ?_
        refine q_getN F hK hw.1 v_b36.1 (pF_3 (S := S) v_b36.2) (fun w h => List.mem_cons_of_mem _ (List.mem_append_left _ (List.mem_append_left _ (List.mem_append_left _ (List.mem_append_right _ h))))) rfl 3 (by decide) (nk_f_RX4_95 hK.2.1) (v := .int (fI S 51 b36)) rfl dX4_count_64 ?_
        refine vx_ret ?_
        refine W.widen (k := 1) (n := 6) (by omega) (by omega) ?_
        exact W.iret (v := (fI S 51 b36)) hx hb hr (fun t ht hW => ⟨⟨_, (S, n), rfl, po2t hf, BW.of hw hE ht⟩, hw.2.2.1.F ht⟩) hw.2.2.1.2.2 dX4_count_67
      have hf := it_f c35_0 hf
      by_cases c35_1 : y1 = 1
      · have hf := it_t c35_1 hf
        refine lv_tableIn (off := 47) (tgt := 68) hx hb dX4_count_21 (by rw [c35_1]; decide) (by rw [c35_1]; decide) (by rw [c35_1]; rfl) (by decide) ?_
        refine lv_aload_n hx hb dX4_count_68 rfl (lv_at hl 0 rfl) ?_
        obtain ⟨b38, e39, v_b38, hf⟩ := rq_some hf
        refine q_get F hK hw.1 v_y0.1 (pF_4 (S := S) v_y0.2) (fun w h => List.mem_cons_of_mem _ (List.mem_append_left _ (List.mem_append_left _ (List.mem_append_left _ (List.mem_append_left _ (List.mem_append_right _ h)))))) rfl 0 (by decide) (hts (.fieldLink RX4 17 "SharedModuli" "now" "LSharedModuli$State;") (List.mem_of_getElem? (i := 3) rfl)) (v := .ref b38) (congrArg (fun z => some (va_rf z)) e39) dX4_count_69 ?_
        refine q_getN F hK hw.1 v_b38.1 (pF_3 (S := S) v_b38.2) (fun w h => List.mem_cons_of_mem _ (List.mem_append_left _ (List.mem_append_left _ (List.mem_append_left _ (List.mem_append_right _ h))))) rfl 4 (by decide) (nk_f_RX4_98 hK.2.1) (v := .int (fI S 52 b38)) rfl dX4_count_72 ?_
        obtain ⟨t40, h41, hf⟩ := bd_some hf
        refine vp_callSi (va_runS (As := [.int (fI S 52 b38)]) (rest := []) F (c_J6_bitCount_0f7a4 l D cy (H := _)  h41) (va_cwS 1 hts gX4_count_J6_bitCount_0f7a4 rfl rfl rfl ⟨ph_J6_bitCount_0f7a4.1, ph_J6_bitCount_0f7a4.2, pd_J6_bitCount_0f7a4⟩ ⟨Nat.le_of_ble_eq_true rfl, Nat.le_of_ble_eq_true rfl⟩) ⟨PcR.bl, PcR.in hK⟩ rfl rfl hl.1 rfl (lv_room (Nat.le_of_ble_eq_true rfl)) dX4_count_75 ⟨by show _ ≤ 1; omega, by show _ ≤ 6; omega⟩).run (fun r42 er42 => ?_)
        subst r42
        refine vx_ret ?_
        refine W.widen (k := 1) (n := 6) (by omega) (by omega) ?_
        exact W.iret (v := t40) hx hb hr (fun t ht hW => ⟨⟨_, (S, n), rfl, po2t hf, BW.of hw hE ht⟩, hw.2.2.1.F ht⟩) hw.2.2.1.2.2 dX4_count_78
      have hf := it_f c35_1 hf
      by_cases c35_2 : y1 = 2
      · have hf := it_t c35_2 hf
        refine lv_tableIn (off := 58) (tgt := 79) hx hb dX4_count_21 (by rw [c35_2]; decide) (by rw [c35_2]; decide) (by rw [c35_2]; rfl) (by decide) ?_
        refine lv_aload_n hx hb dX4_count_79 rfl (lv_at hl 0 rfl) ?_
        obtain ⟨b43, e44, v_b43, hf⟩ := rq_some hf
        refine q_get F hK hw.1 v_y0.1 (pF_4 (S := S) v_y0.2) (fun w h => List.mem_cons_of_mem _ (List.mem_append_left _ (List.mem_append_left _ (List.mem_append_left _ (List.mem_append_left _ (List.mem_append_right _ h)))))) rfl 0 (by decide) (hts (.fieldLink RX4 17 "SharedModuli" "now" "LSharedModuli$State;") (List.mem_of_getElem? (i := 3) rfl)) (v := .ref b43) (congrArg (fun z => some (va_rf z)) e44) dX4_count_80 ?_
        obtain ⟨t45, h46, hf⟩ := bd_some hf
        refine vp_callSi (va_runV (As := []) (rest := []) F (c_X3_voidOnes l D cy (H := _) hw.1 v_b43 h46) (cwV 0 hts gX4_count_X3_voidOnes rfl rfl rfl ⟨rfl, ph_X3_voidOnes.1, ph_X3_voidOnes.2, pd_X3_voidOnes⟩ ⟨Nat.le_of_ble_eq_true rfl, Nat.le_of_ble_eq_true rfl⟩) ⟨PcR.bl, (q_rcv hK hw.1 v_b43.1 (pF_3 (S := S) v_b43.2) rfl), PcR.in hK⟩ rfl rfl hl.1 rfl (lv_room (Nat.le_of_ble_eq_true rfl)) dX4_count_83 ⟨by show _ ≤ 1; omega, by show _ ≤ 6; omega⟩).run (fun r47 er47 => ?_)
        subst r47
        refine vx_ret ?_
        refine W.widen (k := 1) (n := 6) (by omega) (by omega) ?_
        exact W.iret (v := t45) hx hb hr (fun t ht hW => ⟨⟨_, (S, n), rfl, po2t hf, BW.of hw hE ht⟩, hw.2.2.1.F ht⟩) hw.2.2.1.2.2 dX4_count_86
      have hf := it_f c35_2 hf
      by_cases c35_3 : y1 = 3
      · have hf := it_t c35_3 hf
        refine lv_tableIn (off := 66) (tgt := 87) hx hb dX4_count_21 (by rw [c35_3]; decide) (by rw [c35_3]; decide) (by rw [c35_3]; rfl) (by decide) ?_
        refine lv_aload_n hx hb dX4_count_87 rfl (lv_at hl 0 rfl) ?_
        obtain ⟨b48, e49, v_b48, hf⟩ := rq_some hf
        refine q_get F hK hw.1 v_y0.1 (pF_4 (S := S) v_y0.2) (fun w h => List.mem_cons_of_mem _ (List.mem_append_left _ (List.mem_append_left _ (List.mem_append_left _ (List.mem_append_left _ (List.mem_append_right _ h)))))) rfl 0 (by decide) (hts (.fieldLink RX4 17 "SharedModuli" "now" "LSharedModuli$State;") (List.mem_of_getElem? (i := 3) rfl)) (v := .ref b48) (congrArg (fun z => some (va_rf z)) e49) dX4_count_88 ?_
        refine lv_aload_n hx hb dX4_count_91 rfl (lv_at hl 0 rfl) ?_
        obtain ⟨b50, e51, v_b50, hf⟩ := rq_some hf
        refine q_get F hK hw.1 v_y0.1 (pF_4 (S := S) v_y0.2) (fun w h => List.mem_cons_of_mem _ (List.mem_append_left _ (List.mem_append_left _ (List.mem_append_left _ (List.mem_append_left _ (List.mem_append_right _ h)))))) rfl 0 (by decide) (hts (.fieldLink RX4 17 "SharedModuli" "now" "LSharedModuli$State;") (List.mem_of_getElem? (i := 3) rfl)) (v := .ref b50) (congrArg (fun z => some (va_rf z)) e51) dX4_count_92 ?_
        refine q_getN F hK hw.1 v_b50.1 (pF_3 (S := S) v_b50.2) (fun w h => List.mem_cons_of_mem _ (List.mem_append_left _ (List.mem_append_left _ (List.mem_append_left _ (List.mem_append_right _ h))))) rfl 4 (by decide) (nk_f_RX4_98 hK.2.1) (v := .int (fI S 52 b50)) rfl dX4_count_95 ?_
        obtain ⟨t52, h53, hf⟩ := bd_some hf
        refine vp_callSi (va_runV (As := [.int (fI S 52 b50)]) (rest := []) F (c_X3_contradictions l D cy (H := _) hw.1 v_b48 h53) (cwV 1 hts gX4_count_X3_contradictions rfl rfl rfl ⟨rfl, ph_X3_contradictions.1, ph_X3_contradictions.2, pd_X3_contradictions⟩ ⟨Nat.le_of_ble_eq_true rfl, Nat.le_of_ble_eq_true rfl⟩) ⟨PcR.bl, (q_rcv hK hw.1 v_b48.1 (pF_3 (S := S) v_b48.2) rfl), PcR.in hK⟩ rfl rfl hl.1 rfl (lv_room (Nat.le_of_ble_eq_true rfl)) dX4_count_98 ⟨by show _ ≤ 1; omega, by show _ ≤ 6; omega⟩).run (fun r54 er54 => ?_)
        subst r54
        refine vx_ret ?_
        refine W.widen (k := 1) (n := 6) (by omega) (by omega) ?_
        exact W.iret (v := t52) hx hb hr (fun t ht hW => ⟨⟨_, (S, n), rfl, po2t hf, BW.of hw hE ht⟩, hw.2.2.1.F ht⟩) hw.2.2.1.2.2 dX4_count_101
      have hf := it_f c35_3 hf
      by_cases c35_4 : y1 = 4
      · have hf := it_t c35_4 hf
        refine lv_tableIn (off := 81) (tgt := 102) hx hb dX4_count_21 (by rw [c35_4]; decide) (by rw [c35_4]; decide) (by rw [c35_4]; rfl) (by decide) ?_
        refine lv_aload_n hx hb dX4_count_102 rfl (lv_at hl 0 rfl) ?_
        obtain ⟨b55, e56, v_b55, hf⟩ := rq_some hf
        refine q_get F hK hw.1 v_y0.1 (pF_4 (S := S) v_y0.2) (fun w h => List.mem_cons_of_mem _ (List.mem_append_left _ (List.mem_append_left _ (List.mem_append_left _ (List.mem_append_left _ (List.mem_append_right _ h)))))) rfl 0 (by decide) (hts (.fieldLink RX4 17 "SharedModuli" "now" "LSharedModuli$State;") (List.mem_of_getElem? (i := 3) rfl)) (v := .ref b55) (congrArg (fun z => some (va_rf z)) e56) dX4_count_103 ?_
        refine lv_aload_n hx hb dX4_count_106 rfl (lv_at hl 0 rfl) ?_
        obtain ⟨b57, e58, v_b57, hf⟩ := rq_some hf
        refine q_get F hK hw.1 v_y0.1 (pF_4 (S := S) v_y0.2) (fun w h => List.mem_cons_of_mem _ (List.mem_append_left _ (List.mem_append_left _ (List.mem_append_left _ (List.mem_append_left _ (List.mem_append_right _ h)))))) rfl 0 (by decide) (hts (.fieldLink RX4 17 "SharedModuli" "now" "LSharedModuli$State;") (List.mem_of_getElem? (i := 3) rfl)) (v := .ref b57) (congrArg (fun z => some (va_rf z)) e58) dX4_count_107 ?_
        refine q_getN F hK hw.1 v_b57.1 (pF_3 (S := S) v_b57.2) (fun w h => List.mem_cons_of_mem _ (List.mem_append_left _ (List.mem_append_left _ (List.mem_append_left _ (List.mem_append_right _ h))))) rfl 4 (by decide) (nk_f_RX4_98 hK.2.1) (v := .int (fI S 52 b57)) rfl dX4_count_110 ?_
        obtain ⟨t59, h60, hf⟩ := bd_some hf
        refine vp_callSi (va_runV (As := [.int (fI S 52 b57)]) (rest := []) F (c_X3_arePossible l D cy (H := _) hw.1 v_b55 h60) (cwV 1 hts gX4_count_X3_arePossible rfl rfl rfl ⟨rfl, ph_X3_arePossible.1, ph_X3_arePossible.2, pd_X3_arePossible⟩ ⟨Nat.le_of_ble_eq_true rfl, Nat.le_of_ble_eq_true rfl⟩) ⟨PcR.bl, (q_rcv hK hw.1 v_b55.1 (pF_3 (S := S) v_b55.2) rfl), PcR.in hK⟩ rfl rfl hl.1 rfl (lv_room (Nat.le_of_ble_eq_true rfl)) dX4_count_113 ⟨by show _ ≤ 1; omega, by show _ ≤ 6; omega⟩).run (fun r61 er61 => ?_)
        subst r61
        refine lv_if_eq (tgt := 123) hx hb dX4_count_116 (by decide) (fun c62 => ?_) (fun c62 => ?_)
        · have hf := it_t c62 hf
          refine lv_iconst (v := 0) hx hb dX4_count_123 (by decide) ?_
          exact hB124 S _ _ _ _ (by omega) (by omega) 0 _ (lv_sub hl [] rfl) hw hE  hf
        · have hf := it_f c62 hf
          refine lv_iconst (v := 1) hx hb dX4_count_119 (by decide) ?_
          refine lv_goto (tgt := 124) hx hb dX4_count_120 (by decide) ?_
          exact hB124 S _ _ _ _ (by omega) (by omega) 1 _ (lv_sub hl [] rfl) hw hE  hf
      have hf := it_f c35_4 hf
      by_cases c35_5 : y1 = 5
      · have hf := it_t c35_5 hf
        refine lv_tableIn (off := 104) (tgt := 125) hx hb dX4_count_21 (by rw [c35_5]; decide) (by rw [c35_5]; decide) (by rw [c35_5]; rfl) (by decide) ?_
        refine lv_aload_n hx hb dX4_count_125 rfl (lv_at hl 0 rfl) ?_
        obtain ⟨t63, h64, hf⟩ := bd_some hf
        refine q_calli (va_runV (As := []) (rest := []) F (c_X4_toldOnes l D cy (S := S) v_y0 h64) (cwV 0 hts gX4_count_X4_toldOnes rfl rfl rfl ⟨rfl, ph_X4_toldOnes.1, ph_X4_toldOnes.2, pd_X4_toldOnes⟩ ⟨Nat.le_of_ble_eq_true rfl, Nat.le_of_ble_eq_true rfl⟩) ⟨PcW.bl, (q_rcv hK hw.1 v_y0.1 (pF_4 (S := S) v_y0.2) rfl), PcW.in hK hw hA (fun z => z.elim)⟩ rfl rfl hl.1 rfl (lv_room (Nat.le_of_ble_eq_true rfl)) dX4_count_126 ⟨by show _ ≤ 1; omega, by show _ ≤ 6; omega⟩) hw hA (fun H locs hw hX => ?_)
        have hE := hE.tr hX
        have v_y0 := hX _ _ v_y0
        refine vx_ret ?_
        refine W.widen (k := 1) (n := 6) (by omega) (by omega) ?_
        exact W.iret (v := t63.1) hx hb hr (fun t ht hW => ⟨⟨_, (t63.2, n), rfl, po2t hf, BW.of hw hE ht⟩, hw.2.2.1.F ht⟩) hw.2.2.1.2.2 dX4_count_129
      have hf := it_f c35_5 hf
      have c35n_0 := i32_ne (n := 0) (by decide) c35_0
      have c35n_1 := i32_ne (n := 1) (by decide) c35_1
      have c35n_2 := i32_ne (n := 2) (by decide) c35_2
      have c35n_3 := i32_ne (n := 3) (by decide) c35_3
      have c35n_4 := i32_ne (n := 4) (by decide) c35_4
      have c35n_5 := i32_ne (n := 5) (by decide) c35_5
      refine lv_tableOut (tgt := 130) hx hb dX4_count_21 (by omega) (by decide) ?_
      refine lv_aload_n hx hb dX4_count_130 rfl (lv_at hl 0 rfl) ?_
      refine q_get F hK hw.1 v_y0.1 (pF_4 (S := S) v_y0.2) (fun w h => List.mem_cons_of_mem _ (List.mem_append_left _ (List.mem_append_left _ (List.mem_append_left _ (List.mem_append_left _ (List.mem_append_right _ h)))))) rfl 3 (by decide) (hts (.fieldLink RX4 31 "SharedModuli" "savedStates" "I") (List.mem_of_getElem? (i := 4) rfl)) (v := .int (fI S 67 y0)) rfl dX4_count_131 ?_
      refine vx_ret ?_
      refine W.widen (k := 1) (n := 6) (by omega) (by omega) ?_
      exact W.iret (v := (fI S 67 y0)) hx hb hr (fun t ht hW => ⟨⟨_, (S, n), rfl, po2t hf, BW.of hw hE ht⟩, hw.2.2.1.F ht⟩) hw.2.2.1.2.2 dX4_count_134
    · have hf := it_f c34 hf
      exact hB10 S _ _ _ _ (by omega) (by omega) _ (lv_sub hl [] rfl) hw hE  hf
def f_X4_isPrime_B11  : Option Int32 :=
  some 0
def f_X4_isPrime_B40  : Option Int32 :=
  some 1
def f_X4_isPrime_B32  : Option Int32 :=
  some 0
def f_X4_isPrime_L15s (kL15 : Int32 → Int32 → Option Int32) (ke40 : Option Int32) (ke32 : Option Int32) (x0 : Int32) (x1 : Int32) : Option Int32 :=
  if x0 ≤ x1 then (ke40) else
  bd (f_X4_rest x0.toInt64 x1.toInt64) fun t2 =>
  if t2 = 0 then (ke32) else
  kL15 x0 (x1 + 1)
def f_X4_isPrime_L15 (ke40 : Option Int32) (ke32 : Option Int32) (fu : Nat) : Int32 → Int32 → Option Int32 := fx (fun kL => f_X4_isPrime_L15s kL ke40 ke32) (fun _ _ => none) fu
def f_X4_isPrime (x0 : Int32) : Option Int32 :=
  if x0 < 2 then (f_X4_isPrime_B11) else
  if x0 ≤ 31 then (f_X4_isPrime_L15 f_X4_isPrime_B40 f_X4_isPrime_B32 FU x0 2) else
  f_X4_isPrime_B11
set_option maxHeartbeats 4000000 in
set_option maxRecDepth 100000 in
theorem c_X4_isPrime (l : Launch) (D : va_G) (cy : cyT) {H : Heap} {y0 : Int32}  {res : Int32} (hf : f_X4_isPrime y0 = some res) : Met l yX4_isPrime wsX4_isPrime ({ frames := 1, cells := 0, slots := 0, locals := 25 } : Room) (PcR D cy H [.int y0]) (vp_Si (fun r => r = res)) 0 0 (fun _ => False) := by
  refine Met.ofW (cc := cX4_isPrime) (maxL := 2) (ret := (some .boolean)) (by decide) rfl ?_
  intro p e s m args below meth c s₁ B hml hv
  obtain ⟨hav, hH, hK⟩ := hv
  have hx := B.exec
  have hb := B.bytes
  have hr := B.returns
  have hts := atoms_spec (ws := wsX4_isPrime) B.pre
  have hown : s.vm.findClass RX4 = some m.cls := findClass_of_methodNamed B.named
  have hlocks := B.notSynchronized
  subst hav
  subst hH
  have F : CallFix p m c cX4_isPrime 2 s _ wsX4_isPrime RX4 := ⟨hx, hb, hml, hown, hts⟩
  have hB11 : ∀  (ls : Array Slot), lv_has ls 2 [] → f_X4_isPrime_B11 = some res → W p l e (headSpec wsX4_isPrime ({ frames := 1, cells := 0, slots := 0, locals := 25 } : Room)).room s m ([.int y0] : List Value).toArray below meth c s.heap [] 0 0 (MQ below (vp_Si (fun r => r = res)) ([.int y0] : List Value).toArray s 0 0 (fun _ => False)) (F0 m 11 ls []) := by
    intro ls hl hf
    unfold f_X4_isPrime_B11 at hf
    refine lv_iconst (v := 0) hx hb dX4_isPrime_11 (by decide) ?_
    exact W.zret (v := 0) hx hb hr rfl (fun t ht hW => ⟨_, rfl, Option.some.inj hf, ht⟩) (fun _ h => by cases h) dX4_isPrime_12
  have hB40 : ∀  (ls : Array Slot), lv_has ls 2 [] → f_X4_isPrime_B40 = some res → W p l e (headSpec wsX4_isPrime ({ frames := 1, cells := 0, slots := 0, locals := 25 } : Room)).room s m ([.int y0] : List Value).toArray below meth c s.heap [] 0 0 (MQ below (vp_Si (fun r => r = res)) ([.int y0] : List Value).toArray s 0 0 (fun _ => False)) (F0 m 40 ls []) := by
    intro ls hl hf
    unfold f_X4_isPrime_B40 at hf
    refine lv_iconst (v := 1) hx hb dX4_isPrime_40 (by decide) ?_
    exact W.zret (v := 1) hx hb hr rfl (fun t ht hW => ⟨_, rfl, Option.some.inj hf, ht⟩) (fun _ h => by cases h) dX4_isPrime_41
  have hB32 : ∀  (ls : Array Slot), lv_has ls 2 [] → f_X4_isPrime_B32 = some res → W p l e (headSpec wsX4_isPrime ({ frames := 1, cells := 0, slots := 0, locals := 25 } : Room)).room s m ([.int y0] : List Value).toArray below meth c s.heap [] 0 0 (MQ below (vp_Si (fun r => r = res)) ([.int y0] : List Value).toArray s 0 0 (fun _ => False)) (F0 m 32 ls []) := by
    intro ls hl hf
    unfold f_X4_isPrime_B32 at hf
    refine lv_iconst (v := 0) hx hb dX4_isPrime_32 (by decide) ?_
    exact W.zret (v := 0) hx hb hr rfl (fun t ht hW => ⟨_, rfl, Option.some.inj hf, ht⟩) (fun _ h => by cases h) dX4_isPrime_33
  have hL15 : ∀ (fu15 : Nat), ∀ (x0 : Int32) (x1 : Int32) (ls : Array Slot), lv_has ls 2 [(0, .int x0), (1, .int x1)] → f_X4_isPrime_L15 f_X4_isPrime_B40 f_X4_isPrime_B32 fu15 x0 x1 = some res → W p l e (headSpec wsX4_isPrime ({ frames := 1, cells := 0, slots := 0, locals := 25 } : Room)).room s m ([.int y0] : List Value).toArray below meth c s.heap [] 0 0 (MQ below (vp_Si (fun r => r = res)) ([.int y0] : List Value).toArray s 0 0 (fun _ => False)) (F0 m 15 ls []) := by
    intro fu15
    induction fu15 with
    | zero =>
      intro x0 x1 ls hl hf
      have hf : (none : Option Int32) = some res := hf
      cases hf
    | succ fu15 ih15 =>
      intro x0 x1 ls hl hf
      have hf : f_X4_isPrime_L15s (f_X4_isPrime_L15 f_X4_isPrime_B40 f_X4_isPrime_B32 fu15) f_X4_isPrime_B40 f_X4_isPrime_B32 x0 x1 = some res := hf
      unfold f_X4_isPrime_L15s at hf
      refine lv_iload_n hx hb dX4_isPrime_15 rfl (lv_at hl 1 rfl) ?_
      refine lv_iload_n hx hb dX4_isPrime_16 rfl (lv_at hl 0 rfl) ?_
      refine lv_icmp_ge (tgt := 40) hx hb dX4_isPrime_17 (by decide) (fun c8 => ?_) (fun c8 => ?_)
      · have hf := it_t c8 hf
        exact hB40 _ (lv_sub hl [] rfl)  hf
      · have hf := it_f c8 hf
        refine lv_iload_n hx hb dX4_isPrime_20 rfl (lv_at hl 0 rfl) ?_
        refine lv_i2l hx hb dX4_isPrime_21 rfl ?_
        refine lv_iload_n hx hb dX4_isPrime_22 rfl (lv_at hl 1 rfl) ?_
        refine lv_i2l hx hb dX4_isPrime_23 rfl ?_
        obtain ⟨t9, h10, hf⟩ := bd_some hf
        refine vp_callSl (va_runS (As := [.long x0.toInt64, .long x1.toInt64]) (rest := []) F (c_X4_rest l D cy (H := _)  h10) (va_cwS 2 hts gX4_isPrime_X4_rest rfl rfl rfl ⟨ph_X4_rest.1, ph_X4_rest.2, pd_X4_rest⟩ ⟨Nat.le_of_ble_eq_true rfl, Nat.le_of_ble_eq_true rfl⟩) ⟨PcR.bl, PcR.in hK⟩ rfl rfl hl.1 rfl (lv_room (Nat.le_of_ble_eq_true rfl)) dX4_isPrime_24 ⟨Nat.zero_le _, Nat.zero_le _⟩).run (fun r11 er11 => ?_)
        subst r11
        refine lv_lconst (v := 0) hx hb dX4_isPrime_27 (by decide) ?_
        refine W.lcmp hx hb dX4_isPrime_28 ?_
        refine lv_if_ne (tgt := 34) hx hb dX4_isPrime_29 (by decide) (fun c12 => ?_) (fun c12 => ?_)
        · have hf := it_f (fun z => c12 ((lq_eq _ _).mpr z)) hf
          refine lv_iinc (v := x1 + 1) (lv' := [(1, .int (x1 + 1)), (0, .int x0)]) hx hb dX4_isPrime_34 hl (k := 1) rfl (by rfl) (by decide) rfl (fun ls hl => ?_)
          refine lv_goto (tgt := 15) hx hb dX4_isPrime_37 (by decide) ?_
          exact ih15 x0 (x1 + 1) _ (lv_sub hl [1, 0] rfl)  hf
        · have hf := it_t ((lq_eq _ _).mp c12) hf
          exact hB32 _ (lv_sub hl [] rfl)  hf
  have hl := lv_entry ([.int y0]) (n := 2) (Nat.le_of_ble_eq_true rfl)
  rw [lg_entry_eq]
  generalize (lg_sl ([.int y0]) ++ List.replicate (2 - (lg_sl ([.int y0])).length) Slot.unset).toArray = ls at hl ⊢
  have hl : lv_has ls 2 [(0, .int y0)] := hl
  unfold f_X4_isPrime at hf
  refine lv_iload_n hx hb dX4_isPrime_0 rfl (lv_at hl 0 rfl) ?_
  refine lv_iconst (v := 2) hx hb dX4_isPrime_1 (by decide) ?_
  refine lv_icmp_lt (tgt := 11) hx hb dX4_isPrime_2 (by decide) (fun c13 => ?_) (fun c13 => ?_)
  · have hf := it_t c13 hf
    exact hB11 _ (lv_sub hl [] rfl)  hf
  · have hf := it_f c13 hf
    refine lv_iload_n hx hb dX4_isPrime_5 rfl (lv_at hl 0 rfl) ?_
    refine lv_bipush (v := 31) hx hb dX4_isPrime_6 (by decide) ?_
    refine lv_icmp_le (tgt := 13) hx hb dX4_isPrime_8 (by decide) (fun c14 => ?_) (fun c14 => ?_)
    · have hf := it_t c14 hf
      refine lv_iconst (v := 2) hx hb dX4_isPrime_13 (by decide) ?_
      refine lv_istore_n (lv' := [(1, .int 2), (0, .int y0)]) hx hb dX4_isPrime_14 rfl hl (by decide) rfl (fun ls hl => ?_)
      exact hL15 FU y0 2 _ (lv_sub hl [1, 0] rfl)  hf
    · have hf := it_f c14 hf
      exact hB11 _ (lv_sub hl [] rfl)  hf
def f_X4_powerIn_B47 (S : PS) (x2 : Int64) : Option Int64 :=
  some x2
def f_X4_powerIn_L5s (S : PS) (kL5 : Nat → Int32 → Int64 → Int32 → Option Int64) (ke47 : Int64 → Option Int64) (x0 : Nat) (x1 : Int32) (x2 : Int64) (x4 : Int32) : Option Int64 :=
  if 9 ≤ x4 then (ke47 x2) else
  bd (f_X0_isVoid S x0) fun t2 =>
  if t2 = 0 then (bd (f_X4_rest ((fI S 3 x0).toInt64) (x2 * x1.toInt64)) fun t6 =>
  if t6 = 0 then (kL5 x0 x1 (x2 * x1.toInt64) (x4 + 1)) else
  ke47 x2) else
  ke47 x2
def f_X4_powerIn_L5 (S : PS) (ke47 : Int64 → Option Int64) (fu : Nat) : Nat → Int32 → Int64 → Int32 → Option Int64 := fx (fun kL => f_X4_powerIn_L5s S kL ke47) (fun _ _ _ _ => none) fu
def f_X4_powerIn (S : PS) (x0 : Nat) (x1 : Int32) : Option Int64 :=
  f_X4_powerIn_L5 S (f_X4_powerIn_B47 S) FU x0 x1 1 0
set_option maxHeartbeats 4000000 in
set_option maxRecDepth 100000 in
theorem c_X4_powerIn (l : Launch) (D : va_G) (cy : cyT) {H : Heap} {S : PS} (hP : va_P D vwCl (wl cy S) H) {y0 : Nat} {y1 : Int32} (v_y0 : vd S y0 0) {res : Int64} (hf : f_X4_powerIn S y0 y1 = some res) : Met l yX4_powerIn wsX4_powerIn ({ frames := 1, cells := 0, slots := 0, locals := 25 } : Room) (PcR D cy H [.ref y0, .int y1]) (vp_Sl (fun r => r = res)) 0 0 (fun _ => False) := by
  refine Met.ofW (cc := cX4_powerIn) (maxL := 5) (ret := (some .long)) (by decide) rfl ?_
  intro p e s m args below meth c s₁ B hml hv
  obtain ⟨hav, hH, hK⟩ := hv
  have hx := B.exec
  have hb := B.bytes
  have hr := B.returns
  have hts := atoms_spec (ws := wsX4_powerIn) B.pre
  have hown : s.vm.findClass RX4 = some m.cls := findClass_of_methodNamed B.named
  have hlocks := B.notSynchronized
  subst hav
  subst hH
  have F : CallFix p m c cX4_powerIn 5 s _ wsX4_powerIn RX4 := ⟨hx, hb, hml, hown, hts⟩
  have hB47 : ∀ (x2 : Int64) (ls : Array Slot), lv_has ls 5 [(2, .long x2)] → f_X4_powerIn_B47 S x2 = some res → W p l e (headSpec wsX4_powerIn ({ frames := 1, cells := 0, slots := 0, locals := 25 } : Room)).room s m ([.ref y0, .int y1] : List Value).toArray below meth c s.heap [] 0 0 (MQ below (vp_Sl (fun r => r = res)) ([.ref y0, .int y1] : List Value).toArray s 0 0 (fun _ => False)) (F0 m 47 ls []) := by
    intro x2 ls hl hf
    unfold f_X4_powerIn_B47 at hf
    refine lv_lload_n hx hb dX4_powerIn_47 rfl (lv_at hl 0 rfl) ?_
    exact W.lret (v := x2) hx hb hr (fun t ht hW => ⟨_, rfl, Option.some.inj hf, ht⟩) (fun _ h => by cases h) dX4_powerIn_48
  have hL5 : ∀ (fu5 : Nat), ∀ (x0 : Nat) (x1 : Int32) (x2 : Int64) (x4 : Int32) (ls : Array Slot), lv_has ls 5 [(0, .ref x0), (1, .int x1), (2, .long x2), (4, .int x4)] → vd S x0 0 → f_X4_powerIn_L5 S (f_X4_powerIn_B47 S) fu5 x0 x1 x2 x4 = some res → W p l e (headSpec wsX4_powerIn ({ frames := 1, cells := 0, slots := 0, locals := 25 } : Room)).room s m ([.ref y0, .int y1] : List Value).toArray below meth c s.heap [] 0 0 (MQ below (vp_Sl (fun r => r = res)) ([.ref y0, .int y1] : List Value).toArray s 0 0 (fun _ => False)) (F0 m 5 ls []) := by
    intro fu5
    induction fu5 with
    | zero =>
      intro x0 x1 x2 x4 ls hl v_x0 hf
      have hf : (none : Option Int64) = some res := hf
      cases hf
    | succ fu5 ih5 =>
      intro x0 x1 x2 x4 ls hl v_x0 hf
      have hf : f_X4_powerIn_L5s S (f_X4_powerIn_L5 S (f_X4_powerIn_B47 S) fu5) (f_X4_powerIn_B47 S) x0 x1 x2 x4 = some res := hf
      unfold f_X4_powerIn_L5s at hf
      refine lv_iload hx hb dX4_powerIn_5 (lv_at hl 3 rfl) ?_
      refine lv_bipush (v := 9) hx hb dX4_powerIn_7 (by decide) ?_
      refine lv_icmp_ge (tgt := 47) hx hb dX4_powerIn_9 (by decide) (fun c10 => ?_) (fun c10 => ?_)
      · have hf := it_t c10 hf
        exact hB47 x2 _ (lv_sub hl [2] rfl)  hf
      · have hf := it_f c10 hf
        refine lv_aload_n hx hb dX4_powerIn_12 rfl (lv_at hl 0 rfl) ?_
        obtain ⟨t11, h12, hf⟩ := bd_some hf
        refine vp_callSi (va_runV (As := []) (rest := []) F (c_X0_isVoid l D cy (H := _) hP v_x0 h12) (cwV 0 hts gX4_powerIn_X0_isVoid rfl rfl rfl ⟨rfl, ph_X0_isVoid.1, ph_X0_isVoid.2, pd_X0_isVoid⟩ ⟨Nat.le_of_ble_eq_true rfl, Nat.le_of_ble_eq_true rfl⟩) ⟨PcR.bl, (q_rcv hK hP v_x0.1 (pF_0 (S := S) v_x0.2) rfl), PcR.in hK⟩ rfl rfl hl.1 rfl (lv_room (Nat.le_of_ble_eq_true rfl)) dX4_powerIn_13 ⟨Nat.zero_le _, Nat.zero_le _⟩).run (fun r13 er13 => ?_)
        subst r13
        refine lv_if_ne (tgt := 47) hx hb dX4_powerIn_16 (by decide) (fun c14 => ?_) (fun c14 => ?_)
        · have hf := it_f c14 hf
          exact hB47 x2 _ (lv_sub hl [2] rfl)  hf
        · have hf := it_t c14 hf
          refine lv_aload_n hx hb dX4_powerIn_19 rfl (lv_at hl 0 rfl) ?_
          refine q_getN F hK hP v_x0.1 (pF_0 (S := S) v_x0.2) (fun w h => List.mem_cons_of_mem _ (List.mem_append_right _ h)) rfl 3 (by decide) (nk_f_RX4_129 hK.2.1) (v := .int (fI S 3 x0)) rfl dX4_powerIn_20 ?_
          refine lv_i2l hx hb dX4_powerIn_23 rfl ?_
          refine lv_lload_n hx hb dX4_powerIn_24 rfl (lv_at hl 2 rfl) ?_
          refine lv_iload_n hx hb dX4_powerIn_25 rfl (lv_at hl 1 rfl) ?_
          refine lv_i2l hx hb dX4_powerIn_26 rfl ?_
          refine lv_lmul hx hb dX4_powerIn_27 ?_
          obtain ⟨t15, h16, hf⟩ := bd_some hf
          refine vp_callSl (va_runS (As := [.long ((fI S 3 x0).toInt64), .long (x2 * x1.toInt64)]) (rest := []) F (c_X4_rest l D cy (H := _)  h16) (va_cwS 2 hts gX4_powerIn_X4_rest rfl rfl rfl ⟨ph_X4_rest.1, ph_X4_rest.2, pd_X4_rest⟩ ⟨Nat.le_of_ble_eq_true rfl, Nat.le_of_ble_eq_true rfl⟩) ⟨PcR.bl, PcR.in hK⟩ rfl rfl hl.1 rfl (lv_room (Nat.le_of_ble_eq_true rfl)) dX4_powerIn_28 ⟨Nat.zero_le _, Nat.zero_le _⟩).run (fun r17 er17 => ?_)
          subst r17
          refine lv_lconst (v := 0) hx hb dX4_powerIn_31 (by decide) ?_
          refine W.lcmp hx hb dX4_powerIn_32 ?_
          refine lv_if_ne (tgt := 47) hx hb dX4_powerIn_33 (by decide) (fun c18 => ?_) (fun c18 => ?_)
          · have hf := it_f (fun z => c18 ((lq_eq _ _).mpr z)) hf
            exact hB47 x2 _ (lv_sub hl [2] rfl)  hf
          · have hf := it_t ((lq_eq _ _).mp c18) hf
            refine lv_lload_n hx hb dX4_powerIn_36 rfl (lv_at hl 2 rfl) ?_
            refine lv_iload_n hx hb dX4_powerIn_37 rfl (lv_at hl 1 rfl) ?_
            refine lv_i2l hx hb dX4_powerIn_38 rfl ?_
            refine lv_lmul hx hb dX4_powerIn_39 ?_
            refine lv_lstore_n (lv' := [(2, .long (x2 * x1.toInt64)), (0, .ref x0), (1, .int x1), (4, .int x4)]) hx hb dX4_powerIn_40 rfl hl (by decide) rfl (fun ls hl => ?_)
            refine lv_iinc (v := x4 + 1) (lv' := [(4, .int (x4 + 1)), (2, .long (x2 * x1.toInt64)), (0, .ref x0), (1, .int x1)]) hx hb dX4_powerIn_41 hl (k := 3) rfl (by rfl) (by decide) rfl (fun ls hl => ?_)
            refine lv_goto (tgt := 5) hx hb dX4_powerIn_44 (by decide) ?_
            exact ih5 x0 x1 (x2 * x1.toInt64) (x4 + 1) _ (lv_sub hl [2, 3, 1, 0] rfl) v_x0 hf
  have hl := lv_entry ([.ref y0, .int y1]) (n := 5) (Nat.le_of_ble_eq_true rfl)
  rw [lg_entry_eq]
  generalize (lg_sl ([.ref y0, .int y1]) ++ List.replicate (5 - (lg_sl ([.ref y0, .int y1])).length) Slot.unset).toArray = ls at hl ⊢
  have hl : lv_has ls 5 [(0, .ref y0), (1, .int y1)] := hl
  unfold f_X4_powerIn at hf
  refine lv_lconst (v := 1) hx hb dX4_powerIn_0 (by decide) ?_
  refine lv_lstore_n (lv' := [(2, .long 1), (0, .ref y0), (1, .int y1)]) hx hb dX4_powerIn_1 rfl hl (by decide) rfl (fun ls hl => ?_)
  refine lv_iconst (v := 0) hx hb dX4_powerIn_2 (by decide) ?_
  refine lv_istore (lv' := [(4, .int 0), (2, .long 1), (0, .ref y0), (1, .int y1)]) hx hb dX4_powerIn_3 hl (by decide) rfl (fun ls hl => ?_)
  exact hL5 FU y0 y1 1 0 _ (lv_sub hl [2, 3, 1, 0] rfl) v_y0 hf
def f_X4_strongestFor_B69 (S : PS) (x2 : Int32) : Option Int32 :=
  some x2
def f_X4_strongestFor_B63 (S : PS) (kL7 : Nat → Int32 → Int32 → Int64 → Int32 → Option Int32) (ke69 : Int32 → Option Int32) (x0 : Nat) (x1 : Int32) (x2 : Int32) (x3 : Int64) (x5 : Int32) : Option Int32 :=
  kL7 x0 x1 x2 x3 (x5 + 1)
def f_X4_strongestFor_B48 (S : PS) (kL7 : Nat → Int32 → Int32 → Int64 → Int32 → Option Int32) (ke69 : Int32 → Option Int32) (x0 : Nat) (x1 : Int32) (x2 : Int32) (x3 : Int64) (x5 : Int32) (s0 : Int64) : Option Int32 :=
  if s0 ≤ x3 then (f_X4_strongestFor_B63 S kL7 ke69 x0 x1 x2 x3 x5) else
  f_X4_strongestFor_B63 S kL7 ke69 x0 x1 x5 s0 x5
def f_X4_strongestFor_L7s (S : PS) (kL7 : Nat → Int32 → Int32 → Int64 → Int32 → Option Int32) (ke69 : Int32 → Option Int32) (x0 : Nat) (x1 : Int32) (x2 : Int32) (x3 : Int64) (x5 : Int32) : Option Int32 :=
  rq (fR S 64 x0) S 3 fun b2 =>
  if (fI S 51 b2) ≤ x5 then (ke69 x2) else
  rq (fR S 64 x0) S 3 fun b5 =>
  bd (f_X3_isOn S b5 x5) fun t7 =>
  if t7 = 0 then (f_X4_strongestFor_B48 S kL7 ke69 x0 x1 x2 x3 x5 1) else
  rq (fR S 64 x0) S 3 fun b11 =>
  bd (f_X3_at S b11 x5) fun t13 =>
  bd (f_X4_powerIn S t13 x1) fun t16 =>
  f_X4_strongestFor_B48 S kL7 ke69 x0 x1 x2 x3 x5 t16
def f_X4_strongestFor_L7 (S : PS) (ke69 : Int32 → Option Int32) (fu : Nat) : Nat → Int32 → Int32 → Int64 → Int32 → Option Int32 := fx (fun kL => f_X4_strongestFor_L7s S kL ke69) (fun _ _ _ _ _ => none) fu
def f_X4_strongestFor (S : PS) (x0 : Nat) (x1 : Int32) : Option Int32 :=
  f_X4_strongestFor_L7 S (f_X4_strongestFor_B69 S) FU x0 x1 ((-1)) 1 0
set_option maxHeartbeats 4000000 in
set_option maxRecDepth 100000 in
theorem c_X4_strongestFor (l : Launch) (D : va_G) (cy : cyT) {H : Heap} {S : PS} (hP : va_P D vwCl (wl cy S) H) {y0 : Nat} {y1 : Int32} (v_y0 : vd S y0 4) {res : Int32} (hf : f_X4_strongestFor S y0 y1 = some res) : Met l yX4_strongestFor wsX4_strongestFor ({ frames := 2, cells := 0, slots := 0, locals := 49 } : Room) (PcR D cy H [.ref y0, .int y1]) (vp_Si (fun r => r = res)) 0 0 (fun _ => False) := by
  refine Met.ofW (cc := cX4_strongestFor) (maxL := 8) (ret := (some .int)) (by decide) rfl ?_
  intro p e s m args below meth c s₁ B hml hv
  obtain ⟨hav, hH, hK⟩ := hv
  have hx := B.exec
  have hb := B.bytes
  have hr := B.returns
  have hts := atoms_spec (ws := wsX4_strongestFor) B.pre
  have hown : s.vm.findClass RX4 = some m.cls := findClass_of_methodNamed B.named
  have hlocks := B.notSynchronized
  subst hav
  subst hH
  have F : CallFix p m c cX4_strongestFor 8 s _ wsX4_strongestFor RX4 := ⟨hx, hb, hml, hown, hts⟩
  have hB69 : ∀ (x2 : Int32) (ls : Array Slot), lv_has ls 8 [(2, .int x2)] → f_X4_strongestFor_B69 S x2 = some res → W p l e (headSpec wsX4_strongestFor ({ frames := 2, cells := 0, slots := 0, locals := 49 } : Room)).room s m ([.ref y0, .int y1] : List Value).toArray below meth c s.heap [] 0 0 (MQ below (vp_Si (fun r => r = res)) ([.ref y0, .int y1] : List Value).toArray s 0 0 (fun _ => False)) (F0 m 69 ls []) := by
    intro x2 ls hl hf
    unfold f_X4_strongestFor_B69 at hf
    refine lv_iload_n hx hb dX4_strongestFor_69 rfl (lv_at hl 0 rfl) ?_
    exact W.iret (v := x2) hx hb hr (fun t ht hW => ⟨_, rfl, Option.some.inj hf, ht⟩) (fun _ h => by cases h) dX4_strongestFor_70
  have hL7 : ∀ (fu7 : Nat), ∀ (x0 : Nat) (x1 : Int32) (x2 : Int32) (x3 : Int64) (x5 : Int32) (ls : Array Slot), lv_has ls 8 [(0, .ref x0), (1, .int x1), (2, .int x2), (3, .long x3), (5, .int x5)] → vd S x0 4 → f_X4_strongestFor_L7 S (f_X4_strongestFor_B69 S) fu7 x0 x1 x2 x3 x5 = some res → W p l e (headSpec wsX4_strongestFor ({ frames := 2, cells := 0, slots := 0, locals := 49 } : Room)).room s m ([.ref y0, .int y1] : List Value).toArray below meth c s.heap [] 0 0 (MQ below (vp_Si (fun r => r = res)) ([.ref y0, .int y1] : List Value).toArray s 0 0 (fun _ => False)) (F0 m 7 ls []) := by
    intro fu7
    induction fu7 with
    | zero =>
      intro x0 x1 x2 x3 x5 ls hl v_x0 hf
      have hf : (none : Option Int32) = some res := hf
      cases hf
    | succ fu7 ih7 =>
      have hB63 : ∀ (x0 : Nat) (x1 : Int32) (x2 : Int32) (x3 : Int64) (x5 : Int32) (ls : Array Slot), lv_has ls 8 [(0, .ref x0), (1, .int x1), (2, .int x2), (3, .long x3), (5, .int x5)] → vd S x0 4 → f_X4_strongestFor_B63 S (f_X4_strongestFor_L7 S (f_X4_strongestFor_B69 S) fu7) (f_X4_strongestFor_B69 S) x0 x1 x2 x3 x5 = some res → W p l e (headSpec wsX4_strongestFor ({ frames := 2, cells := 0, slots := 0, locals := 49 } : Room)).room s m ([.ref y0, .int y1] : List Value).toArray below meth c s.heap [] 0 0 (MQ below (vp_Si (fun r => r = res)) ([.ref y0, .int y1] : List Value).toArray s 0 0 (fun _ => False)) (F0 m 63 ls []) := by
        intro x0 x1 x2 x3 x5 ls hl v_x0 hf
        unfold f_X4_strongestFor_B63 at hf
        refine lv_iinc (v := x5 + 1) (lv' := [(5, .int (x5 + 1)), (0, .ref x0), (1, .int x1), (2, .int x2), (3, .long x3)]) hx hb dX4_strongestFor_63 hl (k := 4) rfl (by rfl) (by decide) rfl (fun ls hl => ?_)
        refine lv_goto (tgt := 7) hx hb dX4_strongestFor_66 (by decide) ?_
        exact ih7 x0 x1 x2 x3 (x5 + 1) _ (lv_sub hl [1, 2, 3, 4, 0] rfl) v_x0 hf
      have hB48 : ∀ (x0 : Nat) (x1 : Int32) (x2 : Int32) (x3 : Int64) (x5 : Int32) (s0 : Int64) (ls : Array Slot), lv_has ls 8 [(0, .ref x0), (1, .int x1), (2, .int x2), (3, .long x3), (5, .int x5)] → vd S x0 4 → f_X4_strongestFor_B48 S (f_X4_strongestFor_L7 S (f_X4_strongestFor_B69 S) fu7) (f_X4_strongestFor_B69 S) x0 x1 x2 x3 x5 s0 = some res → W p l e (headSpec wsX4_strongestFor ({ frames := 2, cells := 0, slots := 0, locals := 49 } : Room)).room s m ([.ref y0, .int y1] : List Value).toArray below meth c s.heap [] 0 0 (MQ below (vp_Si (fun r => r = res)) ([.ref y0, .int y1] : List Value).toArray s 0 0 (fun _ => False)) (F0 m 48 ls [.long s0]) := by
        intro x0 x1 x2 x3 x5 s0 ls hl v_x0 hf
        unfold f_X4_strongestFor_B48 at hf
        refine lv_lstore (lv' := [(6, .long s0), (0, .ref x0), (1, .int x1), (2, .int x2), (3, .long x3), (5, .int x5)]) hx hb dX4_strongestFor_48 hl (by decide) rfl (fun ls hl => ?_)
        refine lv_lload hx hb dX4_strongestFor_50 (lv_at hl 0 rfl) ?_
        refine lv_lload_n hx hb dX4_strongestFor_52 rfl (lv_at hl 4 rfl) ?_
        refine W.lcmp hx hb dX4_strongestFor_53 ?_
        refine lv_if_le (tgt := 63) hx hb dX4_strongestFor_54 (by decide) (fun c19 => ?_) (fun c19 => ?_)
        · have hf := it_t ((lq_le _ _).mp c19) hf
          exact hB63 x0 x1 x2 x3 x5 _ (lv_sub hl [1, 2, 3, 4, 5] rfl) v_x0 hf
        · have hf := it_f (fun z => c19 ((lq_le _ _).mpr z)) hf
          refine lv_iload hx hb dX4_strongestFor_57 (lv_at hl 5 rfl) ?_
          refine lv_istore_n (lv' := [(2, .int x5), (6, .long s0), (0, .ref x0), (1, .int x1), (3, .long x3), (5, .int x5)]) hx hb dX4_strongestFor_59 rfl hl (by decide) rfl (fun ls hl => ?_)
          refine lv_lload hx hb dX4_strongestFor_60 (lv_at hl 1 rfl) ?_
          refine lv_lstore_n (lv' := [(3, .long s0), (2, .int x5), (6, .long s0), (0, .ref x0), (1, .int x1), (5, .int x5)]) hx hb dX4_strongestFor_62 rfl hl (by decide) rfl (fun ls hl => ?_)
          exact hB63 x0 x1 x5 s0 x5 _ (lv_sub hl [3, 4, 1, 0, 5] rfl) v_x0 hf
      intro x0 x1 x2 x3 x5 ls hl v_x0 hf
      have hf : f_X4_strongestFor_L7s S (f_X4_strongestFor_L7 S (f_X4_strongestFor_B69 S) fu7) (f_X4_strongestFor_B69 S) x0 x1 x2 x3 x5 = some res := hf
      unfold f_X4_strongestFor_L7s at hf
      refine lv_iload hx hb dX4_strongestFor_7 (lv_at hl 4 rfl) ?_
      refine lv_aload_n hx hb dX4_strongestFor_9 rfl (lv_at hl 0 rfl) ?_
      obtain ⟨b20, e21, v_b20, hf⟩ := rq_some hf
      refine q_get F hK hP v_x0.1 (pF_4 (S := S) v_x0.2) (fun w h => List.mem_cons_of_mem _ (List.mem_append_left _ (List.mem_append_left _ (List.mem_append_right _ h)))) rfl 0 (by decide) (hts (.fieldLink RX4 17 "SharedModuli" "now" "LSharedModuli$State;") (List.mem_of_getElem? (i := 1) rfl)) (v := .ref b20) (congrArg (fun z => some (va_rf z)) e21) dX4_strongestFor_10 ?_
      refine q_getN F hK hP v_b20.1 (pF_3 (S := S) v_b20.2) (fun w h => List.mem_cons_of_mem _ (List.mem_append_left _ (List.mem_append_right _ h))) rfl 3 (by decide) (nk_f_RX4_95 hK.2.1) (v := .int (fI S 51 b20)) rfl dX4_strongestFor_13 ?_
      refine lv_icmp_ge (tgt := 69) hx hb dX4_strongestFor_16 (by decide) (fun c22 => ?_) (fun c22 => ?_)
      · have hf := it_t c22 hf
        exact hB69 x2 _ (lv_sub hl [2] rfl)  hf
      · have hf := it_f c22 hf
        refine lv_aload_n hx hb dX4_strongestFor_19 rfl (lv_at hl 0 rfl) ?_
        obtain ⟨b23, e24, v_b23, hf⟩ := rq_some hf
        refine q_get F hK hP v_x0.1 (pF_4 (S := S) v_x0.2) (fun w h => List.mem_cons_of_mem _ (List.mem_append_left _ (List.mem_append_left _ (List.mem_append_right _ h)))) rfl 0 (by decide) (hts (.fieldLink RX4 17 "SharedModuli" "now" "LSharedModuli$State;") (List.mem_of_getElem? (i := 1) rfl)) (v := .ref b23) (congrArg (fun z => some (va_rf z)) e24) dX4_strongestFor_20 ?_
        refine lv_iload hx hb dX4_strongestFor_23 (lv_at hl 4 rfl) ?_
        obtain ⟨t25, h26, hf⟩ := bd_some hf
        refine vp_callSi (va_runV (As := [.int x5]) (rest := []) F (c_X3_isOn l D cy (H := _) hP v_b23 h26) (cwV 1 hts gX4_strongestFor_X3_isOn rfl rfl rfl ⟨rfl, ph_X3_isOn.1, ph_X3_isOn.2, pd_X3_isOn⟩ ⟨Nat.le_of_ble_eq_true rfl, Nat.le_of_ble_eq_true rfl⟩) ⟨PcR.bl, (q_rcv hK hP v_b23.1 (pF_3 (S := S) v_b23.2) rfl), PcR.in hK⟩ rfl rfl hl.1 rfl (lv_room (Nat.le_of_ble_eq_true rfl)) dX4_strongestFor_25 ⟨Nat.zero_le _, Nat.zero_le _⟩).run (fun r27 er27 => ?_)
        subst r27
        refine lv_if_eq (tgt := 47) hx hb dX4_strongestFor_28 (by decide) (fun c28 => ?_) (fun c28 => ?_)
        · have hf := it_t c28 hf
          refine lv_lconst (v := 1) hx hb dX4_strongestFor_47 (by decide) ?_
          exact hB48 x0 x1 x2 x3 x5 1 _ (lv_sub hl [0, 1, 2, 3, 4] rfl) v_x0 hf
        · have hf := it_f c28 hf
          refine lv_aload_n hx hb dX4_strongestFor_31 rfl (lv_at hl 0 rfl) ?_
          obtain ⟨b29, e30, v_b29, hf⟩ := rq_some hf
          refine q_get F hK hP v_x0.1 (pF_4 (S := S) v_x0.2) (fun w h => List.mem_cons_of_mem _ (List.mem_append_left _ (List.mem_append_left _ (List.mem_append_right _ h)))) rfl 0 (by decide) (hts (.fieldLink RX4 17 "SharedModuli" "now" "LSharedModuli$State;") (List.mem_of_getElem? (i := 1) rfl)) (v := .ref b29) (congrArg (fun z => some (va_rf z)) e30) dX4_strongestFor_32 ?_
          refine lv_iload hx hb dX4_strongestFor_35 (lv_at hl 4 rfl) ?_
          obtain ⟨t31, h32, hf⟩ := bd_some hf
          refine va_csr (va_runV (As := [.int x5]) (rest := []) F (c_X3_at l D cy (H := _) hP v_b29 h32) (cwV 1 hts gX4_strongestFor_X3_at rfl rfl rfl ⟨rfl, ph_X3_at.1, ph_X3_at.2, pd_X3_at⟩ ⟨Nat.le_of_ble_eq_true rfl, Nat.le_of_ble_eq_true rfl⟩) ⟨PcR.bl, (q_rcv hK hP v_b29.1 (pF_3 (S := S) v_b29.2) rfl), PcR.in hK⟩ rfl rfl hl.1 rfl (lv_room (Nat.le_of_ble_eq_true rfl)) dX4_strongestFor_37 ⟨Nat.zero_le _, Nat.zero_le _⟩).run (fun r33 er33 => ?_)
          obtain ⟨er33, v_t31⟩ := er33
          subst r33
          refine lv_iload_n hx hb dX4_strongestFor_40 rfl (lv_at hl 1 rfl) ?_
          obtain ⟨t34, h35, hf⟩ := bd_some hf
          refine vp_callSl (va_runS (As := [.ref t31, .int x1]) (rest := []) F (c_X4_powerIn l D cy (H := _) hP v_t31 h35) (va_cwS 2 hts gX4_strongestFor_X4_powerIn rfl rfl rfl ⟨ph_X4_powerIn.1, ph_X4_powerIn.2, pd_X4_powerIn⟩ ⟨Nat.le_of_ble_eq_true rfl, Nat.le_of_ble_eq_true rfl⟩) ⟨PcR.bl, PcR.in hK⟩ rfl rfl hl.1 rfl (lv_room (Nat.le_of_ble_eq_true rfl)) dX4_strongestFor_41 ⟨Nat.zero_le _, Nat.zero_le _⟩).run (fun r36 er36 => ?_)
          subst r36
          refine lv_goto (tgt := 48) hx hb dX4_strongestFor_44 (by decide) ?_
          exact hB48 x0 x1 x2 x3 x5 t34 _ (lv_sub hl [0, 1, 2, 3, 4] rfl) v_x0 hf
  have hl := lv_entry ([.ref y0, .int y1]) (n := 8) (Nat.le_of_ble_eq_true rfl)
  rw [lg_entry_eq]
  generalize (lg_sl ([.ref y0, .int y1]) ++ List.replicate (8 - (lg_sl ([.ref y0, .int y1])).length) Slot.unset).toArray = ls at hl ⊢
  have hl : lv_has ls 8 [(0, .ref y0), (1, .int y1)] := hl
  unfold f_X4_strongestFor at hf
  refine lv_iconst (v := (-1)) hx hb dX4_strongestFor_0 (by decide) ?_
  refine lv_istore_n (lv' := [(2, .int ((-1))), (0, .ref y0), (1, .int y1)]) hx hb dX4_strongestFor_1 rfl hl (by decide) rfl (fun ls hl => ?_)
  refine lv_lconst (v := 1) hx hb dX4_strongestFor_2 (by decide) ?_
  refine lv_lstore_n (lv' := [(3, .long 1), (2, .int ((-1))), (0, .ref y0), (1, .int y1)]) hx hb dX4_strongestFor_3 rfl hl (by decide) rfl (fun ls hl => ?_)
  refine lv_iconst (v := 0) hx hb dX4_strongestFor_4 (by decide) ?_
  refine lv_istore (lv' := [(5, .int 0), (3, .long 1), (2, .int ((-1))), (0, .ref y0), (1, .int y1)]) hx hb dX4_strongestFor_5 hl (by decide) rfl (fun ls hl => ?_)
  exact hL7 FU y0 y1 ((-1)) 1 0 _ (lv_sub hl [3, 4, 2, 1, 0] rfl) v_y0 hf
def f_X4_contradictionsByPrime_B98 (S : PS) (x3 : Int32) : Option Int32 :=
  some x3
def f_X4_contradictionsByPrime_B92 (S : PS) (kL5 : Nat → Nat → Int32 → Int32 → Int32 → Option Int32) (ke98 : Int32 → Option Int32) (x0 : Nat) (x1 : Nat) (x2 : Int32) (x3 : Int32) (x4 : Int32) : Option Int32 :=
  kL5 x0 x1 x2 x3 (x4 + 1)
def f_X4_contradictionsByPrime_L5s (S : PS) (kL5 : Nat → Nat → Int32 → Int32 → Int32 → Option Int32) (ke98 : Int32 → Option Int32) (x0 : Nat) (x1 : Nat) (x2 : Int32) (x3 : Int32) (x4 : Int32) : Option Int32 :=
  rq (fR S 64 x0) S 3 fun b1 =>
  if (fI S 51 b1) ≤ x4 then (ke98 x3) else
  rq (fR S 64 x0) S 3 fun b4 =>
  bd (f_X3_at S b4 x4) fun t6 =>
  rq (fR S 64 x0) S 3 fun b9 =>
  bd (f_X3_isOn S b9 x4) fun t11 =>
  if t11 = 0 then (f_X4_contradictionsByPrime_B92 S kL5 ke98 x0 x1 x2 x3 x4) else
  bd (f_X0_isVoid S t6) fun t15 =>
  if t15 = 0 then (bd (f_X4_powerIn S t6 x2) fun t19 =>
  bd (f_X4_powerIn S x1 x2) fun t22 =>
  bd (f_X4_rest ((fI S 4 t6).toInt64) (if t22 < t19 then t22 else t19)) fun t25 =>
  bd (f_X4_rest ((fI S 4 x1).toInt64) (if t22 < t19 then t22 else t19)) fun t28 =>
  if t25 = t28 then (f_X4_contradictionsByPrime_B92 S kL5 ke98 x0 x1 x2 x3 x4) else
  f_X4_contradictionsByPrime_B92 S kL5 ke98 x0 x1 x2 (x3 + 1) x4) else
  f_X4_contradictionsByPrime_B92 S kL5 ke98 x0 x1 x2 x3 x4
def f_X4_contradictionsByPrime_L5 (S : PS) (ke98 : Int32 → Option Int32) (fu : Nat) : Nat → Nat → Int32 → Int32 → Int32 → Option Int32 := fx (fun kL => f_X4_contradictionsByPrime_L5s S kL ke98) (fun _ _ _ _ _ => none) fu
def f_X4_contradictionsByPrime (S : PS) (x0 : Nat) (x1 : Nat) (x2 : Int32) : Option Int32 :=
  f_X4_contradictionsByPrime_L5 S (f_X4_contradictionsByPrime_B98 S) FU x0 x1 x2 0 0
set_option maxHeartbeats 4000000 in
set_option maxRecDepth 100000 in
theorem c_X4_contradictionsByPrime (l : Launch) (D : va_G) (cy : cyT) {H : Heap} {S : PS} (hP : va_P D vwCl (wl cy S) H) {y0 : Nat} {y1 : Nat} {y2 : Int32} (v_y0 : vd S y0 4) (v_y1 : vd S y1 0) {res : Int32} (hf : f_X4_contradictionsByPrime S y0 y1 y2 = some res) : Met l yX4_contradictionsByPrime wsX4_contradictionsByPrime ({ frames := 2, cells := 0, slots := 0, locals := 49 } : Room) (PcR D cy H [.ref y0, .ref y1, .int y2]) (vp_Si (fun r => r = res)) 0 0 (fun _ => False) := by
  refine Met.ofW (cc := cX4_contradictionsByPrime) (maxL := 8) (ret := (some .int)) (by decide) rfl ?_
  intro p e s m args below meth c s₁ B hml hv
  obtain ⟨hav, hH, hK⟩ := hv
  have hx := B.exec
  have hb := B.bytes
  have hr := B.returns
  have hts := atoms_spec (ws := wsX4_contradictionsByPrime) B.pre
  have hown : s.vm.findClass RX4 = some m.cls := findClass_of_methodNamed B.named
  have hlocks := B.notSynchronized
  subst hav
  subst hH
  have F : CallFix p m c cX4_contradictionsByPrime 8 s _ wsX4_contradictionsByPrime RX4 := ⟨hx, hb, hml, hown, hts⟩
  have hB98 : ∀ (x3 : Int32) (ls : Array Slot), lv_has ls 8 [(3, .int x3)] → f_X4_contradictionsByPrime_B98 S x3 = some res → W p l e (headSpec wsX4_contradictionsByPrime ({ frames := 2, cells := 0, slots := 0, locals := 49 } : Room)).room s m ([.ref y0, .ref y1, .int y2] : List Value).toArray below meth c s.heap [] 0 0 (MQ below (vp_Si (fun r => r = res)) ([.ref y0, .ref y1, .int y2] : List Value).toArray s 0 0 (fun _ => False)) (F0 m 98 ls []) := by
    intro x3 ls hl hf
    unfold f_X4_contradictionsByPrime_B98 at hf
    refine lv_iload_n hx hb dX4_contradictionsByPrime_98 rfl (lv_at hl 0 rfl) ?_
    exact W.iret (v := x3) hx hb hr (fun t ht hW => ⟨_, rfl, Option.some.inj hf, ht⟩) (fun _ h => by cases h) dX4_contradictionsByPrime_99
  have hL5 : ∀ (fu5 : Nat), ∀ (x0 : Nat) (x1 : Nat) (x2 : Int32) (x3 : Int32) (x4 : Int32) (ls : Array Slot), lv_has ls 8 [(0, .ref x0), (1, .ref x1), (2, .int x2), (3, .int x3), (4, .int x4)] → vd S x0 4 → vd S x1 0 → f_X4_contradictionsByPrime_L5 S (f_X4_contradictionsByPrime_B98 S) fu5 x0 x1 x2 x3 x4 = some res → W p l e (headSpec wsX4_contradictionsByPrime ({ frames := 2, cells := 0, slots := 0, locals := 49 } : Room)).room s m ([.ref y0, .ref y1, .int y2] : List Value).toArray below meth c s.heap [] 0 0 (MQ below (vp_Si (fun r => r = res)) ([.ref y0, .ref y1, .int y2] : List Value).toArray s 0 0 (fun _ => False)) (F0 m 5 ls []) := by
    intro fu5
    induction fu5 with
    | zero =>
      intro x0 x1 x2 x3 x4 ls hl v_x0 v_x1 hf
      have hf : (none : Option Int32) = some res := hf
      cases hf
    | succ fu5 ih5 =>
      have hB92 : ∀ (x0 : Nat) (x1 : Nat) (x2 : Int32) (x3 : Int32) (x4 : Int32) (ls : Array Slot), lv_has ls 8 [(0, .ref x0), (1, .ref x1), (2, .int x2), (3, .int x3), (4, .int x4)] → vd S x0 4 → vd S x1 0 → f_X4_contradictionsByPrime_B92 S (f_X4_contradictionsByPrime_L5 S (f_X4_contradictionsByPrime_B98 S) fu5) (f_X4_contradictionsByPrime_B98 S) x0 x1 x2 x3 x4 = some res → W p l e (headSpec wsX4_contradictionsByPrime ({ frames := 2, cells := 0, slots := 0, locals := 49 } : Room)).room s m ([.ref y0, .ref y1, .int y2] : List Value).toArray below meth c s.heap [] 0 0 (MQ below (vp_Si (fun r => r = res)) ([.ref y0, .ref y1, .int y2] : List Value).toArray s 0 0 (fun _ => False)) (F0 m 92 ls []) := by
        intro x0 x1 x2 x3 x4 ls hl v_x0 v_x1 hf
        unfold f_X4_contradictionsByPrime_B92 at hf
        refine lv_iinc (v := x4 + 1) (lv' := [(4, .int (x4 + 1)), (0, .ref x0), (1, .ref x1), (2, .int x2), (3, .int x3)]) hx hb dX4_contradictionsByPrime_92 hl (k := 4) rfl (by rfl) (by decide) rfl (fun ls hl => ?_)
        refine lv_goto (tgt := 5) hx hb dX4_contradictionsByPrime_95 (by decide) ?_
        exact ih5 x0 x1 x2 x3 (x4 + 1) _ (lv_sub hl [1, 2, 3, 4, 0] rfl) v_x0 v_x1 hf
      intro x0 x1 x2 x3 x4 ls hl v_x0 v_x1 hf
      have hf : f_X4_contradictionsByPrime_L5s S (f_X4_contradictionsByPrime_L5 S (f_X4_contradictionsByPrime_B98 S) fu5) (f_X4_contradictionsByPrime_B98 S) x0 x1 x2 x3 x4 = some res := hf
      unfold f_X4_contradictionsByPrime_L5s at hf
      refine lv_iload hx hb dX4_contradictionsByPrime_5 (lv_at hl 4 rfl) ?_
      refine lv_aload_n hx hb dX4_contradictionsByPrime_7 rfl (lv_at hl 0 rfl) ?_
      obtain ⟨b32, e33, v_b32, hf⟩ := rq_some hf
      refine q_get F hK hP v_x0.1 (pF_4 (S := S) v_x0.2) (fun w h => List.mem_cons_of_mem _ (List.mem_append_left _ (List.mem_append_left _ (List.mem_append_right _ h)))) rfl 0 (by decide) (hts (.fieldLink RX4 17 "SharedModuli" "now" "LSharedModuli$State;") (List.mem_of_getElem? (i := 1) rfl)) (v := .ref b32) (congrArg (fun z => some (va_rf z)) e33) dX4_contradictionsByPrime_8 ?_
      refine q_getN F hK hP v_b32.1 (pF_3 (S := S) v_b32.2) (fun w h => List.mem_cons_of_mem _ (List.mem_append_left _ (List.mem_append_right _ h))) rfl 3 (by decide) (nk_f_RX4_95 hK.2.1) (v := .int (fI S 51 b32)) rfl dX4_contradictionsByPrime_11 ?_
      refine lv_icmp_ge (tgt := 98) hx hb dX4_contradictionsByPrime_14 (by decide) (fun c34 => ?_) (fun c34 => ?_)
      · have hf := it_t c34 hf
        exact hB98 x3 _ (lv_sub hl [3] rfl)  hf
      · have hf := it_f c34 hf
        refine lv_aload_n hx hb dX4_contradictionsByPrime_17 rfl (lv_at hl 0 rfl) ?_
        obtain ⟨b35, e36, v_b35, hf⟩ := rq_some hf
        refine q_get F hK hP v_x0.1 (pF_4 (S := S) v_x0.2) (fun w h => List.mem_cons_of_mem _ (List.mem_append_left _ (List.mem_append_left _ (List.mem_append_right _ h)))) rfl 0 (by decide) (hts (.fieldLink RX4 17 "SharedModuli" "now" "LSharedModuli$State;") (List.mem_of_getElem? (i := 1) rfl)) (v := .ref b35) (congrArg (fun z => some (va_rf z)) e36) dX4_contradictionsByPrime_18 ?_
        refine lv_iload hx hb dX4_contradictionsByPrime_21 (lv_at hl 4 rfl) ?_
        obtain ⟨t37, h38, hf⟩ := bd_some hf
        refine va_csr (va_runV (As := [.int x4]) (rest := []) F (c_X3_at l D cy (H := _) hP v_b35 h38) (cwV 1 hts gX4_contradictionsByPrime_X3_at rfl rfl rfl ⟨rfl, ph_X3_at.1, ph_X3_at.2, pd_X3_at⟩ ⟨Nat.le_of_ble_eq_true rfl, Nat.le_of_ble_eq_true rfl⟩) ⟨PcR.bl, (q_rcv hK hP v_b35.1 (pF_3 (S := S) v_b35.2) rfl), PcR.in hK⟩ rfl rfl hl.1 rfl (lv_room (Nat.le_of_ble_eq_true rfl)) dX4_contradictionsByPrime_23 ⟨Nat.zero_le _, Nat.zero_le _⟩).run (fun r39 er39 => ?_)
        obtain ⟨er39, v_t37⟩ := er39
        subst r39
        refine lv_astore (lv' := [(5, .ref t37), (0, .ref x0), (1, .ref x1), (2, .int x2), (3, .int x3), (4, .int x4)]) hx hb dX4_contradictionsByPrime_26 hl (by decide) rfl (fun ls hl => ?_)
        refine lv_aload_n hx hb dX4_contradictionsByPrime_28 rfl (lv_at hl 1 rfl) ?_
        obtain ⟨b40, e41, v_b40, hf⟩ := rq_some hf
        refine q_get F hK hP v_x0.1 (pF_4 (S := S) v_x0.2) (fun w h => List.mem_cons_of_mem _ (List.mem_append_left _ (List.mem_append_left _ (List.mem_append_right _ h)))) rfl 0 (by decide) (hts (.fieldLink RX4 17 "SharedModuli" "now" "LSharedModuli$State;") (List.mem_of_getElem? (i := 1) rfl)) (v := .ref b40) (congrArg (fun z => some (va_rf z)) e41) dX4_contradictionsByPrime_29 ?_
        refine lv_iload hx hb dX4_contradictionsByPrime_32 (lv_at hl 5 rfl) ?_
        obtain ⟨t42, h43, hf⟩ := bd_some hf
        refine vp_callSi (va_runV (As := [.int x4]) (rest := []) F (c_X3_isOn l D cy (H := _) hP v_b40 h43) (cwV 1 hts gX4_contradictionsByPrime_X3_isOn rfl rfl rfl ⟨rfl, ph_X3_isOn.1, ph_X3_isOn.2, pd_X3_isOn⟩ ⟨Nat.le_of_ble_eq_true rfl, Nat.le_of_ble_eq_true rfl⟩) ⟨PcR.bl, (q_rcv hK hP v_b40.1 (pF_3 (S := S) v_b40.2) rfl), PcR.in hK⟩ rfl rfl hl.1 rfl (lv_room (Nat.le_of_ble_eq_true rfl)) dX4_contradictionsByPrime_34 ⟨Nat.zero_le _, Nat.zero_le _⟩).run (fun r44 er44 => ?_)
        subst r44
        refine lv_if_eq (tgt := 92) hx hb dX4_contradictionsByPrime_37 (by decide) (fun c45 => ?_) (fun c45 => ?_)
        · have hf := it_t c45 hf
          exact hB92 x0 x1 x2 x3 x4 _ (lv_sub hl [1, 2, 3, 4, 5] rfl) v_x0 v_x1 hf
        · have hf := it_f c45 hf
          refine lv_aload hx hb dX4_contradictionsByPrime_40 (lv_at hl 0 rfl) ?_
          obtain ⟨t46, h47, hf⟩ := bd_some hf
          refine vp_callSi (va_runV (As := []) (rest := []) F (c_X0_isVoid l D cy (H := _) hP v_t37 h47) (cwV 0 hts gX4_contradictionsByPrime_X0_isVoid rfl rfl rfl ⟨rfl, ph_X0_isVoid.1, ph_X0_isVoid.2, pd_X0_isVoid⟩ ⟨Nat.le_of_ble_eq_true rfl, Nat.le_of_ble_eq_true rfl⟩) ⟨PcR.bl, (q_rcv hK hP v_t37.1 (pF_0 (S := S) v_t37.2) rfl), PcR.in hK⟩ rfl rfl hl.1 rfl (lv_room (Nat.le_of_ble_eq_true rfl)) dX4_contradictionsByPrime_42 ⟨Nat.zero_le _, Nat.zero_le _⟩).run (fun r48 er48 => ?_)
          subst r48
          refine lv_if_ne (tgt := 92) hx hb dX4_contradictionsByPrime_45 (by decide) (fun c49 => ?_) (fun c49 => ?_)
          · have hf := it_f c49 hf
            exact hB92 x0 x1 x2 x3 x4 _ (lv_sub hl [1, 2, 3, 4, 5] rfl) v_x0 v_x1 hf
          · have hf := it_t c49 hf
            refine lv_aload hx hb dX4_contradictionsByPrime_48 (lv_at hl 0 rfl) ?_
            refine lv_iload_n hx hb dX4_contradictionsByPrime_50 rfl (lv_at hl 3 rfl) ?_
            obtain ⟨t50, h51, hf⟩ := bd_some hf
            refine vp_callSl (va_runS (As := [.ref t37, .int x2]) (rest := []) F (c_X4_powerIn l D cy (H := _) hP v_t37 h51) (va_cwS 2 hts gX4_contradictionsByPrime_X4_powerIn rfl rfl rfl ⟨ph_X4_powerIn.1, ph_X4_powerIn.2, pd_X4_powerIn⟩ ⟨Nat.le_of_ble_eq_true rfl, Nat.le_of_ble_eq_true rfl⟩) ⟨PcR.bl, PcR.in hK⟩ rfl rfl hl.1 rfl (lv_room (Nat.le_of_ble_eq_true rfl)) dX4_contradictionsByPrime_51 ⟨Nat.zero_le _, Nat.zero_le _⟩).run (fun r52 er52 => ?_)
            subst r52
            refine lv_aload_n hx hb dX4_contradictionsByPrime_54 rfl (lv_at hl 2 rfl) ?_
            refine lv_iload_n hx hb dX4_contradictionsByPrime_55 rfl (lv_at hl 3 rfl) ?_
            obtain ⟨t53, h54, hf⟩ := bd_some hf
            refine vp_callSl (va_runS (As := [.ref x1, .int x2]) (rest := [.long t50]) F (c_X4_powerIn l D cy (H := _) hP v_x1 h54) (va_cwS 2 hts gX4_contradictionsByPrime_X4_powerIn rfl rfl rfl ⟨ph_X4_powerIn.1, ph_X4_powerIn.2, pd_X4_powerIn⟩ ⟨Nat.le_of_ble_eq_true rfl, Nat.le_of_ble_eq_true rfl⟩) ⟨PcR.bl, PcR.in hK⟩ rfl rfl hl.1 rfl (lv_room (Nat.le_of_ble_eq_true rfl)) dX4_contradictionsByPrime_56 ⟨Nat.zero_le _, Nat.zero_le _⟩).run (fun r55 er55 => ?_)
            subst r55
            refine va_mmin_long hx hb (hml.trans hl.1.symm) hown (hts (.methodLink RX4 335 Lib.MathLoose.min_long.x) (List.mem_of_getElem? (i := 2) rfl)) (hts (.static Lib.MathLoose.min_long.x) (List.mem_of_getElem? (i := 3) rfl)) (hts (.initialized "java/lang/Math") (List.mem_of_getElem? (i := 4) rfl)) (hts (.code Lib.MathLoose.min_long.x Lib.MathLoose.min_long.code 4 (some .long)) (List.mem_of_getElem? (i := 5) rfl)) (Nat.le_of_ble_eq_true rfl) (Nat.le_of_ble_eq_true rfl) (Nat.zero_le _) (Nat.zero_le _) dX4_contradictionsByPrime_59 ?_
            refine lv_lstore (lv' := [(6, .long (if t53 < t50 then t53 else t50)), (5, .ref t37), (0, .ref x0), (1, .ref x1), (2, .int x2), (3, .int x3), (4, .int x4)]) hx hb dX4_contradictionsByPrime_62 hl (by decide) rfl (fun ls hl => ?_)
            refine lv_aload hx hb dX4_contradictionsByPrime_64 (lv_at hl 1 rfl) ?_
            refine q_getN F hK hP v_t37.1 (pF_0 (S := S) v_t37.2) (fun w h => List.mem_cons_of_mem _ (List.mem_append_right _ h)) rfl 4 (by decide) (nk_f_RX4_126 hK.2.1) (v := .int (fI S 4 t37)) rfl dX4_contradictionsByPrime_66 ?_
            refine lv_i2l hx hb dX4_contradictionsByPrime_69 rfl ?_
            refine lv_lload hx hb dX4_contradictionsByPrime_70 (lv_at hl 0 rfl) ?_
            obtain ⟨t56, h57, hf⟩ := bd_some hf
            refine vp_callSl (va_runS (As := [.long ((fI S 4 t37).toInt64), .long (if t53 < t50 then t53 else t50)]) (rest := []) F (c_X4_rest l D cy (H := _)  h57) (va_cwS 2 hts gX4_contradictionsByPrime_X4_rest rfl rfl rfl ⟨ph_X4_rest.1, ph_X4_rest.2, pd_X4_rest⟩ ⟨Nat.le_of_ble_eq_true rfl, Nat.le_of_ble_eq_true rfl⟩) ⟨PcR.bl, PcR.in hK⟩ rfl rfl hl.1 rfl (lv_room (Nat.le_of_ble_eq_true rfl)) dX4_contradictionsByPrime_72 ⟨Nat.zero_le _, Nat.zero_le _⟩).run (fun r58 er58 => ?_)
            subst r58
            refine lv_aload_n hx hb dX4_contradictionsByPrime_75 rfl (lv_at hl 3 rfl) ?_
            refine q_getN F hK hP v_x1.1 (pF_0 (S := S) v_x1.2) (fun w h => List.mem_cons_of_mem _ (List.mem_append_right _ h)) rfl 4 (by decide) (nk_f_RX4_126 hK.2.1) (v := .int (fI S 4 x1)) rfl dX4_contradictionsByPrime_76 ?_
            refine lv_i2l hx hb dX4_contradictionsByPrime_79 rfl ?_
            refine lv_lload hx hb dX4_contradictionsByPrime_80 (lv_at hl 0 rfl) ?_
            obtain ⟨t59, h60, hf⟩ := bd_some hf
            refine vp_callSl (va_runS (As := [.long ((fI S 4 x1).toInt64), .long (if t53 < t50 then t53 else t50)]) (rest := [.long t56]) F (c_X4_rest l D cy (H := _)  h60) (va_cwS 2 hts gX4_contradictionsByPrime_X4_rest rfl rfl rfl ⟨ph_X4_rest.1, ph_X4_rest.2, pd_X4_rest⟩ ⟨Nat.le_of_ble_eq_true rfl, Nat.le_of_ble_eq_true rfl⟩) ⟨PcR.bl, PcR.in hK⟩ rfl rfl hl.1 rfl (lv_room (Nat.le_of_ble_eq_true rfl)) dX4_contradictionsByPrime_82 ⟨Nat.zero_le _, Nat.zero_le _⟩).run (fun r61 er61 => ?_)
            subst r61
            refine W.lcmp hx hb dX4_contradictionsByPrime_85 ?_
            refine lv_if_eq (tgt := 92) hx hb dX4_contradictionsByPrime_86 (by decide) (fun c62 => ?_) (fun c62 => ?_)
            · have hf := it_t ((lq_eq _ _).mp c62) hf
              exact hB92 x0 x1 x2 x3 x4 _ (lv_sub hl [2, 3, 4, 5, 6] rfl) v_x0 v_x1 hf
            · have hf := it_f (fun z => c62 ((lq_eq _ _).mpr z)) hf
              refine lv_iinc (v := x3 + 1) (lv' := [(3, .int (x3 + 1)), (6, .long (if t53 < t50 then t53 else t50)), (5, .ref t37), (0, .ref x0), (1, .ref x1), (2, .int x2), (4, .int x4)]) hx hb dX4_contradictionsByPrime_89 hl (k := 5) rfl (by rfl) (by decide) rfl (fun ls hl => ?_)
              exact hB92 x0 x1 x2 (x3 + 1) x4 _ (lv_sub hl [3, 4, 5, 0, 6] rfl) v_x0 v_x1 hf
  have hl := lv_entry ([.ref y0, .ref y1, .int y2]) (n := 8) (Nat.le_of_ble_eq_true rfl)
  rw [lg_entry_eq]
  generalize (lg_sl ([.ref y0, .ref y1, .int y2]) ++ List.replicate (8 - (lg_sl ([.ref y0, .ref y1, .int y2])).length) Slot.unset).toArray = ls at hl ⊢
  have hl : lv_has ls 8 [(0, .ref y0), (1, .ref y1), (2, .int y2)] := hl
  unfold f_X4_contradictionsByPrime at hf
  refine lv_iconst (v := 0) hx hb dX4_contradictionsByPrime_0 (by decide) ?_
  refine lv_istore_n (lv' := [(3, .int 0), (0, .ref y0), (1, .ref y1), (2, .int y2)]) hx hb dX4_contradictionsByPrime_1 rfl hl (by decide) rfl (fun ls hl => ?_)
  refine lv_iconst (v := 0) hx hb dX4_contradictionsByPrime_2 (by decide) ?_
  refine lv_istore (lv' := [(4, .int 0), (3, .int 0), (0, .ref y0), (1, .ref y1), (2, .int y2)]) hx hb dX4_contradictionsByPrime_3 hl (by decide) rfl (fun ls hl => ?_)
  exact hL5 FU y0 y1 y2 0 0 _ (lv_sub hl [2, 3, 4, 1, 0] rfl) v_y0 v_y1 hf
def f_X4_prime_B16 (S : PS) : Option ((Int32 ⊕ Nat) × PS) :=
  some (.inr 0, S)
def f_X4_prime_B53 (S : PS) (s0 : Int32) : Option ((Int32 ⊕ Nat) × PS) :=
  some (.inl s0, S)
def f_X4_prime (S : PS) (x0 : Nat) (x1 : Int32) (x2 : Int32) : Option ((Int32 ⊕ Nat) × PS) :=
  bd (f_X4_isPrime x1) fun t1 =>
  if t1 = 0 then (f_X4_prime_B16 S) else
  if x2 < 0 then (f_X4_prime_B16 S) else
  if x2 ≤ 3 then (bd (f_X4_strongestFor S x0 x1) fun t7 =>
  if x2 = 0 then (some (.inl t7, S)) else
  if t7 = ((-1)) then (if x2 = 1 then (f_X4_prime_B53 S 1) else
  f_X4_prime_B53 S 0) else
  rq (fR S 64 x0) S 3 fun b12 =>
  bd (f_X3_at S b12 t7) fun t14 =>
  bd (f_X4_powerIn S t14 x1) fun t17 =>
  if x2 = 1 then (some (.inl t17.toInt32, S)) else
  if x2 = 2 then (bd (f_X4_rest ((fI S 4 t14).toInt64) t17) fun t21 =>
  some (.inl t21.toInt32, S)) else
  bd (f_X4_contradictionsByPrime S x0 t14 x1) fun t24 =>
  some (.inl t24, S)) else
  f_X4_prime_B16 S
set_option maxHeartbeats 4000000 in
set_option maxRecDepth 100000 in
theorem c_X4_prime (l : Launch) (hst : l.stackTraces = false) (D : va_G) (cy : cyT) {S : PS} {n : Nat} {y0 : Nat} {y1 : Int32} {y2 : Int32} (v_y0 : vd S y0 4) {res : (Int32 ⊕ Nat) × PS} (hf : f_X4_prime S y0 y1 y2 = some res) : vx_Met l yX4_prime wsX4_prime ({ frames := 6, cells := 1, slots := 6, locals := 90 } : Room) (PcW True D cy S n [.ref y0, .int y1, .int y2]) (va_Qi (fun (r : Int32) (u : PS × Nat) => Sum.inl r = res.1 ∧ u = (res.2, n)) (BW D cy S n) (AA cy S n)) (vx_X (fun k : Nat => res.1 = .inr k) (fun E k t => XO D cy S n res.2 E k t) (AA cy S n)) 1 6 (AA cy S n) := by
  refine vx_ofW (cc := cX4_prime) (maxL := 7) (ret := (some .int)) (by decide) rfl ?_
  intro p e s m args below meth c s₁ B hml hex hv
  obtain ⟨hav, hsz, hP0, hD0, hK, hZ0⟩ := hv
  have hx := B.exec
  have hb := B.bytes
  have hr := B.returns
  have hts := atoms_spec (ws := wsX4_prime) B.pre
  have hown : s.vm.findClass RX4 = some m.cls := findClass_of_methodNamed B.named
  have hlocks := B.notSynchronized
  subst hav
  have hw : Hw D cy (AA cy S n) s.heap S n s.heap [] := Hw.start hsz hP0 hD0
  have hA : ∀ q, s.heap.size ≤ q → AA cy S n q := fun q h => Or.inr (hsz ▸ h)
  have hE : EX S S := EX.rf
  have hZ := hZ0 trivial
  have F : CallFix p m c cX4_prime 7 s _ wsX4_prime RX4 := ⟨hx, hb, hml, hown, hts⟩
  have hB16 : ∀ (Sb : PS) (H1 : Heap) (lo1 : List Loc) (kc ks : Nat) (_ : kc + 1 ≤ 1) (_ : ks + 6 ≤ 6)  (ls : Array Slot), lv_has ls 7 [] → Hw D cy (AA cy S n) s.heap Sb n H1 lo1 → EX S Sb → f_X4_prime_B16 Sb = some res → W p l e (headSpec wsX4_prime ({ frames := 6, cells := 1, slots := 6, locals := 90 } : Room)).room s m ([.ref y0, .int y1, .int y2] : List Value).toArray below meth c H1 lo1 kc ks (vx_MQ below (va_Qi (fun (r : Int32) (u : PS × Nat) => Sum.inl r = res.1 ∧ u = (res.2, n)) (BW D cy S n) (AA cy S n)) (vx_X (fun k : Nat => res.1 = .inr k) (fun E k t => XO D cy S n res.2 E k t) (AA cy S n)) ([.ref y0, .int y1, .int y2] : List Value).toArray s 1 6 (AA cy S n)) (F0 m 16 ls []) := by
    intro Sb H1 lo1 kc ks hkc hks ls hl hw hE hf
    unfold f_X4_prime_B16 at hf
    obtain ⟨sa, hsa⟩ := sk_221 hK.2.2.1
    refine vx_throwS hx hb hst (names := ["java/lang/RuntimeException", "java/lang/Exception"]) hown (by decide +kernel) (by decide +kernel) (hts (.classLink RX4 59 "java/lang/IllegalArgumentException") (List.mem_of_getElem? (i := 1) rfl)) (hts (.initialized "java/lang/IllegalArgumentException") (List.mem_of_getElem? (i := 2) rfl)) hsa (vx_hat (B := xb_63) (fun w h => hts w (List.mem_cons_of_mem _ (List.mem_append_right _ h))) xn_63 (xk_63 hK.2.2.2.2.2)) xg_63 hZ.1 hZ.2.1 hw.2.2.1 (hl.1.trans hml.symm) dX4_prime_16 dX4_prime_19 dX4_prime_20 dX4_prime_22 dX4_prime_25 (fun x h => (hex x h).elim) (Nat.le_of_ble_eq_true rfl) (Nat.le_of_ble_eq_true rfl) (by show _ ≤ 1; omega) (by show _ ≤ 6; omega) hlocks (fun t hvm hz hk => ?_) hw.2.2.1.2.2 (by omega) (by omega)
    exact xo_of hw hE hz hk (by show (_ : String) = _; rfl) (po2x hf).1 (po2x hf).2
  have hB53 : ∀ (Sb : PS) (H1 : Heap) (lo1 : List Loc) (kc ks : Nat) (_ : kc + 0 ≤ 1) (_ : ks + 0 ≤ 6) (s0 : Int32) (ls : Array Slot), lv_has ls 7 [] → Hw D cy (AA cy S n) s.heap Sb n H1 lo1 → EX S Sb → f_X4_prime_B53 Sb s0 = some res → W p l e (headSpec wsX4_prime ({ frames := 6, cells := 1, slots := 6, locals := 90 } : Room)).room s m ([.ref y0, .int y1, .int y2] : List Value).toArray below meth c H1 lo1 kc ks (vx_MQ below (va_Qi (fun (r : Int32) (u : PS × Nat) => Sum.inl r = res.1 ∧ u = (res.2, n)) (BW D cy S n) (AA cy S n)) (vx_X (fun k : Nat => res.1 = .inr k) (fun E k t => XO D cy S n res.2 E k t) (AA cy S n)) ([.ref y0, .int y1, .int y2] : List Value).toArray s 1 6 (AA cy S n)) (F0 m 53 ls [.int s0]) := by
    intro Sb H1 lo1 kc ks hkc hks s0 ls hl hw hE hf
    unfold f_X4_prime_B53 at hf
    refine vx_ret ?_
    refine W.widen (k := 1) (n := 6) (by omega) (by omega) ?_
    exact W.iret (v := s0) hx hb hr (fun t ht hW => ⟨⟨_, (Sb, n), rfl, po2t hf, BW.of hw hE ht⟩, hw.2.2.1.F ht⟩) hw.2.2.1.2.2 dX4_prime_53
  have hl := lv_entry ([.ref y0, .int y1, .int y2]) (n := 7) (Nat.le_of_ble_eq_true rfl)
  rw [lg_entry_eq]
  generalize (lg_sl ([.ref y0, .int y1, .int y2]) ++ List.replicate (7 - (lg_sl ([.ref y0, .int y1, .int y2])).length) Slot.unset).toArray = ls at hl ⊢
  have hl : lv_has ls 7 [(0, .ref y0), (1, .int y1), (2, .int y2)] := hl
  unfold f_X4_prime at hf
  refine lv_iload_n hx hb dX4_prime_0 rfl (lv_at hl 1 rfl) ?_
  obtain ⟨t28, h29, hf⟩ := bd_some hf
  refine vp_callSi (va_runS (As := [.int y1]) (rest := []) F (c_X4_isPrime l D cy (H := _)  h29) (va_cwS 1 hts gX4_prime_X4_isPrime rfl rfl rfl ⟨ph_X4_isPrime.1, ph_X4_isPrime.2, pd_X4_isPrime⟩ ⟨Nat.le_of_ble_eq_true rfl, Nat.le_of_ble_eq_true rfl⟩) ⟨PcR.bl, PcR.in hK⟩ rfl rfl hl.1 rfl (lv_room (Nat.le_of_ble_eq_true rfl)) dX4_prime_1 ⟨by show _ ≤ 1; omega, by show _ ≤ 6; omega⟩).run (fun r30 er30 => ?_)
  subst r30
  refine lv_if_eq (tgt := 16) hx hb dX4_prime_4 (by decide) (fun c31 => ?_) (fun c31 => ?_)
  · have hf := it_t c31 hf
    exact hB16 S _ _ _ _ (by omega) (by omega) _ (lv_sub hl [] rfl) hw hE  hf
  · have hf := it_f c31 hf
    refine lv_iload_n hx hb dX4_prime_7 rfl (lv_at hl 2 rfl) ?_
    refine lv_if_lt (tgt := 16) hx hb dX4_prime_8 (by decide) (fun c32 => ?_) (fun c32 => ?_)
    · have hf := it_t c32 hf
      exact hB16 S _ _ _ _ (by omega) (by omega) _ (lv_sub hl [] rfl) hw hE  hf
    · have hf := it_f c32 hf
      refine lv_iload_n hx hb dX4_prime_11 rfl (lv_at hl 2 rfl) ?_
      refine lv_iconst (v := 3) hx hb dX4_prime_12 (by decide) ?_
      refine lv_icmp_le (tgt := 26) hx hb dX4_prime_13 (by decide) (fun c33 => ?_) (fun c33 => ?_)
      · have hf := it_t c33 hf
        refine lv_aload_n hx hb dX4_prime_26 rfl (lv_at hl 0 rfl) ?_
        refine lv_iload_n hx hb dX4_prime_27 rfl (lv_at hl 1 rfl) ?_
        obtain ⟨t34, h35, hf⟩ := bd_some hf
        refine vp_callSi (va_runV (As := [.int y1]) (rest := []) F (c_X4_strongestFor l D cy (H := _) hw.1 v_y0 h35) (cwV 1 hts gX4_prime_X4_strongestFor rfl rfl rfl ⟨rfl, ph_X4_strongestFor.1, ph_X4_strongestFor.2, pd_X4_strongestFor⟩ ⟨Nat.le_of_ble_eq_true rfl, Nat.le_of_ble_eq_true rfl⟩) ⟨PcR.bl, (q_rcv hK hw.1 v_y0.1 (pF_4 (S := S) v_y0.2) rfl), PcR.in hK⟩ rfl rfl hl.1 rfl (lv_room (Nat.le_of_ble_eq_true rfl)) dX4_prime_28 ⟨by show _ ≤ 1; omega, by show _ ≤ 6; omega⟩).run (fun r36 er36 => ?_)
        subst r36
        refine lv_istore_n (lv' := [(3, .int t34), (0, .ref y0), (1, .int y1), (2, .int y2)]) hx hb dX4_prime_31 rfl hl (by decide) rfl (fun ls hl => ?_)
        refine lv_iload_n hx hb dX4_prime_32 rfl (lv_at hl 3 rfl) ?_
        refine lv_if_ne (tgt := 38) hx hb dX4_prime_33 (by decide) (fun c37 => ?_) (fun c37 => ?_)
        · have hf := it_f c37 hf
          refine lv_iload_n hx hb dX4_prime_38 rfl (lv_at hl 0 rfl) ?_
          refine lv_iconst (v := (-1)) hx hb dX4_prime_39 (by decide) ?_
          refine lv_icmp_ne (tgt := 54) hx hb dX4_prime_40 (by decide) (fun c38 => ?_) (fun c38 => ?_)
          · have hf := it_f c38 hf
            refine lv_aload_n hx hb dX4_prime_54 rfl (lv_at hl 1 rfl) ?_
            obtain ⟨b39, e40, v_b39, hf⟩ := rq_some hf
            refine q_get F hK hw.1 v_y0.1 (pF_4 (S := S) v_y0.2) (fun w h => List.mem_cons_of_mem _ (List.mem_append_left _ (List.mem_append_left _ (List.mem_append_left _ (List.mem_append_right _ h))))) rfl 0 (by decide) (hts (.fieldLink RX4 17 "SharedModuli" "now" "LSharedModuli$State;") (List.mem_of_getElem? (i := 3) rfl)) (v := .ref b39) (congrArg (fun z => some (va_rf z)) e40) dX4_prime_55 ?_
            refine lv_iload_n hx hb dX4_prime_58 rfl (lv_at hl 0 rfl) ?_
            obtain ⟨t41, h42, hf⟩ := bd_some hf
            refine va_csr (va_runV (As := [.int t34]) (rest := []) F (c_X3_at l D cy (H := _) hw.1 v_b39 h42) (cwV 1 hts gX4_prime_X3_at rfl rfl rfl ⟨rfl, ph_X3_at.1, ph_X3_at.2, pd_X3_at⟩ ⟨Nat.le_of_ble_eq_true rfl, Nat.le_of_ble_eq_true rfl⟩) ⟨PcR.bl, (q_rcv hK hw.1 v_b39.1 (pF_3 (S := S) v_b39.2) rfl), PcR.in hK⟩ rfl rfl hl.1 rfl (lv_room (Nat.le_of_ble_eq_true rfl)) dX4_prime_59 ⟨by show _ ≤ 1; omega, by show _ ≤ 6; omega⟩).run (fun r43 er43 => ?_)
            obtain ⟨er43, v_t41⟩ := er43
            subst r43
            refine lv_astore (lv' := [(4, .ref t41), (3, .int t34), (0, .ref y0), (1, .int y1), (2, .int y2)]) hx hb dX4_prime_62 hl (by decide) rfl (fun ls hl => ?_)
            refine lv_aload hx hb dX4_prime_64 (lv_at hl 0 rfl) ?_
            refine lv_iload_n hx hb dX4_prime_66 rfl (lv_at hl 3 rfl) ?_
            obtain ⟨t44, h45, hf⟩ := bd_some hf
            refine vp_callSl (va_runS (As := [.ref t41, .int y1]) (rest := []) F (c_X4_powerIn l D cy (H := _) hw.1 v_t41 h45) (va_cwS 2 hts gX4_prime_X4_powerIn rfl rfl rfl ⟨ph_X4_powerIn.1, ph_X4_powerIn.2, pd_X4_powerIn⟩ ⟨Nat.le_of_ble_eq_true rfl, Nat.le_of_ble_eq_true rfl⟩) ⟨PcR.bl, PcR.in hK⟩ rfl rfl hl.1 rfl (lv_room (Nat.le_of_ble_eq_true rfl)) dX4_prime_67 ⟨by show _ ≤ 1; omega, by show _ ≤ 6; omega⟩).run (fun r46 er46 => ?_)
            subst r46
            refine lv_lstore (lv' := [(5, .long t44), (4, .ref t41), (3, .int t34), (0, .ref y0), (1, .int y1), (2, .int y2)]) hx hb dX4_prime_70 hl (by decide) rfl (fun ls hl => ?_)
            refine lv_iload_n hx hb dX4_prime_72 rfl (lv_at hl 5 rfl) ?_
            by_cases c47_0 : y2 = 1
            · have hf := it_t c47_0 hf
              refine lv_lookup (off := 27) (tgt := 100) hx hb dX4_prime_73 (by decide) (by rw [c47_0]; rfl) (by decide) ?_
              refine lv_lload hx hb dX4_prime_100 (lv_at hl 0 rfl) ?_
              refine lv_l2i hx hb dX4_prime_102 rfl ?_
              refine vx_ret ?_
              refine W.widen (k := 1) (n := 6) (by omega) (by omega) ?_
              exact W.iret (v := t44.toInt32) hx hb hr (fun t ht hW => ⟨⟨_, (S, n), rfl, po2t hf, BW.of hw hE ht⟩, hw.2.2.1.F ht⟩) hw.2.2.1.2.2 dX4_prime_103
            have hf := it_f c47_0 hf
            by_cases c47_1 : y2 = 2
            · have hf := it_t c47_1 hf
              refine lv_lookup (off := 31) (tgt := 104) hx hb dX4_prime_73 (by decide) (by rw [c47_1]; rfl) (by decide) ?_
              refine lv_aload hx hb dX4_prime_104 (lv_at hl 1 rfl) ?_
              refine q_getN F hK hw.1 v_t41.1 (pF_0 (S := S) v_t41.2) (fun w h => List.mem_cons_of_mem _ (List.mem_append_left _ (List.mem_append_left _ (List.mem_append_right _ h)))) rfl 4 (by decide) (nk_f_RX4_126 hK.2.1) (v := .int (fI S 4 t41)) rfl dX4_prime_106 ?_
              refine lv_i2l hx hb dX4_prime_109 rfl ?_
              refine lv_lload hx hb dX4_prime_110 (lv_at hl 0 rfl) ?_
              obtain ⟨t48, h49, hf⟩ := bd_some hf
              refine vp_callSl (va_runS (As := [.long ((fI S 4 t41).toInt64), .long t44]) (rest := []) F (c_X4_rest l D cy (H := _)  h49) (va_cwS 2 hts gX4_prime_X4_rest rfl rfl rfl ⟨ph_X4_rest.1, ph_X4_rest.2, pd_X4_rest⟩ ⟨Nat.le_of_ble_eq_true rfl, Nat.le_of_ble_eq_true rfl⟩) ⟨PcR.bl, PcR.in hK⟩ rfl rfl hl.1 rfl (lv_room (Nat.le_of_ble_eq_true rfl)) dX4_prime_112 ⟨by show _ ≤ 1; omega, by show _ ≤ 6; omega⟩).run (fun r50 er50 => ?_)
              subst r50
              refine lv_l2i hx hb dX4_prime_115 rfl ?_
              refine vx_ret ?_
              refine W.widen (k := 1) (n := 6) (by omega) (by omega) ?_
              exact W.iret (v := t48.toInt32) hx hb hr (fun t ht hW => ⟨⟨_, (S, n), rfl, po2t hf, BW.of hw hE ht⟩, hw.2.2.1.F ht⟩) hw.2.2.1.2.2 dX4_prime_116
            have hf := it_f c47_1 hf
            have c47n_0 := i32_ne (n := 1) (by decide) c47_0
            have c47n_1 := i32_ne (n := 2) (by decide) c47_1
            refine lv_lookup (off := 44) (tgt := 117) hx hb dX4_prime_73 (by decide) (by simp [Op.lookupswitch.offset, c47n_0, c47n_1, Ne.symm c47n_0, Ne.symm c47n_1]; done) (by decide) ?_
            refine lv_aload_n hx hb dX4_prime_117 rfl (lv_at hl 3 rfl) ?_
            refine lv_aload hx hb dX4_prime_118 (lv_at hl 1 rfl) ?_
            refine lv_iload_n hx hb dX4_prime_120 rfl (lv_at hl 4 rfl) ?_
            obtain ⟨t51, h52, hf⟩ := bd_some hf
            refine vp_callSi (va_runV (As := [.ref t41, .int y1]) (rest := []) F (c_X4_contradictionsByPrime l D cy (H := _) hw.1 v_y0 v_t41 h52) (cwV 2 hts gX4_prime_X4_contradictionsByPrime rfl rfl rfl ⟨rfl, ph_X4_contradictionsByPrime.1, ph_X4_contradictionsByPrime.2, pd_X4_contradictionsByPrime⟩ ⟨Nat.le_of_ble_eq_true rfl, Nat.le_of_ble_eq_true rfl⟩) ⟨PcR.bl, (q_rcv hK hw.1 v_y0.1 (pF_4 (S := S) v_y0.2) rfl), PcR.in hK⟩ rfl rfl hl.1 rfl (lv_room (Nat.le_of_ble_eq_true rfl)) dX4_prime_121 ⟨by show _ ≤ 1; omega, by show _ ≤ 6; omega⟩).run (fun r53 er53 => ?_)
            subst r53
            refine vx_ret ?_
            refine W.widen (k := 1) (n := 6) (by omega) (by omega) ?_
            exact W.iret (v := t51) hx hb hr (fun t ht hW => ⟨⟨_, (S, n), rfl, po2t hf, BW.of hw hE ht⟩, hw.2.2.1.F ht⟩) hw.2.2.1.2.2 dX4_prime_124
          · have hf := it_t c38 hf
            refine lv_iload_n hx hb dX4_prime_43 rfl (lv_at hl 3 rfl) ?_
            refine lv_iconst (v := 1) hx hb dX4_prime_44 (by decide) ?_
            refine lv_icmp_ne (tgt := 52) hx hb dX4_prime_45 (by decide) (fun c54 => ?_) (fun c54 => ?_)
            · have hf := it_f c54 hf
              refine lv_iconst (v := 0) hx hb dX4_prime_52 (by decide) ?_
              exact hB53 S _ _ _ _ (by omega) (by omega) 0 _ (lv_sub hl [] rfl) hw hE  hf
            · have hf := it_t c54 hf
              refine lv_iconst (v := 1) hx hb dX4_prime_48 (by decide) ?_
              refine lv_goto (tgt := 53) hx hb dX4_prime_49 (by decide) ?_
              exact hB53 S _ _ _ _ (by omega) (by omega) 1 _ (lv_sub hl [] rfl) hw hE  hf
        · have hf := it_t c37 hf
          refine lv_iload_n hx hb dX4_prime_36 rfl (lv_at hl 0 rfl) ?_
          refine vx_ret ?_
          refine W.widen (k := 1) (n := 6) (by omega) (by omega) ?_
          exact W.iret (v := t34) hx hb hr (fun t ht hW => ⟨⟨_, (S, n), rfl, po2t hf, BW.of hw hE ht⟩, hw.2.2.1.F ht⟩) hw.2.2.1.2.2 dX4_prime_37
      · have hf := it_f c33 hf
        exact hB16 S _ _ _ _ (by omega) (by omega) _ (lv_sub hl [] rfl) hw hE  hf
def f_X4_isNumber_B19 (s0 : Int32) : Option Int32 :=
  ck (decide (s0 &&& 1 = s0)) (
  some s0)
def f_X4_isNumber_B18  : Option Int32 :=
  f_X4_isNumber_B19 0
def f_X4_isNumber (x0 : Int64) : Option Int32 :=
  if x0 < 0 then (f_X4_isNumber_B18) else
  if 1000000000000000 < x0 then (f_X4_isNumber_B18) else
  f_X4_isNumber_B19 1
set_option maxHeartbeats 4000000 in
set_option maxRecDepth 100000 in
theorem c_X4_isNumber (l : Launch) (D : va_G) (cy : cyT) {H : Heap} {y0 : Int64}  {res : Int32} (hf : f_X4_isNumber y0 = some res) : Met l yX4_isNumber wsX4_isNumber ({ frames := 0, cells := 0, slots := 0, locals := 0 } : Room) (PcR D cy H [.long y0]) (vp_Si (fun r => r = res)) 0 0 (fun _ => False) := by
  refine Met.ofW (cc := cX4_isNumber) (maxL := 2) (ret := (some .boolean)) (by decide) rfl ?_
  intro p e s m args below meth c s₁ B hml hv
  obtain ⟨hav, hH, hK⟩ := hv
  have hx := B.exec
  have hb := B.bytes
  have hr := B.returns
  have hts := atoms_spec (ws := wsX4_isNumber) B.pre
  have hown : s.vm.findClass RX4 = some m.cls := findClass_of_methodNamed B.named
  have hlocks := B.notSynchronized
  subst hav
  subst hH
  have F : CallFix p m c cX4_isNumber 2 s _ wsX4_isNumber RX4 := ⟨hx, hb, hml, hown, hts⟩
  have hB19 : ∀ (s0 : Int32) (ls : Array Slot), lv_has ls 2 [] → f_X4_isNumber_B19 s0 = some res → W p l e (headSpec wsX4_isNumber ({ frames := 0, cells := 0, slots := 0, locals := 0 } : Room)).room s m ([.long y0] : List Value).toArray below meth c s.heap [] 0 0 (MQ below (vp_Si (fun r => r = res)) ([.long y0] : List Value).toArray s 0 0 (fun _ => False)) (F0 m 19 ls [.int s0]) := by
    intro s0 ls hl hf
    unfold f_X4_isNumber_B19 at hf
    obtain ⟨c4, hf⟩ := ckd_some hf
    exact W.zret (v := s0) hx hb hr (nz c4) (fun t ht hW => ⟨_, rfl, Option.some.inj hf, ht⟩) (fun _ h => by cases h) dX4_isNumber_19
  have hB18 : ∀  (ls : Array Slot), lv_has ls 2 [] → f_X4_isNumber_B18 = some res → W p l e (headSpec wsX4_isNumber ({ frames := 0, cells := 0, slots := 0, locals := 0 } : Room)).room s m ([.long y0] : List Value).toArray below meth c s.heap [] 0 0 (MQ below (vp_Si (fun r => r = res)) ([.long y0] : List Value).toArray s 0 0 (fun _ => False)) (F0 m 18 ls []) := by
    intro ls hl hf
    unfold f_X4_isNumber_B18 at hf
    refine lv_iconst (v := 0) hx hb dX4_isNumber_18 (by decide) ?_
    exact hB19 0 _ (lv_sub hl [] rfl)  hf
  have hl := lv_entry ([.long y0]) (n := 2) (Nat.le_of_ble_eq_true rfl)
  rw [lg_entry_eq]
  generalize (lg_sl ([.long y0]) ++ List.replicate (2 - (lg_sl ([.long y0])).length) Slot.unset).toArray = ls at hl ⊢
  have hl : lv_has ls 2 [(0, .long y0)] := hl
  unfold f_X4_isNumber at hf
  refine lv_lload_n hx hb dX4_isNumber_0 rfl (lv_at hl 0 rfl) ?_
  refine lv_lconst (v := 0) hx hb dX4_isNumber_1 (by decide) ?_
  refine W.lcmp hx hb dX4_isNumber_2 ?_
  refine lv_if_lt (tgt := 18) hx hb dX4_isNumber_3 (by decide) (fun c5 => ?_) (fun c5 => ?_)
  · have hf := it_t ((lq_lt _ _).mp c5) hf
    exact hB18 _ (lv_sub hl [] rfl)  hf
  · have hf := it_f (fun z => c5 ((lq_lt _ _).mpr z)) hf
    refine lv_lload_n hx hb dX4_isNumber_6 rfl (lv_at hl 0 rfl) ?_
    refine lv_ldc2 hx hb hown (hts (.constantLong RX4 109 1000000000000000) (List.mem_of_getElem? (i := 1) rfl)) dX4_isNumber_7 ?_
    refine W.lcmp hx hb dX4_isNumber_10 ?_
    refine lv_if_gt (tgt := 18) hx hb dX4_isNumber_11 (by decide) (fun c6 => ?_) (fun c6 => ?_)
    · have hf := it_t ((lq_gt _ _).mp c6) hf
      exact hB18 _ (lv_sub hl [] rfl)  hf
    · have hf := it_f (fun z => c6 ((lq_gt _ _).mpr z)) hf
      refine lv_iconst (v := 1) hx hb dX4_isNumber_14 (by decide) ?_
      refine lv_goto (tgt := 19) hx hb dX4_isNumber_15 (by decide) ?_
      exact hB19 1 _ (lv_sub hl [] rfl)  hf
def f_X4_answer_B17 (S : PS) : Option ((Int64 ⊕ Nat) × PS) :=
  some (.inr 0, S)
def f_X4_answer (S : PS) (x0 : Nat) (x1 : Int64) (x3 : Int32) : Option ((Int64 ⊕ Nat) × PS) :=
  bd (f_X4_isNumber x1) fun t1 =>
  if t1 = 0 then (f_X4_answer_B17 S) else
  if x3 < 0 then (f_X4_answer_B17 S) else
  if x3 ≤ 99 then (rq (fR S 64 x0) S 3 fun b7 =>
  rq (fR S 64 x0) S 3 fun b9 =>
  bd (f_X3_arePossible S b7 (fI S 52 b9)) fun t11 =>
  if t11 = 0 then (some (.inl ((-1)), S)) else
  rq (fR S 64 x0) S 3 fun b15 =>
  bd (f_X4_join S x0 (fI S 52 b15)) fun t17 =>
  bd (f_X1_leastFrom t17.2 t17.1 x1) fun t19 =>
  some (.inl (t19 + (x3.toInt64 * (fL t17.2 16 t17.1))), t17.2)) else
  f_X4_answer_B17 S
set_option maxHeartbeats 4000000 in
set_option maxRecDepth 100000 in
theorem c_X4_answer (l : Launch) (hst : l.stackTraces = false) (D : va_G) (cy : cyT) {S : PS} {n : Nat} {y0 : Nat} {y1 : Int64} {y3 : Int32} (v_y0 : vd S y0 4) {res : (Int64 ⊕ Nat) × PS} (hf : f_X4_answer S y0 y1 y3 = some res) : vx_Met l yX4_answer wsX4_answer ({ frames := 6, cells := 1, slots := 6, locals := 90 } : Room) (PcW True D cy S n [.ref y0, .long y1, .int y3]) (va_Ql (fun (r : Int64) (u : PS × Nat) => Sum.inl r = res.1 ∧ u = (res.2, n)) (BW D cy S n) (AA cy S n)) (vx_X (fun k : Nat => res.1 = .inr k) (fun E k t => XO D cy S n res.2 E k t) (AA cy S n)) 1 6 (AA cy S n) := by
  refine vx_ofW (cc := cX4_answer) (maxL := 5) (ret := (some .long)) (by decide) rfl ?_
  intro p e s m args below meth c s₁ B hml hex hv
  obtain ⟨hav, hsz, hP0, hD0, hK, hZ0⟩ := hv
  have hx := B.exec
  have hb := B.bytes
  have hr := B.returns
  have hts := atoms_spec (ws := wsX4_answer) B.pre
  have hown : s.vm.findClass RX4 = some m.cls := findClass_of_methodNamed B.named
  have hlocks := B.notSynchronized
  subst hav
  have hw : Hw D cy (AA cy S n) s.heap S n s.heap [] := Hw.start hsz hP0 hD0
  have hA : ∀ q, s.heap.size ≤ q → AA cy S n q := fun q h => Or.inr (hsz ▸ h)
  have hE : EX S S := EX.rf
  have hZ := hZ0 trivial
  have F : CallFix p m c cX4_answer 5 s _ wsX4_answer RX4 := ⟨hx, hb, hml, hown, hts⟩
  have hB17 : ∀ (Sb : PS) (H1 : Heap) (lo1 : List Loc) (kc ks : Nat) (_ : kc + 1 ≤ 1) (_ : ks + 6 ≤ 6)  (ls : Array Slot), lv_has ls 5 [] → Hw D cy (AA cy S n) s.heap Sb n H1 lo1 → EX S Sb → f_X4_answer_B17 Sb = some res → W p l e (headSpec wsX4_answer ({ frames := 6, cells := 1, slots := 6, locals := 90 } : Room)).room s m ([.ref y0, .long y1, .int y3] : List Value).toArray below meth c H1 lo1 kc ks (vx_MQ below (va_Ql (fun (r : Int64) (u : PS × Nat) => Sum.inl r = res.1 ∧ u = (res.2, n)) (BW D cy S n) (AA cy S n)) (vx_X (fun k : Nat => res.1 = .inr k) (fun E k t => XO D cy S n res.2 E k t) (AA cy S n)) ([.ref y0, .long y1, .int y3] : List Value).toArray s 1 6 (AA cy S n)) (F0 m 17 ls []) := by
    intro Sb H1 lo1 kc ks hkc hks ls hl hw hE hf
    unfold f_X4_answer_B17 at hf
    obtain ⟨sa, hsa⟩ := sk_242 hK.2.2.1
    refine vx_throwS hx hb hst (names := ["java/lang/RuntimeException", "java/lang/Exception"]) hown (by decide +kernel) (by decide +kernel) (hts (.classLink RX4 59 "java/lang/IllegalArgumentException") (List.mem_of_getElem? (i := 1) rfl)) (hts (.initialized "java/lang/IllegalArgumentException") (List.mem_of_getElem? (i := 2) rfl)) hsa (vx_hat (B := xb_63) (fun w h => hts w (List.mem_cons_of_mem _ (List.mem_append_right _ h))) xn_63 (xk_63 hK.2.2.2.2.2)) xg_63 hZ.1 hZ.2.1 hw.2.2.1 (hl.1.trans hml.symm) dX4_answer_17 dX4_answer_20 dX4_answer_21 dX4_answer_23 dX4_answer_26 (fun x h => (hex x h).elim) (Nat.le_of_ble_eq_true rfl) (Nat.le_of_ble_eq_true rfl) (by show _ ≤ 1; omega) (by show _ ≤ 6; omega) hlocks (fun t hvm hz hk => ?_) hw.2.2.1.2.2 (by omega) (by omega)
    exact xo_of hw hE hz hk (by show (_ : String) = _; rfl) (po2x hf).1 (po2x hf).2
  have hl := lv_entry ([.ref y0, .long y1, .int y3]) (n := 5) (Nat.le_of_ble_eq_true rfl)
  rw [lg_entry_eq]
  generalize (lg_sl ([.ref y0, .long y1, .int y3]) ++ List.replicate (5 - (lg_sl ([.ref y0, .long y1, .int y3])).length) Slot.unset).toArray = ls at hl ⊢
  have hl : lv_has ls 5 [(0, .ref y0), (1, .long y1), (3, .int y3)] := hl
  unfold f_X4_answer at hf
  refine lv_lload_n hx hb dX4_answer_0 rfl (lv_at hl 1 rfl) ?_
  obtain ⟨t22, h23, hf⟩ := bd_some hf
  refine vp_callSi (va_runS (As := [.long y1]) (rest := []) F (c_X4_isNumber l D cy (H := _)  h23) (va_cwS 1 hts gX4_answer_X4_isNumber rfl rfl rfl ⟨ph_X4_isNumber.1, ph_X4_isNumber.2, pd_X4_isNumber⟩ ⟨Nat.le_of_ble_eq_true rfl, Nat.le_of_ble_eq_true rfl⟩) ⟨PcR.bl, PcR.in hK⟩ rfl rfl hl.1 rfl (lv_room (Nat.le_of_ble_eq_true rfl)) dX4_answer_1 ⟨by show _ ≤ 1; omega, by show _ ≤ 6; omega⟩).run (fun r24 er24 => ?_)
  subst r24
  refine lv_if_eq (tgt := 17) hx hb dX4_answer_4 (by decide) (fun c25 => ?_) (fun c25 => ?_)
  · have hf := it_t c25 hf
    exact hB17 S _ _ _ _ (by omega) (by omega) _ (lv_sub hl [] rfl) hw hE  hf
  · have hf := it_f c25 hf
    refine lv_iload_n hx hb dX4_answer_7 rfl (lv_at hl 2 rfl) ?_
    refine lv_if_lt (tgt := 17) hx hb dX4_answer_8 (by decide) (fun c26 => ?_) (fun c26 => ?_)
    · have hf := it_t c26 hf
      exact hB17 S _ _ _ _ (by omega) (by omega) _ (lv_sub hl [] rfl) hw hE  hf
    · have hf := it_f c26 hf
      refine lv_iload_n hx hb dX4_answer_11 rfl (lv_at hl 2 rfl) ?_
      refine lv_bipush (v := 99) hx hb dX4_answer_12 (by decide) ?_
      refine lv_icmp_le (tgt := 27) hx hb dX4_answer_14 (by decide) (fun c27 => ?_) (fun c27 => ?_)
      · have hf := it_t c27 hf
        refine lv_aload_n hx hb dX4_answer_27 rfl (lv_at hl 0 rfl) ?_
        obtain ⟨b28, e29, v_b28, hf⟩ := rq_some hf
        refine q_get F hK hw.1 v_y0.1 (pF_4 (S := S) v_y0.2) (fun w h => List.mem_cons_of_mem _ (List.mem_append_left _ (List.mem_append_left _ (List.mem_append_left _ (List.mem_append_left _ (List.mem_append_right _ h)))))) rfl 0 (by decide) (hts (.fieldLink RX4 17 "SharedModuli" "now" "LSharedModuli$State;") (List.mem_of_getElem? (i := 3) rfl)) (v := .ref b28) (congrArg (fun z => some (va_rf z)) e29) dX4_answer_28 ?_
        refine lv_aload_n hx hb dX4_answer_31 rfl (lv_at hl 0 rfl) ?_
        obtain ⟨b30, e31, v_b30, hf⟩ := rq_some hf
        refine q_get F hK hw.1 v_y0.1 (pF_4 (S := S) v_y0.2) (fun w h => List.mem_cons_of_mem _ (List.mem_append_left _ (List.mem_append_left _ (List.mem_append_left _ (List.mem_append_left _ (List.mem_append_right _ h)))))) rfl 0 (by decide) (hts (.fieldLink RX4 17 "SharedModuli" "now" "LSharedModuli$State;") (List.mem_of_getElem? (i := 3) rfl)) (v := .ref b30) (congrArg (fun z => some (va_rf z)) e31) dX4_answer_32 ?_
        refine q_getN F hK hw.1 v_b30.1 (pF_3 (S := S) v_b30.2) (fun w h => List.mem_cons_of_mem _ (List.mem_append_left _ (List.mem_append_left _ (List.mem_append_left _ (List.mem_append_right _ h))))) rfl 4 (by decide) (nk_f_RX4_98 hK.2.1) (v := .int (fI S 52 b30)) rfl dX4_answer_35 ?_
        obtain ⟨t32, h33, hf⟩ := bd_some hf
        refine vp_callSi (va_runV (As := [.int (fI S 52 b30)]) (rest := []) F (c_X3_arePossible l D cy (H := _) hw.1 v_b28 h33) (cwV 1 hts gX4_answer_X3_arePossible rfl rfl rfl ⟨rfl, ph_X3_arePossible.1, ph_X3_arePossible.2, pd_X3_arePossible⟩ ⟨Nat.le_of_ble_eq_true rfl, Nat.le_of_ble_eq_true rfl⟩) ⟨PcR.bl, (q_rcv hK hw.1 v_b28.1 (pF_3 (S := S) v_b28.2) rfl), PcR.in hK⟩ rfl rfl hl.1 rfl (lv_room (Nat.le_of_ble_eq_true rfl)) dX4_answer_38 ⟨by show _ ≤ 1; omega, by show _ ≤ 6; omega⟩).run (fun r34 er34 => ?_)
        subst r34
        refine lv_if_ne (tgt := 48) hx hb dX4_answer_41 (by decide) (fun c35 => ?_) (fun c35 => ?_)
        · have hf := it_f c35 hf
          refine lv_aload_n hx hb dX4_answer_48 rfl (lv_at hl 0 rfl) ?_
          refine lv_aload_n hx hb dX4_answer_49 rfl (lv_at hl 0 rfl) ?_
          obtain ⟨b36, e37, v_b36, hf⟩ := rq_some hf
          refine q_get F hK hw.1 v_y0.1 (pF_4 (S := S) v_y0.2) (fun w h => List.mem_cons_of_mem _ (List.mem_append_left _ (List.mem_append_left _ (List.mem_append_left _ (List.mem_append_left _ (List.mem_append_right _ h)))))) rfl 0 (by decide) (hts (.fieldLink RX4 17 "SharedModuli" "now" "LSharedModuli$State;") (List.mem_of_getElem? (i := 3) rfl)) (v := .ref b36) (congrArg (fun z => some (va_rf z)) e37) dX4_answer_50 ?_
          refine q_getN F hK hw.1 v_b36.1 (pF_3 (S := S) v_b36.2) (fun w h => List.mem_cons_of_mem _ (List.mem_append_left _ (List.mem_append_left _ (List.mem_append_left _ (List.mem_append_right _ h))))) rfl 4 (by decide) (nk_f_RX4_98 hK.2.1) (v := .int (fI S 52 b36)) rfl dX4_answer_53 ?_
          obtain ⟨t38, h39, hf⟩ := bd_some hf
          refine q_callr (va_runV (As := [.int (fI S 52 b36)]) (rest := []) F (c_X4_join l D cy (S := S) v_y0 h39) (cwV 1 hts gX4_answer_X4_join rfl rfl rfl ⟨rfl, ph_X4_join.1, ph_X4_join.2, pd_X4_join⟩ ⟨Nat.le_of_ble_eq_true rfl, Nat.le_of_ble_eq_true rfl⟩) ⟨PcW.bl, (q_rcv hK hw.1 v_y0.1 (pF_4 (S := S) v_y0.2) rfl), PcW.in hK hw hA (fun z => z.elim)⟩ rfl rfl hl.1 rfl (lv_room (Nat.le_of_ble_eq_true rfl)) dX4_answer_56 ⟨by show _ ≤ 1; omega, by show _ ≤ 6; omega⟩) hw hA (fun H locs hw hX v_t38 => ?_)
          have hE := hE.tr hX
          have v_y0 := hX _ _ v_y0
          have v_b28 := hX _ _ v_b28
          have v_b30 := hX _ _ v_b30
          have v_b36 := hX _ _ v_b36
          refine lv_astore (lv' := [(4, .ref t38.1), (0, .ref y0), (1, .long y1), (3, .int y3)]) hx hb dX4_answer_59 hl (by decide) rfl (fun ls hl => ?_)
          refine lv_aload hx hb dX4_answer_61 (lv_at hl 0 rfl) ?_
          refine lv_lload_n hx hb dX4_answer_63 rfl (lv_at hl 2 rfl) ?_
          obtain ⟨t40, h41, hf⟩ := bd_some hf
          refine vp_callSl (va_runV (As := [.long y1]) (rest := []) F (c_X1_leastFrom l D cy (H := _) hw.1 v_t38 h41) (cwV 1 hts gX4_answer_X1_leastFrom rfl rfl rfl ⟨rfl, ph_X1_leastFrom.1, ph_X1_leastFrom.2, pd_X1_leastFrom⟩ ⟨Nat.le_of_ble_eq_true rfl, Nat.le_of_ble_eq_true rfl⟩) ⟨PcR.bl, (q_rcv hK hw.1 v_t38.1 (pF_1 (S := t38.2) v_t38.2) rfl), PcR.in hK⟩ rfl rfl hl.1 rfl (lv_room (Nat.le_of_ble_eq_true rfl)) dX4_answer_64 ⟨by show _ ≤ 1; omega, by show _ ≤ 6; omega⟩).run (fun r42 er42 => ?_)
          subst r42
          refine lv_iload_n hx hb dX4_answer_67 rfl (lv_at hl 3 rfl) ?_
          refine lv_i2l hx hb dX4_answer_68 rfl ?_
          refine lv_aload hx hb dX4_answer_69 (lv_at hl 0 rfl) ?_
          refine q_getN F hK hw.1 v_t38.1 (pF_1 (S := t38.2) v_t38.2) (fun w h => List.mem_cons_of_mem _ (List.mem_append_left _ (List.mem_append_left _ (List.mem_append_right _ h)))) rfl 0 (by decide) (nk_f_RX4_254 hK.2.1) (v := .long (fL t38.2 16 t38.1)) rfl dX4_answer_71 ?_
          refine lv_lmul hx hb dX4_answer_74 ?_
          refine lv_ladd hx hb dX4_answer_75 ?_
          refine vx_ret ?_
          refine W.widen (k := 1) (n := 6) (by omega) (by omega) ?_
          exact W.lret (v := (t40 + (y3.toInt64 * (fL t38.2 16 t38.1)))) hx hb hr (fun t ht hW => ⟨⟨_, (t38.2, n), rfl, po2t hf, BW.of hw hE ht⟩, hw.2.2.1.F ht⟩) hw.2.2.1.2.2 dX4_answer_76
        · have hf := it_t c35 hf
          refine lv_ldc2 hx hb hown (hts (.constantLong RX4 244 (-1)) (List.mem_of_getElem? (i := 4) rfl)) dX4_answer_44 ?_
          refine vx_ret ?_
          refine W.widen (k := 1) (n := 6) (by omega) (by omega) ?_
          exact W.lret (v := ((-1))) hx hb hr (fun t ht hW => ⟨⟨_, (S, n), rfl, po2t hf, BW.of hw hE ht⟩, hw.2.2.1.F ht⟩) hw.2.2.1.2.2 dX4_answer_47
      · have hf := it_f c27 hf
        exact hB17 S _ _ _ _ (by omega) (by omega) _ (lv_sub hl [] rfl) hw hE  hf
def f_X4_nearest_B93 (S : PS) (s0 : Int64) : Option ((Int64 ⊕ Nat) × PS) :=
  some (.inl s0, S)
def f_X4_nearest_B91 (S : PS) (x4 : Int64) : Option ((Int64 ⊕ Nat) × PS) :=
  f_X4_nearest_B93 S x4
def f_X4_nearest (S : PS) (x0 : Nat) (x1 : Int64) : Option ((Int64 ⊕ Nat) × PS) :=
  bd (f_X4_isNumber x1) fun t1 =>
  if t1 = 0 then (some (.inr 0, S)) else
  rq (fR S 64 x0) S 3 fun b5 =>
  rq (fR S 64 x0) S 3 fun b7 =>
  bd (f_X3_arePossible S b5 (fI S 52 b7)) fun t9 =>
  if t9 = 0 then (some (.inl ((-1)), S)) else
  rq (fR S 64 x0) S 3 fun b13 =>
  bd (f_X4_join S x0 (fI S 52 b13)) fun t15 =>
  bd (f_X1_leastFrom t15.2 t15.1 x1) fun t17 =>
  if (t17 - (fL t15.2 16 t15.1)) < 0 then (f_X4_nearest_B91 t15.2 t17) else
  if (t17 - x1) < (x1 - (t17 - (fL t15.2 16 t15.1))) then (f_X4_nearest_B91 t15.2 t17) else
  f_X4_nearest_B93 t15.2 (t17 - (fL t15.2 16 t15.1))
set_option maxHeartbeats 4000000 in
set_option maxRecDepth 100000 in
theorem c_X4_nearest (l : Launch) (hst : l.stackTraces = false) (D : va_G) (cy : cyT) {S : PS} {n : Nat} {y0 : Nat} {y1 : Int64} (v_y0 : vd S y0 4) {res : (Int64 ⊕ Nat) × PS} (hf : f_X4_nearest S y0 y1 = some res) : vx_Met l yX4_nearest wsX4_nearest ({ frames := 6, cells := 1, slots := 6, locals := 90 } : Room) (PcW True D cy S n [.ref y0, .long y1]) (va_Ql (fun (r : Int64) (u : PS × Nat) => Sum.inl r = res.1 ∧ u = (res.2, n)) (BW D cy S n) (AA cy S n)) (vx_X (fun k : Nat => res.1 = .inr k) (fun E k t => XO D cy S n res.2 E k t) (AA cy S n)) 1 6 (AA cy S n) := by
  refine vx_ofW (cc := cX4_nearest) (maxL := 8) (ret := (some .long)) (by decide) rfl ?_
  intro p e s m args below meth c s₁ B hml hex hv
  obtain ⟨hav, hsz, hP0, hD0, hK, hZ0⟩ := hv
  have hx := B.exec
  have hb := B.bytes
  have hr := B.returns
  have hts := atoms_spec (ws := wsX4_nearest) B.pre
  have hown : s.vm.findClass RX4 = some m.cls := findClass_of_methodNamed B.named
  have hlocks := B.notSynchronized
  subst hav
  have hw : Hw D cy (AA cy S n) s.heap S n s.heap [] := Hw.start hsz hP0 hD0
  have hA : ∀ q, s.heap.size ≤ q → AA cy S n q := fun q h => Or.inr (hsz ▸ h)
  have hE : EX S S := EX.rf
  have hZ := hZ0 trivial
  have F : CallFix p m c cX4_nearest 8 s _ wsX4_nearest RX4 := ⟨hx, hb, hml, hown, hts⟩
  have hB93 : ∀ (Sb : PS) (H1 : Heap) (lo1 : List Loc) (kc ks : Nat) (_ : kc + 0 ≤ 1) (_ : ks + 0 ≤ 6) (s0 : Int64) (ls : Array Slot), lv_has ls 8 [] → Hw D cy (AA cy S n) s.heap Sb n H1 lo1 → EX S Sb → f_X4_nearest_B93 Sb s0 = some res → W p l e (headSpec wsX4_nearest ({ frames := 6, cells := 1, slots := 6, locals := 90 } : Room)).room s m ([.ref y0, .long y1] : List Value).toArray below meth c H1 lo1 kc ks (vx_MQ below (va_Ql (fun (r : Int64) (u : PS × Nat) => Sum.inl r = res.1 ∧ u = (res.2, n)) (BW D cy S n) (AA cy S n)) (vx_X (fun k : Nat => res.1 = .inr k) (fun E k t => XO D cy S n res.2 E k t) (AA cy S n)) ([.ref y0, .long y1] : List Value).toArray s 1 6 (AA cy S n)) (F0 m 93 ls [.long s0]) := by
    intro Sb H1 lo1 kc ks hkc hks s0 ls hl hw hE hf
    unfold f_X4_nearest_B93 at hf
    refine vx_ret ?_
    refine W.widen (k := 1) (n := 6) (by omega) (by omega) ?_
    exact W.lret (v := s0) hx hb hr (fun t ht hW => ⟨⟨_, (Sb, n), rfl, po2t hf, BW.of hw hE ht⟩, hw.2.2.1.F ht⟩) hw.2.2.1.2.2 dX4_nearest_93
  have hB91 : ∀ (Sb : PS) (H1 : Heap) (lo1 : List Loc) (kc ks : Nat) (_ : kc + 0 ≤ 1) (_ : ks + 0 ≤ 6) (x4 : Int64) (ls : Array Slot), lv_has ls 8 [(4, .long x4)] → Hw D cy (AA cy S n) s.heap Sb n H1 lo1 → EX S Sb → f_X4_nearest_B91 Sb x4 = some res → W p l e (headSpec wsX4_nearest ({ frames := 6, cells := 1, slots := 6, locals := 90 } : Room)).room s m ([.ref y0, .long y1] : List Value).toArray below meth c H1 lo1 kc ks (vx_MQ below (va_Ql (fun (r : Int64) (u : PS × Nat) => Sum.inl r = res.1 ∧ u = (res.2, n)) (BW D cy S n) (AA cy S n)) (vx_X (fun k : Nat => res.1 = .inr k) (fun E k t => XO D cy S n res.2 E k t) (AA cy S n)) ([.ref y0, .long y1] : List Value).toArray s 1 6 (AA cy S n)) (F0 m 91 ls []) := by
    intro Sb H1 lo1 kc ks hkc hks x4 ls hl hw hE hf
    unfold f_X4_nearest_B91 at hf
    refine lv_lload hx hb dX4_nearest_91 (lv_at hl 0 rfl) ?_
    exact hB93 Sb _ _ _ _ (by omega) (by omega) x4 _ (lv_sub hl [] rfl) hw hE  hf
  have hl := lv_entry ([.ref y0, .long y1]) (n := 8) (Nat.le_of_ble_eq_true rfl)
  rw [lg_entry_eq]
  generalize (lg_sl ([.ref y0, .long y1]) ++ List.replicate (8 - (lg_sl ([.ref y0, .long y1])).length) Slot.unset).toArray = ls at hl ⊢
  have hl : lv_has ls 8 [(0, .ref y0), (1, .long y1)] := hl
  unfold f_X4_nearest at hf
  refine lv_lload_n hx hb dX4_nearest_0 rfl (lv_at hl 1 rfl) ?_
  obtain ⟨t22, h23, hf⟩ := bd_some hf
  refine vp_callSi (va_runS (As := [.long y1]) (rest := []) F (c_X4_isNumber l D cy (H := _)  h23) (va_cwS 1 hts gX4_nearest_X4_isNumber rfl rfl rfl ⟨ph_X4_isNumber.1, ph_X4_isNumber.2, pd_X4_isNumber⟩ ⟨Nat.le_of_ble_eq_true rfl, Nat.le_of_ble_eq_true rfl⟩) ⟨PcR.bl, PcR.in hK⟩ rfl rfl hl.1 rfl (lv_room (Nat.le_of_ble_eq_true rfl)) dX4_nearest_1 ⟨by show _ ≤ 1; omega, by show _ ≤ 6; omega⟩).run (fun r24 er24 => ?_)
  subst r24
  refine lv_if_ne (tgt := 18) hx hb dX4_nearest_4 (by decide) (fun c25 => ?_) (fun c25 => ?_)
  · have hf := it_f c25 hf
    refine lv_aload_n hx hb dX4_nearest_18 rfl (lv_at hl 0 rfl) ?_
    obtain ⟨b26, e27, v_b26, hf⟩ := rq_some hf
    refine q_get F hK hw.1 v_y0.1 (pF_4 (S := S) v_y0.2) (fun w h => List.mem_cons_of_mem _ (List.mem_append_left _ (List.mem_append_left _ (List.mem_append_left _ (List.mem_append_left _ (List.mem_append_right _ h)))))) rfl 0 (by decide) (hts (.fieldLink RX4 17 "SharedModuli" "now" "LSharedModuli$State;") (List.mem_of_getElem? (i := 3) rfl)) (v := .ref b26) (congrArg (fun z => some (va_rf z)) e27) dX4_nearest_19 ?_
    refine lv_aload_n hx hb dX4_nearest_22 rfl (lv_at hl 0 rfl) ?_
    obtain ⟨b28, e29, v_b28, hf⟩ := rq_some hf
    refine q_get F hK hw.1 v_y0.1 (pF_4 (S := S) v_y0.2) (fun w h => List.mem_cons_of_mem _ (List.mem_append_left _ (List.mem_append_left _ (List.mem_append_left _ (List.mem_append_left _ (List.mem_append_right _ h)))))) rfl 0 (by decide) (hts (.fieldLink RX4 17 "SharedModuli" "now" "LSharedModuli$State;") (List.mem_of_getElem? (i := 3) rfl)) (v := .ref b28) (congrArg (fun z => some (va_rf z)) e29) dX4_nearest_23 ?_
    refine q_getN F hK hw.1 v_b28.1 (pF_3 (S := S) v_b28.2) (fun w h => List.mem_cons_of_mem _ (List.mem_append_left _ (List.mem_append_left _ (List.mem_append_left _ (List.mem_append_right _ h))))) rfl 4 (by decide) (nk_f_RX4_98 hK.2.1) (v := .int (fI S 52 b28)) rfl dX4_nearest_26 ?_
    obtain ⟨t30, h31, hf⟩ := bd_some hf
    refine vp_callSi (va_runV (As := [.int (fI S 52 b28)]) (rest := []) F (c_X3_arePossible l D cy (H := _) hw.1 v_b26 h31) (cwV 1 hts gX4_nearest_X3_arePossible rfl rfl rfl ⟨rfl, ph_X3_arePossible.1, ph_X3_arePossible.2, pd_X3_arePossible⟩ ⟨Nat.le_of_ble_eq_true rfl, Nat.le_of_ble_eq_true rfl⟩) ⟨PcR.bl, (q_rcv hK hw.1 v_b26.1 (pF_3 (S := S) v_b26.2) rfl), PcR.in hK⟩ rfl rfl hl.1 rfl (lv_room (Nat.le_of_ble_eq_true rfl)) dX4_nearest_29 ⟨by show _ ≤ 1; omega, by show _ ≤ 6; omega⟩).run (fun r32 er32 => ?_)
    subst r32
    refine lv_if_ne (tgt := 39) hx hb dX4_nearest_32 (by decide) (fun c33 => ?_) (fun c33 => ?_)
    · have hf := it_f c33 hf
      refine lv_aload_n hx hb dX4_nearest_39 rfl (lv_at hl 0 rfl) ?_
      refine lv_aload_n hx hb dX4_nearest_40 rfl (lv_at hl 0 rfl) ?_
      obtain ⟨b34, e35, v_b34, hf⟩ := rq_some hf
      refine q_get F hK hw.1 v_y0.1 (pF_4 (S := S) v_y0.2) (fun w h => List.mem_cons_of_mem _ (List.mem_append_left _ (List.mem_append_left _ (List.mem_append_left _ (List.mem_append_left _ (List.mem_append_right _ h)))))) rfl 0 (by decide) (hts (.fieldLink RX4 17 "SharedModuli" "now" "LSharedModuli$State;") (List.mem_of_getElem? (i := 3) rfl)) (v := .ref b34) (congrArg (fun z => some (va_rf z)) e35) dX4_nearest_41 ?_
      refine q_getN F hK hw.1 v_b34.1 (pF_3 (S := S) v_b34.2) (fun w h => List.mem_cons_of_mem _ (List.mem_append_left _ (List.mem_append_left _ (List.mem_append_left _ (List.mem_append_right _ h))))) rfl 4 (by decide) (nk_f_RX4_98 hK.2.1) (v := .int (fI S 52 b34)) rfl dX4_nearest_44 ?_
      obtain ⟨t36, h37, hf⟩ := bd_some hf
      refine q_callr (va_runV (As := [.int (fI S 52 b34)]) (rest := []) F (c_X4_join l D cy (S := S) v_y0 h37) (cwV 1 hts gX4_nearest_X4_join rfl rfl rfl ⟨rfl, ph_X4_join.1, ph_X4_join.2, pd_X4_join⟩ ⟨Nat.le_of_ble_eq_true rfl, Nat.le_of_ble_eq_true rfl⟩) ⟨PcW.bl, (q_rcv hK hw.1 v_y0.1 (pF_4 (S := S) v_y0.2) rfl), PcW.in hK hw hA (fun z => z.elim)⟩ rfl rfl hl.1 rfl (lv_room (Nat.le_of_ble_eq_true rfl)) dX4_nearest_47 ⟨by show _ ≤ 1; omega, by show _ ≤ 6; omega⟩) hw hA (fun H locs hw hX v_t36 => ?_)
      have hE := hE.tr hX
      have v_y0 := hX _ _ v_y0
      have v_b26 := hX _ _ v_b26
      have v_b28 := hX _ _ v_b28
      have v_b34 := hX _ _ v_b34
      refine lv_astore_n (lv' := [(3, .ref t36.1), (0, .ref y0), (1, .long y1)]) hx hb dX4_nearest_50 rfl hl (by decide) rfl (fun ls hl => ?_)
      refine lv_aload_n hx hb dX4_nearest_51 rfl (lv_at hl 0 rfl) ?_
      refine lv_lload_n hx hb dX4_nearest_52 rfl (lv_at hl 2 rfl) ?_
      obtain ⟨t38, h39, hf⟩ := bd_some hf
      refine vp_callSl (va_runV (As := [.long y1]) (rest := []) F (c_X1_leastFrom l D cy (H := _) hw.1 v_t36 h39) (cwV 1 hts gX4_nearest_X1_leastFrom rfl rfl rfl ⟨rfl, ph_X1_leastFrom.1, ph_X1_leastFrom.2, pd_X1_leastFrom⟩ ⟨Nat.le_of_ble_eq_true rfl, Nat.le_of_ble_eq_true rfl⟩) ⟨PcR.bl, (q_rcv hK hw.1 v_t36.1 (pF_1 (S := t36.2) v_t36.2) rfl), PcR.in hK⟩ rfl rfl hl.1 rfl (lv_room (Nat.le_of_ble_eq_true rfl)) dX4_nearest_53 ⟨by show _ ≤ 1; omega, by show _ ≤ 6; omega⟩).run (fun r40 er40 => ?_)
      subst r40
      refine lv_lstore (lv' := [(4, .long t38), (3, .ref t36.1), (0, .ref y0), (1, .long y1)]) hx hb dX4_nearest_56 hl (by decide) rfl (fun ls hl => ?_)
      refine lv_lload hx hb dX4_nearest_58 (lv_at hl 0 rfl) ?_
      refine lv_aload_n hx hb dX4_nearest_60 rfl (lv_at hl 1 rfl) ?_
      refine q_getN F hK hw.1 v_t36.1 (pF_1 (S := t36.2) v_t36.2) (fun w h => List.mem_cons_of_mem _ (List.mem_append_left _ (List.mem_append_left _ (List.mem_append_right _ h)))) rfl 0 (by decide) (nk_f_RX4_254 hK.2.1) (v := .long (fL t36.2 16 t36.1)) rfl dX4_nearest_61 ?_
      refine lv_lsub hx hb dX4_nearest_64 ?_
      refine lv_lstore (lv' := [(6, .long (t38 - (fL t36.2 16 t36.1))), (4, .long t38), (3, .ref t36.1), (0, .ref y0), (1, .long y1)]) hx hb dX4_nearest_65 hl (by decide) rfl (fun ls hl => ?_)
      refine lv_lload hx hb dX4_nearest_67 (lv_at hl 0 rfl) ?_
      refine lv_lconst (v := 0) hx hb dX4_nearest_69 (by decide) ?_
      refine W.lcmp hx hb dX4_nearest_70 ?_
      refine lv_if_lt (tgt := 91) hx hb dX4_nearest_71 (by decide) (fun c41 => ?_) (fun c41 => ?_)
      · have hf := it_t ((lq_lt _ _).mp c41) hf
        exact hB91 t36.2 _ _ _ _ (by omega) (by omega) t38 _ (lv_sub hl [1] rfl) hw hE  hf
      · have hf := it_f (fun z => c41 ((lq_lt _ _).mpr z)) hf
        refine lv_lload_n hx hb dX4_nearest_74 rfl (lv_at hl 4 rfl) ?_
        refine lv_lload hx hb dX4_nearest_75 (lv_at hl 0 rfl) ?_
        refine lv_lsub hx hb dX4_nearest_77 ?_
        refine lv_lload hx hb dX4_nearest_78 (lv_at hl 1 rfl) ?_
        refine lv_lload_n hx hb dX4_nearest_80 rfl (lv_at hl 4 rfl) ?_
        refine lv_lsub hx hb dX4_nearest_81 ?_
        refine W.lcmp hx hb dX4_nearest_82 ?_
        refine lv_if_gt (tgt := 91) hx hb dX4_nearest_83 (by decide) (fun c42 => ?_) (fun c42 => ?_)
        · have hf := it_t ((lq_gt _ _).mp c42) hf
          exact hB91 t36.2 _ _ _ _ (by omega) (by omega) t38 _ (lv_sub hl [1] rfl) hw hE  hf
        · have hf := it_f (fun z => c42 ((lq_gt _ _).mpr z)) hf
          refine lv_lload hx hb dX4_nearest_86 (lv_at hl 0 rfl) ?_
          refine lv_goto (tgt := 93) hx hb dX4_nearest_88 (by decide) ?_
          exact hB93 t36.2 _ _ _ _ (by omega) (by omega) (t38 - (fL t36.2 16 t36.1)) _ (lv_sub hl [] rfl) hw hE  hf
    · have hf := it_t c33 hf
      refine lv_ldc2 hx hb hown (hts (.constantLong RX4 244 (-1)) (List.mem_of_getElem? (i := 4) rfl)) dX4_nearest_35 ?_
      refine vx_ret ?_
      refine W.widen (k := 1) (n := 6) (by omega) (by omega) ?_
      exact W.lret (v := ((-1))) hx hb hr (fun t ht hW => ⟨⟨_, (S, n), rfl, po2t hf, BW.of hw hE ht⟩, hw.2.2.1.F ht⟩) hw.2.2.1.2.2 dX4_nearest_38
  · have hf := it_t c25 hf
    obtain ⟨sa, hsa⟩ := sk_257 hK.2.2.1
    refine vx_throwSW hx hb hst (names := ["java/lang/RuntimeException", "java/lang/Exception"]) hown (by decide +kernel) (by decide +kernel) (hts (.classLink RX4 59 "java/lang/IllegalArgumentException") (List.mem_of_getElem? (i := 1) rfl)) (hts (.initialized "java/lang/IllegalArgumentException") (List.mem_of_getElem? (i := 2) rfl)) hsa (vx_hat (B := xb_63) (fun w h => hts w (List.mem_cons_of_mem _ (List.mem_append_right _ h))) xn_63 (xk_63 hK.2.2.2.2.2)) xg_63 hZ.1 hZ.2.1 hw.2.2.1 (hl.1.trans hml.symm) dX4_nearest_7 dX4_nearest_10 dX4_nearest_11 dX4_nearest_14 dX4_nearest_17 (fun x h => (hex x h).elim) (Nat.le_of_ble_eq_true rfl) (Nat.le_of_ble_eq_true rfl) (by show _ ≤ 1; omega) (by show _ ≤ 6; omega) hlocks (fun t hvm hz hk => ?_) hw.2.2.1.2.2 (by omega) (by omega)
    exact xo_of hw hE hz hk (by show (_ : String) = _; rfl) (po2x hf).1 (po2x hf).2
def f_X4_between_B14 (S : PS) : Option ((Int64 ⊕ Nat) × PS) :=
  some (.inr 0, S)
def f_X4_between_B48 (S : PS) : Option ((Int64 ⊕ Nat) × PS) :=
  some (.inl 0, S)
def f_X4_between (S : PS) (x0 : Nat) (x1 : Int64) (x3 : Int64) : Option ((Int64 ⊕ Nat) × PS) :=
  bd (f_X4_isNumber x1) fun t1 =>
  if t1 = 0 then (f_X4_between_B14 S) else
  bd (f_X4_isNumber x3) fun t5 =>
  if t5 = 0 then (f_X4_between_B14 S) else
  if x3 < x1 then (f_X4_between_B48 S) else
  rq (fR S 64 x0) S 3 fun b10 =>
  rq (fR S 64 x0) S 3 fun b12 =>
  bd (f_X3_arePossible S b10 (fI S 52 b12)) fun t14 =>
  if t14 = 0 then (f_X4_between_B48 S) else
  rq (fR S 64 x0) S 3 fun b18 =>
  bd (f_X4_join S x0 (fI S 52 b18)) fun t20 =>
  bd (f_X1_answersUpTo t20.2 t20.1 x3) fun t22 =>
  bd (f_X1_answersUpTo t20.2 t20.1 (x1 - (1 : Int64))) fun t25 =>
  some (.inl (t22 - t25), t20.2)
set_option maxHeartbeats 4000000 in
set_option maxRecDepth 100000 in
theorem c_X4_between (l : Launch) (hst : l.stackTraces = false) (D : va_G) (cy : cyT) {S : PS} {n : Nat} {y0 : Nat} {y1 : Int64} {y3 : Int64} (v_y0 : vd S y0 4) {res : (Int64 ⊕ Nat) × PS} (hf : f_X4_between S y0 y1 y3 = some res) : vx_Met l yX4_between wsX4_between ({ frames := 6, cells := 1, slots := 6, locals := 90 } : Room) (PcW True D cy S n [.ref y0, .long y1, .long y3]) (va_Ql (fun (r : Int64) (u : PS × Nat) => Sum.inl r = res.1 ∧ u = (res.2, n)) (BW D cy S n) (AA cy S n)) (vx_X (fun k : Nat => res.1 = .inr k) (fun E k t => XO D cy S n res.2 E k t) (AA cy S n)) 1 6 (AA cy S n) := by
  refine vx_ofW (cc := cX4_between) (maxL := 6) (ret := (some .long)) (by decide) rfl ?_
  intro p e s m args below meth c s₁ B hml hex hv
  obtain ⟨hav, hsz, hP0, hD0, hK, hZ0⟩ := hv
  have hx := B.exec
  have hb := B.bytes
  have hr := B.returns
  have hts := atoms_spec (ws := wsX4_between) B.pre
  have hown : s.vm.findClass RX4 = some m.cls := findClass_of_methodNamed B.named
  have hlocks := B.notSynchronized
  subst hav
  have hw : Hw D cy (AA cy S n) s.heap S n s.heap [] := Hw.start hsz hP0 hD0
  have hA : ∀ q, s.heap.size ≤ q → AA cy S n q := fun q h => Or.inr (hsz ▸ h)
  have hE : EX S S := EX.rf
  have hZ := hZ0 trivial
  have F : CallFix p m c cX4_between 6 s _ wsX4_between RX4 := ⟨hx, hb, hml, hown, hts⟩
  have hB14 : ∀ (Sb : PS) (H1 : Heap) (lo1 : List Loc) (kc ks : Nat) (_ : kc + 1 ≤ 1) (_ : ks + 6 ≤ 6)  (ls : Array Slot), lv_has ls 6 [] → Hw D cy (AA cy S n) s.heap Sb n H1 lo1 → EX S Sb → f_X4_between_B14 Sb = some res → W p l e (headSpec wsX4_between ({ frames := 6, cells := 1, slots := 6, locals := 90 } : Room)).room s m ([.ref y0, .long y1, .long y3] : List Value).toArray below meth c H1 lo1 kc ks (vx_MQ below (va_Ql (fun (r : Int64) (u : PS × Nat) => Sum.inl r = res.1 ∧ u = (res.2, n)) (BW D cy S n) (AA cy S n)) (vx_X (fun k : Nat => res.1 = .inr k) (fun E k t => XO D cy S n res.2 E k t) (AA cy S n)) ([.ref y0, .long y1, .long y3] : List Value).toArray s 1 6 (AA cy S n)) (F0 m 14 ls []) := by
    intro Sb H1 lo1 kc ks hkc hks ls hl hw hE hf
    unfold f_X4_between_B14 at hf
    obtain ⟨sa, hsa⟩ := sk_259 hK.2.2.1
    refine vx_throwSW hx hb hst (names := ["java/lang/RuntimeException", "java/lang/Exception"]) hown (by decide +kernel) (by decide +kernel) (hts (.classLink RX4 59 "java/lang/IllegalArgumentException") (List.mem_of_getElem? (i := 1) rfl)) (hts (.initialized "java/lang/IllegalArgumentException") (List.mem_of_getElem? (i := 2) rfl)) hsa (vx_hat (B := xb_63) (fun w h => hts w (List.mem_cons_of_mem _ (List.mem_append_right _ h))) xn_63 (xk_63 hK.2.2.2.2.2)) xg_63 hZ.1 hZ.2.1 hw.2.2.1 (hl.1.trans hml.symm) dX4_between_14 dX4_between_17 dX4_between_18 dX4_between_21 dX4_between_24 (fun x h => (hex x h).elim) (Nat.le_of_ble_eq_true rfl) (Nat.le_of_ble_eq_true rfl) (by show _ ≤ 1; omega) (by show _ ≤ 6; omega) hlocks (fun t hvm hz hk => ?_) hw.2.2.1.2.2 (by omega) (by omega)
    exact xo_of hw hE hz hk (by show (_ : String) = _; rfl) (po2x hf).1 (po2x hf).2
  have hB48 : ∀ (Sb : PS) (H1 : Heap) (lo1 : List Loc) (kc ks : Nat) (_ : kc + 0 ≤ 1) (_ : ks + 0 ≤ 6)  (ls : Array Slot), lv_has ls 6 [] → Hw D cy (AA cy S n) s.heap Sb n H1 lo1 → EX S Sb → f_X4_between_B48 Sb = some res → W p l e (headSpec wsX4_between ({ frames := 6, cells := 1, slots := 6, locals := 90 } : Room)).room s m ([.ref y0, .long y1, .long y3] : List Value).toArray below meth c H1 lo1 kc ks (vx_MQ below (va_Ql (fun (r : Int64) (u : PS × Nat) => Sum.inl r = res.1 ∧ u = (res.2, n)) (BW D cy S n) (AA cy S n)) (vx_X (fun k : Nat => res.1 = .inr k) (fun E k t => XO D cy S n res.2 E k t) (AA cy S n)) ([.ref y0, .long y1, .long y3] : List Value).toArray s 1 6 (AA cy S n)) (F0 m 48 ls []) := by
    intro Sb H1 lo1 kc ks hkc hks ls hl hw hE hf
    unfold f_X4_between_B48 at hf
    refine lv_lconst (v := 0) hx hb dX4_between_48 (by decide) ?_
    refine vx_ret ?_
    refine W.widen (k := 1) (n := 6) (by omega) (by omega) ?_
    exact W.lret (v := 0) hx hb hr (fun t ht hW => ⟨⟨_, (Sb, n), rfl, po2t hf, BW.of hw hE ht⟩, hw.2.2.1.F ht⟩) hw.2.2.1.2.2 dX4_between_49
  have hl := lv_entry ([.ref y0, .long y1, .long y3]) (n := 6) (Nat.le_of_ble_eq_true rfl)
  rw [lg_entry_eq]
  generalize (lg_sl ([.ref y0, .long y1, .long y3]) ++ List.replicate (6 - (lg_sl ([.ref y0, .long y1, .long y3])).length) Slot.unset).toArray = ls at hl ⊢
  have hl : lv_has ls 6 [(0, .ref y0), (1, .long y1), (3, .long y3)] := hl
  unfold f_X4_between at hf
  refine lv_lload_n hx hb dX4_between_0 rfl (lv_at hl 1 rfl) ?_
  obtain ⟨t28, h29, hf⟩ := bd_some hf
  refine vp_callSi (va_runS (As := [.long y1]) (rest := []) F (c_X4_isNumber l D cy (H := _)  h29) (va_cwS 1 hts gX4_between_X4_isNumber rfl rfl rfl ⟨ph_X4_isNumber.1, ph_X4_isNumber.2, pd_X4_isNumber⟩ ⟨Nat.le_of_ble_eq_true rfl, Nat.le_of_ble_eq_true rfl⟩) ⟨PcR.bl, PcR.in hK⟩ rfl rfl hl.1 rfl (lv_room (Nat.le_of_ble_eq_true rfl)) dX4_between_1 ⟨by show _ ≤ 1; omega, by show _ ≤ 6; omega⟩).run (fun r30 er30 => ?_)
  subst r30
  refine lv_if_eq (tgt := 14) hx hb dX4_between_4 (by decide) (fun c31 => ?_) (fun c31 => ?_)
  · have hf := it_t c31 hf
    exact hB14 S _ _ _ _ (by omega) (by omega) _ (lv_sub hl [] rfl) hw hE  hf
  · have hf := it_f c31 hf
    refine lv_lload_n hx hb dX4_between_7 rfl (lv_at hl 2 rfl) ?_
    obtain ⟨t32, h33, hf⟩ := bd_some hf
    refine vp_callSi (va_runS (As := [.long y3]) (rest := []) F (c_X4_isNumber l D cy (H := _)  h33) (va_cwS 1 hts gX4_between_X4_isNumber rfl rfl rfl ⟨ph_X4_isNumber.1, ph_X4_isNumber.2, pd_X4_isNumber⟩ ⟨Nat.le_of_ble_eq_true rfl, Nat.le_of_ble_eq_true rfl⟩) ⟨PcR.bl, PcR.in hK⟩ rfl rfl hl.1 rfl (lv_room (Nat.le_of_ble_eq_true rfl)) dX4_between_8 ⟨by show _ ≤ 1; omega, by show _ ≤ 6; omega⟩).run (fun r34 er34 => ?_)
    subst r34
    refine lv_if_ne (tgt := 25) hx hb dX4_between_11 (by decide) (fun c35 => ?_) (fun c35 => ?_)
    · have hf := it_f c35 hf
      refine lv_lload_n hx hb dX4_between_25 rfl (lv_at hl 2 rfl) ?_
      refine lv_lload_n hx hb dX4_between_26 rfl (lv_at hl 1 rfl) ?_
      refine W.lcmp hx hb dX4_between_27 ?_
      refine lv_if_lt (tgt := 48) hx hb dX4_between_28 (by decide) (fun c36 => ?_) (fun c36 => ?_)
      · have hf := it_t ((lq_lt _ _).mp c36) hf
        exact hB48 S _ _ _ _ (by omega) (by omega) _ (lv_sub hl [] rfl) hw hE  hf
      · have hf := it_f (fun z => c36 ((lq_lt _ _).mpr z)) hf
        refine lv_aload_n hx hb dX4_between_31 rfl (lv_at hl 0 rfl) ?_
        obtain ⟨b37, e38, v_b37, hf⟩ := rq_some hf
        refine q_get F hK hw.1 v_y0.1 (pF_4 (S := S) v_y0.2) (fun w h => List.mem_cons_of_mem _ (List.mem_append_left _ (List.mem_append_left _ (List.mem_append_left _ (List.mem_append_left _ (List.mem_append_right _ h)))))) rfl 0 (by decide) (hts (.fieldLink RX4 17 "SharedModuli" "now" "LSharedModuli$State;") (List.mem_of_getElem? (i := 3) rfl)) (v := .ref b37) (congrArg (fun z => some (va_rf z)) e38) dX4_between_32 ?_
        refine lv_aload_n hx hb dX4_between_35 rfl (lv_at hl 0 rfl) ?_
        obtain ⟨b39, e40, v_b39, hf⟩ := rq_some hf
        refine q_get F hK hw.1 v_y0.1 (pF_4 (S := S) v_y0.2) (fun w h => List.mem_cons_of_mem _ (List.mem_append_left _ (List.mem_append_left _ (List.mem_append_left _ (List.mem_append_left _ (List.mem_append_right _ h)))))) rfl 0 (by decide) (hts (.fieldLink RX4 17 "SharedModuli" "now" "LSharedModuli$State;") (List.mem_of_getElem? (i := 3) rfl)) (v := .ref b39) (congrArg (fun z => some (va_rf z)) e40) dX4_between_36 ?_
        refine q_getN F hK hw.1 v_b39.1 (pF_3 (S := S) v_b39.2) (fun w h => List.mem_cons_of_mem _ (List.mem_append_left _ (List.mem_append_left _ (List.mem_append_left _ (List.mem_append_right _ h))))) rfl 4 (by decide) (nk_f_RX4_98 hK.2.1) (v := .int (fI S 52 b39)) rfl dX4_between_39 ?_
        obtain ⟨t41, h42, hf⟩ := bd_some hf
        refine vp_callSi (va_runV (As := [.int (fI S 52 b39)]) (rest := []) F (c_X3_arePossible l D cy (H := _) hw.1 v_b37 h42) (cwV 1 hts gX4_between_X3_arePossible rfl rfl rfl ⟨rfl, ph_X3_arePossible.1, ph_X3_arePossible.2, pd_X3_arePossible⟩ ⟨Nat.le_of_ble_eq_true rfl, Nat.le_of_ble_eq_true rfl⟩) ⟨PcR.bl, (q_rcv hK hw.1 v_b37.1 (pF_3 (S := S) v_b37.2) rfl), PcR.in hK⟩ rfl rfl hl.1 rfl (lv_room (Nat.le_of_ble_eq_true rfl)) dX4_between_42 ⟨by show _ ≤ 1; omega, by show _ ≤ 6; omega⟩).run (fun r43 er43 => ?_)
        subst r43
        refine lv_if_ne (tgt := 50) hx hb dX4_between_45 (by decide) (fun c44 => ?_) (fun c44 => ?_)
        · have hf := it_f c44 hf
          refine lv_aload_n hx hb dX4_between_50 rfl (lv_at hl 0 rfl) ?_
          refine lv_aload_n hx hb dX4_between_51 rfl (lv_at hl 0 rfl) ?_
          obtain ⟨b45, e46, v_b45, hf⟩ := rq_some hf
          refine q_get F hK hw.1 v_y0.1 (pF_4 (S := S) v_y0.2) (fun w h => List.mem_cons_of_mem _ (List.mem_append_left _ (List.mem_append_left _ (List.mem_append_left _ (List.mem_append_left _ (List.mem_append_right _ h)))))) rfl 0 (by decide) (hts (.fieldLink RX4 17 "SharedModuli" "now" "LSharedModuli$State;") (List.mem_of_getElem? (i := 3) rfl)) (v := .ref b45) (congrArg (fun z => some (va_rf z)) e46) dX4_between_52 ?_
          refine q_getN F hK hw.1 v_b45.1 (pF_3 (S := S) v_b45.2) (fun w h => List.mem_cons_of_mem _ (List.mem_append_left _ (List.mem_append_left _ (List.mem_append_left _ (List.mem_append_right _ h))))) rfl 4 (by decide) (nk_f_RX4_98 hK.2.1) (v := .int (fI S 52 b45)) rfl dX4_between_55 ?_
          obtain ⟨t47, h48, hf⟩ := bd_some hf
          refine q_callr (va_runV (As := [.int (fI S 52 b45)]) (rest := []) F (c_X4_join l D cy (S := S) v_y0 h48) (cwV 1 hts gX4_between_X4_join rfl rfl rfl ⟨rfl, ph_X4_join.1, ph_X4_join.2, pd_X4_join⟩ ⟨Nat.le_of_ble_eq_true rfl, Nat.le_of_ble_eq_true rfl⟩) ⟨PcW.bl, (q_rcv hK hw.1 v_y0.1 (pF_4 (S := S) v_y0.2) rfl), PcW.in hK hw hA (fun z => z.elim)⟩ rfl rfl hl.1 rfl (lv_room (Nat.le_of_ble_eq_true rfl)) dX4_between_58 ⟨by show _ ≤ 1; omega, by show _ ≤ 6; omega⟩) hw hA (fun H locs hw hX v_t47 => ?_)
          have hE := hE.tr hX
          have v_y0 := hX _ _ v_y0
          have v_b37 := hX _ _ v_b37
          have v_b39 := hX _ _ v_b39
          have v_b45 := hX _ _ v_b45
          refine lv_astore (lv' := [(5, .ref t47.1), (0, .ref y0), (1, .long y1), (3, .long y3)]) hx hb dX4_between_61 hl (by decide) rfl (fun ls hl => ?_)
          refine lv_aload hx hb dX4_between_63 (lv_at hl 0 rfl) ?_
          refine lv_lload_n hx hb dX4_between_65 rfl (lv_at hl 3 rfl) ?_
          obtain ⟨t49, h50, hf⟩ := bd_some hf
          refine vp_callSl (va_runV (As := [.long y3]) (rest := []) F (c_X1_answersUpTo l D cy (H := _) hw.1 v_t47 h50) (cwV 1 hts gX4_between_X1_answersUpTo rfl rfl rfl ⟨rfl, ph_X1_answersUpTo.1, ph_X1_answersUpTo.2, pd_X1_answersUpTo⟩ ⟨Nat.le_of_ble_eq_true rfl, Nat.le_of_ble_eq_true rfl⟩) ⟨PcR.bl, (q_rcv hK hw.1 v_t47.1 (pF_1 (S := t47.2) v_t47.2) rfl), PcR.in hK⟩ rfl rfl hl.1 rfl (lv_room (Nat.le_of_ble_eq_true rfl)) dX4_between_66 ⟨by show _ ≤ 1; omega, by show _ ≤ 6; omega⟩).run (fun r51 er51 => ?_)
          subst r51
          refine lv_aload hx hb dX4_between_69 (lv_at hl 0 rfl) ?_
          refine lv_lload_n hx hb dX4_between_71 rfl (lv_at hl 2 rfl) ?_
          refine lv_lconst (v := 1) hx hb dX4_between_72 (by decide) ?_
          refine lv_lsub hx hb dX4_between_73 ?_
          obtain ⟨t52, h53, hf⟩ := bd_some hf
          refine vp_callSl (va_runV (As := [.long (y1 - (1 : Int64))]) (rest := [.long t49]) F (c_X1_answersUpTo l D cy (H := _) hw.1 v_t47 h53) (cwV 1 hts gX4_between_X1_answersUpTo rfl rfl rfl ⟨rfl, ph_X1_answersUpTo.1, ph_X1_answersUpTo.2, pd_X1_answersUpTo⟩ ⟨Nat.le_of_ble_eq_true rfl, Nat.le_of_ble_eq_true rfl⟩) ⟨PcR.bl, (q_rcv hK hw.1 v_t47.1 (pF_1 (S := t47.2) v_t47.2) rfl), PcR.in hK⟩ rfl rfl hl.1 rfl (lv_room (Nat.le_of_ble_eq_true rfl)) dX4_between_74 ⟨by show _ ≤ 1; omega, by show _ ≤ 6; omega⟩).run (fun r54 er54 => ?_)
          subst r54
          refine lv_lsub hx hb dX4_between_77 ?_
          refine vx_ret ?_
          refine W.widen (k := 1) (n := 6) (by omega) (by omega) ?_
          exact W.lret (v := (t49 - t52)) hx hb hr (fun t ht hW => ⟨⟨_, (t47.2, n), rfl, po2t hf, BW.of hw hE ht⟩, hw.2.2.1.F ht⟩) hw.2.2.1.2.2 dX4_between_78
        · have hf := it_t c44 hf
          exact hB48 S _ _ _ _ (by omega) (by omega) _ (lv_sub hl [] rfl) hw hE  hf
    · have hf := it_t c35 hf
      exact hB14 S _ _ _ _ (by omega) (by omega) _ (lv_sub hl [] rfl) hw hE  hf
def f_X4_misses_B72 (S : PS) (x3 : Int32) : Option ((Int32 ⊕ Nat) × PS) :=
  some (.inl x3, S)
def f_X4_misses_B66 (kL23 : PS → Nat → Int64 → Int32 → Int32 → Option ((Int32 ⊕ Nat) × PS)) (ke72 : PS → Int32 → Option ((Int32 ⊕ Nat) × PS)) (S : PS) (x0 : Nat) (x1 : Int64) (x3 : Int32) (x4 : Int32) : Option ((Int32 ⊕ Nat) × PS) :=
  kL23 S x0 x1 x3 (x4 + 1)
def f_X4_misses_L23s (kL23 : PS → Nat → Int64 → Int32 → Int32 → Option ((Int32 ⊕ Nat) × PS)) (ke72 : PS → Int32 → Option ((Int32 ⊕ Nat) × PS)) (S : PS) (x0 : Nat) (x1 : Int64) (x3 : Int32) (x4 : Int32) : Option ((Int32 ⊕ Nat) × PS) :=
  rq (fR S 64 x0) S 3 fun b1 =>
  if (fI S 51 b1) ≤ x4 then (ke72 S x3) else
  rq (fR S 64 x0) S 3 fun b4 =>
  bd (f_X3_isOn S b4 x4) fun t6 =>
  if t6 = 0 then (f_X4_misses_B66 kL23 ke72 S x0 x1 x3 x4) else
  rq (fR S 64 x0) S 3 fun b10 =>
  bd (f_X3_at S b10 x4) fun t12 =>
  bd (f_X0_isFulfilledBy S t12 x1) fun t15 =>
  if t15 = 0 then (f_X4_misses_B66 kL23 ke72 S x0 x1 (x3 + 1) x4) else
  f_X4_misses_B66 kL23 ke72 S x0 x1 x3 x4
def f_X4_misses_L23 (ke72 : PS → Int32 → Option ((Int32 ⊕ Nat) × PS)) (fu : Nat) : PS → Nat → Int64 → Int32 → Int32 → Option ((Int32 ⊕ Nat) × PS) := fx (fun kL => f_X4_misses_L23s kL ke72) (fun _ _ _ _ _ => none) fu
def f_X4_misses (S : PS) (x0 : Nat) (x1 : Int64) : Option ((Int32 ⊕ Nat) × PS) :=
  bd (f_X4_isNumber x1) fun t19 =>
  if t19 = 0 then (some (.inr 0, S)) else
  f_X4_misses_L23 f_X4_misses_B72 11 S x0 x1 0 0
set_option maxHeartbeats 4000000 in
set_option maxRecDepth 100000 in
theorem c_X4_misses (l : Launch) (hst : l.stackTraces = false) (D : va_G) (cy : cyT) {S : PS} {n : Nat} {y0 : Nat} {y1 : Int64} (v_y0 : vd S y0 4) {res : (Int32 ⊕ Nat) × PS} (hf : f_X4_misses S y0 y1 = some res) : vx_Met l yX4_misses wsX4_misses ({ frames := 6, cells := 1, slots := 6, locals := 90 } : Room) (PcW True D cy S n [.ref y0, .long y1]) (va_Qi (fun (r : Int32) (u : PS × Nat) => Sum.inl r = res.1 ∧ u = (res.2, n)) (BW D cy S n) (AA cy S n)) (vx_X (fun k : Nat => res.1 = .inr k) (fun E k t => XO D cy S n res.2 E k t) (AA cy S n)) 1 6 (AA cy S n) := by
  refine vx_ofW (cc := cX4_misses) (maxL := 5) (ret := (some .int)) (by decide) rfl ?_
  intro p e s m args below meth c s₁ B hml hex hv
  obtain ⟨hav, hsz, hP0, hD0, hK, hZ0⟩ := hv
  have hx := B.exec
  have hb := B.bytes
  have hr := B.returns
  have hts := atoms_spec (ws := wsX4_misses) B.pre
  have hown : s.vm.findClass RX4 = some m.cls := findClass_of_methodNamed B.named
  have hlocks := B.notSynchronized
  subst hav
  have hw : Hw D cy (AA cy S n) s.heap S n s.heap [] := Hw.start hsz hP0 hD0
  have hA : ∀ q, s.heap.size ≤ q → AA cy S n q := fun q h => Or.inr (hsz ▸ h)
  have hE : EX S S := EX.rf
  have hZ := hZ0 trivial
  have F : CallFix p m c cX4_misses 5 s _ wsX4_misses RX4 := ⟨hx, hb, hml, hown, hts⟩
  have hB72 : ∀ (Sb : PS) (H1 : Heap) (lo1 : List Loc) (kc ks : Nat) (_ : kc + 0 ≤ 1) (_ : ks + 0 ≤ 6) (x3 : Int32) (ls : Array Slot), lv_has ls 5 [(3, .int x3)] → Hw D cy (AA cy S n) s.heap Sb n H1 lo1 → EX S Sb → f_X4_misses_B72 Sb x3 = some res → W p l e (headSpec wsX4_misses ({ frames := 6, cells := 1, slots := 6, locals := 90 } : Room)).room s m ([.ref y0, .long y1] : List Value).toArray below meth c H1 lo1 kc ks (vx_MQ below (va_Qi (fun (r : Int32) (u : PS × Nat) => Sum.inl r = res.1 ∧ u = (res.2, n)) (BW D cy S n) (AA cy S n)) (vx_X (fun k : Nat => res.1 = .inr k) (fun E k t => XO D cy S n res.2 E k t) (AA cy S n)) ([.ref y0, .long y1] : List Value).toArray s 1 6 (AA cy S n)) (F0 m 72 ls []) := by
    intro Sb H1 lo1 kc ks hkc hks x3 ls hl hw hE hf
    unfold f_X4_misses_B72 at hf
    refine lv_iload_n hx hb dX4_misses_72 rfl (lv_at hl 0 rfl) ?_
    refine vx_ret ?_
    refine W.widen (k := 1) (n := 6) (by omega) (by omega) ?_
    exact W.iret (v := x3) hx hb hr (fun t ht hW => ⟨⟨_, (Sb, n), rfl, po2t hf, BW.of hw hE ht⟩, hw.2.2.1.F ht⟩) hw.2.2.1.2.2 dX4_misses_73
  have hL23 : ∀ (fu23 : Nat), ∀ (Sb : PS) (H1 : Heap) (lo1 : List Loc) (kc ks : Nat) (_ : kc + (fu23 * 0 + 0) ≤ 1) (_ : ks + (fu23 * 0 + 0) ≤ 6) (x0 : Nat) (x1 : Int64) (x3 : Int32) (x4 : Int32) (ls : Array Slot), lv_has ls 5 [(0, .ref x0), (1, .long x1), (3, .int x3), (4, .int x4)] → Hw D cy (AA cy S n) s.heap Sb n H1 lo1 → EX S Sb → vd Sb x0 4 → f_X4_misses_L23 f_X4_misses_B72 fu23 Sb x0 x1 x3 x4 = some res → W p l e (headSpec wsX4_misses ({ frames := 6, cells := 1, slots := 6, locals := 90 } : Room)).room s m ([.ref y0, .long y1] : List Value).toArray below meth c H1 lo1 kc ks (vx_MQ below (va_Qi (fun (r : Int32) (u : PS × Nat) => Sum.inl r = res.1 ∧ u = (res.2, n)) (BW D cy S n) (AA cy S n)) (vx_X (fun k : Nat => res.1 = .inr k) (fun E k t => XO D cy S n res.2 E k t) (AA cy S n)) ([.ref y0, .long y1] : List Value).toArray s 1 6 (AA cy S n)) (F0 m 23 ls []) := by
    intro fu23
    induction fu23 with
    | zero =>
      intro Sb H1 lo1 kc ks hkc hks x0 x1 x3 x4 ls hl hw hE v_x0 hf
      have hf : (none : Option ((Int32 ⊕ Nat) × PS)) = some res := hf
      cases hf
    | succ fu23 ih23 =>
      have hB66 : ∀ (Sb : PS) (H1 : Heap) (lo1 : List Loc) (kc ks : Nat) (_ : kc + (0 + fu23 * 0 + 0) ≤ 1) (_ : ks + (0 + fu23 * 0 + 0) ≤ 6) (x0 : Nat) (x1 : Int64) (x3 : Int32) (x4 : Int32) (ls : Array Slot), lv_has ls 5 [(0, .ref x0), (1, .long x1), (3, .int x3), (4, .int x4)] → Hw D cy (AA cy S n) s.heap Sb n H1 lo1 → EX S Sb → vd Sb x0 4 → f_X4_misses_B66 (f_X4_misses_L23 f_X4_misses_B72 fu23) f_X4_misses_B72 Sb x0 x1 x3 x4 = some res → W p l e (headSpec wsX4_misses ({ frames := 6, cells := 1, slots := 6, locals := 90 } : Room)).room s m ([.ref y0, .long y1] : List Value).toArray below meth c H1 lo1 kc ks (vx_MQ below (va_Qi (fun (r : Int32) (u : PS × Nat) => Sum.inl r = res.1 ∧ u = (res.2, n)) (BW D cy S n) (AA cy S n)) (vx_X (fun k : Nat => res.1 = .inr k) (fun E k t => XO D cy S n res.2 E k t) (AA cy S n)) ([.ref y0, .long y1] : List Value).toArray s 1 6 (AA cy S n)) (F0 m 66 ls []) := by
        intro Sb H1 lo1 kc ks hkc hks x0 x1 x3 x4 ls hl hw hE v_x0 hf
        unfold f_X4_misses_B66 at hf
        refine lv_iinc (v := x4 + 1) (lv' := [(4, .int (x4 + 1)), (0, .ref x0), (1, .long x1), (3, .int x3)]) hx hb dX4_misses_66 hl (k := 3) rfl (by rfl) (by decide) rfl (fun ls hl => ?_)
        refine lv_goto (tgt := 23) hx hb dX4_misses_69 (by decide) ?_
        exact ih23 Sb _ _ _ _ (by omega) (by omega) x0 x1 x3 (x4 + 1) _ (lv_sub hl [1, 2, 3, 0] rfl) hw hE v_x0 hf
      intro Sb H1 lo1 kc ks hkc hks x0 x1 x3 x4 ls hl hw hE v_x0 hf
      have hf : f_X4_misses_L23s (f_X4_misses_L23 f_X4_misses_B72 fu23) f_X4_misses_B72 Sb x0 x1 x3 x4 = some res := hf
      unfold f_X4_misses_L23s at hf
      refine lv_iload hx hb dX4_misses_23 (lv_at hl 3 rfl) ?_
      refine lv_aload_n hx hb dX4_misses_25 rfl (lv_at hl 0 rfl) ?_
      obtain ⟨b23, e24, v_b23, hf⟩ := rq_some hf
      refine q_get F hK hw.1 v_x0.1 (pF_4 (S := Sb) v_x0.2) (fun w h => List.mem_cons_of_mem _ (List.mem_append_left _ (List.mem_append_left _ (List.mem_append_left _ (List.mem_append_right _ h))))) rfl 0 (by decide) (hts (.fieldLink RX4 17 "SharedModuli" "now" "LSharedModuli$State;") (List.mem_of_getElem? (i := 3) rfl)) (v := .ref b23) (congrArg (fun z => some (va_rf z)) e24) dX4_misses_26 ?_
      refine q_getN F hK hw.1 v_b23.1 (pF_3 (S := Sb) v_b23.2) (fun w h => List.mem_cons_of_mem _ (List.mem_append_left _ (List.mem_append_left _ (List.mem_append_right _ h)))) rfl 3 (by decide) (nk_f_RX4_95 hK.2.1) (v := .int (fI Sb 51 b23)) rfl dX4_misses_29 ?_
      refine lv_icmp_ge (tgt := 72) hx hb dX4_misses_32 (by decide) (fun c25 => ?_) (fun c25 => ?_)
      · have hf := it_t c25 hf
        exact hB72 Sb _ _ _ _ (by omega) (by omega) x3 _ (lv_sub hl [2] rfl) hw hE  hf
      · have hf := it_f c25 hf
        refine lv_aload_n hx hb dX4_misses_35 rfl (lv_at hl 0 rfl) ?_
        obtain ⟨b26, e27, v_b26, hf⟩ := rq_some hf
        refine q_get F hK hw.1 v_x0.1 (pF_4 (S := Sb) v_x0.2) (fun w h => List.mem_cons_of_mem _ (List.mem_append_left _ (List.mem_append_left _ (List.mem_append_left _ (List.mem_append_right _ h))))) rfl 0 (by decide) (hts (.fieldLink RX4 17 "SharedModuli" "now" "LSharedModuli$State;") (List.mem_of_getElem? (i := 3) rfl)) (v := .ref b26) (congrArg (fun z => some (va_rf z)) e27) dX4_misses_36 ?_
        refine lv_iload hx hb dX4_misses_39 (lv_at hl 3 rfl) ?_
        obtain ⟨t28, h29, hf⟩ := bd_some hf
        refine vp_callSi (va_runV (As := [.int x4]) (rest := []) F (c_X3_isOn l D cy (H := _) hw.1 v_b26 h29) (cwV 1 hts gX4_misses_X3_isOn rfl rfl rfl ⟨rfl, ph_X3_isOn.1, ph_X3_isOn.2, pd_X3_isOn⟩ ⟨Nat.le_of_ble_eq_true rfl, Nat.le_of_ble_eq_true rfl⟩) ⟨PcR.bl, (q_rcv hK hw.1 v_b26.1 (pF_3 (S := Sb) v_b26.2) rfl), PcR.in hK⟩ rfl rfl hl.1 rfl (lv_room (Nat.le_of_ble_eq_true rfl)) dX4_misses_41 ⟨by show _ ≤ 1; omega, by show _ ≤ 6; omega⟩).run (fun r30 er30 => ?_)
        subst r30
        refine lv_if_eq (tgt := 66) hx hb dX4_misses_44 (by decide) (fun c31 => ?_) (fun c31 => ?_)
        · have hf := it_t c31 hf
          exact hB66 Sb _ _ _ _ (by omega) (by omega) x0 x1 x3 x4 _ (lv_sub hl [0, 1, 2, 3] rfl) hw hE v_x0 hf
        · have hf := it_f c31 hf
          refine lv_aload_n hx hb dX4_misses_47 rfl (lv_at hl 0 rfl) ?_
          obtain ⟨b32, e33, v_b32, hf⟩ := rq_some hf
          refine q_get F hK hw.1 v_x0.1 (pF_4 (S := Sb) v_x0.2) (fun w h => List.mem_cons_of_mem _ (List.mem_append_left _ (List.mem_append_left _ (List.mem_append_left _ (List.mem_append_right _ h))))) rfl 0 (by decide) (hts (.fieldLink RX4 17 "SharedModuli" "now" "LSharedModuli$State;") (List.mem_of_getElem? (i := 3) rfl)) (v := .ref b32) (congrArg (fun z => some (va_rf z)) e33) dX4_misses_48 ?_
          refine lv_iload hx hb dX4_misses_51 (lv_at hl 3 rfl) ?_
          obtain ⟨t34, h35, hf⟩ := bd_some hf
          refine va_csr (va_runV (As := [.int x4]) (rest := []) F (c_X3_at l D cy (H := _) hw.1 v_b32 h35) (cwV 1 hts gX4_misses_X3_at rfl rfl rfl ⟨rfl, ph_X3_at.1, ph_X3_at.2, pd_X3_at⟩ ⟨Nat.le_of_ble_eq_true rfl, Nat.le_of_ble_eq_true rfl⟩) ⟨PcR.bl, (q_rcv hK hw.1 v_b32.1 (pF_3 (S := Sb) v_b32.2) rfl), PcR.in hK⟩ rfl rfl hl.1 rfl (lv_room (Nat.le_of_ble_eq_true rfl)) dX4_misses_53 ⟨by show _ ≤ 1; omega, by show _ ≤ 6; omega⟩).run (fun r36 er36 => ?_)
          obtain ⟨er36, v_t34⟩ := er36
          subst r36
          refine lv_lload_n hx hb dX4_misses_56 rfl (lv_at hl 1 rfl) ?_
          obtain ⟨t37, h38, hf⟩ := bd_some hf
          refine vp_callSi (va_runV (As := [.long x1]) (rest := []) F (c_X0_isFulfilledBy l D cy (H := _) hw.1 v_t34 h38) (cwV 1 hts gX4_misses_X0_isFulfilledBy rfl rfl rfl ⟨rfl, ph_X0_isFulfilledBy.1, ph_X0_isFulfilledBy.2, pd_X0_isFulfilledBy⟩ ⟨Nat.le_of_ble_eq_true rfl, Nat.le_of_ble_eq_true rfl⟩) ⟨PcR.bl, (q_rcv hK hw.1 v_t34.1 (pF_0 (S := Sb) v_t34.2) rfl), PcR.in hK⟩ rfl rfl hl.1 rfl (lv_room (Nat.le_of_ble_eq_true rfl)) dX4_misses_57 ⟨by show _ ≤ 1; omega, by show _ ≤ 6; omega⟩).run (fun r39 er39 => ?_)
          subst r39
          refine lv_if_ne (tgt := 66) hx hb dX4_misses_60 (by decide) (fun c40 => ?_) (fun c40 => ?_)
          · have hf := it_f c40 hf
            exact hB66 Sb _ _ _ _ (by omega) (by omega) x0 x1 x3 x4 _ (lv_sub hl [0, 1, 2, 3] rfl) hw hE v_x0 hf
          · have hf := it_t c40 hf
            refine lv_iinc (v := x3 + 1) (lv' := [(3, .int (x3 + 1)), (0, .ref x0), (1, .long x1), (4, .int x4)]) hx hb dX4_misses_63 hl (k := 2) rfl (by rfl) (by decide) rfl (fun ls hl => ?_)
            exact hB66 Sb _ _ _ _ (by omega) (by omega) x0 x1 (x3 + 1) x4 _ (lv_sub hl [1, 2, 0, 3] rfl) hw hE v_x0 hf
  have hl := lv_entry ([.ref y0, .long y1]) (n := 5) (Nat.le_of_ble_eq_true rfl)
  rw [lg_entry_eq]
  generalize (lg_sl ([.ref y0, .long y1]) ++ List.replicate (5 - (lg_sl ([.ref y0, .long y1])).length) Slot.unset).toArray = ls at hl ⊢
  have hl : lv_has ls 5 [(0, .ref y0), (1, .long y1)] := hl
  unfold f_X4_misses at hf
  refine lv_lload_n hx hb dX4_misses_0 rfl (lv_at hl 1 rfl) ?_
  obtain ⟨t41, h42, hf⟩ := bd_some hf
  refine vp_callSi (va_runS (As := [.long y1]) (rest := []) F (c_X4_isNumber l D cy (H := _)  h42) (va_cwS 1 hts gX4_misses_X4_isNumber rfl rfl rfl ⟨ph_X4_isNumber.1, ph_X4_isNumber.2, pd_X4_isNumber⟩ ⟨Nat.le_of_ble_eq_true rfl, Nat.le_of_ble_eq_true rfl⟩) ⟨PcR.bl, PcR.in hK⟩ rfl rfl hl.1 rfl (lv_room (Nat.le_of_ble_eq_true rfl)) dX4_misses_1 ⟨by show _ ≤ 1; omega, by show _ ≤ 6; omega⟩).run (fun r43 er43 => ?_)
  subst r43
  refine lv_if_ne (tgt := 18) hx hb dX4_misses_4 (by decide) (fun c44 => ?_) (fun c44 => ?_)
  · have hf := it_f c44 hf
    refine lv_iconst (v := 0) hx hb dX4_misses_18 (by decide) ?_
    refine lv_istore_n (lv' := [(3, .int 0), (0, .ref y0), (1, .long y1)]) hx hb dX4_misses_19 rfl hl (by decide) rfl (fun ls hl => ?_)
    refine lv_iconst (v := 0) hx hb dX4_misses_20 (by decide) ?_
    refine lv_istore (lv' := [(4, .int 0), (3, .int 0), (0, .ref y0), (1, .long y1)]) hx hb dX4_misses_21 hl (by decide) rfl (fun ls hl => ?_)
    exact hL23 11 S _ _ _ _ (by omega) (by omega) y0 y1 0 0 _ (lv_sub hl [2, 3, 1, 0] rfl) hw hE v_y0 hf
  · have hf := it_t c44 hf
    obtain ⟨sa, hsa⟩ := sk_257 hK.2.2.1
    refine vx_throwSW hx hb hst (names := ["java/lang/RuntimeException", "java/lang/Exception"]) hown (by decide +kernel) (by decide +kernel) (hts (.classLink RX4 59 "java/lang/IllegalArgumentException") (List.mem_of_getElem? (i := 1) rfl)) (hts (.initialized "java/lang/IllegalArgumentException") (List.mem_of_getElem? (i := 2) rfl)) hsa (vx_hat (B := xb_63) (fun w h => hts w (List.mem_cons_of_mem _ (List.mem_append_right _ h))) xn_63 (xk_63 hK.2.2.2.2.2)) xg_63 hZ.1 hZ.2.1 hw.2.2.1 (hl.1.trans hml.symm) dX4_misses_7 dX4_misses_10 dX4_misses_11 dX4_misses_14 dX4_misses_17 (fun x h => (hex x h).elim) (Nat.le_of_ble_eq_true rfl) (Nat.le_of_ble_eq_true rfl) (by show _ ≤ 1; omega) (by show _ ≤ 6; omega) hlocks (fun t hvm hz hk => ?_) hw.2.2.1.2.2 (by omega) (by omega)
    exact xo_of hw hE hz hk (by show (_ : String) = _; rfl) (po2x hf).1 (po2x hf).2
def f_X4_ifAdded_B20 (S : PS) (n : Nat) : Option ((Int64 ⊕ Nat) × PS × Nat) :=
  some (.inr 0, S, n)
def f_X4_ifAdded_B159 (S : PS) (n : Nat) : Option ((Int64 ⊕ Nat) × PS × Nat) :=
  some (.inl ((-1)), S, n)
def f_X4_ifAdded_B201 (S : PS) (n : Nat) (s0 : Int64) : Option ((Int64 ⊕ Nat) × PS × Nat) :=
  some (.inl s0, S, n)
def f_X4_ifAdded_B140 (S : PS) (n : Nat) (s0 : Int64) : Option ((Int64 ⊕ Nat) × PS × Nat) :=
  some (.inl s0, S, n)
def f_X4_ifAdded_B139 (S : PS) (n : Nat) : Option ((Int64 ⊕ Nat) × PS × Nat) :=
  f_X4_ifAdded_B140 S n 0
def f_X4_ifAdded (S : PS) (n : Nat) (x0 : Nat) (x1 : Int32) (x2 : Int32) (x3 : Int32) (x4 : Int32) : Option ((Int64 ⊕ Nat) × PS × Nat) :=
  bd (f_X4_areParts x1 x2 x3) fun t1 =>
  if t1 = 0 then (f_X4_ifAdded_B20 S n) else
  if x4 < 0 then (f_X4_ifAdded_B20 S n) else
  if x4 ≤ 3 then (bd (f_X0_init (nO S n 0) n x1 x2 x3) fun t8 =>
  bd (f_X4_isRefused t8 x0 n) fun t10 =>
  if t10 = 0 then (rq (fR t8 64 x0) t8 3 fun b14 =>
  rq (fR t8 64 x0) t8 3 fun b16 =>
  bd (f_X3_partnersOf t8 b16 n) fun t18 =>
  bd (f_J6_bitCount_0f7a4 ((fI t8 52 b14) &&& (t18 ^^^ ((-1) : Int32)))) fun t21 =>
  if x4 = 2 then (some (.inl t21.toInt64, t8, n + 1)) else
  rq (fR t8 64 x0) t8 3 fun b25 =>
  rq (fR t8 64 x0) t8 3 fun b27 =>
  bd (f_X3_arePossible t8 b25 (fI t8 52 b27)) fun t29 =>
  if x4 = 3 then (if t29 = 0 then (f_X4_ifAdded_B139 t8 (n + 1)) else
  rq (fR t8 64 x0) t8 3 fun b47 =>
  bd (f_X4_join t8 x0 (fI t8 52 b47)) fun t49 =>
  bd (f_X1_tells t49.2 t49.1 n) fun t51 =>
  if t51 = 0 then (f_X4_ifAdded_B139 t49.2 (n + 1)) else
  f_X4_ifAdded_B140 t49.2 (n + 1) 1) else
  if t29 = 0 then (f_X4_ifAdded_B159 t8 (n + 1)) else
  bd (f_X0_isVoid t8 n) fun t34 =>
  if t34 = 0 then (if t21 ≤ 0 then (rq (fR t8 64 x0) t8 3 fun b39 =>
  bd (f_X4_join t8 x0 (fI t8 52 b39)) fun t41 =>
  bd (f_X1_take t41.2 t41.1 n) fun t43 =>
  if x4 = 0 then (f_X4_ifAdded_B201 t43 (n + 1) (fL t43 16 t41.1)) else
  f_X4_ifAdded_B201 t43 (n + 1) (fL t43 17 t41.1)) else
  f_X4_ifAdded_B159 t8 (n + 1)) else
  f_X4_ifAdded_B159 t8 (n + 1)) else
  some (.inl ((-1)), t8, n + 1)) else
  f_X4_ifAdded_B20 S n
set_option maxHeartbeats 4000000 in
set_option maxRecDepth 100000 in
theorem c_X4_ifAdded (l : Launch) (hst : l.stackTraces = false) (D : va_G) (cy : cyT) {S : PS} {n : Nat} {y0 : Nat} {y1 : Int32} {y2 : Int32} {y3 : Int32} {y4 : Int32} (v_y0 : vd S y0 4) {res : (Int64 ⊕ Nat) × PS × Nat} (hf : f_X4_ifAdded S n y0 y1 y2 y3 y4 = some res) : vx_Met l yX4_ifAdded wsX4_ifAdded ({ frames := 6, cells := 1, slots := 6, locals := 97 } : Room) (PcW True D cy S n [.ref y0, .int y1, .int y2, .int y3, .int y4]) (va_Ql (fun (r : Int64) (u : PS × Nat) => Sum.inl r = res.1 ∧ u = res.2) (BW D cy S n) (AA cy S n)) (vx_X (fun k : Nat => res.1 = .inr k) (fun E k t => XO D cy S n res.2.1 E k t) (AA cy S n)) 1 6 (AA cy S n) := by
  refine vx_ofW (cc := cX4_ifAdded) (maxL := 9) (ret := (some .long)) (by decide) rfl ?_
  intro p e s m args below meth c s₁ B hml hex hv
  obtain ⟨hav, hsz, hP0, hD0, hK, hZ0⟩ := hv
  have hx := B.exec
  have hb := B.bytes
  have hr := B.returns
  have hts := atoms_spec (ws := wsX4_ifAdded) B.pre
  have hown : s.vm.findClass RX4 = some m.cls := findClass_of_methodNamed B.named
  have hlocks := B.notSynchronized
  subst hav
  have hw : Hw D cy (AA cy S n) s.heap S n s.heap [] := Hw.start hsz hP0 hD0
  have hA : ∀ q, s.heap.size ≤ q → AA cy S n q := fun q h => Or.inr (hsz ▸ h)
  have hE : EX S S := EX.rf
  have hZ := hZ0 trivial
  have F : CallFix p m c cX4_ifAdded 9 s _ wsX4_ifAdded RX4 := ⟨hx, hb, hml, hown, hts⟩
  have hB20 : ∀ (Sb : PS) (nb : Nat) (H1 : Heap) (lo1 : List Loc) (kc ks : Nat) (_ : kc + 1 ≤ 1) (_ : ks + 6 ≤ 6)  (ls : Array Slot), lv_has ls 9 [] → Hw D cy (AA cy S n) s.heap Sb nb H1 lo1 → EX S Sb → f_X4_ifAdded_B20 Sb nb = some res → W p l e (headSpec wsX4_ifAdded ({ frames := 6, cells := 1, slots := 6, locals := 97 } : Room)).room s m ([.ref y0, .int y1, .int y2, .int y3, .int y4] : List Value).toArray below meth c H1 lo1 kc ks (vx_MQ below (va_Ql (fun (r : Int64) (u : PS × Nat) => Sum.inl r = res.1 ∧ u = res.2) (BW D cy S n) (AA cy S n)) (vx_X (fun k : Nat => res.1 = .inr k) (fun E k t => XO D cy S n res.2.1 E k t) (AA cy S n)) ([.ref y0, .int y1, .int y2, .int y3, .int y4] : List Value).toArray s 1 6 (AA cy S n)) (F0 m 20 ls []) := by
    intro Sb nb H1 lo1 kc ks hkc hks ls hl hw hE hf
    unfold f_X4_ifAdded_B20 at hf
    obtain ⟨sa, hsa⟩ := sk_242 hK.2.2.1
    refine vx_throwS hx hb hst (names := ["java/lang/RuntimeException", "java/lang/Exception"]) hown (by decide +kernel) (by decide +kernel) (hts (.classLink RX4 59 "java/lang/IllegalArgumentException") (List.mem_of_getElem? (i := 1) rfl)) (hts (.initialized "java/lang/IllegalArgumentException") (List.mem_of_getElem? (i := 2) rfl)) hsa (vx_hat (B := xb_63) (fun w h => hts w (List.mem_cons_of_mem _ (List.mem_append_right _ h))) xn_63 (xk_63 hK.2.2.2.2.2)) xg_63 hZ.1 hZ.2.1 hw.2.2.1 (hl.1.trans hml.symm) dX4_ifAdded_20 dX4_ifAdded_23 dX4_ifAdded_24 dX4_ifAdded_26 dX4_ifAdded_29 (fun x h => (hex x h).elim) (Nat.le_of_ble_eq_true rfl) (Nat.le_of_ble_eq_true rfl) (by show _ ≤ 1; omega) (by show _ ≤ 6; omega) hlocks (fun t hvm hz hk => ?_) hw.2.2.1.2.2 (by omega) (by omega)
    exact xo_of hw hE hz hk (by show (_ : String) = _; rfl) (po3x hf).1 (po3x hf).2
  have hB159 : ∀ (Sb : PS) (nb : Nat) (H1 : Heap) (lo1 : List Loc) (kc ks : Nat) (_ : kc + 0 ≤ 1) (_ : ks + 0 ≤ 6)  (ls : Array Slot), lv_has ls 9 [] → Hw D cy (AA cy S n) s.heap Sb nb H1 lo1 → EX S Sb → f_X4_ifAdded_B159 Sb nb = some res → W p l e (headSpec wsX4_ifAdded ({ frames := 6, cells := 1, slots := 6, locals := 97 } : Room)).room s m ([.ref y0, .int y1, .int y2, .int y3, .int y4] : List Value).toArray below meth c H1 lo1 kc ks (vx_MQ below (va_Ql (fun (r : Int64) (u : PS × Nat) => Sum.inl r = res.1 ∧ u = res.2) (BW D cy S n) (AA cy S n)) (vx_X (fun k : Nat => res.1 = .inr k) (fun E k t => XO D cy S n res.2.1 E k t) (AA cy S n)) ([.ref y0, .int y1, .int y2, .int y3, .int y4] : List Value).toArray s 1 6 (AA cy S n)) (F0 m 159 ls []) := by
    intro Sb nb H1 lo1 kc ks hkc hks ls hl hw hE hf
    unfold f_X4_ifAdded_B159 at hf
    refine lv_ldc2 hx hb hown (hts (.constantLong RX4 244 (-1)) (List.mem_of_getElem? (i := 6) rfl)) dX4_ifAdded_159 ?_
    refine vx_ret ?_
    refine W.widen (k := 1) (n := 6) (by omega) (by omega) ?_
    exact W.lret (v := ((-1))) hx hb hr (fun t ht hW => ⟨⟨_, (Sb, nb), rfl, po3t hf, BW.of hw hE ht⟩, hw.2.2.1.F ht⟩) hw.2.2.1.2.2 dX4_ifAdded_162
  have hB201 : ∀ (Sb : PS) (nb : Nat) (H1 : Heap) (lo1 : List Loc) (kc ks : Nat) (_ : kc + 0 ≤ 1) (_ : ks + 0 ≤ 6) (s0 : Int64) (ls : Array Slot), lv_has ls 9 [] → Hw D cy (AA cy S n) s.heap Sb nb H1 lo1 → EX S Sb → f_X4_ifAdded_B201 Sb nb s0 = some res → W p l e (headSpec wsX4_ifAdded ({ frames := 6, cells := 1, slots := 6, locals := 97 } : Room)).room s m ([.ref y0, .int y1, .int y2, .int y3, .int y4] : List Value).toArray below meth c H1 lo1 kc ks (vx_MQ below (va_Ql (fun (r : Int64) (u : PS × Nat) => Sum.inl r = res.1 ∧ u = res.2) (BW D cy S n) (AA cy S n)) (vx_X (fun k : Nat => res.1 = .inr k) (fun E k t => XO D cy S n res.2.1 E k t) (AA cy S n)) ([.ref y0, .int y1, .int y2, .int y3, .int y4] : List Value).toArray s 1 6 (AA cy S n)) (F0 m 201 ls [.long s0]) := by
    intro Sb nb H1 lo1 kc ks hkc hks s0 ls hl hw hE hf
    unfold f_X4_ifAdded_B201 at hf
    refine vx_ret ?_
    refine W.widen (k := 1) (n := 6) (by omega) (by omega) ?_
    exact W.lret (v := s0) hx hb hr (fun t ht hW => ⟨⟨_, (Sb, nb), rfl, po3t hf, BW.of hw hE ht⟩, hw.2.2.1.F ht⟩) hw.2.2.1.2.2 dX4_ifAdded_201
  have hB140 : ∀ (Sb : PS) (nb : Nat) (H1 : Heap) (lo1 : List Loc) (kc ks : Nat) (_ : kc + 0 ≤ 1) (_ : ks + 0 ≤ 6) (s0 : Int64) (ls : Array Slot), lv_has ls 9 [] → Hw D cy (AA cy S n) s.heap Sb nb H1 lo1 → EX S Sb → f_X4_ifAdded_B140 Sb nb s0 = some res → W p l e (headSpec wsX4_ifAdded ({ frames := 6, cells := 1, slots := 6, locals := 97 } : Room)).room s m ([.ref y0, .int y1, .int y2, .int y3, .int y4] : List Value).toArray below meth c H1 lo1 kc ks (vx_MQ below (va_Ql (fun (r : Int64) (u : PS × Nat) => Sum.inl r = res.1 ∧ u = res.2) (BW D cy S n) (AA cy S n)) (vx_X (fun k : Nat => res.1 = .inr k) (fun E k t => XO D cy S n res.2.1 E k t) (AA cy S n)) ([.ref y0, .int y1, .int y2, .int y3, .int y4] : List Value).toArray s 1 6 (AA cy S n)) (F0 m 140 ls [.long s0]) := by
    intro Sb nb H1 lo1 kc ks hkc hks s0 ls hl hw hE hf
    unfold f_X4_ifAdded_B140 at hf
    refine vx_ret ?_
    refine W.widen (k := 1) (n := 6) (by omega) (by omega) ?_
    exact W.lret (v := s0) hx hb hr (fun t ht hW => ⟨⟨_, (Sb, nb), rfl, po3t hf, BW.of hw hE ht⟩, hw.2.2.1.F ht⟩) hw.2.2.1.2.2 dX4_ifAdded_140
  have hB139 : ∀ (Sb : PS) (nb : Nat) (H1 : Heap) (lo1 : List Loc) (kc ks : Nat) (_ : kc + 0 ≤ 1) (_ : ks + 0 ≤ 6)  (ls : Array Slot), lv_has ls 9 [] → Hw D cy (AA cy S n) s.heap Sb nb H1 lo1 → EX S Sb → f_X4_ifAdded_B139 Sb nb = some res → W p l e (headSpec wsX4_ifAdded ({ frames := 6, cells := 1, slots := 6, locals := 97 } : Room)).room s m ([.ref y0, .int y1, .int y2, .int y3, .int y4] : List Value).toArray below meth c H1 lo1 kc ks (vx_MQ below (va_Ql (fun (r : Int64) (u : PS × Nat) => Sum.inl r = res.1 ∧ u = res.2) (BW D cy S n) (AA cy S n)) (vx_X (fun k : Nat => res.1 = .inr k) (fun E k t => XO D cy S n res.2.1 E k t) (AA cy S n)) ([.ref y0, .int y1, .int y2, .int y3, .int y4] : List Value).toArray s 1 6 (AA cy S n)) (F0 m 139 ls []) := by
    intro Sb nb H1 lo1 kc ks hkc hks ls hl hw hE hf
    unfold f_X4_ifAdded_B139 at hf
    refine lv_lconst (v := 0) hx hb dX4_ifAdded_139 (by decide) ?_
    exact hB140 Sb nb _ _ _ _ (by omega) (by omega) 0 _ (lv_sub hl [] rfl) hw hE  hf
  have hl := lv_entry ([.ref y0, .int y1, .int y2, .int y3, .int y4]) (n := 9) (Nat.le_of_ble_eq_true rfl)
  rw [lg_entry_eq]
  generalize (lg_sl ([.ref y0, .int y1, .int y2, .int y3, .int y4]) ++ List.replicate (9 - (lg_sl ([.ref y0, .int y1, .int y2, .int y3, .int y4])).length) Slot.unset).toArray = ls at hl ⊢
  have hl : lv_has ls 9 [(0, .ref y0), (1, .int y1), (2, .int y2), (3, .int y3), (4, .int y4)] := hl
  unfold f_X4_ifAdded at hf
  refine lv_iload_n hx hb dX4_ifAdded_0 rfl (lv_at hl 1 rfl) ?_
  refine lv_iload_n hx hb dX4_ifAdded_1 rfl (lv_at hl 2 rfl) ?_
  refine lv_iload_n hx hb dX4_ifAdded_2 rfl (lv_at hl 3 rfl) ?_
  obtain ⟨t55, h56, hf⟩ := bd_some hf
  refine vp_callSi (va_runS (As := [.int y1, .int y2, .int y3]) (rest := []) F (c_X4_areParts l D cy (H := _)  h56) (va_cwS 3 hts gX4_ifAdded_X4_areParts rfl rfl rfl ⟨ph_X4_areParts.1, ph_X4_areParts.2, pd_X4_areParts⟩ ⟨Nat.le_of_ble_eq_true rfl, Nat.le_of_ble_eq_true rfl⟩) ⟨PcR.bl, PcR.in hK⟩ rfl rfl hl.1 rfl (lv_room (Nat.le_of_ble_eq_true rfl)) dX4_ifAdded_3 ⟨by show _ ≤ 1; omega, by show _ ≤ 6; omega⟩).run (fun r57 er57 => ?_)
  subst r57
  refine lv_if_eq (tgt := 20) hx hb dX4_ifAdded_6 (by decide) (fun c58 => ?_) (fun c58 => ?_)
  · have hf := it_t c58 hf
    exact hB20 S n _ _ _ _ (by omega) (by omega) _ (lv_sub hl [] rfl) hw hE  hf
  · have hf := it_f c58 hf
    refine lv_iload hx hb dX4_ifAdded_9 (lv_at hl 4 rfl) ?_
    refine lv_if_lt (tgt := 20) hx hb dX4_ifAdded_11 (by decide) (fun c59 => ?_) (fun c59 => ?_)
    · have hf := it_t c59 hf
      exact hB20 S n _ _ _ _ (by omega) (by omega) _ (lv_sub hl [] rfl) hw hE  hf
    · have hf := it_f c59 hf
      refine lv_iload hx hb dX4_ifAdded_14 (lv_at hl 4 rfl) ?_
      refine lv_iconst (v := 3) hx hb dX4_ifAdded_16 (by decide) ?_
      refine lv_icmp_le (tgt := 30) hx hb dX4_ifAdded_17 (by decide) (fun c60 => ?_) (fun c60 => ?_)
      · have hf := it_t c60 hf
        have hfr := hw.fresh
        refine q_new F hK hw hA (fun w h => List.mem_cons_of_mem _ (List.mem_append_left _ (List.mem_append_left _ (List.mem_append_left _ (List.mem_append_left _ (List.mem_append_right _ h)))))) tyX0 tyX0_ok (hts (.classLink RX4 7 RX0) (List.mem_of_getElem? (i := 3) rfl)) (hts (.instantiable RX0 5) (List.mem_of_getElem? (i := 4) rfl)) (hts (.initialized RX0) (List.mem_of_getElem? (i := 5) rfl)) rfl (fs := [.int 0, .int 0, .int 0, .int 0, .int 0]) (fun j hj => by rcases (show j = 0 ∨ j = 1 ∨ j = 2 ∨ j = 3 ∨ j = 4 by omega) with rfl | rfl | rfl | rfl | rfl <;> rfl) (by show _ ≤ 1; omega) (by show _ ≤ 6; omega) dX4_ifAdded_30 (S1 := nO S n 0) (fun hq => nw_0 hq) (fun H hw => ?_)
        have hX := EX.nO (k := 0) hfr
        have hE := hE.tr hX
        have v_y0 := hX _ _ v_y0
        have v_q61 : vd (nO S n 0) (n) 0 := vd_nO
        refine lv_dup hx hb dX4_ifAdded_33 rfl ?_
        refine lv_iload_n hx hb dX4_ifAdded_34 rfl (lv_at hl 1 rfl) ?_
        refine lv_iload_n hx hb dX4_ifAdded_35 rfl (lv_at hl 2 rfl) ?_
        refine lv_iload_n hx hb dX4_ifAdded_36 rfl (lv_at hl 3 rfl) ?_
        obtain ⟨t62, h63, hf⟩ := bd_some hf
        refine q_callv (va_runI (As := [.int y1, .int y2, .int y3]) (rest := [.ref n]) F (c_X0_init l D cy (S := nO S n 0) v_q61 h63) (cwI 3 hts gX4_ifAdded_X0_init rfl rfl rfl (hts (.initialized RX0) (List.mem_of_getElem? (i := 5) rfl)) (hts (.methodLink RX4 9 yX0_init) (List.mem_of_getElem? (i := 12) rfl)) (hts (.instanceMethod yX0_init) (List.mem_of_getElem? (i := 13) rfl)) rfl ⟨ph_X0_init.1, ph_X0_init.2, pd_X0_init⟩ ⟨Nat.le_of_ble_eq_true rfl, Nat.le_of_ble_eq_true rfl⟩) ⟨PcW.bl, PcW.in hK hw hA (fun z => z.elim)⟩ rfl rfl hl.1 rfl (lv_room (Nat.le_of_ble_eq_true rfl)) dX4_ifAdded_37 ⟨by show _ ≤ 1; omega, by show _ ≤ 6; omega⟩) hw hA (fun H locs hw hX => ?_)
        have hE := hE.tr hX
        have v_y0 := hX _ _ v_y0
        have v_q61 := hX _ _ v_q61
        refine lv_astore (lv' := [(5, .ref n), (0, .ref y0), (1, .int y1), (2, .int y2), (3, .int y3), (4, .int y4)]) hx hb dX4_ifAdded_40 hl (by decide) rfl (fun ls hl => ?_)
        refine lv_aload_n hx hb dX4_ifAdded_42 rfl (lv_at hl 1 rfl) ?_
        refine lv_aload hx hb dX4_ifAdded_43 (lv_at hl 0 rfl) ?_
        obtain ⟨t64, h65, hf⟩ := bd_some hf
        refine vp_callSi (va_runV (As := [.ref n]) (rest := []) F (c_X4_isRefused l D cy (H := _) hw.1 v_y0 v_q61 h65) (cwV 1 hts gX4_ifAdded_X4_isRefused rfl rfl rfl ⟨rfl, ph_X4_isRefused.1, ph_X4_isRefused.2, pd_X4_isRefused⟩ ⟨Nat.le_of_ble_eq_true rfl, Nat.le_of_ble_eq_true rfl⟩) ⟨PcR.bl, (q_rcv hK hw.1 v_y0.1 (pF_4 (S := t62) v_y0.2) rfl), PcR.in hK⟩ rfl rfl hl.1 rfl (lv_room (Nat.le_of_ble_eq_true rfl)) dX4_ifAdded_45 ⟨by show _ ≤ 1; omega, by show _ ≤ 6; omega⟩).run (fun r66 er66 => ?_)
        subst r66
        refine lv_if_eq (tgt := 55) hx hb dX4_ifAdded_48 (by decide) (fun c67 => ?_) (fun c67 => ?_)
        · have hf := it_t c67 hf
          refine lv_aload_n hx hb dX4_ifAdded_55 rfl (lv_at hl 1 rfl) ?_
          obtain ⟨b68, e69, v_b68, hf⟩ := rq_some hf
          refine q_get F hK hw.1 v_y0.1 (pF_4 (S := t62) v_y0.2) (fun w h => List.mem_cons_of_mem _ (List.mem_append_left _ (List.mem_append_left _ (List.mem_append_left _ (List.mem_append_right _ h))))) rfl 0 (by decide) (hts (.fieldLink RX4 17 "SharedModuli" "now" "LSharedModuli$State;") (List.mem_of_getElem? (i := 7) rfl)) (v := .ref b68) (congrArg (fun z => some (va_rf z)) e69) dX4_ifAdded_56 ?_
          refine q_getN F hK hw.1 v_b68.1 (pF_3 (S := t62) v_b68.2) (fun w h => List.mem_cons_of_mem _ (List.mem_append_left _ (List.mem_append_left _ (List.mem_append_right _ h)))) rfl 4 (by decide) (nk_f_RX4_98 hK.2.1) (v := .int (fI t62 52 b68)) rfl dX4_ifAdded_59 ?_
          refine lv_aload_n hx hb dX4_ifAdded_62 rfl (lv_at hl 1 rfl) ?_
          obtain ⟨b70, e71, v_b70, hf⟩ := rq_some hf
          refine q_get F hK hw.1 v_y0.1 (pF_4 (S := t62) v_y0.2) (fun w h => List.mem_cons_of_mem _ (List.mem_append_left _ (List.mem_append_left _ (List.mem_append_left _ (List.mem_append_right _ h))))) rfl 0 (by decide) (hts (.fieldLink RX4 17 "SharedModuli" "now" "LSharedModuli$State;") (List.mem_of_getElem? (i := 7) rfl)) (v := .ref b70) (congrArg (fun z => some (va_rf z)) e71) dX4_ifAdded_63 ?_
          refine lv_aload hx hb dX4_ifAdded_66 (lv_at hl 0 rfl) ?_
          obtain ⟨t72, h73, hf⟩ := bd_some hf
          refine vp_callSi (va_runV (As := [.ref n]) (rest := [.int (fI t62 52 b68)]) F (c_X3_partnersOf l D cy (H := _) hw.1 v_b70 v_q61 h73) (cwV 1 hts gX4_ifAdded_X3_partnersOf rfl rfl rfl ⟨rfl, ph_X3_partnersOf.1, ph_X3_partnersOf.2, pd_X3_partnersOf⟩ ⟨Nat.le_of_ble_eq_true rfl, Nat.le_of_ble_eq_true rfl⟩) ⟨PcR.bl, (q_rcv hK hw.1 v_b70.1 (pF_3 (S := t62) v_b70.2) rfl), PcR.in hK⟩ rfl rfl hl.1 rfl (lv_room (Nat.le_of_ble_eq_true rfl)) dX4_ifAdded_68 ⟨by show _ ≤ 1; omega, by show _ ≤ 6; omega⟩).run (fun r74 er74 => ?_)
          subst r74
          refine lv_iconst (v := (-1)) hx hb dX4_ifAdded_71 (by decide) ?_
          refine lv_ixor hx hb dX4_ifAdded_72 ?_
          refine lv_iand hx hb dX4_ifAdded_73 ?_
          obtain ⟨t75, h76, hf⟩ := bd_some hf
          refine vp_callSi (va_runS (As := [.int ((fI t62 52 b68) &&& (t72 ^^^ ((-1) : Int32)))]) (rest := []) F (c_J6_bitCount_0f7a4 l D cy (H := _)  h76) (va_cwS 1 hts gX4_ifAdded_J6_bitCount_0f7a4 rfl rfl rfl ⟨ph_J6_bitCount_0f7a4.1, ph_J6_bitCount_0f7a4.2, pd_J6_bitCount_0f7a4⟩ ⟨Nat.le_of_ble_eq_true rfl, Nat.le_of_ble_eq_true rfl⟩) ⟨PcR.bl, PcR.in hK⟩ rfl rfl hl.1 rfl (lv_room (Nat.le_of_ble_eq_true rfl)) dX4_ifAdded_74 ⟨by show _ ≤ 1; omega, by show _ ≤ 6; omega⟩).run (fun r77 er77 => ?_)
          subst r77
          refine lv_istore (lv' := [(6, .int t75), (5, .ref n), (0, .ref y0), (1, .int y1), (2, .int y2), (3, .int y3), (4, .int y4)]) hx hb dX4_ifAdded_77 hl (by decide) rfl (fun ls hl => ?_)
          refine lv_iload hx hb dX4_ifAdded_79 (lv_at hl 6 rfl) ?_
          refine lv_iconst (v := 2) hx hb dX4_ifAdded_81 (by decide) ?_
          refine lv_icmp_ne (tgt := 89) hx hb dX4_ifAdded_82 (by decide) (fun c78 => ?_) (fun c78 => ?_)
          · have hf := it_f c78 hf
            refine lv_aload_n hx hb dX4_ifAdded_89 rfl (lv_at hl 2 rfl) ?_
            obtain ⟨b79, e80, v_b79, hf⟩ := rq_some hf
            refine q_get F hK hw.1 v_y0.1 (pF_4 (S := t62) v_y0.2) (fun w h => List.mem_cons_of_mem _ (List.mem_append_left _ (List.mem_append_left _ (List.mem_append_left _ (List.mem_append_right _ h))))) rfl 0 (by decide) (hts (.fieldLink RX4 17 "SharedModuli" "now" "LSharedModuli$State;") (List.mem_of_getElem? (i := 7) rfl)) (v := .ref b79) (congrArg (fun z => some (va_rf z)) e80) dX4_ifAdded_90 ?_
            refine lv_aload_n hx hb dX4_ifAdded_93 rfl (lv_at hl 2 rfl) ?_
            obtain ⟨b81, e82, v_b81, hf⟩ := rq_some hf
            refine q_get F hK hw.1 v_y0.1 (pF_4 (S := t62) v_y0.2) (fun w h => List.mem_cons_of_mem _ (List.mem_append_left _ (List.mem_append_left _ (List.mem_append_left _ (List.mem_append_right _ h))))) rfl 0 (by decide) (hts (.fieldLink RX4 17 "SharedModuli" "now" "LSharedModuli$State;") (List.mem_of_getElem? (i := 7) rfl)) (v := .ref b81) (congrArg (fun z => some (va_rf z)) e82) dX4_ifAdded_94 ?_
            refine q_getN F hK hw.1 v_b81.1 (pF_3 (S := t62) v_b81.2) (fun w h => List.mem_cons_of_mem _ (List.mem_append_left _ (List.mem_append_left _ (List.mem_append_right _ h)))) rfl 4 (by decide) (nk_f_RX4_98 hK.2.1) (v := .int (fI t62 52 b81)) rfl dX4_ifAdded_97 ?_
            obtain ⟨t83, h84, hf⟩ := bd_some hf
            refine vp_callSi (va_runV (As := [.int (fI t62 52 b81)]) (rest := []) F (c_X3_arePossible l D cy (H := _) hw.1 v_b79 h84) (cwV 1 hts gX4_ifAdded_X3_arePossible rfl rfl rfl ⟨rfl, ph_X3_arePossible.1, ph_X3_arePossible.2, pd_X3_arePossible⟩ ⟨Nat.le_of_ble_eq_true rfl, Nat.le_of_ble_eq_true rfl⟩) ⟨PcR.bl, (q_rcv hK hw.1 v_b79.1 (pF_3 (S := t62) v_b79.2) rfl), PcR.in hK⟩ rfl rfl hl.1 rfl (lv_room (Nat.le_of_ble_eq_true rfl)) dX4_ifAdded_100 ⟨by show _ ≤ 1; omega, by show _ ≤ 6; omega⟩).run (fun r85 er85 => ?_)
            subst r85
            refine lv_istore (lv' := [(7, .int t83), (6, .int t75), (5, .ref n), (0, .ref y0), (1, .int y1), (2, .int y2), (3, .int y3), (4, .int y4)]) hx hb dX4_ifAdded_103 hl (by decide) rfl (fun ls hl => ?_)
            refine lv_iload hx hb dX4_ifAdded_105 (lv_at hl 7 rfl) ?_
            refine lv_iconst (v := 3) hx hb dX4_ifAdded_107 (by decide) ?_
            refine lv_icmp_ne (tgt := 141) hx hb dX4_ifAdded_108 (by decide) (fun c86 => ?_) (fun c86 => ?_)
            · have hf := it_f c86 hf
              refine lv_iload hx hb dX4_ifAdded_141 (lv_at hl 0 rfl) ?_
              refine lv_if_eq (tgt := 159) hx hb dX4_ifAdded_143 (by decide) (fun c87 => ?_) (fun c87 => ?_)
              · have hf := it_t c87 hf
                exact hB159 t62 (n + 1) _ _ _ _ (by omega) (by omega) _ (lv_sub hl [] rfl) hw hE  hf
              · have hf := it_f c87 hf
                refine lv_aload hx hb dX4_ifAdded_146 (lv_at hl 2 rfl) ?_
                obtain ⟨t88, h89, hf⟩ := bd_some hf
                refine vp_callSi (va_runV (As := []) (rest := []) F (c_X0_isVoid l D cy (H := _) hw.1 v_q61 h89) (cwV 0 hts gX4_ifAdded_X0_isVoid rfl rfl rfl ⟨rfl, ph_X0_isVoid.1, ph_X0_isVoid.2, pd_X0_isVoid⟩ ⟨Nat.le_of_ble_eq_true rfl, Nat.le_of_ble_eq_true rfl⟩) ⟨PcR.bl, (q_rcv hK hw.1 v_q61.1 (pF_0 (S := t62) v_q61.2) rfl), PcR.in hK⟩ rfl rfl hl.1 rfl (lv_room (Nat.le_of_ble_eq_true rfl)) dX4_ifAdded_148 ⟨by show _ ≤ 1; omega, by show _ ≤ 6; omega⟩).run (fun r90 er90 => ?_)
                subst r90
                refine lv_if_ne (tgt := 159) hx hb dX4_ifAdded_151 (by decide) (fun c91 => ?_) (fun c91 => ?_)
                · have hf := it_f c91 hf
                  exact hB159 t62 (n + 1) _ _ _ _ (by omega) (by omega) _ (lv_sub hl [] rfl) hw hE  hf
                · have hf := it_t c91 hf
                  refine lv_iload hx hb dX4_ifAdded_154 (lv_at hl 1 rfl) ?_
                  refine lv_if_le (tgt := 163) hx hb dX4_ifAdded_156 (by decide) (fun c92 => ?_) (fun c92 => ?_)
                  · have hf := it_t c92 hf
                    refine lv_aload_n hx hb dX4_ifAdded_163 rfl (lv_at hl 3 rfl) ?_
                    refine lv_aload_n hx hb dX4_ifAdded_164 rfl (lv_at hl 3 rfl) ?_
                    obtain ⟨b93, e94, v_b93, hf⟩ := rq_some hf
                    refine q_get F hK hw.1 v_y0.1 (pF_4 (S := t62) v_y0.2) (fun w h => List.mem_cons_of_mem _ (List.mem_append_left _ (List.mem_append_left _ (List.mem_append_left _ (List.mem_append_right _ h))))) rfl 0 (by decide) (hts (.fieldLink RX4 17 "SharedModuli" "now" "LSharedModuli$State;") (List.mem_of_getElem? (i := 7) rfl)) (v := .ref b93) (congrArg (fun z => some (va_rf z)) e94) dX4_ifAdded_165 ?_
                    refine q_getN F hK hw.1 v_b93.1 (pF_3 (S := t62) v_b93.2) (fun w h => List.mem_cons_of_mem _ (List.mem_append_left _ (List.mem_append_left _ (List.mem_append_right _ h)))) rfl 4 (by decide) (nk_f_RX4_98 hK.2.1) (v := .int (fI t62 52 b93)) rfl dX4_ifAdded_168 ?_
                    obtain ⟨t95, h96, hf⟩ := bd_some hf
                    refine q_callr (va_runV (As := [.int (fI t62 52 b93)]) (rest := []) F (c_X4_join l D cy (S := t62) v_y0 h96) (cwV 1 hts gX4_ifAdded_X4_join rfl rfl rfl ⟨rfl, ph_X4_join.1, ph_X4_join.2, pd_X4_join⟩ ⟨Nat.le_of_ble_eq_true rfl, Nat.le_of_ble_eq_true rfl⟩) ⟨PcW.bl, (q_rcv hK hw.1 v_y0.1 (pF_4 (S := t62) v_y0.2) rfl), PcW.in hK hw hA (fun z => z.elim)⟩ rfl rfl hl.1 rfl (lv_room (Nat.le_of_ble_eq_true rfl)) dX4_ifAdded_171 ⟨by show _ ≤ 1; omega, by show _ ≤ 6; omega⟩) hw hA (fun H locs hw hX v_t95 => ?_)
                    have hE := hE.tr hX
                    have v_y0 := hX _ _ v_y0
                    have v_q61 := hX _ _ v_q61
                    have v_b68 := hX _ _ v_b68
                    have v_b70 := hX _ _ v_b70
                    have v_b79 := hX _ _ v_b79
                    have v_b81 := hX _ _ v_b81
                    have v_b93 := hX _ _ v_b93
                    refine lv_astore (lv' := [(8, .ref t95.1), (7, .int t83), (6, .int t75), (5, .ref n), (0, .ref y0), (1, .int y1), (2, .int y2), (3, .int y3), (4, .int y4)]) hx hb dX4_ifAdded_174 hl (by decide) rfl (fun ls hl => ?_)
                    refine lv_aload hx hb dX4_ifAdded_176 (lv_at hl 0 rfl) ?_
                    refine lv_aload hx hb dX4_ifAdded_178 (lv_at hl 3 rfl) ?_
                    obtain ⟨t97, h98, hf⟩ := bd_some hf
                    refine q_callv (va_runV (As := [.ref n]) (rest := []) F (c_X1_take l D cy (S := t95.2) v_t95 v_q61 h98) (cwV 1 hts gX4_ifAdded_X1_take rfl rfl rfl ⟨rfl, ph_X1_take.1, ph_X1_take.2, pd_X1_take⟩ ⟨Nat.le_of_ble_eq_true rfl, Nat.le_of_ble_eq_true rfl⟩) ⟨PcW.bl, (q_rcv hK hw.1 v_t95.1 (pF_1 (S := t95.2) v_t95.2) rfl), PcW.in hK hw hA (fun z => z.elim)⟩ rfl rfl hl.1 rfl (lv_room (Nat.le_of_ble_eq_true rfl)) dX4_ifAdded_180 ⟨by show _ ≤ 1; omega, by show _ ≤ 6; omega⟩) hw hA (fun H locs hw hX => ?_)
                    have hE := hE.tr hX
                    have v_y0 := hX _ _ v_y0
                    have v_q61 := hX _ _ v_q61
                    have v_b68 := hX _ _ v_b68
                    have v_b70 := hX _ _ v_b70
                    have v_b79 := hX _ _ v_b79
                    have v_b81 := hX _ _ v_b81
                    have v_b93 := hX _ _ v_b93
                    have v_t95 := hX _ _ v_t95
                    refine lv_iload hx hb dX4_ifAdded_183 (lv_at hl 8 rfl) ?_
                    refine lv_if_ne (tgt := 196) hx hb dX4_ifAdded_185 (by decide) (fun c99 => ?_) (fun c99 => ?_)
                    · have hf := it_f c99 hf
                      refine lv_aload hx hb dX4_ifAdded_196 (lv_at hl 0 rfl) ?_
                      refine q_getN F hK hw.1 v_t95.1 (pF_1 (S := t97) v_t95.2) (fun w h => List.mem_cons_of_mem _ (List.mem_append_left _ (List.mem_append_right _ h))) rfl 1 (by decide) (nk_f_RX4_276 hK.2.1) (v := .long (fL t97 17 t95.1)) rfl dX4_ifAdded_198 ?_
                      exact hB201 t97 (n + 1) _ _ _ _ (by omega) (by omega) (fL t97 17 t95.1) _ (lv_sub hl [] rfl) hw hE  hf
                    · have hf := it_t c99 hf
                      refine lv_aload hx hb dX4_ifAdded_188 (lv_at hl 0 rfl) ?_
                      refine q_getN F hK hw.1 v_t95.1 (pF_1 (S := t97) v_t95.2) (fun w h => List.mem_cons_of_mem _ (List.mem_append_left _ (List.mem_append_right _ h))) rfl 0 (by decide) (nk_f_RX4_254 hK.2.1) (v := .long (fL t97 16 t95.1)) rfl dX4_ifAdded_190 ?_
                      refine lv_goto (tgt := 201) hx hb dX4_ifAdded_193 (by decide) ?_
                      exact hB201 t97 (n + 1) _ _ _ _ (by omega) (by omega) (fL t97 16 t95.1) _ (lv_sub hl [] rfl) hw hE  hf
                  · have hf := it_f c92 hf
                    exact hB159 t62 (n + 1) _ _ _ _ (by omega) (by omega) _ (lv_sub hl [] rfl) hw hE  hf
            · have hf := it_t c86 hf
              refine lv_iload hx hb dX4_ifAdded_111 (lv_at hl 0 rfl) ?_
              refine lv_if_eq (tgt := 139) hx hb dX4_ifAdded_113 (by decide) (fun c100 => ?_) (fun c100 => ?_)
              · have hf := it_t c100 hf
                exact hB139 t62 (n + 1) _ _ _ _ (by omega) (by omega) _ (lv_sub hl [] rfl) hw hE  hf
              · have hf := it_f c100 hf
                refine lv_aload_n hx hb dX4_ifAdded_116 rfl (lv_at hl 3 rfl) ?_
                refine lv_aload_n hx hb dX4_ifAdded_117 rfl (lv_at hl 3 rfl) ?_
                obtain ⟨b101, e102, v_b101, hf⟩ := rq_some hf
                refine q_get F hK hw.1 v_y0.1 (pF_4 (S := t62) v_y0.2) (fun w h => List.mem_cons_of_mem _ (List.mem_append_left _ (List.mem_append_left _ (List.mem_append_left _ (List.mem_append_right _ h))))) rfl 0 (by decide) (hts (.fieldLink RX4 17 "SharedModuli" "now" "LSharedModuli$State;") (List.mem_of_getElem? (i := 7) rfl)) (v := .ref b101) (congrArg (fun z => some (va_rf z)) e102) dX4_ifAdded_118 ?_
                refine q_getN F hK hw.1 v_b101.1 (pF_3 (S := t62) v_b101.2) (fun w h => List.mem_cons_of_mem _ (List.mem_append_left _ (List.mem_append_left _ (List.mem_append_right _ h)))) rfl 4 (by decide) (nk_f_RX4_98 hK.2.1) (v := .int (fI t62 52 b101)) rfl dX4_ifAdded_121 ?_
                obtain ⟨t103, h104, hf⟩ := bd_some hf
                refine q_callr (va_runV (As := [.int (fI t62 52 b101)]) (rest := []) F (c_X4_join l D cy (S := t62) v_y0 h104) (cwV 1 hts gX4_ifAdded_X4_join rfl rfl rfl ⟨rfl, ph_X4_join.1, ph_X4_join.2, pd_X4_join⟩ ⟨Nat.le_of_ble_eq_true rfl, Nat.le_of_ble_eq_true rfl⟩) ⟨PcW.bl, (q_rcv hK hw.1 v_y0.1 (pF_4 (S := t62) v_y0.2) rfl), PcW.in hK hw hA (fun z => z.elim)⟩ rfl rfl hl.1 rfl (lv_room (Nat.le_of_ble_eq_true rfl)) dX4_ifAdded_124 ⟨by show _ ≤ 1; omega, by show _ ≤ 6; omega⟩) hw hA (fun H locs hw hX v_t103 => ?_)
                have hE := hE.tr hX
                have v_y0 := hX _ _ v_y0
                have v_q61 := hX _ _ v_q61
                have v_b68 := hX _ _ v_b68
                have v_b70 := hX _ _ v_b70
                have v_b79 := hX _ _ v_b79
                have v_b81 := hX _ _ v_b81
                have v_b101 := hX _ _ v_b101
                refine lv_aload hx hb dX4_ifAdded_127 (lv_at hl 2 rfl) ?_
                obtain ⟨t105, h106, hf⟩ := bd_some hf
                refine vp_callSi (va_runV (As := [.ref n]) (rest := []) F (c_X1_tells l D cy (H := _) hw.1 v_t103 v_q61 h106) (cwV 1 hts gX4_ifAdded_X1_tells rfl rfl rfl ⟨rfl, ph_X1_tells.1, ph_X1_tells.2, pd_X1_tells⟩ ⟨Nat.le_of_ble_eq_true rfl, Nat.le_of_ble_eq_true rfl⟩) ⟨PcR.bl, (q_rcv hK hw.1 v_t103.1 (pF_1 (S := t103.2) v_t103.2) rfl), PcR.in hK⟩ rfl rfl hl.1 rfl (lv_room (Nat.le_of_ble_eq_true rfl)) dX4_ifAdded_129 ⟨by show _ ≤ 1; omega, by show _ ≤ 6; omega⟩).run (fun r107 er107 => ?_)
                subst r107
                refine lv_if_eq (tgt := 139) hx hb dX4_ifAdded_132 (by decide) (fun c108 => ?_) (fun c108 => ?_)
                · have hf := it_t c108 hf
                  exact hB139 t103.2 (n + 1) _ _ _ _ (by omega) (by omega) _ (lv_sub hl [] rfl) hw hE  hf
                · have hf := it_f c108 hf
                  refine lv_lconst (v := 1) hx hb dX4_ifAdded_135 (by decide) ?_
                  refine lv_goto (tgt := 140) hx hb dX4_ifAdded_136 (by decide) ?_
                  exact hB140 t103.2 (n + 1) _ _ _ _ (by omega) (by omega) 1 _ (lv_sub hl [] rfl) hw hE  hf
          · have hf := it_t c78 hf
            refine lv_iload hx hb dX4_ifAdded_85 (lv_at hl 0 rfl) ?_
            refine lv_i2l hx hb dX4_ifAdded_87 rfl ?_
            refine vx_ret ?_
            refine W.widen (k := 1) (n := 6) (by omega) (by omega) ?_
            exact W.lret (v := t75.toInt64) hx hb hr (fun t ht hW => ⟨⟨_, (t62, n + 1), rfl, po3t hf, BW.of hw hE ht⟩, hw.2.2.1.F ht⟩) hw.2.2.1.2.2 dX4_ifAdded_88
        · have hf := it_f c67 hf
          refine lv_ldc2 hx hb hown (hts (.constantLong RX4 244 (-1)) (List.mem_of_getElem? (i := 6) rfl)) dX4_ifAdded_51 ?_
          refine vx_ret ?_
          refine W.widen (k := 1) (n := 6) (by omega) (by omega) ?_
          exact W.lret (v := ((-1))) hx hb hr (fun t ht hW => ⟨⟨_, (t62, n + 1), rfl, po3t hf, BW.of hw hE ht⟩, hw.2.2.1.F ht⟩) hw.2.2.1.2.2 dX4_ifAdded_54
      · have hf := it_f c60 hf
        exact hB20 S n _ _ _ _ (by omega) (by omega) _ (lv_sub hl [] rfl) hw hE  hf
def f_X4_without_B30 (S : PS) : Option ((Int64 ⊕ Nat) × PS) :=
  some (.inr 0, S)
def f_X4_without (S : PS) (x0 : Nat) (x1 : Int32) (x2 : Int32) : Option ((Int64 ⊕ Nat) × PS) :=
  rq (fR S 64 x0) S 3 fun b1 =>
  bd (f_X3_has S b1 x1) fun t3 =>
  if t3 = 0 then (some (.inr 2, S)) else
  if x2 < 0 then (f_X4_without_B30 S) else
  if x2 ≤ 1 then (rq (fR S 64 x0) S 3 fun b9 =>
  bd (f_X4_bit x1) fun t11 =>
  bd (f_X4_joinedOf S x0 ((fI S 52 b9) &&& (t11 ^^^ ((-1) : Int32))) x2) fun t14 =>
  some (.inl t14.1, t14.2)) else
  f_X4_without_B30 S
set_option maxHeartbeats 4000000 in
set_option maxRecDepth 100000 in
theorem c_X4_without (l : Launch) (hst : l.stackTraces = false) (D : va_G) (cy : cyT) {S : PS} {n : Nat} {y0 : Nat} {y1 : Int32} {y2 : Int32} (v_y0 : vd S y0 4) {res : (Int64 ⊕ Nat) × PS} (hf : f_X4_without S y0 y1 y2 = some res) : vx_Met l yX4_without wsX4_without ({ frames := 6, cells := 1, slots := 6, locals := 112 } : Room) (PcW True D cy S n [.ref y0, .int y1, .int y2]) (va_Ql (fun (r : Int64) (u : PS × Nat) => Sum.inl r = res.1 ∧ u = (res.2, n)) (BW D cy S n) (AA cy S n)) (vx_X (fun k : Nat => res.1 = .inr k) (fun E k t => XO D cy S n res.2 E k t) (AA cy S n)) 1 6 (AA cy S n) := by
  refine vx_ofW (cc := cX4_without) (maxL := 3) (ret := (some .long)) (by decide) rfl ?_
  intro p e s m args below meth c s₁ B hml hex hv
  obtain ⟨hav, hsz, hP0, hD0, hK, hZ0⟩ := hv
  have hx := B.exec
  have hb := B.bytes
  have hr := B.returns
  have hts := atoms_spec (ws := wsX4_without) B.pre
  have hown : s.vm.findClass RX4 = some m.cls := findClass_of_methodNamed B.named
  have hlocks := B.notSynchronized
  subst hav
  have hw : Hw D cy (AA cy S n) s.heap S n s.heap [] := Hw.start hsz hP0 hD0
  have hA : ∀ q, s.heap.size ≤ q → AA cy S n q := fun q h => Or.inr (hsz ▸ h)
  have hE : EX S S := EX.rf
  have hZ := hZ0 trivial
  have F : CallFix p m c cX4_without 3 s _ wsX4_without RX4 := ⟨hx, hb, hml, hown, hts⟩
  have hB30 : ∀ (Sb : PS) (H1 : Heap) (lo1 : List Loc) (kc ks : Nat) (_ : kc + 1 ≤ 1) (_ : ks + 6 ≤ 6)  (ls : Array Slot), lv_has ls 3 [] → Hw D cy (AA cy S n) s.heap Sb n H1 lo1 → EX S Sb → f_X4_without_B30 Sb = some res → W p l e (headSpec wsX4_without ({ frames := 6, cells := 1, slots := 6, locals := 112 } : Room)).room s m ([.ref y0, .int y1, .int y2] : List Value).toArray below meth c H1 lo1 kc ks (vx_MQ below (va_Ql (fun (r : Int64) (u : PS × Nat) => Sum.inl r = res.1 ∧ u = (res.2, n)) (BW D cy S n) (AA cy S n)) (vx_X (fun k : Nat => res.1 = .inr k) (fun E k t => XO D cy S n res.2 E k t) (AA cy S n)) ([.ref y0, .int y1, .int y2] : List Value).toArray s 1 6 (AA cy S n)) (F0 m 30 ls []) := by
    intro Sb H1 lo1 kc ks hkc hks ls hl hw hE hf
    unfold f_X4_without_B30 at hf
    obtain ⟨sa, hsa⟩ := sk_201 hK.2.2.1
    refine vx_throwS hx hb hst (names := ["java/lang/RuntimeException", "java/lang/Exception"]) hown (by decide +kernel) (by decide +kernel) (hts (.classLink RX4 59 "java/lang/IllegalArgumentException") (List.mem_of_getElem? (i := 3) rfl)) (hts (.initialized "java/lang/IllegalArgumentException") (List.mem_of_getElem? (i := 4) rfl)) hsa (vx_hat (B := xb_63) (fun w h => hts w (List.mem_cons_of_mem _ (List.mem_append_right _ h))) xn_63 (xk_63 hK.2.2.2.2.2)) xg_63 hZ.1 hZ.2.1 hw.2.2.1 (hl.1.trans hml.symm) dX4_without_30 dX4_without_33 dX4_without_34 dX4_without_36 dX4_without_39 (fun x h => (hex x h).elim) (Nat.le_of_ble_eq_true rfl) (Nat.le_of_ble_eq_true rfl) (by show _ ≤ 1; omega) (by show _ ≤ 6; omega) hlocks (fun t hvm hz hk => ?_) hw.2.2.1.2.2 (by omega) (by omega)
    exact xo_of hw hE hz hk (by show (_ : String) = _; rfl) (po2x hf).1 (po2x hf).2
  have hl := lv_entry ([.ref y0, .int y1, .int y2]) (n := 3) (Nat.le_of_ble_eq_true rfl)
  rw [lg_entry_eq]
  generalize (lg_sl ([.ref y0, .int y1, .int y2]) ++ List.replicate (3 - (lg_sl ([.ref y0, .int y1, .int y2])).length) Slot.unset).toArray = ls at hl ⊢
  have hl : lv_has ls 3 [(0, .ref y0), (1, .int y1), (2, .int y2)] := hl
  unfold f_X4_without at hf
  refine lv_aload_n hx hb dX4_without_0 rfl (lv_at hl 0 rfl) ?_
  obtain ⟨b16, e17, v_b16, hf⟩ := rq_some hf
  refine q_get F hK hw.1 v_y0.1 (pF_4 (S := S) v_y0.2) (fun w h => List.mem_cons_of_mem _ (List.mem_append_left _ (List.mem_append_left _ (List.mem_append_left _ (List.mem_append_left _ (List.mem_append_left _ (List.mem_append_right _ h))))))) rfl 0 (by decide) (hts (.fieldLink RX4 17 "SharedModuli" "now" "LSharedModuli$State;") (List.mem_of_getElem? (i := 5) rfl)) (v := .ref b16) (congrArg (fun z => some (va_rf z)) e17) dX4_without_1 ?_
  refine lv_iload_n hx hb dX4_without_4 rfl (lv_at hl 1 rfl) ?_
  obtain ⟨t18, h19, hf⟩ := bd_some hf
  refine vp_callSi (va_runV (As := [.int y1]) (rest := []) F (c_X3_has l D cy (H := _) hw.1 v_b16 h19) (cwV 1 hts gX4_without_X3_has rfl rfl rfl ⟨rfl, ph_X3_has.1, ph_X3_has.2, pd_X3_has⟩ ⟨Nat.le_of_ble_eq_true rfl, Nat.le_of_ble_eq_true rfl⟩) ⟨PcR.bl, (q_rcv hK hw.1 v_b16.1 (pF_3 (S := S) v_b16.2) rfl), PcR.in hK⟩ rfl rfl hl.1 rfl (lv_room (Nat.le_of_ble_eq_true rfl)) dX4_without_5 ⟨by show _ ≤ 1; omega, by show _ ≤ 6; omega⟩).run (fun r20 er20 => ?_)
  subst r20
  refine lv_if_ne (tgt := 21) hx hb dX4_without_8 (by decide) (fun c21 => ?_) (fun c21 => ?_)
  · have hf := it_f c21 hf
    refine lv_iload_n hx hb dX4_without_21 rfl (lv_at hl 2 rfl) ?_
    refine lv_if_lt (tgt := 30) hx hb dX4_without_22 (by decide) (fun c22 => ?_) (fun c22 => ?_)
    · have hf := it_t c22 hf
      exact hB30 S _ _ _ _ (by omega) (by omega) _ (lv_sub hl [] rfl) hw hE  hf
    · have hf := it_f c22 hf
      refine lv_iload_n hx hb dX4_without_25 rfl (lv_at hl 2 rfl) ?_
      refine lv_iconst (v := 1) hx hb dX4_without_26 (by decide) ?_
      refine lv_icmp_le (tgt := 40) hx hb dX4_without_27 (by decide) (fun c23 => ?_) (fun c23 => ?_)
      · have hf := it_t c23 hf
        refine lv_aload_n hx hb dX4_without_40 rfl (lv_at hl 0 rfl) ?_
        refine lv_aload_n hx hb dX4_without_41 rfl (lv_at hl 0 rfl) ?_
        obtain ⟨b24, e25, v_b24, hf⟩ := rq_some hf
        refine q_get F hK hw.1 v_y0.1 (pF_4 (S := S) v_y0.2) (fun w h => List.mem_cons_of_mem _ (List.mem_append_left _ (List.mem_append_left _ (List.mem_append_left _ (List.mem_append_left _ (List.mem_append_left _ (List.mem_append_right _ h))))))) rfl 0 (by decide) (hts (.fieldLink RX4 17 "SharedModuli" "now" "LSharedModuli$State;") (List.mem_of_getElem? (i := 5) rfl)) (v := .ref b24) (congrArg (fun z => some (va_rf z)) e25) dX4_without_42 ?_
        refine q_getN F hK hw.1 v_b24.1 (pF_3 (S := S) v_b24.2) (fun w h => List.mem_cons_of_mem _ (List.mem_append_left _ (List.mem_append_left _ (List.mem_append_left _ (List.mem_append_left _ (List.mem_append_right _ h)))))) rfl 4 (by decide) (nk_f_RX4_98 hK.2.1) (v := .int (fI S 52 b24)) rfl dX4_without_45 ?_
        refine lv_iload_n hx hb dX4_without_48 rfl (lv_at hl 1 rfl) ?_
        obtain ⟨t26, h27, hf⟩ := bd_some hf
        refine vp_callSi (va_runS (As := [.int y1]) (rest := [.int (fI S 52 b24), .ref y0]) F (c_X4_bit l D cy (H := _)  h27) (va_cwS 1 hts gX4_without_X4_bit rfl rfl rfl ⟨ph_X4_bit.1, ph_X4_bit.2, pd_X4_bit⟩ ⟨Nat.le_of_ble_eq_true rfl, Nat.le_of_ble_eq_true rfl⟩) ⟨PcR.bl, PcR.in hK⟩ rfl rfl hl.1 rfl (lv_room (Nat.le_of_ble_eq_true rfl)) dX4_without_49 ⟨by show _ ≤ 1; omega, by show _ ≤ 6; omega⟩).run (fun r28 er28 => ?_)
        subst r28
        refine lv_iconst (v := (-1)) hx hb dX4_without_52 (by decide) ?_
        refine lv_ixor hx hb dX4_without_53 ?_
        refine lv_iand hx hb dX4_without_54 ?_
        refine lv_iload_n hx hb dX4_without_55 rfl (lv_at hl 2 rfl) ?_
        obtain ⟨t29, h30, hf⟩ := bd_some hf
        refine q_calll (va_runV (As := [.int ((fI S 52 b24) &&& (t26 ^^^ ((-1) : Int32))), .int y2]) (rest := []) F (c_X4_joinedOf l D cy (S := S) v_y0 h30) (cwV 2 hts gX4_without_X4_joinedOf rfl rfl rfl ⟨rfl, ph_X4_joinedOf.1, ph_X4_joinedOf.2, pd_X4_joinedOf⟩ ⟨Nat.le_of_ble_eq_true rfl, Nat.le_of_ble_eq_true rfl⟩) ⟨PcW.bl, (q_rcv hK hw.1 v_y0.1 (pF_4 (S := S) v_y0.2) rfl), PcW.in hK hw hA (fun z => z.elim)⟩ rfl rfl hl.1 rfl (lv_room (Nat.le_of_ble_eq_true rfl)) dX4_without_56 ⟨by show _ ≤ 1; omega, by show _ ≤ 6; omega⟩) hw hA (fun H locs hw hX => ?_)
        have hE := hE.tr hX
        have v_y0 := hX _ _ v_y0
        have v_b16 := hX _ _ v_b16
        have v_b24 := hX _ _ v_b24
        refine vx_ret ?_
        refine W.widen (k := 1) (n := 6) (by omega) (by omega) ?_
        exact W.lret (v := t29.1) hx hb hr (fun t ht hW => ⟨⟨_, (t29.2, n), rfl, po2t hf, BW.of hw hE ht⟩, hw.2.2.1.F ht⟩) hw.2.2.1.2.2 dX4_without_59
      · have hf := it_f c23 hf
        exact hB30 S _ _ _ _ (by omega) (by omega) _ (lv_sub hl [] rfl) hw hE  hf
  · have hf := it_t c21 hf
    obtain ⟨sa, hsa⟩ := sk_88 hK.2.2.1
    refine vx_throwS hx hb hst (names := ["java/lang/RuntimeException", "java/lang/Exception"]) hown (by decide +kernel) (by decide +kernel) (hts (.classLink RX4 86 "java/lang/IndexOutOfBoundsException") (List.mem_of_getElem? (i := 1) rfl)) (hts (.initialized "java/lang/IndexOutOfBoundsException") (List.mem_of_getElem? (i := 2) rfl)) hsa (vx_hat (B := xb_90) (fun w h => hts w (List.mem_cons_of_mem _ (List.mem_append_left _ (List.mem_append_right _ h)))) xn_90 (xk_90 hK.2.2.2.2.2)) xg_90 hZ.1 hZ.2.1 hw.2.2.1 (hl.1.trans hml.symm) dX4_without_11 dX4_without_14 dX4_without_15 dX4_without_17 dX4_without_20 (fun x h => (hex x h).elim) (Nat.le_of_ble_eq_true rfl) (Nat.le_of_ble_eq_true rfl) (by show _ ≤ 1; omega) (by show _ ≤ 6; omega) hlocks (fun t hvm hz hk => ?_) hw.2.2.1.2.2 (by omega) (by omega)
    exact xo_of hw hE hz hk (by show (_ : String) = _; rfl) (po2x hf).1 (po2x hf).2
def f_X4_blame_B72 (S : PS) (x1 : Int32) : Option Int32 :=
  some x1
def f_X4_blame_B66 (S : PS) (kL6 : Nat → Int32 → Int32 → Int32 → Option Int32) (ke72 : Int32 → Option Int32) (x0 : Nat) (x1 : Int32) (x2 : Int32) (x3 : Int32) : Option Int32 :=
  kL6 x0 x1 x2 (x3 + 1)
def f_X4_blame_B53 (S : PS) (kL6 : Nat → Int32 → Int32 → Int32 → Option Int32) (ke72 : Int32 → Option Int32) (x0 : Nat) (x1 : Int32) (x2 : Int32) (x3 : Int32) (s0 : Int32) : Option Int32 :=
  if s0 ≤ x2 then (f_X4_blame_B66 S kL6 ke72 x0 x1 x2 x3) else
  f_X4_blame_B66 S kL6 ke72 x0 x3 s0 x3
def f_X4_blame_L6s (S : PS) (kL6 : Nat → Int32 → Int32 → Int32 → Option Int32) (ke72 : Int32 → Option Int32) (x0 : Nat) (x1 : Int32) (x2 : Int32) (x3 : Int32) : Option Int32 :=
  rq (fR S 64 x0) S 3 fun b2 =>
  if (fI S 51 b2) ≤ x3 then (ke72 x1) else
  rq (fR S 64 x0) S 3 fun b5 =>
  bd (f_X3_isOn S b5 x3) fun t7 =>
  if t7 = 0 then (f_X4_blame_B53 S kL6 ke72 x0 x1 x2 x3 0) else
  rq (fR S 64 x0) S 3 fun b11 =>
  rq (fR S 64 x0) S 3 fun b13 =>
  bd (f_X3_partnersAt S b13 x3) fun t15 =>
  bd (f_J6_bitCount_0f7a4 ((fI S 52 b11) &&& (t15 ^^^ ((-1) : Int32)))) fun t18 =>
  f_X4_blame_B53 S kL6 ke72 x0 x1 x2 x3 t18
def f_X4_blame_L6 (S : PS) (ke72 : Int32 → Option Int32) (fu : Nat) : Nat → Int32 → Int32 → Int32 → Option Int32 := fx (fun kL => f_X4_blame_L6s S kL ke72) (fun _ _ _ _ => none) fu
def f_X4_blame (S : PS) (x0 : Nat) : Option Int32 :=
  f_X4_blame_L6 S (f_X4_blame_B72 S) FU x0 ((-1)) 0 0
set_option maxHeartbeats 4000000 in
set_option maxRecDepth 100000 in
theorem c_X4_blame (l : Launch) (D : va_G) (cy : cyT) {H : Heap} {S : PS} (hP : va_P D vwCl (wl cy S) H) {y0 : Nat} (v_y0 : vd S y0 4) {res : Int32} (hf : f_X4_blame S y0 = some res) : Met l yX4_blame wsX4_blame ({ frames := 2, cells := 0, slots := 0, locals := 42 } : Room) (PcR D cy H [.ref y0]) (vp_Si (fun r => r = res)) 0 0 (fun _ => False) := by
  refine Met.ofW (cc := cX4_blame) (maxL := 5) (ret := (some .int)) (by decide) rfl ?_
  intro p e s m args below meth c s₁ B hml hv
  obtain ⟨hav, hH, hK⟩ := hv
  have hx := B.exec
  have hb := B.bytes
  have hr := B.returns
  have hts := atoms_spec (ws := wsX4_blame) B.pre
  have hown : s.vm.findClass RX4 = some m.cls := findClass_of_methodNamed B.named
  have hlocks := B.notSynchronized
  subst hav
  subst hH
  have F : CallFix p m c cX4_blame 5 s _ wsX4_blame RX4 := ⟨hx, hb, hml, hown, hts⟩
  have hB72 : ∀ (x1 : Int32) (ls : Array Slot), lv_has ls 5 [(1, .int x1)] → f_X4_blame_B72 S x1 = some res → W p l e (headSpec wsX4_blame ({ frames := 2, cells := 0, slots := 0, locals := 42 } : Room)).room s m ([.ref y0] : List Value).toArray below meth c s.heap [] 0 0 (MQ below (vp_Si (fun r => r = res)) ([.ref y0] : List Value).toArray s 0 0 (fun _ => False)) (F0 m 72 ls []) := by
    intro x1 ls hl hf
    unfold f_X4_blame_B72 at hf
    refine lv_iload_n hx hb dX4_blame_72 rfl (lv_at hl 0 rfl) ?_
    exact W.iret (v := x1) hx hb hr (fun t ht hW => ⟨_, rfl, Option.some.inj hf, ht⟩) (fun _ h => by cases h) dX4_blame_73
  have hL6 : ∀ (fu6 : Nat), ∀ (x0 : Nat) (x1 : Int32) (x2 : Int32) (x3 : Int32) (ls : Array Slot), lv_has ls 5 [(0, .ref x0), (1, .int x1), (2, .int x2), (3, .int x3)] → vd S x0 4 → f_X4_blame_L6 S (f_X4_blame_B72 S) fu6 x0 x1 x2 x3 = some res → W p l e (headSpec wsX4_blame ({ frames := 2, cells := 0, slots := 0, locals := 42 } : Room)).room s m ([.ref y0] : List Value).toArray below meth c s.heap [] 0 0 (MQ below (vp_Si (fun r => r = res)) ([.ref y0] : List Value).toArray s 0 0 (fun _ => False)) (F0 m 6 ls []) := by
    intro fu6
    induction fu6 with
    | zero =>
      intro x0 x1 x2 x3 ls hl v_x0 hf
      have hf : (none : Option Int32) = some res := hf
      cases hf
    | succ fu6 ih6 =>
      have hB66 : ∀ (x0 : Nat) (x1 : Int32) (x2 : Int32) (x3 : Int32) (ls : Array Slot), lv_has ls 5 [(0, .ref x0), (1, .int x1), (2, .int x2), (3, .int x3)] → vd S x0 4 → f_X4_blame_B66 S (f_X4_blame_L6 S (f_X4_blame_B72 S) fu6) (f_X4_blame_B72 S) x0 x1 x2 x3 = some res → W p l e (headSpec wsX4_blame ({ frames := 2, cells := 0, slots := 0, locals := 42 } : Room)).room s m ([.ref y0] : List Value).toArray below meth c s.heap [] 0 0 (MQ below (vp_Si (fun r => r = res)) ([.ref y0] : List Value).toArray s 0 0 (fun _ => False)) (F0 m 66 ls []) := by
        intro x0 x1 x2 x3 ls hl v_x0 hf
        unfold f_X4_blame_B66 at hf
        refine lv_iinc (v := x3 + 1) (lv' := [(3, .int (x3 + 1)), (0, .ref x0), (1, .int x1), (2, .int x2)]) hx hb dX4_blame_66 hl (k := 3) rfl (by rfl) (by decide) rfl (fun ls hl => ?_)
        refine lv_goto (tgt := 6) hx hb dX4_blame_69 (by decide) ?_
        exact ih6 x0 x1 x2 (x3 + 1) _ (lv_sub hl [1, 2, 3, 0] rfl) v_x0 hf
      have hB53 : ∀ (x0 : Nat) (x1 : Int32) (x2 : Int32) (x3 : Int32) (s0 : Int32) (ls : Array Slot), lv_has ls 5 [(0, .ref x0), (1, .int x1), (2, .int x2), (3, .int x3)] → vd S x0 4 → f_X4_blame_B53 S (f_X4_blame_L6 S (f_X4_blame_B72 S) fu6) (f_X4_blame_B72 S) x0 x1 x2 x3 s0 = some res → W p l e (headSpec wsX4_blame ({ frames := 2, cells := 0, slots := 0, locals := 42 } : Room)).room s m ([.ref y0] : List Value).toArray below meth c s.heap [] 0 0 (MQ below (vp_Si (fun r => r = res)) ([.ref y0] : List Value).toArray s 0 0 (fun _ => False)) (F0 m 53 ls [.int s0]) := by
        intro x0 x1 x2 x3 s0 ls hl v_x0 hf
        unfold f_X4_blame_B53 at hf
        refine lv_istore (lv' := [(4, .int s0), (0, .ref x0), (1, .int x1), (2, .int x2), (3, .int x3)]) hx hb dX4_blame_53 hl (by decide) rfl (fun ls hl => ?_)
        refine lv_iload hx hb dX4_blame_55 (lv_at hl 0 rfl) ?_
        refine lv_iload_n hx hb dX4_blame_57 rfl (lv_at hl 3 rfl) ?_
        refine lv_icmp_le (tgt := 66) hx hb dX4_blame_58 (by decide) (fun c21 => ?_) (fun c21 => ?_)
        · have hf := it_t c21 hf
          exact hB66 x0 x1 x2 x3 _ (lv_sub hl [1, 2, 3, 4] rfl) v_x0 hf
        · have hf := it_f c21 hf
          refine lv_iload_n hx hb dX4_blame_61 rfl (lv_at hl 4 rfl) ?_
          refine lv_istore_n (lv' := [(1, .int x3), (4, .int s0), (0, .ref x0), (2, .int x2), (3, .int x3)]) hx hb dX4_blame_62 rfl hl (by decide) rfl (fun ls hl => ?_)
          refine lv_iload hx hb dX4_blame_63 (lv_at hl 1 rfl) ?_
          refine lv_istore_n (lv' := [(2, .int s0), (1, .int x3), (4, .int s0), (0, .ref x0), (3, .int x3)]) hx hb dX4_blame_65 rfl hl (by decide) rfl (fun ls hl => ?_)
          exact hB66 x0 x3 s0 x3 _ (lv_sub hl [3, 1, 0, 4] rfl) v_x0 hf
      intro x0 x1 x2 x3 ls hl v_x0 hf
      have hf : f_X4_blame_L6s S (f_X4_blame_L6 S (f_X4_blame_B72 S) fu6) (f_X4_blame_B72 S) x0 x1 x2 x3 = some res := hf
      unfold f_X4_blame_L6s at hf
      refine lv_iload_n hx hb dX4_blame_6 rfl (lv_at hl 3 rfl) ?_
      refine lv_aload_n hx hb dX4_blame_7 rfl (lv_at hl 0 rfl) ?_
      obtain ⟨b22, e23, v_b22, hf⟩ := rq_some hf
      refine q_get F hK hP v_x0.1 (pF_4 (S := S) v_x0.2) (fun w h => List.mem_cons_of_mem _ (List.mem_append_left _ (List.mem_append_right _ h))) rfl 0 (by decide) (hts (.fieldLink RX4 17 "SharedModuli" "now" "LSharedModuli$State;") (List.mem_of_getElem? (i := 1) rfl)) (v := .ref b22) (congrArg (fun z => some (va_rf z)) e23) dX4_blame_8 ?_
      refine q_getN F hK hP v_b22.1 (pF_3 (S := S) v_b22.2) (fun w h => List.mem_cons_of_mem _ (List.mem_append_right _ h)) rfl 3 (by decide) (nk_f_RX4_95 hK.2.1) (v := .int (fI S 51 b22)) rfl dX4_blame_11 ?_
      refine lv_icmp_ge (tgt := 72) hx hb dX4_blame_14 (by decide) (fun c24 => ?_) (fun c24 => ?_)
      · have hf := it_t c24 hf
        exact hB72 x1 _ (lv_sub hl [1] rfl)  hf
      · have hf := it_f c24 hf
        refine lv_aload_n hx hb dX4_blame_17 rfl (lv_at hl 0 rfl) ?_
        obtain ⟨b25, e26, v_b25, hf⟩ := rq_some hf
        refine q_get F hK hP v_x0.1 (pF_4 (S := S) v_x0.2) (fun w h => List.mem_cons_of_mem _ (List.mem_append_left _ (List.mem_append_right _ h))) rfl 0 (by decide) (hts (.fieldLink RX4 17 "SharedModuli" "now" "LSharedModuli$State;") (List.mem_of_getElem? (i := 1) rfl)) (v := .ref b25) (congrArg (fun z => some (va_rf z)) e26) dX4_blame_18 ?_
        refine lv_iload_n hx hb dX4_blame_21 rfl (lv_at hl 3 rfl) ?_
        obtain ⟨t27, h28, hf⟩ := bd_some hf
        refine vp_callSi (va_runV (As := [.int x3]) (rest := []) F (c_X3_isOn l D cy (H := _) hP v_b25 h28) (cwV 1 hts gX4_blame_X3_isOn rfl rfl rfl ⟨rfl, ph_X3_isOn.1, ph_X3_isOn.2, pd_X3_isOn⟩ ⟨Nat.le_of_ble_eq_true rfl, Nat.le_of_ble_eq_true rfl⟩) ⟨PcR.bl, (q_rcv hK hP v_b25.1 (pF_3 (S := S) v_b25.2) rfl), PcR.in hK⟩ rfl rfl hl.1 rfl (lv_room (Nat.le_of_ble_eq_true rfl)) dX4_blame_22 ⟨Nat.zero_le _, Nat.zero_le _⟩).run (fun r29 er29 => ?_)
        subst r29
        refine lv_if_eq (tgt := 52) hx hb dX4_blame_25 (by decide) (fun c30 => ?_) (fun c30 => ?_)
        · have hf := it_t c30 hf
          refine lv_iconst (v := 0) hx hb dX4_blame_52 (by decide) ?_
          exact hB53 x0 x1 x2 x3 0 _ (lv_sub hl [0, 1, 2, 3] rfl) v_x0 hf
        · have hf := it_f c30 hf
          refine lv_aload_n hx hb dX4_blame_28 rfl (lv_at hl 0 rfl) ?_
          obtain ⟨b31, e32, v_b31, hf⟩ := rq_some hf
          refine q_get F hK hP v_x0.1 (pF_4 (S := S) v_x0.2) (fun w h => List.mem_cons_of_mem _ (List.mem_append_left _ (List.mem_append_right _ h))) rfl 0 (by decide) (hts (.fieldLink RX4 17 "SharedModuli" "now" "LSharedModuli$State;") (List.mem_of_getElem? (i := 1) rfl)) (v := .ref b31) (congrArg (fun z => some (va_rf z)) e32) dX4_blame_29 ?_
          refine q_getN F hK hP v_b31.1 (pF_3 (S := S) v_b31.2) (fun w h => List.mem_cons_of_mem _ (List.mem_append_right _ h)) rfl 4 (by decide) (nk_f_RX4_98 hK.2.1) (v := .int (fI S 52 b31)) rfl dX4_blame_32 ?_
          refine lv_aload_n hx hb dX4_blame_35 rfl (lv_at hl 0 rfl) ?_
          obtain ⟨b33, e34, v_b33, hf⟩ := rq_some hf
          refine q_get F hK hP v_x0.1 (pF_4 (S := S) v_x0.2) (fun w h => List.mem_cons_of_mem _ (List.mem_append_left _ (List.mem_append_right _ h))) rfl 0 (by decide) (hts (.fieldLink RX4 17 "SharedModuli" "now" "LSharedModuli$State;") (List.mem_of_getElem? (i := 1) rfl)) (v := .ref b33) (congrArg (fun z => some (va_rf z)) e34) dX4_blame_36 ?_
          refine lv_iload_n hx hb dX4_blame_39 rfl (lv_at hl 3 rfl) ?_
          obtain ⟨t35, h36, hf⟩ := bd_some hf
          refine vp_callSi (va_runV (As := [.int x3]) (rest := [.int (fI S 52 b31)]) F (c_X3_partnersAt l D cy (H := _) hP v_b33 h36) (cwV 1 hts gX4_blame_X3_partnersAt rfl rfl rfl ⟨rfl, ph_X3_partnersAt.1, ph_X3_partnersAt.2, pd_X3_partnersAt⟩ ⟨Nat.le_of_ble_eq_true rfl, Nat.le_of_ble_eq_true rfl⟩) ⟨PcR.bl, (q_rcv hK hP v_b33.1 (pF_3 (S := S) v_b33.2) rfl), PcR.in hK⟩ rfl rfl hl.1 rfl (lv_room (Nat.le_of_ble_eq_true rfl)) dX4_blame_40 ⟨Nat.zero_le _, Nat.zero_le _⟩).run (fun r37 er37 => ?_)
          subst r37
          refine lv_iconst (v := (-1)) hx hb dX4_blame_43 (by decide) ?_
          refine lv_ixor hx hb dX4_blame_44 ?_
          refine lv_iand hx hb dX4_blame_45 ?_
          obtain ⟨t38, h39, hf⟩ := bd_some hf
          refine vp_callSi (va_runS (As := [.int ((fI S 52 b31) &&& (t35 ^^^ ((-1) : Int32)))]) (rest := []) F (c_J6_bitCount_0f7a4 l D cy (H := _)  h39) (va_cwS 1 hts gX4_blame_J6_bitCount_0f7a4 rfl rfl rfl ⟨ph_J6_bitCount_0f7a4.1, ph_J6_bitCount_0f7a4.2, pd_J6_bitCount_0f7a4⟩ ⟨Nat.le_of_ble_eq_true rfl, Nat.le_of_ble_eq_true rfl⟩) ⟨PcR.bl, PcR.in hK⟩ rfl rfl hl.1 rfl (lv_room (Nat.le_of_ble_eq_true rfl)) dX4_blame_46 ⟨Nat.zero_le _, Nat.zero_le _⟩).run (fun r40 er40 => ?_)
          subst r40
          refine lv_goto (tgt := 53) hx hb dX4_blame_49 (by decide) ?_
          exact hB53 x0 x1 x2 x3 t38 _ (lv_sub hl [0, 1, 2, 3] rfl) v_x0 hf
  have hl := lv_entry ([.ref y0]) (n := 5) (Nat.le_of_ble_eq_true rfl)
  rw [lg_entry_eq]
  generalize (lg_sl ([.ref y0]) ++ List.replicate (5 - (lg_sl ([.ref y0])).length) Slot.unset).toArray = ls at hl ⊢
  have hl : lv_has ls 5 [(0, .ref y0)] := hl
  unfold f_X4_blame at hf
  refine lv_iconst (v := (-1)) hx hb dX4_blame_0 (by decide) ?_
  refine lv_istore_n (lv' := [(1, .int ((-1))), (0, .ref y0)]) hx hb dX4_blame_1 rfl hl (by decide) rfl (fun ls hl => ?_)
  refine lv_iconst (v := 0) hx hb dX4_blame_2 (by decide) ?_
  refine lv_istore_n (lv' := [(2, .int 0), (1, .int ((-1))), (0, .ref y0)]) hx hb dX4_blame_3 rfl hl (by decide) rfl (fun ls hl => ?_)
  refine lv_iconst (v := 0) hx hb dX4_blame_4 (by decide) ?_
  refine lv_istore_n (lv' := [(3, .int 0), (2, .int 0), (1, .int ((-1))), (0, .ref y0)]) hx hb dX4_blame_5 rfl hl (by decide) rfl (fun ls hl => ?_)
  exact hL6 FU y0 ((-1)) 0 0 _ (lv_sub hl [3, 2, 1, 0] rfl) v_y0 hf
def f_X4_density_B48 (S : PS) (s0 : UInt64) : Option (UInt64 × PS) :=
  some (s0, S)
def f_X4_density (S : PS) (x0 : Nat) : Option (UInt64 × PS) :=
  rq (fR S 64 x0) S 3 fun b1 =>
  rq (fR S 64 x0) S 3 fun b3 =>
  bd (f_X3_arePossible S b1 (fI S 52 b3)) fun t5 =>
  if t5 = 0 then (some (FP.dconst0, S)) else
  rq (fR S 64 x0) S 3 fun b9 =>
  bd (f_X4_join S x0 (fI S 52 b9)) fun t11 =>
  if 1 ≤ (fL t11.2 16 t11.1) then (ck (decide ((FP.ddiv FP.dconst1 (FP.l2d (fL t11.2 16 t11.1))) &&& 0x7fffffffffffffff ≤ 0x7ff0000000000000)) (
  f_X4_density_B48 t11.2 (FP.ddiv FP.dconst1 (FP.l2d (fL t11.2 16 t11.1))))) else
  f_X4_density_B48 t11.2 FP.dconst0
set_option maxHeartbeats 4000000 in
set_option maxRecDepth 100000 in
theorem c_X4_density (l : Launch) (D : va_G) (cy : cyT) {S : PS} {n : Nat} {y0 : Nat} (v_y0 : vd S y0 4) {res : UInt64 × PS} (hf : f_X4_density S y0 = some res) : Met l yX4_density wsX4_density ({ frames := 3, cells := 0, slots := 0, locals := 89 } : Room) (PcW False D cy S n [.ref y0]) (va_Qd (fun (r : UInt64) (u : PS × Nat) => r = res.1 ∧ u = (res.2, n)) (BW D cy S n) (AA cy S n)) 0 0 (AA cy S n) := by
  refine Met.ofW (cc := cX4_density) (maxL := 3) (ret := (some .double)) (by decide) rfl ?_
  intro p e s m args below meth c s₁ B hml hv
  obtain ⟨hav, hsz, hP0, hD0, hK, hZ0⟩ := hv
  have hx := B.exec
  have hb := B.bytes
  have hr := B.returns
  have hts := atoms_spec (ws := wsX4_density) B.pre
  have hown : s.vm.findClass RX4 = some m.cls := findClass_of_methodNamed B.named
  have hlocks := B.notSynchronized
  subst hav
  have hw : Hw D cy (AA cy S n) s.heap S n s.heap [] := Hw.start hsz hP0 hD0
  have hA : ∀ q, s.heap.size ≤ q → AA cy S n q := fun q h => Or.inr (hsz ▸ h)
  have hE : EX S S := EX.rf
  have F : CallFix p m c cX4_density 3 s _ wsX4_density RX4 := ⟨hx, hb, hml, hown, hts⟩
  have hB48 : ∀ (Sb : PS) (H1 : Heap) (lo1 : List Loc) (s0 : UInt64) (ls : Array Slot), lv_has ls 3 [] → Hw D cy (AA cy S n) s.heap Sb n H1 lo1 → EX S Sb → f_X4_density_B48 Sb s0 = some res → W p l e (headSpec wsX4_density ({ frames := 3, cells := 0, slots := 0, locals := 89 } : Room)).room s m ([.ref y0] : List Value).toArray below meth c H1 lo1 0 0 (MQ below (va_Qd (fun (r : UInt64) (u : PS × Nat) => r = res.1 ∧ u = (res.2, n)) (BW D cy S n) (AA cy S n)) ([.ref y0] : List Value).toArray s 0 0 (AA cy S n)) (F0 m 48 ls [.double s0]) := by
    intro Sb H1 lo1 s0 ls hl hw hE hf
    unfold f_X4_density_B48 at hf
    exact W.dret (v := s0) hx hb hr (fun t ht hW => ⟨⟨_, (Sb, n), rfl, po2 hf, BW.of hw hE ht⟩, hw.2.2.1.F ht⟩) hw.2.2.1.2.2 dX4_density_48
  have hl := lv_entry ([.ref y0]) (n := 3) (Nat.le_of_ble_eq_true rfl)
  rw [lg_entry_eq]
  generalize (lg_sl ([.ref y0]) ++ List.replicate (3 - (lg_sl ([.ref y0])).length) Slot.unset).toArray = ls at hl ⊢
  have hl : lv_has ls 3 [(0, .ref y0)] := hl
  unfold f_X4_density at hf
  refine lv_aload_n hx hb dX4_density_0 rfl (lv_at hl 0 rfl) ?_
  obtain ⟨b15, e16, v_b15, hf⟩ := rq_some hf
  refine q_get F hK hw.1 v_y0.1 (pF_4 (S := S) v_y0.2) (fun w h => List.mem_cons_of_mem _ (List.mem_append_left _ (List.mem_append_left _ (List.mem_append_left _ (List.mem_append_right _ h))))) rfl 0 (by decide) (hts (.fieldLink RX4 17 "SharedModuli" "now" "LSharedModuli$State;") (List.mem_of_getElem? (i := 1) rfl)) (v := .ref b15) (congrArg (fun z => some (va_rf z)) e16) dX4_density_1 ?_
  refine lv_aload_n hx hb dX4_density_4 rfl (lv_at hl 0 rfl) ?_
  obtain ⟨b17, e18, v_b17, hf⟩ := rq_some hf
  refine q_get F hK hw.1 v_y0.1 (pF_4 (S := S) v_y0.2) (fun w h => List.mem_cons_of_mem _ (List.mem_append_left _ (List.mem_append_left _ (List.mem_append_left _ (List.mem_append_right _ h))))) rfl 0 (by decide) (hts (.fieldLink RX4 17 "SharedModuli" "now" "LSharedModuli$State;") (List.mem_of_getElem? (i := 1) rfl)) (v := .ref b17) (congrArg (fun z => some (va_rf z)) e18) dX4_density_5 ?_
  refine q_getN F hK hw.1 v_b17.1 (pF_3 (S := S) v_b17.2) (fun w h => List.mem_cons_of_mem _ (List.mem_append_left _ (List.mem_append_left _ (List.mem_append_right _ h)))) rfl 4 (by decide) (nk_f_RX4_98 hK.2.1) (v := .int (fI S 52 b17)) rfl dX4_density_8 ?_
  obtain ⟨t19, h20, hf⟩ := bd_some hf
  refine vp_callSi (va_runV (As := [.int (fI S 52 b17)]) (rest := []) F (c_X3_arePossible l D cy (H := _) hw.1 v_b15 h20) (cwV 1 hts gX4_density_X3_arePossible rfl rfl rfl ⟨rfl, ph_X3_arePossible.1, ph_X3_arePossible.2, pd_X3_arePossible⟩ ⟨Nat.le_of_ble_eq_true rfl, Nat.le_of_ble_eq_true rfl⟩) ⟨PcR.bl, (q_rcv hK hw.1 v_b15.1 (pF_3 (S := S) v_b15.2) rfl), PcR.in hK⟩ rfl rfl hl.1 rfl (lv_room (Nat.le_of_ble_eq_true rfl)) dX4_density_11 ⟨Nat.zero_le _, Nat.zero_le _⟩).run (fun r21 er21 => ?_)
  subst r21
  refine lv_if_ne (tgt := 19) hx hb dX4_density_14 (by decide) (fun c22 => ?_) (fun c22 => ?_)
  · have hf := it_f c22 hf
    refine lv_aload_n hx hb dX4_density_19 rfl (lv_at hl 0 rfl) ?_
    refine lv_aload_n hx hb dX4_density_20 rfl (lv_at hl 0 rfl) ?_
    obtain ⟨b23, e24, v_b23, hf⟩ := rq_some hf
    refine q_get F hK hw.1 v_y0.1 (pF_4 (S := S) v_y0.2) (fun w h => List.mem_cons_of_mem _ (List.mem_append_left _ (List.mem_append_left _ (List.mem_append_left _ (List.mem_append_right _ h))))) rfl 0 (by decide) (hts (.fieldLink RX4 17 "SharedModuli" "now" "LSharedModuli$State;") (List.mem_of_getElem? (i := 1) rfl)) (v := .ref b23) (congrArg (fun z => some (va_rf z)) e24) dX4_density_21 ?_
    refine q_getN F hK hw.1 v_b23.1 (pF_3 (S := S) v_b23.2) (fun w h => List.mem_cons_of_mem _ (List.mem_append_left _ (List.mem_append_left _ (List.mem_append_right _ h)))) rfl 4 (by decide) (nk_f_RX4_98 hK.2.1) (v := .int (fI S 52 b23)) rfl dX4_density_24 ?_
    obtain ⟨t25, h26, hf⟩ := bd_some hf
    refine q_callr (va_runV (As := [.int (fI S 52 b23)]) (rest := []) F (c_X4_join l D cy (S := S) v_y0 h26) (cwV 1 hts gX4_density_X4_join rfl rfl rfl ⟨rfl, ph_X4_join.1, ph_X4_join.2, pd_X4_join⟩ ⟨Nat.le_of_ble_eq_true rfl, Nat.le_of_ble_eq_true rfl⟩) ⟨PcW.bl, (q_rcv hK hw.1 v_y0.1 (pF_4 (S := S) v_y0.2) rfl), PcW.in hK hw hA (fun z => z.elim)⟩ rfl rfl hl.1 rfl (lv_room (Nat.le_of_ble_eq_true rfl)) dX4_density_27 ⟨Nat.zero_le _, Nat.zero_le _⟩) hw hA (fun H locs hw hX v_t25 => ?_)
    have hE := hE.tr hX
    have v_y0 := hX _ _ v_y0
    have v_b15 := hX _ _ v_b15
    have v_b17 := hX _ _ v_b17
    have v_b23 := hX _ _ v_b23
    refine q_getN F hK hw.1 v_t25.1 (pF_1 (S := t25.2) v_t25.2) (fun w h => List.mem_cons_of_mem _ (List.mem_append_left _ (List.mem_append_right _ h))) rfl 0 (by decide) (nk_f_RX4_254 hK.2.1) (v := .long (fL t25.2 16 t25.1)) rfl dX4_density_30 ?_
    refine lv_lstore_n (lv' := [(1, .long (fL t25.2 16 t25.1)), (0, .ref y0)]) hx hb dX4_density_33 rfl hl (by decide) rfl (fun ls hl => ?_)
    refine lv_lload_n hx hb dX4_density_34 rfl (lv_at hl 0 rfl) ?_
    refine lv_lconst (v := 1) hx hb dX4_density_35 (by decide) ?_
    refine W.lcmp hx hb dX4_density_36 ?_
    refine lv_if_ge (tgt := 44) hx hb dX4_density_37 (by decide) (fun c27 => ?_) (fun c27 => ?_)
    · have hf := it_t ((lq_ge _ _).mp c27) hf
      refine lv_dconst1 hx hb dX4_density_44 ?_
      refine lv_lload_n hx hb dX4_density_45 rfl (lv_at hl 0 rfl) ?_
      refine lv_l2d hx hb dX4_density_46 ?_
      obtain ⟨c28, hf⟩ := ckd_some hf
      refine lv_ddiv hx hb dX4_density_47 c28 ?_
      exact hB48 t25.2 _ _ (FP.ddiv FP.dconst1 (FP.l2d (fL t25.2 16 t25.1))) _ (lv_sub hl [] rfl) hw hE  hf
    · have hf := it_f (fun z => c27 ((lq_ge _ _).mpr z)) hf
      refine lv_dconst0 hx hb dX4_density_40 ?_
      refine lv_goto (tgt := 48) hx hb dX4_density_41 (by decide) ?_
      exact hB48 t25.2 _ _ FP.dconst0 _ (lv_sub hl [] rfl) hw hE  hf
  · have hf := it_t c22 hf
    refine lv_dconst0 hx hb dX4_density_17 ?_
    exact W.dret (v := FP.dconst0) hx hb hr (fun t ht hW => ⟨⟨_, (S, n), rfl, po2 hf, BW.of hw hE ht⟩, hw.2.2.1.F ht⟩) hw.2.2.1.2.2 dX4_density_18
def f_X4_mixed (x0 : Int64) (x2 : Int64) : Option Int64 :=
  some (((31 : Int64) * x0) + x2)
set_option maxHeartbeats 4000000 in
set_option maxRecDepth 100000 in
theorem c_X4_mixed (l : Launch) (D : va_G) (cy : cyT) {H : Heap} {y0 : Int64} {y2 : Int64}  {res : Int64} (hf : f_X4_mixed y0 y2 = some res) : Met l yX4_mixed wsX4_mixed ({ frames := 0, cells := 0, slots := 0, locals := 0 } : Room) (PcR D cy H [.long y0, .long y2]) (vp_Sl (fun r => r = res)) 0 0 (fun _ => False) := by
  refine Met.ofW (cc := cX4_mixed) (maxL := 4) (ret := (some .long)) (by decide) rfl ?_
  intro p e s m args below meth c s₁ B hml hv
  obtain ⟨hav, hH, hK⟩ := hv
  have hx := B.exec
  have hb := B.bytes
  have hr := B.returns
  have hts := atoms_spec (ws := wsX4_mixed) B.pre
  have hown : s.vm.findClass RX4 = some m.cls := findClass_of_methodNamed B.named
  have hlocks := B.notSynchronized
  subst hav
  subst hH
  have F : CallFix p m c cX4_mixed 4 s _ wsX4_mixed RX4 := ⟨hx, hb, hml, hown, hts⟩
  have hl := lv_entry ([.long y0, .long y2]) (n := 4) (Nat.le_of_ble_eq_true rfl)
  rw [lg_entry_eq]
  generalize (lg_sl ([.long y0, .long y2]) ++ List.replicate (4 - (lg_sl ([.long y0, .long y2])).length) Slot.unset).toArray = ls at hl ⊢
  have hl : lv_has ls 4 [(0, .long y0), (2, .long y2)] := hl
  unfold f_X4_mixed at hf
  refine lv_ldc2 hx hb hown (hts (.constantLong RX4 338 31) (List.mem_of_getElem? (i := 1) rfl)) dX4_mixed_0 ?_
  refine lv_lload_n hx hb dX4_mixed_3 rfl (lv_at hl 0 rfl) ?_
  refine lv_lmul hx hb dX4_mixed_4 ?_
  refine lv_lload_n hx hb dX4_mixed_5 rfl (lv_at hl 1 rfl) ?_
  refine lv_ladd hx hb dX4_mixed_6 ?_
  exact W.lret (v := (((31 : Int64) * y0) + y2)) hx hb hr (fun t ht hW => ⟨_, rfl, Option.some.inj hf, ht⟩) (fun _ h => by cases h) dX4_mixed_7
def f_X4_withCondition_B70 (S : PS) (x0 : Nat) (x3 : Int32) (x4 : Int64) : Option (Int64 × PS) :=
  nx (f_X4_without S x0 x3 0) fun t1 u3 =>
  bd (f_X4_mixed x4 t1) fun t4 =>
  nx (f_X4_without u3 x0 x3 1) fun t7 u9 =>
  bd (f_X4_mixed t4 t7) fun t10 =>
  some (t10, u9)
def f_X4_withCondition_L37s (kL37 : PS → Nat → Int32 → Int64 → Int32 → Option (Int64 × PS)) (ke70 : PS → Nat → Int32 → Int64 → Option (Int64 × PS)) (S : PS) (x0 : Nat) (x3 : Int32) (x4 : Int64) (x6 : Int32) : Option (Int64 × PS) :=
  rq (fR S 64 x0) S 3 fun b13 =>
  if (fI S 51 b13) ≤ x6 then (ke70 S x0 x3 x4) else
  nx (f_X4_agrees S x0 x3 x6) fun t16 u18 =>
  bd (f_X4_mixed x4 t16.toInt64) fun t19 =>
  kL37 u18 x0 x3 t19 (x6 + 1)
def f_X4_withCondition_L37 (ke70 : PS → Nat → Int32 → Int64 → Option (Int64 × PS)) (fu : Nat) : PS → Nat → Int32 → Int64 → Int32 → Option (Int64 × PS) := fx (fun kL => f_X4_withCondition_L37s kL ke70) (fun _ _ _ _ _ => none) fu
def f_X4_withCondition_B34 (S : PS) (x0 : Nat) (x3 : Int32) (x4 : Int64) : Option (Int64 × PS) :=
  f_X4_withCondition_L37 f_X4_withCondition_B70 11 S x0 x3 x4 0
def f_X4_withCondition_L6s (kL6 : PS → Nat → Int32 → Int64 → Int32 → Option (Int64 × PS)) (ke34 : PS → Nat → Int32 → Int64 → Option (Int64 × PS)) (S : PS) (x0 : Nat) (x3 : Int32) (x4 : Int64) (x6 : Int32) : Option (Int64 × PS) :=
  if 8 < x6 then (ke34 S x0 x3 x4) else
  nx (f_X4_condition S x0 x3 x6) fun t23 u25 =>
  bd (f_X4_mixed x4 t23.toInt64) fun t26 =>
  kL6 u25 x0 x3 t26 (x6 + 1)
def f_X4_withCondition_L6 (ke34 : PS → Nat → Int32 → Int64 → Option (Int64 × PS)) (fu : Nat) : PS → Nat → Int32 → Int64 → Int32 → Option (Int64 × PS) := fx (fun kL => f_X4_withCondition_L6s kL ke34) (fun _ _ _ _ _ => none) fu
def f_X4_withCondition (S : PS) (x0 : Nat) (x1 : Int64) (x3 : Int32) : Option (Int64 × PS) :=
  f_X4_withCondition_L6 f_X4_withCondition_B34 10 S x0 x3 x1 0
set_option maxHeartbeats 4000000 in
set_option maxRecDepth 100000 in
theorem c_X4_withCondition (l : Launch) (hst : l.stackTraces = false) (D : va_G) (cy : cyT) {S : PS} {n : Nat} {y0 : Nat} {y1 : Int64} {y3 : Int32} (v_y0 : vd S y0 4) {res : Int64 × PS} (hf : f_X4_withCondition S y0 y1 y3 = some res) : Met l yX4_withCondition wsX4_withCondition ({ frames := 7, cells := 23, slots := 138, locals := 134 } : Room) (PcW True D cy S n [.ref y0, .long y1, .int y3]) (va_Ql (fun (r : Int64) (u : PS × Nat) => r = res.1 ∧ u = (res.2, n)) (BW D cy S n) (AA cy S n)) 23 138 (AA cy S n) := by
  refine Met.ofW (cc := cX4_withCondition) (maxL := 7) (ret := (some .long)) (by decide) rfl ?_
  intro p e s m args below meth c s₁ B hml hv
  obtain ⟨hav, hsz, hP0, hD0, hK, hZ0⟩ := hv
  have hx := B.exec
  have hb := B.bytes
  have hr := B.returns
  have hts := atoms_spec (ws := wsX4_withCondition) B.pre
  have hown : s.vm.findClass RX4 = some m.cls := findClass_of_methodNamed B.named
  have hlocks := B.notSynchronized
  subst hav
  have hw : Hw D cy (AA cy S n) s.heap S n s.heap [] := Hw.start hsz hP0 hD0
  have hA : ∀ q, s.heap.size ≤ q → AA cy S n q := fun q h => Or.inr (hsz ▸ h)
  have hE : EX S S := EX.rf
  have hZ := hZ0 trivial
  have F : CallFix p m c cX4_withCondition 7 s _ wsX4_withCondition RX4 := ⟨hx, hb, hml, hown, hts⟩
  have hB70 : ∀ (Sb : PS) (H1 : Heap) (lo1 : List Loc) (kc ks : Nat) (_ : kc + 2 ≤ 23) (_ : ks + 12 ≤ 138) (x0 : Nat) (x3 : Int32) (x4 : Int64) (ls : Array Slot), lv_has ls 7 [(0, .ref x0), (3, .int x3), (4, .long x4)] → Hw D cy (AA cy S n) s.heap Sb n H1 lo1 → EX S Sb → vd Sb x0 4 → f_X4_withCondition_B70 Sb x0 x3 x4 = some res → W p l e (headSpec wsX4_withCondition ({ frames := 7, cells := 23, slots := 138, locals := 134 } : Room)).room s m ([.ref y0, .long y1, .int y3] : List Value).toArray below meth c H1 lo1 kc ks (MQ below (va_Ql (fun (r : Int64) (u : PS × Nat) => r = res.1 ∧ u = (res.2, n)) (BW D cy S n) (AA cy S n)) ([.ref y0, .long y1, .int y3] : List Value).toArray s 23 138 (AA cy S n)) (F0 m 70 ls []) := by
    intro Sb H1 lo1 kc ks hkc hks x0 x3 x4 ls hl hw hE v_x0 hf
    unfold f_X4_withCondition_B70 at hf
    refine lv_lload hx hb dX4_withCondition_70 (lv_at hl 2 rfl) ?_
    refine lv_aload_n hx hb dX4_withCondition_72 rfl (lv_at hl 0 rfl) ?_
    refine lv_iload_n hx hb dX4_withCondition_73 rfl (lv_at hl 1 rfl) ?_
    refine lv_iconst (v := 0) hx hb dX4_withCondition_74 (by decide) ?_
    obtain ⟨t29, u31, h30, hf⟩ := nx_some hf
    refine q_calll (va_runV (As := [.int x3, .int 0]) (rest := [.long x4]) F (tm_l (c_X4_without l hst D cy (S := Sb) v_x0 h30) (fun E s t hx => by obtain ⟨k, hk, _⟩ := hx; cases hk)) (cwV 2 hts gX4_withCondition_X4_without rfl rfl rfl ⟨rfl, ph_X4_without.1, ph_X4_without.2, pd_X4_without⟩ ⟨Nat.le_of_ble_eq_true rfl, Nat.le_of_ble_eq_true rfl⟩) ⟨PcW.bl, (q_rcv hK hw.1 v_x0.1 (pF_4 (S := Sb) v_x0.2) rfl), PcW.in hK hw hA (fun _ => hZ)⟩ rfl rfl hl.1 rfl (lv_room (Nat.le_of_ble_eq_true rfl)) dX4_withCondition_75 ⟨by show _ ≤ 23; omega, by show _ ≤ 138; omega⟩) hw hA (fun H locs hw hX => ?_)
    have hE := hE.tr hX
    have v_x0 := hX _ _ v_x0
    obtain ⟨t32, h33, hf⟩ := bd_some hf
    refine vp_callSl (va_runS (As := [.long x4, .long t29]) (rest := []) F (c_X4_mixed l D cy (H := _)  h33) (va_cwS 2 hts gX4_withCondition_X4_mixed rfl rfl rfl ⟨ph_X4_mixed.1, ph_X4_mixed.2, pd_X4_mixed⟩ ⟨Nat.le_of_ble_eq_true rfl, Nat.le_of_ble_eq_true rfl⟩) ⟨PcR.bl, PcR.in hK⟩ rfl rfl hl.1 rfl (lv_room (Nat.le_of_ble_eq_true rfl)) dX4_withCondition_78 ⟨by show _ ≤ 23; omega, by show _ ≤ 138; omega⟩).run (fun r34 er34 => ?_)
    subst r34
    refine lv_lstore (lv' := [(4, .long t32), (0, .ref x0), (3, .int x3)]) hx hb dX4_withCondition_81 hl (by decide) rfl (fun ls hl => ?_)
    refine lv_lload hx hb dX4_withCondition_83 (lv_at hl 0 rfl) ?_
    refine lv_aload_n hx hb dX4_withCondition_85 rfl (lv_at hl 1 rfl) ?_
    refine lv_iload_n hx hb dX4_withCondition_86 rfl (lv_at hl 2 rfl) ?_
    refine lv_iconst (v := 1) hx hb dX4_withCondition_87 (by decide) ?_
    obtain ⟨t35, u37, h36, hf⟩ := nx_some hf
    refine q_calll (va_runV (As := [.int x3, .int 1]) (rest := [.long t32]) F (tm_l (c_X4_without l hst D cy (S := u31) v_x0 h36) (fun E s t hx => by obtain ⟨k, hk, _⟩ := hx; cases hk)) (cwV 2 hts gX4_withCondition_X4_without rfl rfl rfl ⟨rfl, ph_X4_without.1, ph_X4_without.2, pd_X4_without⟩ ⟨Nat.le_of_ble_eq_true rfl, Nat.le_of_ble_eq_true rfl⟩) ⟨PcW.bl, (q_rcv hK hw.1 v_x0.1 (pF_4 (S := u31) v_x0.2) rfl), PcW.in hK hw hA (fun _ => hZ)⟩ rfl rfl hl.1 rfl (lv_room (Nat.le_of_ble_eq_true rfl)) dX4_withCondition_88 ⟨by show _ ≤ 23; omega, by show _ ≤ 138; omega⟩) hw hA (fun H locs hw hX => ?_)
    have hE := hE.tr hX
    have v_x0 := hX _ _ v_x0
    obtain ⟨t38, h39, hf⟩ := bd_some hf
    refine vp_callSl (va_runS (As := [.long t32, .long t35]) (rest := []) F (c_X4_mixed l D cy (H := _)  h39) (va_cwS 2 hts gX4_withCondition_X4_mixed rfl rfl rfl ⟨ph_X4_mixed.1, ph_X4_mixed.2, pd_X4_mixed⟩ ⟨Nat.le_of_ble_eq_true rfl, Nat.le_of_ble_eq_true rfl⟩) ⟨PcR.bl, PcR.in hK⟩ rfl rfl hl.1 rfl (lv_room (Nat.le_of_ble_eq_true rfl)) dX4_withCondition_91 ⟨by show _ ≤ 23; omega, by show _ ≤ 138; omega⟩).run (fun r40 er40 => ?_)
    subst r40
    refine W.widen (k := 23) (n := 138) (by omega) (by omega) ?_
    exact W.lret (v := t38) hx hb hr (fun t ht hW => ⟨⟨_, (u37, n), rfl, po2 hf, BW.of hw hE ht⟩, hw.2.2.1.F ht⟩) hw.2.2.1.2.2 dX4_withCondition_94
  have hL37 : ∀ (fu37 : Nat), ∀ (Sb : PS) (H1 : Heap) (lo1 : List Loc) (kc ks : Nat) (_ : kc + (fu37 * 1 + 2) ≤ 23) (_ : ks + (fu37 * 6 + 12) ≤ 138) (x0 : Nat) (x3 : Int32) (x4 : Int64) (x6 : Int32) (ls : Array Slot), lv_has ls 7 [(0, .ref x0), (3, .int x3), (4, .long x4), (6, .int x6)] → Hw D cy (AA cy S n) s.heap Sb n H1 lo1 → EX S Sb → vd Sb x0 4 → f_X4_withCondition_L37 f_X4_withCondition_B70 fu37 Sb x0 x3 x4 x6 = some res → W p l e (headSpec wsX4_withCondition ({ frames := 7, cells := 23, slots := 138, locals := 134 } : Room)).room s m ([.ref y0, .long y1, .int y3] : List Value).toArray below meth c H1 lo1 kc ks (MQ below (va_Ql (fun (r : Int64) (u : PS × Nat) => r = res.1 ∧ u = (res.2, n)) (BW D cy S n) (AA cy S n)) ([.ref y0, .long y1, .int y3] : List Value).toArray s 23 138 (AA cy S n)) (F0 m 37 ls []) := by
    intro fu37
    induction fu37 with
    | zero =>
      intro Sb H1 lo1 kc ks hkc hks x0 x3 x4 x6 ls hl hw hE v_x0 hf
      have hf : (none : Option (Int64 × PS)) = some res := hf
      cases hf
    | succ fu37 ih37 =>
      intro Sb H1 lo1 kc ks hkc hks x0 x3 x4 x6 ls hl hw hE v_x0 hf
      have hf : f_X4_withCondition_L37s (f_X4_withCondition_L37 f_X4_withCondition_B70 fu37) f_X4_withCondition_B70 Sb x0 x3 x4 x6 = some res := hf
      unfold f_X4_withCondition_L37s at hf
      refine lv_iload hx hb dX4_withCondition_37 (lv_at hl 3 rfl) ?_
      refine lv_aload_n hx hb dX4_withCondition_39 rfl (lv_at hl 0 rfl) ?_
      obtain ⟨b41, e42, v_b41, hf⟩ := rq_some hf
      refine q_get F hK hw.1 v_x0.1 (pF_4 (S := Sb) v_x0.2) (fun w h => List.mem_cons_of_mem _ (List.mem_append_left _ (List.mem_append_left _ (List.mem_append_left _ (List.mem_append_left _ (List.mem_append_left _ (List.mem_append_right _ h))))))) rfl 0 (by decide) (hts (.fieldLink RX4 17 "SharedModuli" "now" "LSharedModuli$State;") (List.mem_of_getElem? (i := 1) rfl)) (v := .ref b41) (congrArg (fun z => some (va_rf z)) e42) dX4_withCondition_40 ?_
      refine q_getN F hK hw.1 v_b41.1 (pF_3 (S := Sb) v_b41.2) (fun w h => List.mem_cons_of_mem _ (List.mem_append_left _ (List.mem_append_left _ (List.mem_append_left _ (List.mem_append_left _ (List.mem_append_right _ h)))))) rfl 3 (by decide) (nk_f_RX4_95 hK.2.1) (v := .int (fI Sb 51 b41)) rfl dX4_withCondition_43 ?_
      refine lv_icmp_ge (tgt := 70) hx hb dX4_withCondition_46 (by decide) (fun c43 => ?_) (fun c43 => ?_)
      · have hf := it_t c43 hf
        exact hB70 Sb _ _ _ _ (by omega) (by omega) x0 x3 x4 _ (lv_sub hl [0, 1, 2] rfl) hw hE v_x0 hf
      · have hf := it_f c43 hf
        refine lv_lload hx hb dX4_withCondition_49 (lv_at hl 2 rfl) ?_
        refine lv_aload_n hx hb dX4_withCondition_51 rfl (lv_at hl 0 rfl) ?_
        refine lv_iload_n hx hb dX4_withCondition_52 rfl (lv_at hl 1 rfl) ?_
        refine lv_iload hx hb dX4_withCondition_53 (lv_at hl 3 rfl) ?_
        obtain ⟨t44, u46, h45, hf⟩ := nx_some hf
        refine q_calli (va_runV (As := [.int x3, .int x6]) (rest := [.long x4]) F (tm_i (c_X4_agrees l hst D cy (S := Sb) v_x0 h45) (fun E s t hx => by obtain ⟨k, hk, _⟩ := hx; cases hk)) (cwV 2 hts gX4_withCondition_X4_agrees rfl rfl rfl ⟨rfl, ph_X4_agrees.1, ph_X4_agrees.2, pd_X4_agrees⟩ ⟨Nat.le_of_ble_eq_true rfl, Nat.le_of_ble_eq_true rfl⟩) ⟨PcW.bl, (q_rcv hK hw.1 v_x0.1 (pF_4 (S := Sb) v_x0.2) rfl), PcW.in hK hw hA (fun _ => hZ)⟩ rfl rfl hl.1 rfl (lv_room (Nat.le_of_ble_eq_true rfl)) dX4_withCondition_55 ⟨by show _ ≤ 23; omega, by show _ ≤ 138; omega⟩) hw hA (fun H locs hw hX => ?_)
        have hE := hE.tr hX
        have v_x0 := hX _ _ v_x0
        have v_b41 := hX _ _ v_b41
        refine lv_i2l hx hb dX4_withCondition_58 rfl ?_
        obtain ⟨t47, h48, hf⟩ := bd_some hf
        refine vp_callSl (va_runS (As := [.long x4, .long t44.toInt64]) (rest := []) F (c_X4_mixed l D cy (H := _)  h48) (va_cwS 2 hts gX4_withCondition_X4_mixed rfl rfl rfl ⟨ph_X4_mixed.1, ph_X4_mixed.2, pd_X4_mixed⟩ ⟨Nat.le_of_ble_eq_true rfl, Nat.le_of_ble_eq_true rfl⟩) ⟨PcR.bl, PcR.in hK⟩ rfl rfl hl.1 rfl (lv_room (Nat.le_of_ble_eq_true rfl)) dX4_withCondition_59 ⟨by show _ ≤ 23; omega, by show _ ≤ 138; omega⟩).run (fun r49 er49 => ?_)
        subst r49
        refine lv_lstore (lv' := [(4, .long t47), (0, .ref x0), (3, .int x3), (6, .int x6)]) hx hb dX4_withCondition_62 hl (by decide) rfl (fun ls hl => ?_)
        refine lv_iinc (v := x6 + 1) (lv' := [(6, .int (x6 + 1)), (4, .long t47), (0, .ref x0), (3, .int x3)]) hx hb dX4_withCondition_64 hl (k := 3) rfl (by rfl) (by decide) rfl (fun ls hl => ?_)
        refine lv_goto (tgt := 37) hx hb dX4_withCondition_67 (by decide) ?_
        exact ih37 u46 _ _ _ _ (by omega) (by omega) x0 x3 t47 (x6 + 1) _ (lv_sub hl [2, 3, 1, 0] rfl) hw hE v_x0 hf
  have hB34 : ∀ (Sb : PS) (H1 : Heap) (lo1 : List Loc) (kc ks : Nat) (_ : kc + 13 ≤ 23) (_ : ks + 78 ≤ 138) (x0 : Nat) (x3 : Int32) (x4 : Int64) (ls : Array Slot), lv_has ls 7 [(0, .ref x0), (3, .int x3), (4, .long x4)] → Hw D cy (AA cy S n) s.heap Sb n H1 lo1 → EX S Sb → vd Sb x0 4 → f_X4_withCondition_B34 Sb x0 x3 x4 = some res → W p l e (headSpec wsX4_withCondition ({ frames := 7, cells := 23, slots := 138, locals := 134 } : Room)).room s m ([.ref y0, .long y1, .int y3] : List Value).toArray below meth c H1 lo1 kc ks (MQ below (va_Ql (fun (r : Int64) (u : PS × Nat) => r = res.1 ∧ u = (res.2, n)) (BW D cy S n) (AA cy S n)) ([.ref y0, .long y1, .int y3] : List Value).toArray s 23 138 (AA cy S n)) (F0 m 34 ls []) := by
    intro Sb H1 lo1 kc ks hkc hks x0 x3 x4 ls hl hw hE v_x0 hf
    unfold f_X4_withCondition_B34 at hf
    refine lv_iconst (v := 0) hx hb dX4_withCondition_34 (by decide) ?_
    refine lv_istore (lv' := [(6, .int 0), (0, .ref x0), (3, .int x3), (4, .long x4)]) hx hb dX4_withCondition_35 hl (by decide) rfl (fun ls hl => ?_)
    exact hL37 11 Sb _ _ _ _ (by omega) (by omega) x0 x3 x4 0 _ (lv_sub hl [1, 2, 3, 0] rfl) hw hE v_x0 hf
  have hL6 : ∀ (fu6 : Nat), ∀ (Sb : PS) (H1 : Heap) (lo1 : List Loc) (kc ks : Nat) (_ : kc + (fu6 * 1 + 13) ≤ 23) (_ : ks + (fu6 * 6 + 78) ≤ 138) (x0 : Nat) (x3 : Int32) (x4 : Int64) (x6 : Int32) (ls : Array Slot), lv_has ls 7 [(0, .ref x0), (3, .int x3), (4, .long x4), (6, .int x6)] → Hw D cy (AA cy S n) s.heap Sb n H1 lo1 → EX S Sb → vd Sb x0 4 → f_X4_withCondition_L6 f_X4_withCondition_B34 fu6 Sb x0 x3 x4 x6 = some res → W p l e (headSpec wsX4_withCondition ({ frames := 7, cells := 23, slots := 138, locals := 134 } : Room)).room s m ([.ref y0, .long y1, .int y3] : List Value).toArray below meth c H1 lo1 kc ks (MQ below (va_Ql (fun (r : Int64) (u : PS × Nat) => r = res.1 ∧ u = (res.2, n)) (BW D cy S n) (AA cy S n)) ([.ref y0, .long y1, .int y3] : List Value).toArray s 23 138 (AA cy S n)) (F0 m 6 ls []) := by
    intro fu6
    induction fu6 with
    | zero =>
      intro Sb H1 lo1 kc ks hkc hks x0 x3 x4 x6 ls hl hw hE v_x0 hf
      have hf : (none : Option (Int64 × PS)) = some res := hf
      cases hf
    | succ fu6 ih6 =>
      intro Sb H1 lo1 kc ks hkc hks x0 x3 x4 x6 ls hl hw hE v_x0 hf
      have hf : f_X4_withCondition_L6s (f_X4_withCondition_L6 f_X4_withCondition_B34 fu6) f_X4_withCondition_B34 Sb x0 x3 x4 x6 = some res := hf
      unfold f_X4_withCondition_L6s at hf
      refine lv_iload hx hb dX4_withCondition_6 (lv_at hl 3 rfl) ?_
      refine lv_bipush (v := 8) hx hb dX4_withCondition_8 (by decide) ?_
      refine lv_icmp_gt (tgt := 34) hx hb dX4_withCondition_10 (by decide) (fun c50 => ?_) (fun c50 => ?_)
      · have hf := it_t c50 hf
        exact hB34 Sb _ _ _ _ (by omega) (by omega) x0 x3 x4 _ (lv_sub hl [0, 1, 2] rfl) hw hE v_x0 hf
      · have hf := it_f c50 hf
        refine lv_lload hx hb dX4_withCondition_13 (lv_at hl 2 rfl) ?_
        refine lv_aload_n hx hb dX4_withCondition_15 rfl (lv_at hl 0 rfl) ?_
        refine lv_iload_n hx hb dX4_withCondition_16 rfl (lv_at hl 1 rfl) ?_
        refine lv_iload hx hb dX4_withCondition_17 (lv_at hl 3 rfl) ?_
        obtain ⟨t51, u53, h52, hf⟩ := nx_some hf
        refine q_calli (va_runV (As := [.int x3, .int x6]) (rest := [.long x4]) F (tm_i (c_X4_condition l hst D cy (S := Sb) v_x0 h52) (fun E s t hx => by obtain ⟨k, hk, _⟩ := hx; cases hk)) (cwV 2 hts gX4_withCondition_X4_condition rfl rfl rfl ⟨rfl, ph_X4_condition.1, ph_X4_condition.2, pd_X4_condition⟩ ⟨Nat.le_of_ble_eq_true rfl, Nat.le_of_ble_eq_true rfl⟩) ⟨PcW.bl, (q_rcv hK hw.1 v_x0.1 (pF_4 (S := Sb) v_x0.2) rfl), PcW.in hK hw hA (fun _ => hZ)⟩ rfl rfl hl.1 rfl (lv_room (Nat.le_of_ble_eq_true rfl)) dX4_withCondition_19 ⟨by show _ ≤ 23; omega, by show _ ≤ 138; omega⟩) hw hA (fun H locs hw hX => ?_)
        have hE := hE.tr hX
        have v_x0 := hX _ _ v_x0
        refine lv_i2l hx hb dX4_withCondition_22 rfl ?_
        obtain ⟨t54, h55, hf⟩ := bd_some hf
        refine vp_callSl (va_runS (As := [.long x4, .long t51.toInt64]) (rest := []) F (c_X4_mixed l D cy (H := _)  h55) (va_cwS 2 hts gX4_withCondition_X4_mixed rfl rfl rfl ⟨ph_X4_mixed.1, ph_X4_mixed.2, pd_X4_mixed⟩ ⟨Nat.le_of_ble_eq_true rfl, Nat.le_of_ble_eq_true rfl⟩) ⟨PcR.bl, PcR.in hK⟩ rfl rfl hl.1 rfl (lv_room (Nat.le_of_ble_eq_true rfl)) dX4_withCondition_23 ⟨by show _ ≤ 23; omega, by show _ ≤ 138; omega⟩).run (fun r56 er56 => ?_)
        subst r56
        refine lv_lstore (lv' := [(4, .long t54), (0, .ref x0), (3, .int x3), (6, .int x6)]) hx hb dX4_withCondition_26 hl (by decide) rfl (fun ls hl => ?_)
        refine lv_iinc (v := x6 + 1) (lv' := [(6, .int (x6 + 1)), (4, .long t54), (0, .ref x0), (3, .int x3)]) hx hb dX4_withCondition_28 hl (k := 3) rfl (by rfl) (by decide) rfl (fun ls hl => ?_)
        refine lv_goto (tgt := 6) hx hb dX4_withCondition_31 (by decide) ?_
        exact ih6 u53 _ _ _ _ (by omega) (by omega) x0 x3 t54 (x6 + 1) _ (lv_sub hl [2, 3, 1, 0] rfl) hw hE v_x0 hf
  have hl := lv_entry ([.ref y0, .long y1, .int y3]) (n := 7) (Nat.le_of_ble_eq_true rfl)
  rw [lg_entry_eq]
  generalize (lg_sl ([.ref y0, .long y1, .int y3]) ++ List.replicate (7 - (lg_sl ([.ref y0, .long y1, .int y3])).length) Slot.unset).toArray = ls at hl ⊢
  have hl : lv_has ls 7 [(0, .ref y0), (1, .long y1), (3, .int y3)] := hl
  unfold f_X4_withCondition at hf
  refine lv_lload_n hx hb dX4_withCondition_0 rfl (lv_at hl 1 rfl) ?_
  refine lv_lstore (lv' := [(4, .long y1), (0, .ref y0), (1, .long y1), (3, .int y3)]) hx hb dX4_withCondition_1 hl (by decide) rfl (fun ls hl => ?_)
  refine lv_iconst (v := 0) hx hb dX4_withCondition_3 (by decide) ?_
  refine lv_istore (lv' := [(6, .int 0), (4, .long y1), (0, .ref y0), (1, .long y1), (3, .int y3)]) hx hb dX4_withCondition_4 hl (by decide) rfl (fun ls hl => ?_)
  exact hL6 10 S _ _ _ _ (by omega) (by omega) y0 y3 y1 0 _ (lv_sub hl [2, 4, 1, 0] rfl) hw hE v_y0 hf
def f_X4_withPrime_B33 (S : PS) (x4 : Int64) : Option (Int64 × PS) :=
  some (x4, S)
def f_X4_withPrime_L6s (kL6 : PS → Nat → Int32 → Int64 → Int32 → Option (Int64 × PS)) (ke33 : PS → Int64 → Option (Int64 × PS)) (S : PS) (x0 : Nat) (x3 : Int32) (x4 : Int64) (x6 : Int32) : Option (Int64 × PS) :=
  if 3 < x6 then (ke33 S x4) else
  nx (f_X4_prime S x0 x3 x6) fun t2 u4 =>
  bd (f_X4_mixed x4 t2.toInt64) fun t5 =>
  kL6 u4 x0 x3 t5 (x6 + 1)
def f_X4_withPrime_L6 (ke33 : PS → Int64 → Option (Int64 × PS)) (fu : Nat) : PS → Nat → Int32 → Int64 → Int32 → Option (Int64 × PS) := fx (fun kL => f_X4_withPrime_L6s kL ke33) (fun _ _ _ _ _ => none) fu
def f_X4_withPrime (S : PS) (x0 : Nat) (x1 : Int64) (x3 : Int32) : Option (Int64 × PS) :=
  f_X4_withPrime_L6 f_X4_withPrime_B33 5 S x0 x3 x1 0
set_option maxHeartbeats 4000000 in
set_option maxRecDepth 100000 in
theorem c_X4_withPrime (l : Launch) (hst : l.stackTraces = false) (D : va_G) (cy : cyT) {S : PS} {n : Nat} {y0 : Nat} {y1 : Int64} {y3 : Int32} (v_y0 : vd S y0 4) {res : Int64 × PS} (hf : f_X4_withPrime S y0 y1 y3 = some res) : Met l yX4_withPrime wsX4_withPrime ({ frames := 7, cells := 5, slots := 30, locals := 116 } : Room) (PcW True D cy S n [.ref y0, .long y1, .int y3]) (va_Ql (fun (r : Int64) (u : PS × Nat) => r = res.1 ∧ u = (res.2, n)) (BW D cy S n) (AA cy S n)) 5 30 (AA cy S n) := by
  refine Met.ofW (cc := cX4_withPrime) (maxL := 7) (ret := (some .long)) (by decide) rfl ?_
  intro p e s m args below meth c s₁ B hml hv
  obtain ⟨hav, hsz, hP0, hD0, hK, hZ0⟩ := hv
  have hx := B.exec
  have hb := B.bytes
  have hr := B.returns
  have hts := atoms_spec (ws := wsX4_withPrime) B.pre
  have hown : s.vm.findClass RX4 = some m.cls := findClass_of_methodNamed B.named
  have hlocks := B.notSynchronized
  subst hav
  have hw : Hw D cy (AA cy S n) s.heap S n s.heap [] := Hw.start hsz hP0 hD0
  have hA : ∀ q, s.heap.size ≤ q → AA cy S n q := fun q h => Or.inr (hsz ▸ h)
  have hE : EX S S := EX.rf
  have hZ := hZ0 trivial
  have F : CallFix p m c cX4_withPrime 7 s _ wsX4_withPrime RX4 := ⟨hx, hb, hml, hown, hts⟩
  have hB33 : ∀ (Sb : PS) (H1 : Heap) (lo1 : List Loc) (kc ks : Nat) (_ : kc + 0 ≤ 5) (_ : ks + 0 ≤ 30) (x4 : Int64) (ls : Array Slot), lv_has ls 7 [(4, .long x4)] → Hw D cy (AA cy S n) s.heap Sb n H1 lo1 → EX S Sb → f_X4_withPrime_B33 Sb x4 = some res → W p l e (headSpec wsX4_withPrime ({ frames := 7, cells := 5, slots := 30, locals := 116 } : Room)).room s m ([.ref y0, .long y1, .int y3] : List Value).toArray below meth c H1 lo1 kc ks (MQ below (va_Ql (fun (r : Int64) (u : PS × Nat) => r = res.1 ∧ u = (res.2, n)) (BW D cy S n) (AA cy S n)) ([.ref y0, .long y1, .int y3] : List Value).toArray s 5 30 (AA cy S n)) (F0 m 33 ls []) := by
    intro Sb H1 lo1 kc ks hkc hks x4 ls hl hw hE hf
    unfold f_X4_withPrime_B33 at hf
    refine lv_lload hx hb dX4_withPrime_33 (lv_at hl 0 rfl) ?_
    refine W.widen (k := 5) (n := 30) (by omega) (by omega) ?_
    exact W.lret (v := x4) hx hb hr (fun t ht hW => ⟨⟨_, (Sb, n), rfl, po2 hf, BW.of hw hE ht⟩, hw.2.2.1.F ht⟩) hw.2.2.1.2.2 dX4_withPrime_35
  have hL6 : ∀ (fu6 : Nat), ∀ (Sb : PS) (H1 : Heap) (lo1 : List Loc) (kc ks : Nat) (_ : kc + (fu6 * 1 + 0) ≤ 5) (_ : ks + (fu6 * 6 + 0) ≤ 30) (x0 : Nat) (x3 : Int32) (x4 : Int64) (x6 : Int32) (ls : Array Slot), lv_has ls 7 [(0, .ref x0), (3, .int x3), (4, .long x4), (6, .int x6)] → Hw D cy (AA cy S n) s.heap Sb n H1 lo1 → EX S Sb → vd Sb x0 4 → f_X4_withPrime_L6 f_X4_withPrime_B33 fu6 Sb x0 x3 x4 x6 = some res → W p l e (headSpec wsX4_withPrime ({ frames := 7, cells := 5, slots := 30, locals := 116 } : Room)).room s m ([.ref y0, .long y1, .int y3] : List Value).toArray below meth c H1 lo1 kc ks (MQ below (va_Ql (fun (r : Int64) (u : PS × Nat) => r = res.1 ∧ u = (res.2, n)) (BW D cy S n) (AA cy S n)) ([.ref y0, .long y1, .int y3] : List Value).toArray s 5 30 (AA cy S n)) (F0 m 6 ls []) := by
    intro fu6
    induction fu6 with
    | zero =>
      intro Sb H1 lo1 kc ks hkc hks x0 x3 x4 x6 ls hl hw hE v_x0 hf
      have hf : (none : Option (Int64 × PS)) = some res := hf
      cases hf
    | succ fu6 ih6 =>
      intro Sb H1 lo1 kc ks hkc hks x0 x3 x4 x6 ls hl hw hE v_x0 hf
      have hf : f_X4_withPrime_L6s (f_X4_withPrime_L6 f_X4_withPrime_B33 fu6) f_X4_withPrime_B33 Sb x0 x3 x4 x6 = some res := hf
      unfold f_X4_withPrime_L6s at hf
      refine lv_iload hx hb dX4_withPrime_6 (lv_at hl 3 rfl) ?_
      refine lv_iconst (v := 3) hx hb dX4_withPrime_8 (by decide) ?_
      refine lv_icmp_gt (tgt := 33) hx hb dX4_withPrime_9 (by decide) (fun c8 => ?_) (fun c8 => ?_)
      · have hf := it_t c8 hf
        exact hB33 Sb _ _ _ _ (by omega) (by omega) x4 _ (lv_sub hl [2] rfl) hw hE  hf
      · have hf := it_f c8 hf
        refine lv_lload hx hb dX4_withPrime_12 (lv_at hl 2 rfl) ?_
        refine lv_aload_n hx hb dX4_withPrime_14 rfl (lv_at hl 0 rfl) ?_
        refine lv_iload_n hx hb dX4_withPrime_15 rfl (lv_at hl 1 rfl) ?_
        refine lv_iload hx hb dX4_withPrime_16 (lv_at hl 3 rfl) ?_
        obtain ⟨t9, u11, h10, hf⟩ := nx_some hf
        refine q_calli (va_runV (As := [.int x3, .int x6]) (rest := [.long x4]) F (tm_i (c_X4_prime l hst D cy (S := Sb) v_x0 h10) (fun E s t hx => by obtain ⟨k, hk, _⟩ := hx; cases hk)) (cwV 2 hts gX4_withPrime_X4_prime rfl rfl rfl ⟨rfl, ph_X4_prime.1, ph_X4_prime.2, pd_X4_prime⟩ ⟨Nat.le_of_ble_eq_true rfl, Nat.le_of_ble_eq_true rfl⟩) ⟨PcW.bl, (q_rcv hK hw.1 v_x0.1 (pF_4 (S := Sb) v_x0.2) rfl), PcW.in hK hw hA (fun _ => hZ)⟩ rfl rfl hl.1 rfl (lv_room (Nat.le_of_ble_eq_true rfl)) dX4_withPrime_18 ⟨by show _ ≤ 5; omega, by show _ ≤ 30; omega⟩) hw hA (fun H locs hw hX => ?_)
        have hE := hE.tr hX
        have v_x0 := hX _ _ v_x0
        refine lv_i2l hx hb dX4_withPrime_21 rfl ?_
        obtain ⟨t12, h13, hf⟩ := bd_some hf
        refine vp_callSl (va_runS (As := [.long x4, .long t9.toInt64]) (rest := []) F (c_X4_mixed l D cy (H := _)  h13) (va_cwS 2 hts gX4_withPrime_X4_mixed rfl rfl rfl ⟨ph_X4_mixed.1, ph_X4_mixed.2, pd_X4_mixed⟩ ⟨Nat.le_of_ble_eq_true rfl, Nat.le_of_ble_eq_true rfl⟩) ⟨PcR.bl, PcR.in hK⟩ rfl rfl hl.1 rfl (lv_room (Nat.le_of_ble_eq_true rfl)) dX4_withPrime_22 ⟨by show _ ≤ 5; omega, by show _ ≤ 30; omega⟩).run (fun r14 er14 => ?_)
        subst r14
        refine lv_lstore (lv' := [(4, .long t12), (0, .ref x0), (3, .int x3), (6, .int x6)]) hx hb dX4_withPrime_25 hl (by decide) rfl (fun ls hl => ?_)
        refine lv_iinc (v := x6 + 1) (lv' := [(6, .int (x6 + 1)), (4, .long t12), (0, .ref x0), (3, .int x3)]) hx hb dX4_withPrime_27 hl (k := 3) rfl (by rfl) (by decide) rfl (fun ls hl => ?_)
        refine lv_goto (tgt := 6) hx hb dX4_withPrime_30 (by decide) ?_
        exact ih6 u11 _ _ _ _ (by omega) (by omega) x0 x3 t12 (x6 + 1) _ (lv_sub hl [2, 3, 1, 0] rfl) hw hE v_x0 hf
  have hl := lv_entry ([.ref y0, .long y1, .int y3]) (n := 7) (Nat.le_of_ble_eq_true rfl)
  rw [lg_entry_eq]
  generalize (lg_sl ([.ref y0, .long y1, .int y3]) ++ List.replicate (7 - (lg_sl ([.ref y0, .long y1, .int y3])).length) Slot.unset).toArray = ls at hl ⊢
  have hl : lv_has ls 7 [(0, .ref y0), (1, .long y1), (3, .int y3)] := hl
  unfold f_X4_withPrime at hf
  refine lv_lload_n hx hb dX4_withPrime_0 rfl (lv_at hl 1 rfl) ?_
  refine lv_lstore (lv' := [(4, .long y1), (0, .ref y0), (1, .long y1), (3, .int y3)]) hx hb dX4_withPrime_1 hl (by decide) rfl (fun ls hl => ?_)
  refine lv_iconst (v := 0) hx hb dX4_withPrime_3 (by decide) ?_
  refine lv_istore (lv' := [(6, .int 0), (4, .long y1), (0, .ref y0), (1, .long y1), (3, .int y3)]) hx hb dX4_withPrime_4 hl (by decide) rfl (fun ls hl => ?_)
  exact hL6 5 S _ _ _ _ (by omega) (by omega) y0 y3 y1 0 _ (lv_sub hl [2, 4, 1, 0] rfl) hw hE v_y0 hf
def f_X4_withAnswers_B29 (S : PS) (x0 : Nat) (x3 : Int64) : Option (Int64 × PS) :=
  nx (f_X4_answer S x0 1000 0) fun t1 u3 =>
  bd (f_X4_mixed x3 t1) fun t4 =>
  nx (f_X4_nearest u3 x0 500) fun t7 u9 =>
  bd (f_X4_mixed t4 t7) fun t10 =>
  nx (f_X4_between u9 x0 0 9999) fun t13 u15 =>
  bd (f_X4_mixed t10 t13) fun t16 =>
  nx (f_X4_misses u15 x0 0) fun t19 u21 =>
  bd (f_X4_mixed t16 t19.toInt64) fun t22 =>
  nx (f_X4_misses u21 x0 100) fun t25 u27 =>
  bd (f_X4_mixed t22 t25.toInt64) fun t28 =>
  some (t28, u27)
def f_X4_withAnswers_L5s (kL5 : PS → Nat → Int64 → Int32 → Option (Int64 × PS)) (ke29 : PS → Nat → Int64 → Option (Int64 × PS)) (S : PS) (x0 : Nat) (x3 : Int64) (x5 : Int32) : Option (Int64 × PS) :=
  if 2 < x5 then (ke29 S x0 x3) else
  nx (f_X4_answer S x0 0 x5) fun t32 u34 =>
  bd (f_X4_mixed x3 t32) fun t35 =>
  kL5 u34 x0 t35 (x5 + 1)
def f_X4_withAnswers_L5 (ke29 : PS → Nat → Int64 → Option (Int64 × PS)) (fu : Nat) : PS → Nat → Int64 → Int32 → Option (Int64 × PS) := fx (fun kL => f_X4_withAnswers_L5s kL ke29) (fun _ _ _ _ => none) fu
def f_X4_withAnswers (S : PS) (x0 : Nat) (x1 : Int64) : Option (Int64 × PS) :=
  f_X4_withAnswers_L5 f_X4_withAnswers_B29 4 S x0 x1 0
set_option maxHeartbeats 4000000 in
set_option maxRecDepth 100000 in
theorem c_X4_withAnswers (l : Launch) (hst : l.stackTraces = false) (D : va_G) (cy : cyT) {S : PS} {n : Nat} {y0 : Nat} {y1 : Int64} (v_y0 : vd S y0 4) {res : Int64 × PS} (hf : f_X4_withAnswers S y0 y1 = some res) : Met l yX4_withAnswers wsX4_withAnswers ({ frames := 7, cells := 9, slots := 54, locals := 117 } : Room) (PcW True D cy S n [.ref y0, .long y1]) (va_Ql (fun (r : Int64) (u : PS × Nat) => r = res.1 ∧ u = (res.2, n)) (BW D cy S n) (AA cy S n)) 9 54 (AA cy S n) := by
  refine Met.ofW (cc := cX4_withAnswers) (maxL := 6) (ret := (some .long)) (by decide) rfl ?_
  intro p e s m args below meth c s₁ B hml hv
  obtain ⟨hav, hsz, hP0, hD0, hK, hZ0⟩ := hv
  have hx := B.exec
  have hb := B.bytes
  have hr := B.returns
  have hts := atoms_spec (ws := wsX4_withAnswers) B.pre
  have hown : s.vm.findClass RX4 = some m.cls := findClass_of_methodNamed B.named
  have hlocks := B.notSynchronized
  subst hav
  have hw : Hw D cy (AA cy S n) s.heap S n s.heap [] := Hw.start hsz hP0 hD0
  have hA : ∀ q, s.heap.size ≤ q → AA cy S n q := fun q h => Or.inr (hsz ▸ h)
  have hE : EX S S := EX.rf
  have hZ := hZ0 trivial
  have F : CallFix p m c cX4_withAnswers 6 s _ wsX4_withAnswers RX4 := ⟨hx, hb, hml, hown, hts⟩
  have hB29 : ∀ (Sb : PS) (H1 : Heap) (lo1 : List Loc) (kc ks : Nat) (_ : kc + 5 ≤ 9) (_ : ks + 30 ≤ 54) (x0 : Nat) (x3 : Int64) (ls : Array Slot), lv_has ls 6 [(0, .ref x0), (3, .long x3)] → Hw D cy (AA cy S n) s.heap Sb n H1 lo1 → EX S Sb → vd Sb x0 4 → f_X4_withAnswers_B29 Sb x0 x3 = some res → W p l e (headSpec wsX4_withAnswers ({ frames := 7, cells := 9, slots := 54, locals := 117 } : Room)).room s m ([.ref y0, .long y1] : List Value).toArray below meth c H1 lo1 kc ks (MQ below (va_Ql (fun (r : Int64) (u : PS × Nat) => r = res.1 ∧ u = (res.2, n)) (BW D cy S n) (AA cy S n)) ([.ref y0, .long y1] : List Value).toArray s 9 54 (AA cy S n)) (F0 m 29 ls []) := by
    intro Sb H1 lo1 kc ks hkc hks x0 x3 ls hl hw hE v_x0 hf
    unfold f_X4_withAnswers_B29 at hf
    refine lv_lload_n hx hb dX4_withAnswers_29 rfl (lv_at hl 1 rfl) ?_
    refine lv_aload_n hx hb dX4_withAnswers_30 rfl (lv_at hl 0 rfl) ?_
    refine lv_ldc2 hx hb hown (hts (.constantLong RX4 355 1000) (List.mem_of_getElem? (i := 1) rfl)) dX4_withAnswers_31 ?_
    refine lv_iconst (v := 0) hx hb dX4_withAnswers_34 (by decide) ?_
    obtain ⟨t38, u40, h39, hf⟩ := nx_some hf
    refine q_calll (va_runV (As := [.long 1000, .int 0]) (rest := [.long x3]) F (tm_l (c_X4_answer l hst D cy (S := Sb) v_x0 h39) (fun E s t hx => by obtain ⟨k, hk, _⟩ := hx; cases hk)) (cwV 2 hts gX4_withAnswers_X4_answer rfl rfl rfl ⟨rfl, ph_X4_answer.1, ph_X4_answer.2, pd_X4_answer⟩ ⟨Nat.le_of_ble_eq_true rfl, Nat.le_of_ble_eq_true rfl⟩) ⟨PcW.bl, (q_rcv hK hw.1 v_x0.1 (pF_4 (S := Sb) v_x0.2) rfl), PcW.in hK hw hA (fun _ => hZ)⟩ rfl rfl hl.1 rfl (lv_room (Nat.le_of_ble_eq_true rfl)) dX4_withAnswers_35 ⟨by show _ ≤ 9; omega, by show _ ≤ 54; omega⟩) hw hA (fun H locs hw hX => ?_)
    have hE := hE.tr hX
    have v_x0 := hX _ _ v_x0
    obtain ⟨t41, h42, hf⟩ := bd_some hf
    refine vp_callSl (va_runS (As := [.long x3, .long t38]) (rest := []) F (c_X4_mixed l D cy (H := _)  h42) (va_cwS 2 hts gX4_withAnswers_X4_mixed rfl rfl rfl ⟨ph_X4_mixed.1, ph_X4_mixed.2, pd_X4_mixed⟩ ⟨Nat.le_of_ble_eq_true rfl, Nat.le_of_ble_eq_true rfl⟩) ⟨PcR.bl, PcR.in hK⟩ rfl rfl hl.1 rfl (lv_room (Nat.le_of_ble_eq_true rfl)) dX4_withAnswers_38 ⟨by show _ ≤ 9; omega, by show _ ≤ 54; omega⟩).run (fun r43 er43 => ?_)
    subst r43
    refine lv_lstore_n (lv' := [(3, .long t41), (0, .ref x0)]) hx hb dX4_withAnswers_41 rfl hl (by decide) rfl (fun ls hl => ?_)
    refine lv_lload_n hx hb dX4_withAnswers_42 rfl (lv_at hl 0 rfl) ?_
    refine lv_aload_n hx hb dX4_withAnswers_43 rfl (lv_at hl 1 rfl) ?_
    refine lv_ldc2 hx hb hown (hts (.constantLong RX4 357 500) (List.mem_of_getElem? (i := 2) rfl)) dX4_withAnswers_44 ?_
    obtain ⟨t44, u46, h45, hf⟩ := nx_some hf
    refine q_calll (va_runV (As := [.long 500]) (rest := [.long t41]) F (tm_l (c_X4_nearest l hst D cy (S := u40) v_x0 h45) (fun E s t hx => by obtain ⟨k, hk, _⟩ := hx; cases hk)) (cwV 1 hts gX4_withAnswers_X4_nearest rfl rfl rfl ⟨rfl, ph_X4_nearest.1, ph_X4_nearest.2, pd_X4_nearest⟩ ⟨Nat.le_of_ble_eq_true rfl, Nat.le_of_ble_eq_true rfl⟩) ⟨PcW.bl, (q_rcv hK hw.1 v_x0.1 (pF_4 (S := u40) v_x0.2) rfl), PcW.in hK hw hA (fun _ => hZ)⟩ rfl rfl hl.1 rfl (lv_room (Nat.le_of_ble_eq_true rfl)) dX4_withAnswers_47 ⟨by show _ ≤ 9; omega, by show _ ≤ 54; omega⟩) hw hA (fun H locs hw hX => ?_)
    have hE := hE.tr hX
    have v_x0 := hX _ _ v_x0
    obtain ⟨t47, h48, hf⟩ := bd_some hf
    refine vp_callSl (va_runS (As := [.long t41, .long t44]) (rest := []) F (c_X4_mixed l D cy (H := _)  h48) (va_cwS 2 hts gX4_withAnswers_X4_mixed rfl rfl rfl ⟨ph_X4_mixed.1, ph_X4_mixed.2, pd_X4_mixed⟩ ⟨Nat.le_of_ble_eq_true rfl, Nat.le_of_ble_eq_true rfl⟩) ⟨PcR.bl, PcR.in hK⟩ rfl rfl hl.1 rfl (lv_room (Nat.le_of_ble_eq_true rfl)) dX4_withAnswers_50 ⟨by show _ ≤ 9; omega, by show _ ≤ 54; omega⟩).run (fun r49 er49 => ?_)
    subst r49
    refine lv_lstore_n (lv' := [(3, .long t47), (0, .ref x0)]) hx hb dX4_withAnswers_53 rfl hl (by decide) rfl (fun ls hl => ?_)
    refine lv_lload_n hx hb dX4_withAnswers_54 rfl (lv_at hl 0 rfl) ?_
    refine lv_aload_n hx hb dX4_withAnswers_55 rfl (lv_at hl 1 rfl) ?_
    refine lv_lconst (v := 0) hx hb dX4_withAnswers_56 (by decide) ?_
    refine lv_ldc2 hx hb hown (hts (.constantLong RX4 362 9999) (List.mem_of_getElem? (i := 3) rfl)) dX4_withAnswers_57 ?_
    obtain ⟨t50, u52, h51, hf⟩ := nx_some hf
    refine q_calll (va_runV (As := [.long 0, .long 9999]) (rest := [.long t47]) F (tm_l (c_X4_between l hst D cy (S := u46) v_x0 h51) (fun E s t hx => by obtain ⟨k, hk, _⟩ := hx; cases hk)) (cwV 2 hts gX4_withAnswers_X4_between rfl rfl rfl ⟨rfl, ph_X4_between.1, ph_X4_between.2, pd_X4_between⟩ ⟨Nat.le_of_ble_eq_true rfl, Nat.le_of_ble_eq_true rfl⟩) ⟨PcW.bl, (q_rcv hK hw.1 v_x0.1 (pF_4 (S := u46) v_x0.2) rfl), PcW.in hK hw hA (fun _ => hZ)⟩ rfl rfl hl.1 rfl (lv_room (Nat.le_of_ble_eq_true rfl)) dX4_withAnswers_60 ⟨by show _ ≤ 9; omega, by show _ ≤ 54; omega⟩) hw hA (fun H locs hw hX => ?_)
    have hE := hE.tr hX
    have v_x0 := hX _ _ v_x0
    obtain ⟨t53, h54, hf⟩ := bd_some hf
    refine vp_callSl (va_runS (As := [.long t47, .long t50]) (rest := []) F (c_X4_mixed l D cy (H := _)  h54) (va_cwS 2 hts gX4_withAnswers_X4_mixed rfl rfl rfl ⟨ph_X4_mixed.1, ph_X4_mixed.2, pd_X4_mixed⟩ ⟨Nat.le_of_ble_eq_true rfl, Nat.le_of_ble_eq_true rfl⟩) ⟨PcR.bl, PcR.in hK⟩ rfl rfl hl.1 rfl (lv_room (Nat.le_of_ble_eq_true rfl)) dX4_withAnswers_63 ⟨by show _ ≤ 9; omega, by show _ ≤ 54; omega⟩).run (fun r55 er55 => ?_)
    subst r55
    refine lv_lstore_n (lv' := [(3, .long t53), (0, .ref x0)]) hx hb dX4_withAnswers_66 rfl hl (by decide) rfl (fun ls hl => ?_)
    refine lv_lload_n hx hb dX4_withAnswers_67 rfl (lv_at hl 0 rfl) ?_
    refine lv_aload_n hx hb dX4_withAnswers_68 rfl (lv_at hl 1 rfl) ?_
    refine lv_lconst (v := 0) hx hb dX4_withAnswers_69 (by decide) ?_
    obtain ⟨t56, u58, h57, hf⟩ := nx_some hf
    refine q_calli (va_runV (As := [.long 0]) (rest := [.long t53]) F (tm_i (c_X4_misses l hst D cy (S := u52) v_x0 h57) (fun E s t hx => by obtain ⟨k, hk, _⟩ := hx; cases hk)) (cwV 1 hts gX4_withAnswers_X4_misses rfl rfl rfl ⟨rfl, ph_X4_misses.1, ph_X4_misses.2, pd_X4_misses⟩ ⟨Nat.le_of_ble_eq_true rfl, Nat.le_of_ble_eq_true rfl⟩) ⟨PcW.bl, (q_rcv hK hw.1 v_x0.1 (pF_4 (S := u52) v_x0.2) rfl), PcW.in hK hw hA (fun _ => hZ)⟩ rfl rfl hl.1 rfl (lv_room (Nat.le_of_ble_eq_true rfl)) dX4_withAnswers_70 ⟨by show _ ≤ 9; omega, by show _ ≤ 54; omega⟩) hw hA (fun H locs hw hX => ?_)
    have hE := hE.tr hX
    have v_x0 := hX _ _ v_x0
    refine lv_i2l hx hb dX4_withAnswers_73 rfl ?_
    obtain ⟨t59, h60, hf⟩ := bd_some hf
    refine vp_callSl (va_runS (As := [.long t53, .long t56.toInt64]) (rest := []) F (c_X4_mixed l D cy (H := _)  h60) (va_cwS 2 hts gX4_withAnswers_X4_mixed rfl rfl rfl ⟨ph_X4_mixed.1, ph_X4_mixed.2, pd_X4_mixed⟩ ⟨Nat.le_of_ble_eq_true rfl, Nat.le_of_ble_eq_true rfl⟩) ⟨PcR.bl, PcR.in hK⟩ rfl rfl hl.1 rfl (lv_room (Nat.le_of_ble_eq_true rfl)) dX4_withAnswers_74 ⟨by show _ ≤ 9; omega, by show _ ≤ 54; omega⟩).run (fun r61 er61 => ?_)
    subst r61
    refine lv_lstore_n (lv' := [(3, .long t59), (0, .ref x0)]) hx hb dX4_withAnswers_77 rfl hl (by decide) rfl (fun ls hl => ?_)
    refine lv_lload_n hx hb dX4_withAnswers_78 rfl (lv_at hl 0 rfl) ?_
    refine lv_aload_n hx hb dX4_withAnswers_79 rfl (lv_at hl 1 rfl) ?_
    refine lv_ldc2 hx hb hown (hts (.constantLong RX4 371 100) (List.mem_of_getElem? (i := 4) rfl)) dX4_withAnswers_80 ?_
    obtain ⟨t62, u64, h63, hf⟩ := nx_some hf
    refine q_calli (va_runV (As := [.long 100]) (rest := [.long t59]) F (tm_i (c_X4_misses l hst D cy (S := u58) v_x0 h63) (fun E s t hx => by obtain ⟨k, hk, _⟩ := hx; cases hk)) (cwV 1 hts gX4_withAnswers_X4_misses rfl rfl rfl ⟨rfl, ph_X4_misses.1, ph_X4_misses.2, pd_X4_misses⟩ ⟨Nat.le_of_ble_eq_true rfl, Nat.le_of_ble_eq_true rfl⟩) ⟨PcW.bl, (q_rcv hK hw.1 v_x0.1 (pF_4 (S := u58) v_x0.2) rfl), PcW.in hK hw hA (fun _ => hZ)⟩ rfl rfl hl.1 rfl (lv_room (Nat.le_of_ble_eq_true rfl)) dX4_withAnswers_83 ⟨by show _ ≤ 9; omega, by show _ ≤ 54; omega⟩) hw hA (fun H locs hw hX => ?_)
    have hE := hE.tr hX
    have v_x0 := hX _ _ v_x0
    refine lv_i2l hx hb dX4_withAnswers_86 rfl ?_
    obtain ⟨t65, h66, hf⟩ := bd_some hf
    refine vp_callSl (va_runS (As := [.long t59, .long t62.toInt64]) (rest := []) F (c_X4_mixed l D cy (H := _)  h66) (va_cwS 2 hts gX4_withAnswers_X4_mixed rfl rfl rfl ⟨ph_X4_mixed.1, ph_X4_mixed.2, pd_X4_mixed⟩ ⟨Nat.le_of_ble_eq_true rfl, Nat.le_of_ble_eq_true rfl⟩) ⟨PcR.bl, PcR.in hK⟩ rfl rfl hl.1 rfl (lv_room (Nat.le_of_ble_eq_true rfl)) dX4_withAnswers_87 ⟨by show _ ≤ 9; omega, by show _ ≤ 54; omega⟩).run (fun r67 er67 => ?_)
    subst r67
    refine W.widen (k := 9) (n := 54) (by omega) (by omega) ?_
    exact W.lret (v := t65) hx hb hr (fun t ht hW => ⟨⟨_, (u64, n), rfl, po2 hf, BW.of hw hE ht⟩, hw.2.2.1.F ht⟩) hw.2.2.1.2.2 dX4_withAnswers_90
  have hL5 : ∀ (fu5 : Nat), ∀ (Sb : PS) (H1 : Heap) (lo1 : List Loc) (kc ks : Nat) (_ : kc + (fu5 * 1 + 5) ≤ 9) (_ : ks + (fu5 * 6 + 30) ≤ 54) (x0 : Nat) (x3 : Int64) (x5 : Int32) (ls : Array Slot), lv_has ls 6 [(0, .ref x0), (3, .long x3), (5, .int x5)] → Hw D cy (AA cy S n) s.heap Sb n H1 lo1 → EX S Sb → vd Sb x0 4 → f_X4_withAnswers_L5 f_X4_withAnswers_B29 fu5 Sb x0 x3 x5 = some res → W p l e (headSpec wsX4_withAnswers ({ frames := 7, cells := 9, slots := 54, locals := 117 } : Room)).room s m ([.ref y0, .long y1] : List Value).toArray below meth c H1 lo1 kc ks (MQ below (va_Ql (fun (r : Int64) (u : PS × Nat) => r = res.1 ∧ u = (res.2, n)) (BW D cy S n) (AA cy S n)) ([.ref y0, .long y1] : List Value).toArray s 9 54 (AA cy S n)) (F0 m 5 ls []) := by
    intro fu5
    induction fu5 with
    | zero =>
      intro Sb H1 lo1 kc ks hkc hks x0 x3 x5 ls hl hw hE v_x0 hf
      have hf : (none : Option (Int64 × PS)) = some res := hf
      cases hf
    | succ fu5 ih5 =>
      intro Sb H1 lo1 kc ks hkc hks x0 x3 x5 ls hl hw hE v_x0 hf
      have hf : f_X4_withAnswers_L5s (f_X4_withAnswers_L5 f_X4_withAnswers_B29 fu5) f_X4_withAnswers_B29 Sb x0 x3 x5 = some res := hf
      unfold f_X4_withAnswers_L5s at hf
      refine lv_iload hx hb dX4_withAnswers_5 (lv_at hl 2 rfl) ?_
      refine lv_iconst (v := 2) hx hb dX4_withAnswers_7 (by decide) ?_
      refine lv_icmp_gt (tgt := 29) hx hb dX4_withAnswers_8 (by decide) (fun c68 => ?_) (fun c68 => ?_)
      · have hf := it_t c68 hf
        exact hB29 Sb _ _ _ _ (by omega) (by omega) x0 x3 _ (lv_sub hl [0, 1] rfl) hw hE v_x0 hf
      · have hf := it_f c68 hf
        refine lv_lload_n hx hb dX4_withAnswers_11 rfl (lv_at hl 1 rfl) ?_
        refine lv_aload_n hx hb dX4_withAnswers_12 rfl (lv_at hl 0 rfl) ?_
        refine lv_lconst (v := 0) hx hb dX4_withAnswers_13 (by decide) ?_
        refine lv_iload hx hb dX4_withAnswers_14 (lv_at hl 2 rfl) ?_
        obtain ⟨t69, u71, h70, hf⟩ := nx_some hf
        refine q_calll (va_runV (As := [.long 0, .int x5]) (rest := [.long x3]) F (tm_l (c_X4_answer l hst D cy (S := Sb) v_x0 h70) (fun E s t hx => by obtain ⟨k, hk, _⟩ := hx; cases hk)) (cwV 2 hts gX4_withAnswers_X4_answer rfl rfl rfl ⟨rfl, ph_X4_answer.1, ph_X4_answer.2, pd_X4_answer⟩ ⟨Nat.le_of_ble_eq_true rfl, Nat.le_of_ble_eq_true rfl⟩) ⟨PcW.bl, (q_rcv hK hw.1 v_x0.1 (pF_4 (S := Sb) v_x0.2) rfl), PcW.in hK hw hA (fun _ => hZ)⟩ rfl rfl hl.1 rfl (lv_room (Nat.le_of_ble_eq_true rfl)) dX4_withAnswers_16 ⟨by show _ ≤ 9; omega, by show _ ≤ 54; omega⟩) hw hA (fun H locs hw hX => ?_)
        have hE := hE.tr hX
        have v_x0 := hX _ _ v_x0
        obtain ⟨t72, h73, hf⟩ := bd_some hf
        refine vp_callSl (va_runS (As := [.long x3, .long t69]) (rest := []) F (c_X4_mixed l D cy (H := _)  h73) (va_cwS 2 hts gX4_withAnswers_X4_mixed rfl rfl rfl ⟨ph_X4_mixed.1, ph_X4_mixed.2, pd_X4_mixed⟩ ⟨Nat.le_of_ble_eq_true rfl, Nat.le_of_ble_eq_true rfl⟩) ⟨PcR.bl, PcR.in hK⟩ rfl rfl hl.1 rfl (lv_room (Nat.le_of_ble_eq_true rfl)) dX4_withAnswers_19 ⟨by show _ ≤ 9; omega, by show _ ≤ 54; omega⟩).run (fun r74 er74 => ?_)
        subst r74
        refine lv_lstore_n (lv' := [(3, .long t72), (0, .ref x0), (5, .int x5)]) hx hb dX4_withAnswers_22 rfl hl (by decide) rfl (fun ls hl => ?_)
        refine lv_iinc (v := x5 + 1) (lv' := [(5, .int (x5 + 1)), (3, .long t72), (0, .ref x0)]) hx hb dX4_withAnswers_23 hl (k := 2) rfl (by rfl) (by decide) rfl (fun ls hl => ?_)
        refine lv_goto (tgt := 5) hx hb dX4_withAnswers_26 (by decide) ?_
        exact ih5 u71 _ _ _ _ (by omega) (by omega) x0 t72 (x5 + 1) _ (lv_sub hl [2, 1, 0] rfl) hw hE v_x0 hf
  have hl := lv_entry ([.ref y0, .long y1]) (n := 6) (Nat.le_of_ble_eq_true rfl)
  rw [lg_entry_eq]
  generalize (lg_sl ([.ref y0, .long y1]) ++ List.replicate (6 - (lg_sl ([.ref y0, .long y1])).length) Slot.unset).toArray = ls at hl ⊢
  have hl : lv_has ls 6 [(0, .ref y0), (1, .long y1)] := hl
  unfold f_X4_withAnswers at hf
  refine lv_lload_n hx hb dX4_withAnswers_0 rfl (lv_at hl 1 rfl) ?_
  refine lv_lstore_n (lv' := [(3, .long y1), (0, .ref y0), (1, .long y1)]) hx hb dX4_withAnswers_1 rfl hl (by decide) rfl (fun ls hl => ?_)
  refine lv_iconst (v := 0) hx hb dX4_withAnswers_2 (by decide) ?_
  refine lv_istore (lv' := [(5, .int 0), (3, .long y1), (0, .ref y0), (1, .long y1)]) hx hb dX4_withAnswers_3 hl (by decide) rfl (fun ls hl => ?_)
  exact hL5 4 S _ _ _ _ (by omega) (by omega) y0 y1 0 _ (lv_sub hl [2, 1, 0] rfl) hw hE v_y0 hf
def f_X4_bitsOf_B50 (x2 : UInt64) (x4 : Int64) : Option Int64 :=
  ck (decide ((FP.dsub x2 FP.dconst1) &&& 0x7fffffffffffffff ≤ 0x7ff0000000000000)) (
  ck (decide ((FP.dmul (FP.dsub x2 FP.dconst1) 4841369599423283200) &&& 0x7fffffffffffffff ≤ 0x7ff0000000000000)) (
  some ((x4 <<< ((52 : Int32).toInt64 &&& 63)) + (FP.d2l (FP.dmul (FP.dsub x2 FP.dconst1) 4841369599423283200)))))
def f_X4_bitsOf_L18s (kL18 : UInt64 → Int64 → Int32 → Option Int64) (ke50 : UInt64 → Int64 → Option Int64) (x2 : UInt64) (x4 : Int64) (x6 : Int32) : Option Int64 :=
  if 1023 ≤ x6 then (ke50 x2 x4) else
  if 0 ≤ (Op.cmpValue (FP.dcmp x2 FP.dconst1) .g) then (ke50 x2 x4) else
  ck (decide ((FP.dmul x2 4611686018427387904) &&& 0x7fffffffffffffff ≤ 0x7ff0000000000000)) (
  kL18 (FP.dmul x2 4611686018427387904) (x4 - (1 : Int64)) (x6 + 1))
def f_X4_bitsOf_L18 (ke50 : UInt64 → Int64 → Option Int64) (fu : Nat) : UInt64 → Int64 → Int32 → Option Int64 := fx (fun kL => f_X4_bitsOf_L18s kL ke50) (fun _ _ _ => none) fu
def f_X4_bitsOf (x0 : UInt64) : Option Int64 :=
  if 0 < (Op.cmpValue (FP.dcmp x0 FP.dconst0) .l) then (f_X4_bitsOf_L18 f_X4_bitsOf_B50 FU x0 1023 1) else
  some 0
set_option maxHeartbeats 4000000 in
set_option maxRecDepth 100000 in
theorem c_X4_bitsOf (l : Launch) (D : va_G) (cy : cyT) {H : Heap} {y0 : UInt64}  {res : Int64} (hf : f_X4_bitsOf y0 = some res) : Met l yX4_bitsOf wsX4_bitsOf ({ frames := 0, cells := 0, slots := 0, locals := 0 } : Room) (PcR D cy H [.double y0]) (vp_Sl (fun r => r = res)) 0 0 (fun _ => False) := by
  refine Met.ofW (cc := cX4_bitsOf) (maxL := 8) (ret := (some .long)) (by decide) rfl ?_
  intro p e s m args below meth c s₁ B hml hv
  obtain ⟨hav, hH, hK⟩ := hv
  have hx := B.exec
  have hb := B.bytes
  have hr := B.returns
  have hts := atoms_spec (ws := wsX4_bitsOf) B.pre
  have hown : s.vm.findClass RX4 = some m.cls := findClass_of_methodNamed B.named
  have hlocks := B.notSynchronized
  subst hav
  subst hH
  have F : CallFix p m c cX4_bitsOf 8 s _ wsX4_bitsOf RX4 := ⟨hx, hb, hml, hown, hts⟩
  have hB50 : ∀ (x2 : UInt64) (x4 : Int64) (ls : Array Slot), lv_has ls 8 [(2, .double x2), (4, .long x4)] → f_X4_bitsOf_B50 x2 x4 = some res → W p l e (headSpec wsX4_bitsOf ({ frames := 0, cells := 0, slots := 0, locals := 0 } : Room)).room s m ([.double y0] : List Value).toArray below meth c s.heap [] 0 0 (MQ below (vp_Sl (fun r => r = res)) ([.double y0] : List Value).toArray s 0 0 (fun _ => False)) (F0 m 50 ls []) := by
    intro x2 x4 ls hl hf
    unfold f_X4_bitsOf_B50 at hf
    refine lv_ldc2d hx hb hown (hts (.constantDouble RX4 377 4841369599423283200) (List.mem_of_getElem? (i := 3) rfl)) dX4_bitsOf_50 ?_
    refine lv_dstore (lv' := [(6, .double 4841369599423283200), (2, .double x2), (4, .long x4)]) hx hb dX4_bitsOf_53 hl (by decide) rfl (fun ls hl => ?_)
    refine lv_lload hx hb dX4_bitsOf_55 (lv_at hl 2 rfl) ?_
    refine lv_bipush (v := 52) hx hb dX4_bitsOf_57 (by decide) ?_
    refine lv_lshl hx hb dX4_bitsOf_59 rfl ?_
    refine lv_dload_n hx hb dX4_bitsOf_60 rfl (lv_at hl 1 rfl) ?_
    refine lv_dconst1 hx hb dX4_bitsOf_61 ?_
    obtain ⟨c7, hf⟩ := ckd_some hf
    refine lv_dsub hx hb dX4_bitsOf_62 c7 ?_
    refine lv_dload hx hb dX4_bitsOf_63 (lv_at hl 0 rfl) ?_
    obtain ⟨c8, hf⟩ := ckd_some hf
    refine lv_dmul hx hb dX4_bitsOf_65 c8 ?_
    refine lv_d2l hx hb dX4_bitsOf_66 ?_
    refine lv_ladd hx hb dX4_bitsOf_67 ?_
    exact W.lret (v := ((x4 <<< ((52 : Int32).toInt64 &&& 63)) + (FP.d2l (FP.dmul (FP.dsub x2 FP.dconst1) 4841369599423283200)))) hx hb hr (fun t ht hW => ⟨_, rfl, Option.some.inj hf, ht⟩) (fun _ h => by cases h) dX4_bitsOf_68
  have hL18 : ∀ (fu18 : Nat), ∀ (x2 : UInt64) (x4 : Int64) (x6 : Int32) (ls : Array Slot), lv_has ls 8 [(2, .double x2), (4, .long x4), (6, .int x6)] → f_X4_bitsOf_L18 f_X4_bitsOf_B50 fu18 x2 x4 x6 = some res → W p l e (headSpec wsX4_bitsOf ({ frames := 0, cells := 0, slots := 0, locals := 0 } : Room)).room s m ([.double y0] : List Value).toArray below meth c s.heap [] 0 0 (MQ below (vp_Sl (fun r => r = res)) ([.double y0] : List Value).toArray s 0 0 (fun _ => False)) (F0 m 18 ls []) := by
    intro fu18
    induction fu18 with
    | zero =>
      intro x2 x4 x6 ls hl hf
      have hf : (none : Option Int64) = some res := hf
      cases hf
    | succ fu18 ih18 =>
      intro x2 x4 x6 ls hl hf
      have hf : f_X4_bitsOf_L18s (f_X4_bitsOf_L18 f_X4_bitsOf_B50 fu18) f_X4_bitsOf_B50 x2 x4 x6 = some res := hf
      unfold f_X4_bitsOf_L18s at hf
      refine lv_iload hx hb dX4_bitsOf_18 (lv_at hl 2 rfl) ?_
      refine lv_sipush (v := 1023) hx hb dX4_bitsOf_20 (by decide) ?_
      refine lv_icmp_ge (tgt := 50) hx hb dX4_bitsOf_23 (by decide) (fun c9 => ?_) (fun c9 => ?_)
      · have hf := it_t c9 hf
        exact hB50 x2 x4 _ (lv_sub hl [0, 1] rfl)  hf
      · have hf := it_f c9 hf
        refine lv_dload_n hx hb dX4_bitsOf_26 rfl (lv_at hl 0 rfl) ?_
        refine lv_dconst1 hx hb dX4_bitsOf_27 ?_
        refine lv_dcmp hx hb dX4_bitsOf_28 ?_
        refine lv_if_ge (tgt := 50) hx hb dX4_bitsOf_29 (by decide) (fun c10 => ?_) (fun c10 => ?_)
        · have hf := it_t c10 hf
          exact hB50 x2 x4 _ (lv_sub hl [0, 1] rfl)  hf
        · have hf := it_f c10 hf
          refine lv_dload_n hx hb dX4_bitsOf_32 rfl (lv_at hl 0 rfl) ?_
          refine lv_ldc2d hx hb hown (hts (.constantDouble RX4 375 4611686018427387904) (List.mem_of_getElem? (i := 2) rfl)) dX4_bitsOf_33 ?_
          obtain ⟨c11, hf⟩ := ckd_some hf
          refine lv_dmul hx hb dX4_bitsOf_36 c11 ?_
          refine lv_dstore_n (lv' := [(2, .double (FP.dmul x2 4611686018427387904)), (4, .long x4), (6, .int x6)]) hx hb dX4_bitsOf_37 rfl hl (by decide) rfl (fun ls hl => ?_)
          refine lv_lload hx hb dX4_bitsOf_38 (lv_at hl 1 rfl) ?_
          refine lv_lconst (v := 1) hx hb dX4_bitsOf_40 (by decide) ?_
          refine lv_lsub hx hb dX4_bitsOf_41 ?_
          refine lv_lstore (lv' := [(4, .long (x4 - (1 : Int64))), (2, .double (FP.dmul x2 4611686018427387904)), (6, .int x6)]) hx hb dX4_bitsOf_42 hl (by decide) rfl (fun ls hl => ?_)
          refine lv_iinc (v := x6 + 1) (lv' := [(6, .int (x6 + 1)), (4, .long (x4 - (1 : Int64))), (2, .double (FP.dmul x2 4611686018427387904))]) hx hb dX4_bitsOf_44 hl (k := 2) rfl (by rfl) (by decide) rfl (fun ls hl => ?_)
          refine lv_goto (tgt := 18) hx hb dX4_bitsOf_47 (by decide) ?_
          exact ih18 (FP.dmul x2 4611686018427387904) (x4 - (1 : Int64)) (x6 + 1) _ (lv_sub hl [2, 1, 0] rfl)  hf
  have hl := lv_entry ([.double y0]) (n := 8) (Nat.le_of_ble_eq_true rfl)
  rw [lg_entry_eq]
  generalize (lg_sl ([.double y0]) ++ List.replicate (8 - (lg_sl ([.double y0])).length) Slot.unset).toArray = ls at hl ⊢
  have hl : lv_has ls 8 [(0, .double y0)] := hl
  unfold f_X4_bitsOf at hf
  refine lv_dload_n hx hb dX4_bitsOf_0 rfl (lv_at hl 0 rfl) ?_
  refine lv_dconst0 hx hb dX4_bitsOf_1 ?_
  refine lv_dcmp hx hb dX4_bitsOf_2 ?_
  refine lv_if_gt (tgt := 8) hx hb dX4_bitsOf_3 (by decide) (fun c12 => ?_) (fun c12 => ?_)
  · have hf := it_t c12 hf
    refine lv_dload_n hx hb dX4_bitsOf_8 rfl (lv_at hl 0 rfl) ?_
    refine lv_dstore_n (lv' := [(2, .double y0), (0, .double y0)]) hx hb dX4_bitsOf_9 rfl hl (by decide) rfl (fun ls hl => ?_)
    refine lv_ldc2 hx hb hown (hts (.constantLong RX4 373 1023) (List.mem_of_getElem? (i := 1) rfl)) dX4_bitsOf_10 ?_
    refine lv_lstore (lv' := [(4, .long 1023), (2, .double y0), (0, .double y0)]) hx hb dX4_bitsOf_13 hl (by decide) rfl (fun ls hl => ?_)
    refine lv_iconst (v := 1) hx hb dX4_bitsOf_15 (by decide) ?_
    refine lv_istore (lv' := [(6, .int 1), (4, .long 1023), (2, .double y0), (0, .double y0)]) hx hb dX4_bitsOf_16 hl (by decide) rfl (fun ls hl => ?_)
    exact hL18 FU y0 1023 1 _ (lv_sub hl [2, 1, 0] rfl)  hf
  · have hf := it_f c12 hf
    refine lv_lconst (v := 0) hx hb dX4_bitsOf_6 (by decide) ?_
    exact W.lret (v := 0) hx hb hr (fun t ht hW => ⟨_, rfl, Option.some.inj hf, ht⟩) (fun _ h => by cases h) dX4_bitsOf_7
def f_X4_digest_B204 (S : PS) (n : Nat) (x1 : Int64) : Option (Int64 × PS × Nat) :=
  some (x1, S, n)
def f_X4_digest_L179s (kL179 : PS → Nat → Nat → Int64 → Int32 → Option (Int64 × PS × Nat)) (ke204 : PS → Nat → Int64 → Option (Int64 × PS × Nat)) (S : PS) (n : Nat) (x0 : Nat) (x1 : Int64) (x3 : Int32) : Option (Int64 × PS × Nat) :=
  if (fI S 69 x0) ≤ x3 then (ke204 S n x1) else
  bd (f_X4_codeAt S x0 x3) fun t2 =>
  bd (f_X4_mixed x1 t2.toInt64) fun t5 =>
  kL179 S n x0 t5 (x3 + 1)
def f_X4_digest_L179 (ke204 : PS → Nat → Int64 → Option (Int64 × PS × Nat)) (fu : Nat) : PS → Nat → Nat → Int64 → Int32 → Option (Int64 × PS × Nat) := fx (fun kL => f_X4_digest_L179s kL ke204) (fun _ _ _ _ _ => none) fu
def f_X4_digest_B135 (S : PS) (n : Nat) (x0 : Nat) (x1 : Int64) : Option (Int64 × PS × Nat) :=
  bd (f_X4_most S x0) fun t8 =>
  bd (f_X4_mixed x1 t8.toInt64) fun t11 =>
  bd (f_X4_blame S x0) fun t14 =>
  bd (f_X4_mixed t11 t14.toInt64) fun t17 =>
  bd (f_X4_density S x0) fun t20 =>
  bd (f_X4_bitsOf t20.1) fun t22 =>
  bd (f_X4_mixed t17 t22) fun t25 =>
  bd (f_X4_mixed t25 ((fI t20.2 69 x0).toInt64)) fun t28 =>
  f_X4_digest_L179 f_X4_digest_B204 61 t20.2 n x0 t28 0
def f_X4_digest_L110s (kL110 : PS → Nat → Nat → Int64 → Int32 → Option (Int64 × PS × Nat)) (ke135 : PS → Nat → Nat → Int64 → Option (Int64 × PS × Nat)) (S : PS) (n : Nat) (x0 : Nat) (x1 : Int64) (x3 : Int32) : Option (Int64 × PS × Nat) :=
  if 3 < x3 then (ke135 S n x0 x1) else
  nx (f_X4_ifAdded S n x0 3 1 10 x3) fun t32 u34 =>
  bd (f_X4_mixed x1 t32) fun t35 =>
  kL110 u34.1 u34.2 x0 t35 (x3 + 1)
def f_X4_digest_L110 (ke135 : PS → Nat → Nat → Int64 → Option (Int64 × PS × Nat)) (fu : Nat) : PS → Nat → Nat → Int64 → Int32 → Option (Int64 × PS × Nat) := fx (fun kL => f_X4_digest_L110s kL ke135) (fun _ _ _ _ _ => none) fu
def f_X4_digest_B102 (S : PS) (n : Nat) (x0 : Nat) (x1 : Int64) : Option (Int64 × PS × Nat) :=
  bd (f_X4_withAnswers S x0 x1) fun t38 =>
  f_X4_digest_L110 f_X4_digest_B135 5 t38.2 n x0 t38.1 0
def f_X4_digest_L77s (kL77 : PS → Nat → Nat → Int64 → Int32 → Option (Int64 × PS × Nat)) (ke102 : PS → Nat → Nat → Int64 → Option (Int64 × PS × Nat)) (S : PS) (n : Nat) (x0 : Nat) (x1 : Int64) (x3 : Int32) : Option (Int64 × PS × Nat) :=
  if 6 ≤ x3 then (ke102 S n x0 x1) else
  ck (decide (¬ (x3 < 0 ∨ 6 ≤ x3.toNatClampNeg))) (
  bd (f_X4_withPrime S x0 x1 (nI ([2, 3, 5, 7, 11, 13].getD x3.toNatClampNeg 0))) fun t44 =>
  kL77 t44.2 n x0 t44.1 (x3 + 1))
def f_X4_digest_L77 (ke102 : PS → Nat → Nat → Int64 → Option (Int64 × PS × Nat)) (fu : Nat) : PS → Nat → Nat → Int64 → Int32 → Option (Int64 × PS × Nat) := fx (fun kL => f_X4_digest_L77s kL ke102) (fun _ _ _ _ _ => none) fu
def f_X4_digest_B75 (S : PS) (n : Nat) (x0 : Nat) (x1 : Int64) : Option (Int64 × PS × Nat) :=
  f_X4_digest_L77 f_X4_digest_B102 7 S n x0 x1 0
def f_X4_digest_L51s (kL51 : PS → Nat → Nat → Int64 → Int32 → Option (Int64 × PS × Nat)) (ke75 : PS → Nat → Nat → Int64 → Option (Int64 × PS × Nat)) (S : PS) (n : Nat) (x0 : Nat) (x1 : Int64) (x3 : Int32) : Option (Int64 × PS × Nat) :=
  rq (fR S 64 x0) S 3 fun b46 =>
  if (fI S 51 b46) ≤ x3 then (ke75 S n x0 x1) else
  bd (f_X4_withCondition S x0 x1 x3) fun t49 =>
  kL51 t49.2 n x0 t49.1 (x3 + 1)
def f_X4_digest_L51 (ke75 : PS → Nat → Nat → Int64 → Option (Int64 × PS × Nat)) (fu : Nat) : PS → Nat → Nat → Int64 → Int32 → Option (Int64 × PS × Nat) := fx (fun kL => f_X4_digest_L51s kL ke75) (fun _ _ _ _ _ => none) fu
def f_X4_digest_B29 (S : PS) (n : Nat) (x0 : Nat) (x1 : Int64) : Option (Int64 × PS × Nat) :=
  nx (f_X4_joined S x0 0) fun t51 u53 =>
  bd (f_X4_mixed x1 t51) fun t54 =>
  nx (f_X4_joined u53 x0 1) fun t57 u59 =>
  bd (f_X4_mixed t54 t57) fun t60 =>
  f_X4_digest_L51 f_X4_digest_B75 11 u59 n x0 t60 0
def f_X4_digest_L6s (kL6 : PS → Nat → Nat → Int64 → Int32 → Option (Int64 × PS × Nat)) (ke29 : PS → Nat → Nat → Int64 → Option (Int64 × PS × Nat)) (S : PS) (n : Nat) (x0 : Nat) (x1 : Int64) (x3 : Int32) : Option (Int64 × PS × Nat) :=
  if 6 < x3 then (ke29 S n x0 x1) else
  nx (f_X4_count S x0 x3) fun t64 u66 =>
  bd (f_X4_mixed x1 t64.toInt64) fun t67 =>
  kL6 u66 n x0 t67 (x3 + 1)
def f_X4_digest_L6 (ke29 : PS → Nat → Nat → Int64 → Option (Int64 × PS × Nat)) (fu : Nat) : PS → Nat → Nat → Int64 → Int32 → Option (Int64 × PS × Nat) := fx (fun kL => f_X4_digest_L6s kL ke29) (fun _ _ _ _ _ => none) fu
def f_X4_digest (S : PS) (n : Nat) (x0 : Nat) : Option (Int64 × PS × Nat) :=
  f_X4_digest_L6 f_X4_digest_B29 8 S n x0 2791 0
set_option maxHeartbeats 4000000 in
set_option maxRecDepth 100000 in
theorem c_X4_digest (l : Launch) (hst : l.stackTraces = false) (D : va_G) (cy : cyT) {S : PS} {n : Nat} {y0 : Nat} (v_y0 : vd S y0 4) {res : Int64 × PS × Nat} (hf : f_X4_digest S n y0 = some res) : Met l yX4_digest wsX4_digest ({ frames := 8, cells := 312, slots := 1872, locals := 160 } : Room) (PcW True D cy S n [.ref y0]) (va_Ql (fun (r : Int64) (u : PS × Nat) => r = res.1 ∧ u = res.2) (BW D cy S n) (AA cy S n)) 312 1872 (AA cy S n) := by
  refine Met.ofW (cc := cX4_digest) (maxL := 4) (ret := (some .long)) (by decide) rfl ?_
  intro p e s m args below meth c s₁ B hml hv
  obtain ⟨hav, hsz, hP0, hD0, hK, hZ0⟩ := hv
  have hx := B.exec
  have hb := B.bytes
  have hr := B.returns
  have hts := atoms_spec (ws := wsX4_digest) B.pre
  have hown : s.vm.findClass RX4 = some m.cls := findClass_of_methodNamed B.named
  have hlocks := B.notSynchronized
  subst hav
  have hw : Hw D cy (AA cy S n) s.heap S n s.heap [] := Hw.start hsz hP0 hD0
  have hA : ∀ q, s.heap.size ≤ q → AA cy S n q := fun q h => Or.inr (hsz ▸ h)
  have hE : EX S S := EX.rf
  have hZ := hZ0 trivial
  have F : CallFix p m c cX4_digest 4 s _ wsX4_digest RX4 := ⟨hx, hb, hml, hown, hts⟩
  have hB204 : ∀ (Sb : PS) (nb : Nat) (H1 : Heap) (lo1 : List Loc) (kc ks : Nat) (_ : kc + 0 ≤ 312) (_ : ks + 0 ≤ 1872) (x1 : Int64) (ls : Array Slot), lv_has ls 4 [(1, .long x1)] → Hw D cy (AA cy S n) s.heap Sb nb H1 lo1 → EX S Sb → f_X4_digest_B204 Sb nb x1 = some res → W p l e (headSpec wsX4_digest ({ frames := 8, cells := 312, slots := 1872, locals := 160 } : Room)).room s m ([.ref y0] : List Value).toArray below meth c H1 lo1 kc ks (MQ below (va_Ql (fun (r : Int64) (u : PS × Nat) => r = res.1 ∧ u = res.2) (BW D cy S n) (AA cy S n)) ([.ref y0] : List Value).toArray s 312 1872 (AA cy S n)) (F0 m 204 ls []) := by
    intro Sb nb H1 lo1 kc ks hkc hks x1 ls hl hw hE hf
    unfold f_X4_digest_B204 at hf
    refine lv_lload_n hx hb dX4_digest_204 rfl (lv_at hl 0 rfl) ?_
    refine W.widen (k := 312) (n := 1872) (by omega) (by omega) ?_
    exact W.lret (v := x1) hx hb hr (fun t ht hW => ⟨⟨_, (Sb, nb), rfl, po3 hf, BW.of hw hE ht⟩, hw.2.2.1.F ht⟩) hw.2.2.1.2.2 dX4_digest_205
  have hL179 : ∀ (fu179 : Nat), ∀ (Sb : PS) (nb : Nat) (H1 : Heap) (lo1 : List Loc) (kc ks : Nat) (_ : kc + (fu179 * 0 + 0) ≤ 312) (_ : ks + (fu179 * 0 + 0) ≤ 1872) (x0 : Nat) (x1 : Int64) (x3 : Int32) (ls : Array Slot), lv_has ls 4 [(0, .ref x0), (1, .long x1), (3, .int x3)] → Hw D cy (AA cy S n) s.heap Sb nb H1 lo1 → EX S Sb → vd Sb x0 4 → f_X4_digest_L179 f_X4_digest_B204 fu179 Sb nb x0 x1 x3 = some res → W p l e (headSpec wsX4_digest ({ frames := 8, cells := 312, slots := 1872, locals := 160 } : Room)).room s m ([.ref y0] : List Value).toArray below meth c H1 lo1 kc ks (MQ below (va_Ql (fun (r : Int64) (u : PS × Nat) => r = res.1 ∧ u = res.2) (BW D cy S n) (AA cy S n)) ([.ref y0] : List Value).toArray s 312 1872 (AA cy S n)) (F0 m 179 ls []) := by
    intro fu179
    induction fu179 with
    | zero =>
      intro Sb nb H1 lo1 kc ks hkc hks x0 x1 x3 ls hl hw hE v_x0 hf
      have hf : (none : Option (Int64 × PS × Nat)) = some res := hf
      cases hf
    | succ fu179 ih179 =>
      intro Sb nb H1 lo1 kc ks hkc hks x0 x1 x3 ls hl hw hE v_x0 hf
      have hf : f_X4_digest_L179s (f_X4_digest_L179 f_X4_digest_B204 fu179) f_X4_digest_B204 Sb nb x0 x1 x3 = some res := hf
      unfold f_X4_digest_L179s at hf
      refine lv_iload_n hx hb dX4_digest_179 rfl (lv_at hl 2 rfl) ?_
      refine lv_aload_n hx hb dX4_digest_180 rfl (lv_at hl 0 rfl) ?_
      refine q_get F hK hw.1 v_x0.1 (pF_4 (S := Sb) v_x0.2) (fun w h => List.mem_cons_of_mem _ (List.mem_append_left _ (List.mem_append_left _ (List.mem_append_left _ (List.mem_append_left _ (List.mem_append_left _ (List.mem_append_right _ h))))))) rfl 5 (by decide) (hts (.fieldLink RX4 38 "SharedModuli" "length" "I") (List.mem_of_getElem? (i := 4) rfl)) (v := .int (fI Sb 69 x0)) rfl dX4_digest_181 ?_
      refine lv_icmp_ge (tgt := 204) hx hb dX4_digest_184 (by decide) (fun c70 => ?_) (fun c70 => ?_)
      · have hf := it_t c70 hf
        exact hB204 Sb nb _ _ _ _ (by omega) (by omega) x1 _ (lv_sub hl [1] rfl) hw hE  hf
      · have hf := it_f c70 hf
        refine lv_lload_n hx hb dX4_digest_187 rfl (lv_at hl 1 rfl) ?_
        refine lv_aload_n hx hb dX4_digest_188 rfl (lv_at hl 0 rfl) ?_
        refine lv_iload_n hx hb dX4_digest_189 rfl (lv_at hl 2 rfl) ?_
        obtain ⟨t71, h72, hf⟩ := bd_some hf
        refine vp_callSi (va_runV (As := [.int x3]) (rest := [.long x1]) F (c_X4_codeAt l D cy (H := _) hw.1 v_x0 h72) (cwV 1 hts gX4_digest_X4_codeAt rfl rfl rfl ⟨rfl, ph_X4_codeAt.1, ph_X4_codeAt.2, pd_X4_codeAt⟩ ⟨Nat.le_of_ble_eq_true rfl, Nat.le_of_ble_eq_true rfl⟩) ⟨PcR.bl, (q_rcv hK hw.1 v_x0.1 (pF_4 (S := Sb) v_x0.2) rfl), PcR.in hK⟩ rfl rfl hl.1 rfl (lv_room (Nat.le_of_ble_eq_true rfl)) dX4_digest_190 ⟨by show _ ≤ 312; omega, by show _ ≤ 1872; omega⟩).run (fun r73 er73 => ?_)
        subst r73
        refine lv_i2l hx hb dX4_digest_193 rfl ?_
        obtain ⟨t74, h75, hf⟩ := bd_some hf
        refine vp_callSl (va_runS (As := [.long x1, .long t71.toInt64]) (rest := []) F (c_X4_mixed l D cy (H := _)  h75) (va_cwS 2 hts gX4_digest_X4_mixed rfl rfl rfl ⟨ph_X4_mixed.1, ph_X4_mixed.2, pd_X4_mixed⟩ ⟨Nat.le_of_ble_eq_true rfl, Nat.le_of_ble_eq_true rfl⟩) ⟨PcR.bl, PcR.in hK⟩ rfl rfl hl.1 rfl (lv_room (Nat.le_of_ble_eq_true rfl)) dX4_digest_194 ⟨by show _ ≤ 312; omega, by show _ ≤ 1872; omega⟩).run (fun r76 er76 => ?_)
        subst r76
        refine lv_lstore_n (lv' := [(1, .long t74), (0, .ref x0), (3, .int x3)]) hx hb dX4_digest_197 rfl hl (by decide) rfl (fun ls hl => ?_)
        refine lv_iinc (v := x3 + 1) (lv' := [(3, .int (x3 + 1)), (1, .long t74), (0, .ref x0)]) hx hb dX4_digest_198 hl (k := 2) rfl (by rfl) (by decide) rfl (fun ls hl => ?_)
        refine lv_goto (tgt := 179) hx hb dX4_digest_201 (by decide) ?_
        exact ih179 Sb nb _ _ _ _ (by omega) (by omega) x0 t74 (x3 + 1) _ (lv_sub hl [2, 1, 0] rfl) hw hE v_x0 hf
  have hB135 : ∀ (Sb : PS) (nb : Nat) (H1 : Heap) (lo1 : List Loc) (kc ks : Nat) (_ : kc + 0 ≤ 312) (_ : ks + 0 ≤ 1872) (x0 : Nat) (x1 : Int64) (ls : Array Slot), lv_has ls 4 [(0, .ref x0), (1, .long x1)] → Hw D cy (AA cy S n) s.heap Sb nb H1 lo1 → EX S Sb → vd Sb x0 4 → f_X4_digest_B135 Sb nb x0 x1 = some res → W p l e (headSpec wsX4_digest ({ frames := 8, cells := 312, slots := 1872, locals := 160 } : Room)).room s m ([.ref y0] : List Value).toArray below meth c H1 lo1 kc ks (MQ below (va_Ql (fun (r : Int64) (u : PS × Nat) => r = res.1 ∧ u = res.2) (BW D cy S n) (AA cy S n)) ([.ref y0] : List Value).toArray s 312 1872 (AA cy S n)) (F0 m 135 ls []) := by
    intro Sb nb H1 lo1 kc ks hkc hks x0 x1 ls hl hw hE v_x0 hf
    unfold f_X4_digest_B135 at hf
    refine lv_lload_n hx hb dX4_digest_135 rfl (lv_at hl 1 rfl) ?_
    refine lv_aload_n hx hb dX4_digest_136 rfl (lv_at hl 0 rfl) ?_
    obtain ⟨t77, h78, hf⟩ := bd_some hf
    refine vp_callSi (va_runV (As := []) (rest := [.long x1]) F (c_X4_most l D cy (H := _) hw.1 v_x0 h78) (cwV 0 hts gX4_digest_X4_most rfl rfl rfl ⟨rfl, ph_X4_most.1, ph_X4_most.2, pd_X4_most⟩ ⟨Nat.le_of_ble_eq_true rfl, Nat.le_of_ble_eq_true rfl⟩) ⟨PcR.bl, (q_rcv hK hw.1 v_x0.1 (pF_4 (S := Sb) v_x0.2) rfl), PcR.in hK⟩ rfl rfl hl.1 rfl (lv_room (Nat.le_of_ble_eq_true rfl)) dX4_digest_137 ⟨by show _ ≤ 312; omega, by show _ ≤ 1872; omega⟩).run (fun r79 er79 => ?_)
    subst r79
    refine lv_i2l hx hb dX4_digest_140 rfl ?_
    obtain ⟨t80, h81, hf⟩ := bd_some hf
    refine vp_callSl (va_runS (As := [.long x1, .long t77.toInt64]) (rest := []) F (c_X4_mixed l D cy (H := _)  h81) (va_cwS 2 hts gX4_digest_X4_mixed rfl rfl rfl ⟨ph_X4_mixed.1, ph_X4_mixed.2, pd_X4_mixed⟩ ⟨Nat.le_of_ble_eq_true rfl, Nat.le_of_ble_eq_true rfl⟩) ⟨PcR.bl, PcR.in hK⟩ rfl rfl hl.1 rfl (lv_room (Nat.le_of_ble_eq_true rfl)) dX4_digest_141 ⟨by show _ ≤ 312; omega, by show _ ≤ 1872; omega⟩).run (fun r82 er82 => ?_)
    subst r82
    refine lv_lstore_n (lv' := [(1, .long t80), (0, .ref x0)]) hx hb dX4_digest_144 rfl hl (by decide) rfl (fun ls hl => ?_)
    refine lv_lload_n hx hb dX4_digest_145 rfl (lv_at hl 0 rfl) ?_
    refine lv_aload_n hx hb dX4_digest_146 rfl (lv_at hl 1 rfl) ?_
    obtain ⟨t83, h84, hf⟩ := bd_some hf
    refine vp_callSi (va_runV (As := []) (rest := [.long t80]) F (c_X4_blame l D cy (H := _) hw.1 v_x0 h84) (cwV 0 hts gX4_digest_X4_blame rfl rfl rfl ⟨rfl, ph_X4_blame.1, ph_X4_blame.2, pd_X4_blame⟩ ⟨Nat.le_of_ble_eq_true rfl, Nat.le_of_ble_eq_true rfl⟩) ⟨PcR.bl, (q_rcv hK hw.1 v_x0.1 (pF_4 (S := Sb) v_x0.2) rfl), PcR.in hK⟩ rfl rfl hl.1 rfl (lv_room (Nat.le_of_ble_eq_true rfl)) dX4_digest_147 ⟨by show _ ≤ 312; omega, by show _ ≤ 1872; omega⟩).run (fun r85 er85 => ?_)
    subst r85
    refine lv_i2l hx hb dX4_digest_150 rfl ?_
    obtain ⟨t86, h87, hf⟩ := bd_some hf
    refine vp_callSl (va_runS (As := [.long t80, .long t83.toInt64]) (rest := []) F (c_X4_mixed l D cy (H := _)  h87) (va_cwS 2 hts gX4_digest_X4_mixed rfl rfl rfl ⟨ph_X4_mixed.1, ph_X4_mixed.2, pd_X4_mixed⟩ ⟨Nat.le_of_ble_eq_true rfl, Nat.le_of_ble_eq_true rfl⟩) ⟨PcR.bl, PcR.in hK⟩ rfl rfl hl.1 rfl (lv_room (Nat.le_of_ble_eq_true rfl)) dX4_digest_151 ⟨by show _ ≤ 312; omega, by show _ ≤ 1872; omega⟩).run (fun r88 er88 => ?_)
    subst r88
    refine lv_lstore_n (lv' := [(1, .long t86), (0, .ref x0)]) hx hb dX4_digest_154 rfl hl (by decide) rfl (fun ls hl => ?_)
    refine lv_lload_n hx hb dX4_digest_155 rfl (lv_at hl 0 rfl) ?_
    refine lv_aload_n hx hb dX4_digest_156 rfl (lv_at hl 1 rfl) ?_
    obtain ⟨t89, h90, hf⟩ := bd_some hf
    refine q_calld (va_runV (As := []) (rest := [.long t86]) F (c_X4_density l D cy (S := Sb) v_x0 h90) (cwV 0 hts gX4_digest_X4_density rfl rfl rfl ⟨rfl, ph_X4_density.1, ph_X4_density.2, pd_X4_density⟩ ⟨Nat.le_of_ble_eq_true rfl, Nat.le_of_ble_eq_true rfl⟩) ⟨PcW.bl, (q_rcv hK hw.1 v_x0.1 (pF_4 (S := Sb) v_x0.2) rfl), PcW.in hK hw hA (fun z => z.elim)⟩ rfl rfl hl.1 rfl (lv_room (Nat.le_of_ble_eq_true rfl)) dX4_digest_157 ⟨by show _ ≤ 312; omega, by show _ ≤ 1872; omega⟩) hw hA (fun H locs hw hX => ?_)
    have hE := hE.tr hX
    have v_x0 := hX _ _ v_x0
    obtain ⟨t91, h92, hf⟩ := bd_some hf
    refine vp_callSl (va_runS (As := [.double t89.1]) (rest := [.long t86]) F (c_X4_bitsOf l D cy (H := _)  h92) (va_cwS 1 hts gX4_digest_X4_bitsOf rfl rfl rfl ⟨ph_X4_bitsOf.1, ph_X4_bitsOf.2, pd_X4_bitsOf⟩ ⟨Nat.le_of_ble_eq_true rfl, Nat.le_of_ble_eq_true rfl⟩) ⟨PcR.bl, PcR.in hK⟩ rfl rfl hl.1 rfl (lv_room (Nat.le_of_ble_eq_true rfl)) dX4_digest_160 ⟨by show _ ≤ 312; omega, by show _ ≤ 1872; omega⟩).run (fun r93 er93 => ?_)
    subst r93
    obtain ⟨t94, h95, hf⟩ := bd_some hf
    refine vp_callSl (va_runS (As := [.long t86, .long t91]) (rest := []) F (c_X4_mixed l D cy (H := _)  h95) (va_cwS 2 hts gX4_digest_X4_mixed rfl rfl rfl ⟨ph_X4_mixed.1, ph_X4_mixed.2, pd_X4_mixed⟩ ⟨Nat.le_of_ble_eq_true rfl, Nat.le_of_ble_eq_true rfl⟩) ⟨PcR.bl, PcR.in hK⟩ rfl rfl hl.1 rfl (lv_room (Nat.le_of_ble_eq_true rfl)) dX4_digest_163 ⟨by show _ ≤ 312; omega, by show _ ≤ 1872; omega⟩).run (fun r96 er96 => ?_)
    subst r96
    refine lv_lstore_n (lv' := [(1, .long t94), (0, .ref x0)]) hx hb dX4_digest_166 rfl hl (by decide) rfl (fun ls hl => ?_)
    refine lv_lload_n hx hb dX4_digest_167 rfl (lv_at hl 0 rfl) ?_
    refine lv_aload_n hx hb dX4_digest_168 rfl (lv_at hl 1 rfl) ?_
    refine q_get F hK hw.1 v_x0.1 (pF_4 (S := t89.2) v_x0.2) (fun w h => List.mem_cons_of_mem _ (List.mem_append_left _ (List.mem_append_left _ (List.mem_append_left _ (List.mem_append_left _ (List.mem_append_left _ (List.mem_append_right _ h))))))) rfl 5 (by decide) (hts (.fieldLink RX4 38 "SharedModuli" "length" "I") (List.mem_of_getElem? (i := 4) rfl)) (v := .int (fI t89.2 69 x0)) rfl dX4_digest_169 ?_
    refine lv_i2l hx hb dX4_digest_172 rfl ?_
    obtain ⟨t97, h98, hf⟩ := bd_some hf
    refine vp_callSl (va_runS (As := [.long t94, .long ((fI t89.2 69 x0).toInt64)]) (rest := []) F (c_X4_mixed l D cy (H := _)  h98) (va_cwS 2 hts gX4_digest_X4_mixed rfl rfl rfl ⟨ph_X4_mixed.1, ph_X4_mixed.2, pd_X4_mixed⟩ ⟨Nat.le_of_ble_eq_true rfl, Nat.le_of_ble_eq_true rfl⟩) ⟨PcR.bl, PcR.in hK⟩ rfl rfl hl.1 rfl (lv_room (Nat.le_of_ble_eq_true rfl)) dX4_digest_173 ⟨by show _ ≤ 312; omega, by show _ ≤ 1872; omega⟩).run (fun r99 er99 => ?_)
    subst r99
    refine lv_lstore_n (lv' := [(1, .long t97), (0, .ref x0)]) hx hb dX4_digest_176 rfl hl (by decide) rfl (fun ls hl => ?_)
    refine lv_iconst (v := 0) hx hb dX4_digest_177 (by decide) ?_
    refine lv_istore_n (lv' := [(3, .int 0), (1, .long t97), (0, .ref x0)]) hx hb dX4_digest_178 rfl hl (by decide) rfl (fun ls hl => ?_)
    exact hL179 61 t89.2 nb _ _ _ _ (by omega) (by omega) x0 t97 0 _ (lv_sub hl [2, 1, 0] rfl) hw hE v_x0 hf
  have hL110 : ∀ (fu110 : Nat), ∀ (Sb : PS) (nb : Nat) (H1 : Heap) (lo1 : List Loc) (kc ks : Nat) (_ : kc + (fu110 * 1 + 0) ≤ 312) (_ : ks + (fu110 * 6 + 0) ≤ 1872) (x0 : Nat) (x1 : Int64) (x3 : Int32) (ls : Array Slot), lv_has ls 4 [(0, .ref x0), (1, .long x1), (3, .int x3)] → Hw D cy (AA cy S n) s.heap Sb nb H1 lo1 → EX S Sb → vd Sb x0 4 → f_X4_digest_L110 f_X4_digest_B135 fu110 Sb nb x0 x1 x3 = some res → W p l e (headSpec wsX4_digest ({ frames := 8, cells := 312, slots := 1872, locals := 160 } : Room)).room s m ([.ref y0] : List Value).toArray below meth c H1 lo1 kc ks (MQ below (va_Ql (fun (r : Int64) (u : PS × Nat) => r = res.1 ∧ u = res.2) (BW D cy S n) (AA cy S n)) ([.ref y0] : List Value).toArray s 312 1872 (AA cy S n)) (F0 m 110 ls []) := by
    intro fu110
    induction fu110 with
    | zero =>
      intro Sb nb H1 lo1 kc ks hkc hks x0 x1 x3 ls hl hw hE v_x0 hf
      have hf : (none : Option (Int64 × PS × Nat)) = some res := hf
      cases hf
    | succ fu110 ih110 =>
      intro Sb nb H1 lo1 kc ks hkc hks x0 x1 x3 ls hl hw hE v_x0 hf
      have hf : f_X4_digest_L110s (f_X4_digest_L110 f_X4_digest_B135 fu110) f_X4_digest_B135 Sb nb x0 x1 x3 = some res := hf
      unfold f_X4_digest_L110s at hf
      refine lv_iload_n hx hb dX4_digest_110 rfl (lv_at hl 2 rfl) ?_
      refine lv_iconst (v := 3) hx hb dX4_digest_111 (by decide) ?_
      refine lv_icmp_gt (tgt := 135) hx hb dX4_digest_112 (by decide) (fun c100 => ?_) (fun c100 => ?_)
      · have hf := it_t c100 hf
        exact hB135 Sb nb _ _ _ _ (by omega) (by omega) x0 x1 _ (lv_sub hl [0, 1] rfl) hw hE v_x0 hf
      · have hf := it_f c100 hf
        refine lv_lload_n hx hb dX4_digest_115 rfl (lv_at hl 1 rfl) ?_
        refine lv_aload_n hx hb dX4_digest_116 rfl (lv_at hl 0 rfl) ?_
        refine lv_iconst (v := 3) hx hb dX4_digest_117 (by decide) ?_
        refine lv_iconst (v := 1) hx hb dX4_digest_118 (by decide) ?_
        refine lv_bipush (v := 10) hx hb dX4_digest_119 (by decide) ?_
        refine lv_iload_n hx hb dX4_digest_121 rfl (lv_at hl 2 rfl) ?_
        obtain ⟨t101, u103, h102, hf⟩ := nx_some hf
        refine q_calll (va_runV (As := [.int 3, .int 1, .int 10, .int x3]) (rest := [.long x1]) F (tm_l (c_X4_ifAdded l hst D cy (S := Sb) v_x0 h102) (fun E s t hx => by obtain ⟨k, hk, _⟩ := hx; cases hk)) (cwV 4 hts gX4_digest_X4_ifAdded rfl rfl rfl ⟨rfl, ph_X4_ifAdded.1, ph_X4_ifAdded.2, pd_X4_ifAdded⟩ ⟨Nat.le_of_ble_eq_true rfl, Nat.le_of_ble_eq_true rfl⟩) ⟨PcW.bl, (q_rcv hK hw.1 v_x0.1 (pF_4 (S := Sb) v_x0.2) rfl), PcW.in hK hw hA (fun _ => hZ)⟩ rfl rfl hl.1 rfl (lv_room (Nat.le_of_ble_eq_true rfl)) dX4_digest_122 ⟨by show _ ≤ 312; omega, by show _ ≤ 1872; omega⟩) hw hA (fun H locs hw hX => ?_)
        have hE := hE.tr hX
        have v_x0 := hX _ _ v_x0
        obtain ⟨t104, h105, hf⟩ := bd_some hf
        refine vp_callSl (va_runS (As := [.long x1, .long t101]) (rest := []) F (c_X4_mixed l D cy (H := _)  h105) (va_cwS 2 hts gX4_digest_X4_mixed rfl rfl rfl ⟨ph_X4_mixed.1, ph_X4_mixed.2, pd_X4_mixed⟩ ⟨Nat.le_of_ble_eq_true rfl, Nat.le_of_ble_eq_true rfl⟩) ⟨PcR.bl, PcR.in hK⟩ rfl rfl hl.1 rfl (lv_room (Nat.le_of_ble_eq_true rfl)) dX4_digest_125 ⟨by show _ ≤ 312; omega, by show _ ≤ 1872; omega⟩).run (fun r106 er106 => ?_)
        subst r106
        refine lv_lstore_n (lv' := [(1, .long t104), (0, .ref x0), (3, .int x3)]) hx hb dX4_digest_128 rfl hl (by decide) rfl (fun ls hl => ?_)
        refine lv_iinc (v := x3 + 1) (lv' := [(3, .int (x3 + 1)), (1, .long t104), (0, .ref x0)]) hx hb dX4_digest_129 hl (k := 2) rfl (by rfl) (by decide) rfl (fun ls hl => ?_)
        refine lv_goto (tgt := 110) hx hb dX4_digest_132 (by decide) ?_
        exact ih110 u103.1 u103.2 _ _ _ _ (by omega) (by omega) x0 t104 (x3 + 1) _ (lv_sub hl [2, 1, 0] rfl) hw hE v_x0 hf
  have hB102 : ∀ (Sb : PS) (nb : Nat) (H1 : Heap) (lo1 : List Loc) (kc ks : Nat) (_ : kc + 14 ≤ 312) (_ : ks + 84 ≤ 1872) (x0 : Nat) (x1 : Int64) (ls : Array Slot), lv_has ls 4 [(0, .ref x0), (1, .long x1)] → Hw D cy (AA cy S n) s.heap Sb nb H1 lo1 → EX S Sb → vd Sb x0 4 → f_X4_digest_B102 Sb nb x0 x1 = some res → W p l e (headSpec wsX4_digest ({ frames := 8, cells := 312, slots := 1872, locals := 160 } : Room)).room s m ([.ref y0] : List Value).toArray below meth c H1 lo1 kc ks (MQ below (va_Ql (fun (r : Int64) (u : PS × Nat) => r = res.1 ∧ u = res.2) (BW D cy S n) (AA cy S n)) ([.ref y0] : List Value).toArray s 312 1872 (AA cy S n)) (F0 m 102 ls []) := by
    intro Sb nb H1 lo1 kc ks hkc hks x0 x1 ls hl hw hE v_x0 hf
    unfold f_X4_digest_B102 at hf
    refine lv_aload_n hx hb dX4_digest_102 rfl (lv_at hl 0 rfl) ?_
    refine lv_lload_n hx hb dX4_digest_103 rfl (lv_at hl 1 rfl) ?_
    obtain ⟨t107, h108, hf⟩ := bd_some hf
    refine q_calll (va_runV (As := [.long x1]) (rest := []) F (c_X4_withAnswers l hst D cy (S := Sb) v_x0 h108) (cwV 1 hts gX4_digest_X4_withAnswers rfl rfl rfl ⟨rfl, ph_X4_withAnswers.1, ph_X4_withAnswers.2, pd_X4_withAnswers⟩ ⟨Nat.le_of_ble_eq_true rfl, Nat.le_of_ble_eq_true rfl⟩) ⟨PcW.bl, (q_rcv hK hw.1 v_x0.1 (pF_4 (S := Sb) v_x0.2) rfl), PcW.in hK hw hA (fun _ => hZ)⟩ rfl rfl hl.1 rfl (lv_room (Nat.le_of_ble_eq_true rfl)) dX4_digest_104 ⟨by show _ ≤ 312; omega, by show _ ≤ 1872; omega⟩) hw hA (fun H locs hw hX => ?_)
    have hE := hE.tr hX
    have v_x0 := hX _ _ v_x0
    refine lv_lstore_n (lv' := [(1, .long t107.1), (0, .ref x0)]) hx hb dX4_digest_107 rfl hl (by decide) rfl (fun ls hl => ?_)
    refine lv_iconst (v := 0) hx hb dX4_digest_108 (by decide) ?_
    refine lv_istore_n (lv' := [(3, .int 0), (1, .long t107.1), (0, .ref x0)]) hx hb dX4_digest_109 rfl hl (by decide) rfl (fun ls hl => ?_)
    exact hL110 5 t107.2 nb _ _ _ _ (by omega) (by omega) x0 t107.1 0 _ (lv_sub hl [2, 1, 0] rfl) hw hE v_x0 hf
  have hL77 : ∀ (fu77 : Nat), ∀ (Sb : PS) (nb : Nat) (H1 : Heap) (lo1 : List Loc) (kc ks : Nat) (_ : kc + (fu77 * 5 + 14) ≤ 312) (_ : ks + (fu77 * 30 + 84) ≤ 1872) (x0 : Nat) (x1 : Int64) (x3 : Int32) (ls : Array Slot), lv_has ls 4 [(0, .ref x0), (1, .long x1), (3, .int x3)] → Hw D cy (AA cy S n) s.heap Sb nb H1 lo1 → EX S Sb → vd Sb x0 4 → f_X4_digest_L77 f_X4_digest_B102 fu77 Sb nb x0 x1 x3 = some res → W p l e (headSpec wsX4_digest ({ frames := 8, cells := 312, slots := 1872, locals := 160 } : Room)).room s m ([.ref y0] : List Value).toArray below meth c H1 lo1 kc ks (MQ below (va_Ql (fun (r : Int64) (u : PS × Nat) => r = res.1 ∧ u = res.2) (BW D cy S n) (AA cy S n)) ([.ref y0] : List Value).toArray s 312 1872 (AA cy S n)) (F0 m 77 ls []) := by
    intro fu77
    induction fu77 with
    | zero =>
      intro Sb nb H1 lo1 kc ks hkc hks x0 x1 x3 ls hl hw hE v_x0 hf
      have hf : (none : Option (Int64 × PS × Nat)) = some res := hf
      cases hf
    | succ fu77 ih77 =>
      intro Sb nb H1 lo1 kc ks hkc hks x0 x1 x3 ls hl hw hE v_x0 hf
      have hf : f_X4_digest_L77s (f_X4_digest_L77 f_X4_digest_B102 fu77) f_X4_digest_B102 Sb nb x0 x1 x3 = some res := hf
      unfold f_X4_digest_L77s at hf
      refine lv_iload_n hx hb dX4_digest_77 rfl (lv_at hl 2 rfl) ?_
      obtain ⟨t109, z_t109, y_t109⟩ := hZ.2.2
      refine va_gets hx hb z_t109 hw.2.2.1 hown (hts (.fieldLink RX4 293 "SharedModuli" "DIGEST_PRIMES" "[I") (List.mem_of_getElem? (i := 3) rfl)) (fun _ h9 => h9) dX4_digest_78 ?_
      refine va_tlen hx hb y_t109 hw.2.2.1 (v := 6) (by decide) dX4_digest_81 ?_
      refine lv_icmp_ge (tgt := 102) hx hb dX4_digest_82 (by decide) (fun c110 => ?_) (fun c110 => ?_)
      · have hf := it_t c110 hf
        exact hB102 Sb nb _ _ _ _ (by omega) (by omega) x0 x1 _ (lv_sub hl [0, 1] rfl) hw hE v_x0 hf
      · have hf := it_f c110 hf
        refine lv_aload_n hx hb dX4_digest_85 rfl (lv_at hl 0 rfl) ?_
        refine lv_lload_n hx hb dX4_digest_86 rfl (lv_at hl 1 rfl) ?_
        obtain ⟨t111, z_t111, y_t111⟩ := hZ.2.2
        refine va_gets hx hb z_t111 hw.2.2.1 hown (hts (.fieldLink RX4 293 "SharedModuli" "DIGEST_PRIMES" "[I") (List.mem_of_getElem? (i := 3) rfl)) (fun _ h9 => h9) dX4_digest_87 ?_
        refine lv_iload_n hx hb dX4_digest_90 rfl (lv_at hl 2 rfl) ?_
        obtain ⟨c112, hf⟩ := ckd_some hf
        refine va_ti hx hb y_t111 hw.2.2.1 c112 rfl dX4_digest_91 ?_
        obtain ⟨t113, h114, hf⟩ := bd_some hf
        refine q_calll (va_runV (As := [.long x1, .int (nI ([2, 3, 5, 7, 11, 13].getD x3.toNatClampNeg 0))]) (rest := []) F (c_X4_withPrime l hst D cy (S := Sb) v_x0 h114) (cwV 2 hts gX4_digest_X4_withPrime rfl rfl rfl ⟨rfl, ph_X4_withPrime.1, ph_X4_withPrime.2, pd_X4_withPrime⟩ ⟨Nat.le_of_ble_eq_true rfl, Nat.le_of_ble_eq_true rfl⟩) ⟨PcW.bl, (q_rcv hK hw.1 v_x0.1 (pF_4 (S := Sb) v_x0.2) rfl), PcW.in hK hw hA (fun _ => hZ)⟩ rfl rfl hl.1 rfl (lv_room (Nat.le_of_ble_eq_true rfl)) dX4_digest_92 ⟨by show _ ≤ 312; omega, by show _ ≤ 1872; omega⟩) hw hA (fun H locs hw hX => ?_)
        have hE := hE.tr hX
        have v_x0 := hX _ _ v_x0
        refine lv_lstore_n (lv' := [(1, .long t113.1), (0, .ref x0), (3, .int x3)]) hx hb dX4_digest_95 rfl hl (by decide) rfl (fun ls hl => ?_)
        refine lv_iinc (v := x3 + 1) (lv' := [(3, .int (x3 + 1)), (1, .long t113.1), (0, .ref x0)]) hx hb dX4_digest_96 hl (k := 2) rfl (by rfl) (by decide) rfl (fun ls hl => ?_)
        refine lv_goto (tgt := 77) hx hb dX4_digest_99 (by decide) ?_
        exact ih77 t113.2 nb _ _ _ _ (by omega) (by omega) x0 t113.1 (x3 + 1) _ (lv_sub hl [2, 1, 0] rfl) hw hE v_x0 hf
  have hB75 : ∀ (Sb : PS) (nb : Nat) (H1 : Heap) (lo1 : List Loc) (kc ks : Nat) (_ : kc + 49 ≤ 312) (_ : ks + 294 ≤ 1872) (x0 : Nat) (x1 : Int64) (ls : Array Slot), lv_has ls 4 [(0, .ref x0), (1, .long x1)] → Hw D cy (AA cy S n) s.heap Sb nb H1 lo1 → EX S Sb → vd Sb x0 4 → f_X4_digest_B75 Sb nb x0 x1 = some res → W p l e (headSpec wsX4_digest ({ frames := 8, cells := 312, slots := 1872, locals := 160 } : Room)).room s m ([.ref y0] : List Value).toArray below meth c H1 lo1 kc ks (MQ below (va_Ql (fun (r : Int64) (u : PS × Nat) => r = res.1 ∧ u = res.2) (BW D cy S n) (AA cy S n)) ([.ref y0] : List Value).toArray s 312 1872 (AA cy S n)) (F0 m 75 ls []) := by
    intro Sb nb H1 lo1 kc ks hkc hks x0 x1 ls hl hw hE v_x0 hf
    unfold f_X4_digest_B75 at hf
    refine lv_iconst (v := 0) hx hb dX4_digest_75 (by decide) ?_
    refine lv_istore_n (lv' := [(3, .int 0), (0, .ref x0), (1, .long x1)]) hx hb dX4_digest_76 rfl hl (by decide) rfl (fun ls hl => ?_)
    exact hL77 7 Sb nb _ _ _ _ (by omega) (by omega) x0 x1 0 _ (lv_sub hl [1, 2, 0] rfl) hw hE v_x0 hf
  have hL51 : ∀ (fu51 : Nat), ∀ (Sb : PS) (nb : Nat) (H1 : Heap) (lo1 : List Loc) (kc ks : Nat) (_ : kc + (fu51 * 23 + 49) ≤ 312) (_ : ks + (fu51 * 138 + 294) ≤ 1872) (x0 : Nat) (x1 : Int64) (x3 : Int32) (ls : Array Slot), lv_has ls 4 [(0, .ref x0), (1, .long x1), (3, .int x3)] → Hw D cy (AA cy S n) s.heap Sb nb H1 lo1 → EX S Sb → vd Sb x0 4 → f_X4_digest_L51 f_X4_digest_B75 fu51 Sb nb x0 x1 x3 = some res → W p l e (headSpec wsX4_digest ({ frames := 8, cells := 312, slots := 1872, locals := 160 } : Room)).room s m ([.ref y0] : List Value).toArray below meth c H1 lo1 kc ks (MQ below (va_Ql (fun (r : Int64) (u : PS × Nat) => r = res.1 ∧ u = res.2) (BW D cy S n) (AA cy S n)) ([.ref y0] : List Value).toArray s 312 1872 (AA cy S n)) (F0 m 51 ls []) := by
    intro fu51
    induction fu51 with
    | zero =>
      intro Sb nb H1 lo1 kc ks hkc hks x0 x1 x3 ls hl hw hE v_x0 hf
      have hf : (none : Option (Int64 × PS × Nat)) = some res := hf
      cases hf
    | succ fu51 ih51 =>
      intro Sb nb H1 lo1 kc ks hkc hks x0 x1 x3 ls hl hw hE v_x0 hf
      have hf : f_X4_digest_L51s (f_X4_digest_L51 f_X4_digest_B75 fu51) f_X4_digest_B75 Sb nb x0 x1 x3 = some res := hf
      unfold f_X4_digest_L51s at hf
      refine lv_iload_n hx hb dX4_digest_51 rfl (lv_at hl 2 rfl) ?_
      refine lv_aload_n hx hb dX4_digest_52 rfl (lv_at hl 0 rfl) ?_
      obtain ⟨b115, e116, v_b115, hf⟩ := rq_some hf
      refine q_get F hK hw.1 v_x0.1 (pF_4 (S := Sb) v_x0.2) (fun w h => List.mem_cons_of_mem _ (List.mem_append_left _ (List.mem_append_left _ (List.mem_append_left _ (List.mem_append_left _ (List.mem_append_left _ (List.mem_append_right _ h))))))) rfl 0 (by decide) (hts (.fieldLink RX4 17 "SharedModuli" "now" "LSharedModuli$State;") (List.mem_of_getElem? (i := 2) rfl)) (v := .ref b115) (congrArg (fun z => some (va_rf z)) e116) dX4_digest_53 ?_
      refine q_getN F hK hw.1 v_b115.1 (pF_3 (S := Sb) v_b115.2) (fun w h => List.mem_cons_of_mem _ (List.mem_append_left _ (List.mem_append_left _ (List.mem_append_left _ (List.mem_append_left _ (List.mem_append_right _ h)))))) rfl 3 (by decide) (nk_f_RX4_95 hK.2.1) (v := .int (fI Sb 51 b115)) rfl dX4_digest_56 ?_
      refine lv_icmp_ge (tgt := 75) hx hb dX4_digest_59 (by decide) (fun c117 => ?_) (fun c117 => ?_)
      · have hf := it_t c117 hf
        exact hB75 Sb nb _ _ _ _ (by omega) (by omega) x0 x1 _ (lv_sub hl [0, 1] rfl) hw hE v_x0 hf
      · have hf := it_f c117 hf
        refine lv_aload_n hx hb dX4_digest_62 rfl (lv_at hl 0 rfl) ?_
        refine lv_lload_n hx hb dX4_digest_63 rfl (lv_at hl 1 rfl) ?_
        refine lv_iload_n hx hb dX4_digest_64 rfl (lv_at hl 2 rfl) ?_
        obtain ⟨t118, h119, hf⟩ := bd_some hf
        refine q_calll (va_runV (As := [.long x1, .int x3]) (rest := []) F (c_X4_withCondition l hst D cy (S := Sb) v_x0 h119) (cwV 2 hts gX4_digest_X4_withCondition rfl rfl rfl ⟨rfl, ph_X4_withCondition.1, ph_X4_withCondition.2, pd_X4_withCondition⟩ ⟨Nat.le_of_ble_eq_true rfl, Nat.le_of_ble_eq_true rfl⟩) ⟨PcW.bl, (q_rcv hK hw.1 v_x0.1 (pF_4 (S := Sb) v_x0.2) rfl), PcW.in hK hw hA (fun _ => hZ)⟩ rfl rfl hl.1 rfl (lv_room (Nat.le_of_ble_eq_true rfl)) dX4_digest_65 ⟨by show _ ≤ 312; omega, by show _ ≤ 1872; omega⟩) hw hA (fun H locs hw hX => ?_)
        have hE := hE.tr hX
        have v_x0 := hX _ _ v_x0
        have v_b115 := hX _ _ v_b115
        refine lv_lstore_n (lv' := [(1, .long t118.1), (0, .ref x0), (3, .int x3)]) hx hb dX4_digest_68 rfl hl (by decide) rfl (fun ls hl => ?_)
        refine lv_iinc (v := x3 + 1) (lv' := [(3, .int (x3 + 1)), (1, .long t118.1), (0, .ref x0)]) hx hb dX4_digest_69 hl (k := 2) rfl (by rfl) (by decide) rfl (fun ls hl => ?_)
        refine lv_goto (tgt := 51) hx hb dX4_digest_72 (by decide) ?_
        exact ih51 t118.2 nb _ _ _ _ (by omega) (by omega) x0 t118.1 (x3 + 1) _ (lv_sub hl [2, 1, 0] rfl) hw hE v_x0 hf
  have hB29 : ∀ (Sb : PS) (nb : Nat) (H1 : Heap) (lo1 : List Loc) (kc ks : Nat) (_ : kc + 304 ≤ 312) (_ : ks + 1824 ≤ 1872) (x0 : Nat) (x1 : Int64) (ls : Array Slot), lv_has ls 4 [(0, .ref x0), (1, .long x1)] → Hw D cy (AA cy S n) s.heap Sb nb H1 lo1 → EX S Sb → vd Sb x0 4 → f_X4_digest_B29 Sb nb x0 x1 = some res → W p l e (headSpec wsX4_digest ({ frames := 8, cells := 312, slots := 1872, locals := 160 } : Room)).room s m ([.ref y0] : List Value).toArray below meth c H1 lo1 kc ks (MQ below (va_Ql (fun (r : Int64) (u : PS × Nat) => r = res.1 ∧ u = res.2) (BW D cy S n) (AA cy S n)) ([.ref y0] : List Value).toArray s 312 1872 (AA cy S n)) (F0 m 29 ls []) := by
    intro Sb nb H1 lo1 kc ks hkc hks x0 x1 ls hl hw hE v_x0 hf
    unfold f_X4_digest_B29 at hf
    refine lv_lload_n hx hb dX4_digest_29 rfl (lv_at hl 1 rfl) ?_
    refine lv_aload_n hx hb dX4_digest_30 rfl (lv_at hl 0 rfl) ?_
    refine lv_iconst (v := 0) hx hb dX4_digest_31 (by decide) ?_
    obtain ⟨t120, u122, h121, hf⟩ := nx_some hf
    refine q_calll (va_runV (As := [.int 0]) (rest := [.long x1]) F (tm_l (c_X4_joined l hst D cy (S := Sb) v_x0 h121) (fun E s t hx => by obtain ⟨k, hk, _⟩ := hx; cases hk)) (cwV 1 hts gX4_digest_X4_joined rfl rfl rfl ⟨rfl, ph_X4_joined.1, ph_X4_joined.2, pd_X4_joined⟩ ⟨Nat.le_of_ble_eq_true rfl, Nat.le_of_ble_eq_true rfl⟩) ⟨PcW.bl, (q_rcv hK hw.1 v_x0.1 (pF_4 (S := Sb) v_x0.2) rfl), PcW.in hK hw hA (fun _ => hZ)⟩ rfl rfl hl.1 rfl (lv_room (Nat.le_of_ble_eq_true rfl)) dX4_digest_32 ⟨by show _ ≤ 312; omega, by show _ ≤ 1872; omega⟩) hw hA (fun H locs hw hX => ?_)
    have hE := hE.tr hX
    have v_x0 := hX _ _ v_x0
    obtain ⟨t123, h124, hf⟩ := bd_some hf
    refine vp_callSl (va_runS (As := [.long x1, .long t120]) (rest := []) F (c_X4_mixed l D cy (H := _)  h124) (va_cwS 2 hts gX4_digest_X4_mixed rfl rfl rfl ⟨ph_X4_mixed.1, ph_X4_mixed.2, pd_X4_mixed⟩ ⟨Nat.le_of_ble_eq_true rfl, Nat.le_of_ble_eq_true rfl⟩) ⟨PcR.bl, PcR.in hK⟩ rfl rfl hl.1 rfl (lv_room (Nat.le_of_ble_eq_true rfl)) dX4_digest_35 ⟨by show _ ≤ 312; omega, by show _ ≤ 1872; omega⟩).run (fun r125 er125 => ?_)
    subst r125
    refine lv_lstore_n (lv' := [(1, .long t123), (0, .ref x0)]) hx hb dX4_digest_38 rfl hl (by decide) rfl (fun ls hl => ?_)
    refine lv_lload_n hx hb dX4_digest_39 rfl (lv_at hl 0 rfl) ?_
    refine lv_aload_n hx hb dX4_digest_40 rfl (lv_at hl 1 rfl) ?_
    refine lv_iconst (v := 1) hx hb dX4_digest_41 (by decide) ?_
    obtain ⟨t126, u128, h127, hf⟩ := nx_some hf
    refine q_calll (va_runV (As := [.int 1]) (rest := [.long t123]) F (tm_l (c_X4_joined l hst D cy (S := u122) v_x0 h127) (fun E s t hx => by obtain ⟨k, hk, _⟩ := hx; cases hk)) (cwV 1 hts gX4_digest_X4_joined rfl rfl rfl ⟨rfl, ph_X4_joined.1, ph_X4_joined.2, pd_X4_joined⟩ ⟨Nat.le_of_ble_eq_true rfl, Nat.le_of_ble_eq_true rfl⟩) ⟨PcW.bl, (q_rcv hK hw.1 v_x0.1 (pF_4 (S := u122) v_x0.2) rfl), PcW.in hK hw hA (fun _ => hZ)⟩ rfl rfl hl.1 rfl (lv_room (Nat.le_of_ble_eq_true rfl)) dX4_digest_42 ⟨by show _ ≤ 312; omega, by show _ ≤ 1872; omega⟩) hw hA (fun H locs hw hX => ?_)
    have hE := hE.tr hX
    have v_x0 := hX _ _ v_x0
    obtain ⟨t129, h130, hf⟩ := bd_some hf
    refine vp_callSl (va_runS (As := [.long t123, .long t126]) (rest := []) F (c_X4_mixed l D cy (H := _)  h130) (va_cwS 2 hts gX4_digest_X4_mixed rfl rfl rfl ⟨ph_X4_mixed.1, ph_X4_mixed.2, pd_X4_mixed⟩ ⟨Nat.le_of_ble_eq_true rfl, Nat.le_of_ble_eq_true rfl⟩) ⟨PcR.bl, PcR.in hK⟩ rfl rfl hl.1 rfl (lv_room (Nat.le_of_ble_eq_true rfl)) dX4_digest_45 ⟨by show _ ≤ 312; omega, by show _ ≤ 1872; omega⟩).run (fun r131 er131 => ?_)
    subst r131
    refine lv_lstore_n (lv' := [(1, .long t129), (0, .ref x0)]) hx hb dX4_digest_48 rfl hl (by decide) rfl (fun ls hl => ?_)
    refine lv_iconst (v := 0) hx hb dX4_digest_49 (by decide) ?_
    refine lv_istore_n (lv' := [(3, .int 0), (1, .long t129), (0, .ref x0)]) hx hb dX4_digest_50 rfl hl (by decide) rfl (fun ls hl => ?_)
    exact hL51 11 u128 nb _ _ _ _ (by omega) (by omega) x0 t129 0 _ (lv_sub hl [2, 1, 0] rfl) hw hE v_x0 hf
  have hL6 : ∀ (fu6 : Nat), ∀ (Sb : PS) (nb : Nat) (H1 : Heap) (lo1 : List Loc) (kc ks : Nat) (_ : kc + (fu6 * 1 + 304) ≤ 312) (_ : ks + (fu6 * 6 + 1824) ≤ 1872) (x0 : Nat) (x1 : Int64) (x3 : Int32) (ls : Array Slot), lv_has ls 4 [(0, .ref x0), (1, .long x1), (3, .int x3)] → Hw D cy (AA cy S n) s.heap Sb nb H1 lo1 → EX S Sb → vd Sb x0 4 → f_X4_digest_L6 f_X4_digest_B29 fu6 Sb nb x0 x1 x3 = some res → W p l e (headSpec wsX4_digest ({ frames := 8, cells := 312, slots := 1872, locals := 160 } : Room)).room s m ([.ref y0] : List Value).toArray below meth c H1 lo1 kc ks (MQ below (va_Ql (fun (r : Int64) (u : PS × Nat) => r = res.1 ∧ u = res.2) (BW D cy S n) (AA cy S n)) ([.ref y0] : List Value).toArray s 312 1872 (AA cy S n)) (F0 m 6 ls []) := by
    intro fu6
    induction fu6 with
    | zero =>
      intro Sb nb H1 lo1 kc ks hkc hks x0 x1 x3 ls hl hw hE v_x0 hf
      have hf : (none : Option (Int64 × PS × Nat)) = some res := hf
      cases hf
    | succ fu6 ih6 =>
      intro Sb nb H1 lo1 kc ks hkc hks x0 x1 x3 ls hl hw hE v_x0 hf
      have hf : f_X4_digest_L6s (f_X4_digest_L6 f_X4_digest_B29 fu6) f_X4_digest_B29 Sb nb x0 x1 x3 = some res := hf
      unfold f_X4_digest_L6s at hf
      refine lv_iload_n hx hb dX4_digest_6 rfl (lv_at hl 2 rfl) ?_
      refine lv_bipush (v := 6) hx hb dX4_digest_7 (by decide) ?_
      refine lv_icmp_gt (tgt := 29) hx hb dX4_digest_9 (by decide) (fun c132 => ?_) (fun c132 => ?_)
      · have hf := it_t c132 hf
        exact hB29 Sb nb _ _ _ _ (by omega) (by omega) x0 x1 _ (lv_sub hl [0, 1] rfl) hw hE v_x0 hf
      · have hf := it_f c132 hf
        refine lv_lload_n hx hb dX4_digest_12 rfl (lv_at hl 1 rfl) ?_
        refine lv_aload_n hx hb dX4_digest_13 rfl (lv_at hl 0 rfl) ?_
        refine lv_iload_n hx hb dX4_digest_14 rfl (lv_at hl 2 rfl) ?_
        obtain ⟨t133, u135, h134, hf⟩ := nx_some hf
        refine q_calli (va_runV (As := [.int x3]) (rest := [.long x1]) F (tm_i (c_X4_count l hst D cy (S := Sb) v_x0 h134) (fun E s t hx => by obtain ⟨k, hk, _⟩ := hx; cases hk)) (cwV 1 hts gX4_digest_X4_count rfl rfl rfl ⟨rfl, ph_X4_count.1, ph_X4_count.2, pd_X4_count⟩ ⟨Nat.le_of_ble_eq_true rfl, Nat.le_of_ble_eq_true rfl⟩) ⟨PcW.bl, (q_rcv hK hw.1 v_x0.1 (pF_4 (S := Sb) v_x0.2) rfl), PcW.in hK hw hA (fun _ => hZ)⟩ rfl rfl hl.1 rfl (lv_room (Nat.le_of_ble_eq_true rfl)) dX4_digest_15 ⟨by show _ ≤ 312; omega, by show _ ≤ 1872; omega⟩) hw hA (fun H locs hw hX => ?_)
        have hE := hE.tr hX
        have v_x0 := hX _ _ v_x0
        refine lv_i2l hx hb dX4_digest_18 rfl ?_
        obtain ⟨t136, h137, hf⟩ := bd_some hf
        refine vp_callSl (va_runS (As := [.long x1, .long t133.toInt64]) (rest := []) F (c_X4_mixed l D cy (H := _)  h137) (va_cwS 2 hts gX4_digest_X4_mixed rfl rfl rfl ⟨ph_X4_mixed.1, ph_X4_mixed.2, pd_X4_mixed⟩ ⟨Nat.le_of_ble_eq_true rfl, Nat.le_of_ble_eq_true rfl⟩) ⟨PcR.bl, PcR.in hK⟩ rfl rfl hl.1 rfl (lv_room (Nat.le_of_ble_eq_true rfl)) dX4_digest_19 ⟨by show _ ≤ 312; omega, by show _ ≤ 1872; omega⟩).run (fun r138 er138 => ?_)
        subst r138
        refine lv_lstore_n (lv' := [(1, .long t136), (0, .ref x0), (3, .int x3)]) hx hb dX4_digest_22 rfl hl (by decide) rfl (fun ls hl => ?_)
        refine lv_iinc (v := x3 + 1) (lv' := [(3, .int (x3 + 1)), (1, .long t136), (0, .ref x0)]) hx hb dX4_digest_23 hl (k := 2) rfl (by rfl) (by decide) rfl (fun ls hl => ?_)
        refine lv_goto (tgt := 6) hx hb dX4_digest_26 (by decide) ?_
        exact ih6 u135 nb _ _ _ _ (by omega) (by omega) x0 t136 (x3 + 1) _ (lv_sub hl [2, 1, 0] rfl) hw hE v_x0 hf
  have hl := lv_entry ([.ref y0]) (n := 4) (Nat.le_of_ble_eq_true rfl)
  rw [lg_entry_eq]
  generalize (lg_sl ([.ref y0]) ++ List.replicate (4 - (lg_sl ([.ref y0])).length) Slot.unset).toArray = ls at hl ⊢
  have hl : lv_has ls 4 [(0, .ref y0)] := hl
  unfold f_X4_digest at hf
  refine lv_ldc2 hx hb hown (hts (.constantLong RX4 278 2791) (List.mem_of_getElem? (i := 1) rfl)) dX4_digest_0 ?_
  refine lv_lstore_n (lv' := [(1, .long 2791), (0, .ref y0)]) hx hb dX4_digest_3 rfl hl (by decide) rfl (fun ls hl => ?_)
  refine lv_iconst (v := 0) hx hb dX4_digest_4 (by decide) ?_
  refine lv_istore_n (lv' := [(3, .int 0), (1, .long 2791), (0, .ref y0)]) hx hb dX4_digest_5 rfl hl (by decide) rfl (fun ls hl => ?_)
  exact hL6 8 S n _ _ _ _ (by omega) (by omega) y0 2791 0 _ (lv_sub hl [2, 1, 0] rfl) hw hE v_y0 hf

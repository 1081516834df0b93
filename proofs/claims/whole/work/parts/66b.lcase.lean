set_option maxHeartbeats 4000000 in
set_option maxRecDepth 100000 in
theorem law_c7 {p : Program} {l : Launch} {e : Env} {s : State} {m : MethodId} {below : List Frame} {meth : Method} {c : Code} {b L : Nat} {xs : Nat → Int32} (hst : l.stackTraces = false) (C0 : lw_At p s m meth c b L xs) {D : va_G} {cy : cyT} {cL : ClassId} (hK : LK D cy cL s) {x h qo : Nat} {T : Nat → TR} {sa bu sc jo z sv bf rs : Nat} {x4 : Int32} (hi : vp_in (x4 + 1) L ∧ vp_in (x4 + 2) L ∧ vp_in (x4 + 3) L ∧ vp_in (x4 + 4) L) {cells slots : Nat} (hc : cells + 312 ≤ 779852) (hs : slots + 1872 ≤ 6756547) (K : LN p l e s m below meth c D cy cL b x h qo T sa bu sc jo z sv bf rs x4 (cells + 312) (slots + 1872) 1621) : LN p l e s m below meth c D cy cL b x h qo T sa bu sc jo z sv bf rs x4 cells slots 548 := by
  intro o SX SM f H locs ls V
  obtain ⟨hO, hXX, hMM, hL, hl⟩ := V
  obtain ⟨hx, hb, hr, hml, hown, hts0, hX, hbl, hlocks, hgv⟩ := C0
  have hts : ∀ w ∈ wsL_law, w.before #[Value.ref b] s = true := fun w h => hts0 w (wsL_law_in w h)
  have hown : s.vm.findClass RL = some m.cls := hown
  have hb : c.code = cL_law := hb
  have F : CallFix p m c cL_law 9 s #[Value.ref b] wsL_law RL := ⟨hx, hb, hml, hown, hts⟩
  have hbA : ¬ (LL s) b := Nat.not_le.mpr hbl
  have v_x : vd SX x 4 := hXX.1.1
  have v_h : vd SM h 5 := hMM.1.1
  refine lv_aload_n hx hb dL_law_548 rfl (lv_at hl 1 rfl) ?_
  obtain ⟨X1, ef, hXX⟩ := x_clear hXX
  refine l_cli (v := (o_clear o).2.1) (S1 := X1) (hr := va_runV (As := []) (rest := []) F (c_X4_clearBuffer l D cy v_x ef) (cwV 0 hts gL_law_X4_clearBuffer rfl rfl rfl ⟨rfl, ph_X4_clearBuffer.1, ph_X4_clearBuffer.2, pd_X4_clearBuffer⟩ ⟨Nat.le_of_ble_eq_true rfl, Nat.le_of_ble_eq_true rfl⟩) ⟨PcW.bl, (q_rcv hK.1 hL.1 v_x.1 (pF_4 (S := SX) v_x.2) rfl), PcW.in hK.1 hL.hwX (fun _ h9 => h9) (fun z9 => z9.elim)⟩ rfl rfl hl.1 rfl (lv_room (Nat.le_of_ble_eq_true rfl)) dL_law_549 ⟨by show _ ≤ 779852; omega, by show _ ≤ 6756547; omega⟩) hL (fun H locs hL => ?_)
  refine lv_aload_n hx hb dL_law_552 rfl (lv_at hl 2 rfl) ?_
  obtain ⟨M1, v1, ef5, -, t1, t2, hMM⟩ := m_clear hMM
  refine l_rfi (v := v1) (S1 := M1) (hr := va_runV (As := []) (rest := [.int (o_clear o).2.1]) F (c_X5_clearBuffer l D cy v_h ef5) (cwV 0 hts gL_law_X5_clearBuffer rfl rfl rfl ⟨rfl, ph_X5_clearBuffer.1, ph_X5_clearBuffer.2, pd_X5_clearBuffer⟩ ⟨Nat.le_of_ble_eq_true rfl, Nat.le_of_ble_eq_true rfl⟩) ⟨PcW.bl, (q_rcv hK.1 hL.2.1 v_h.1 (pF_5 (S := SM) v_h.2) rfl), PcW.in hK.1 hL.hwM (fun _ h9 => h9) (fun z9 => z9.elim)⟩ rfl rfl hl.1 rfl (lv_room (Nat.le_of_ble_eq_true rfl)) dL_law_553 ⟨by show _ ≤ 779852; omega, by show _ ≤ 6756547; omega⟩) hL (fun H locs hL => ?_)
  have t3 := t2 rfl
  subst t3
  refine lv_icmp_eq (tgt := 1621) hx hb dL_law_556 (by decide) (fun _ => ?_) (fun c8 => absurd rfl c8)
  refine W.widen (k := cells + 312) (n := slots + 1872) (by omega) (by omega) ?_
  exact K _ _ _ _ _ _ _ ⟨o_clear_ok hO, hXX, hMM, hL, lv_sub hl [0, 1, 2, 3, 4] rfl⟩
set_option maxHeartbeats 4000000 in
set_option maxRecDepth 100000 in
theorem law_c22 {p : Program} {l : Launch} {e : Env} {s : State} {m : MethodId} {below : List Frame} {meth : Method} {c : Code} {b L : Nat} {xs : Nat → Int32} (hst : l.stackTraces = false) (C0 : lw_At p s m meth c b L xs) {D : va_G} {cy : cyT} {cL : ClassId} (hK : LK D cy cL s) {x h qo : Nat} {T : Nat → TR} {sa bu sc jo z sv bf rs : Nat} {x4 : Int32} (hi : vp_in (x4 + 1) L ∧ vp_in (x4 + 2) L ∧ vp_in (x4 + 3) L ∧ vp_in (x4 + 4) L) {cells slots : Nat} (hc : cells + 312 ≤ 779852) (hs : slots + 1872 ≤ 6756547) (K : LN p l e s m below meth c D cy cL b x h qo T sa bu sc jo z sv bf rs x4 (cells + 312) (slots + 1872) 1621) : LN p l e s m below meth c D cy cL b x h qo T sa bu sc jo z sv bf rs x4 cells slots 1540 := by
  intro o SX SM f H locs ls V
  obtain ⟨hO, hXX, hMM, hL, hl⟩ := V
  obtain ⟨hx, hb, hr, hml, hown, hts0, hX, hbl, hlocks, hgv⟩ := C0
  have hts : ∀ w ∈ wsL_law, w.before #[Value.ref b] s = true := fun w h => hts0 w (wsL_law_in w h)
  have hown : s.vm.findClass RL = some m.cls := hown
  have hb : c.code = cL_law := hb
  have F : CallFix p m c cL_law 9 s #[Value.ref b] wsL_law RL := ⟨hx, hb, hml, hown, hts⟩
  have hbA : ¬ (LL s) b := Nat.not_le.mpr hbl
  have v_x : vd SX x 4 := hXX.1.1
  have v_h : vd SM h 5 := hMM.1.1
  refine lv_aload_n hx hb dL_law_1540 rfl (lv_at hl 1 rfl) ?_
  have ef := x_most (hXX.q hO)
  refine vp_callSi (va_runV (As := []) (rest := []) F (c_X4_most l D cy (H := H) hL.1 v_x ef) (cwV 0 hts gL_law_X4_most rfl rfl rfl ⟨rfl, ph_X4_most.1, ph_X4_most.2, pd_X4_most⟩ ⟨Nat.le_of_ble_eq_true rfl, Nat.le_of_ble_eq_true rfl⟩) ⟨PcR.bl, (q_rcv hK.1 hL.1 v_x.1 (pF_4 (S := SX) v_x.2) rfl), PcR.in hK.1⟩ rfl rfl hl.1 rfl (lv_room (Nat.le_of_ble_eq_true rfl)) dL_law_1541 ⟨by show _ ≤ 779852; omega, by show _ ≤ 6756547; omega⟩).run (fun r9 er9 => ?_)
  subst er9
  refine lv_aload_n hx hb dL_law_1544 rfl (lv_at hl 2 rfl) ?_
  obtain ⟨M1, v1, ef5, -, t1, t2, hMM⟩ := m_most' hMM hO
  refine l_rfi (v := v1) (S1 := M1) (hr := va_runV (As := []) (rest := [.int (nI (mb o.1.2 (2 ^ o.1.1)))]) F (c_X5_most l D cy v_h ef5) (cwV 0 hts gL_law_X5_most rfl rfl rfl ⟨rfl, ph_X5_most.1, ph_X5_most.2, pd_X5_most⟩ ⟨Nat.le_of_ble_eq_true rfl, Nat.le_of_ble_eq_true rfl⟩) ⟨PcW.bl, (q_rcv hK.1 hL.2.1 v_h.1 (pF_5 (S := SM) v_h.2) rfl), PcW.in hK.1 hL.hwM (fun _ h9 => h9) (fun z9 => z9.elim)⟩ rfl rfl hl.1 rfl (lv_room (Nat.le_of_ble_eq_true rfl)) dL_law_1545 ⟨by show _ ≤ 779852; omega, by show _ ≤ 6756547; omega⟩) hL (fun H locs hL => ?_)
  have t3 := t2 rfl
  subst t3
  refine lv_icmp_eq (tgt := 1621) hx hb dL_law_1548 (by decide) (fun _ => ?_) (fun c8 => absurd rfl c8)
  refine W.widen (k := cells + 312) (n := slots + 1872) (by omega) (by omega) ?_
  exact K _ _ _ _ _ _ _ ⟨hO, hXX, hMM, hL, lv_sub hl [0, 1, 2, 3, 4] rfl⟩
set_option maxHeartbeats 4000000 in
set_option maxRecDepth 100000 in
theorem law_c24 {p : Program} {l : Launch} {e : Env} {s : State} {m : MethodId} {below : List Frame} {meth : Method} {c : Code} {b L : Nat} {xs : Nat → Int32} (hst : l.stackTraces = false) (C0 : lw_At p s m meth c b L xs) {D : va_G} {cy : cyT} {cL : ClassId} (hK : LK D cy cL s) {x h qo : Nat} {T : Nat → TR} {sa bu sc jo z sv bf rs : Nat} {x4 : Int32} (hi : vp_in (x4 + 1) L ∧ vp_in (x4 + 2) L ∧ vp_in (x4 + 3) L ∧ vp_in (x4 + 4) L) {cells slots : Nat} (hc : cells + 312 ≤ 779852) (hs : slots + 1872 ≤ 6756547) (K : LN p l e s m below meth c D cy cL b x h qo T sa bu sc jo z sv bf rs x4 (cells + 312) (slots + 1872) 1621) : LN p l e s m below meth c D cy cL b x h qo T sa bu sc jo z sv bf rs x4 cells slots 1566 := by
  intro o SX SM f H locs ls V
  obtain ⟨hO, hXX, hMM, hL, hl⟩ := V
  obtain ⟨hx, hb, hr, hml, hown, hts0, hX, hbl, hlocks, hgv⟩ := C0
  have hts : ∀ w ∈ wsL_law, w.before #[Value.ref b] s = true := fun w h => hts0 w (wsL_law_in w h)
  have hown : s.vm.findClass RL = some m.cls := hown
  have hb : c.code = cL_law := hb
  have F : CallFix p m c cL_law 9 s #[Value.ref b] wsL_law RL := ⟨hx, hb, hml, hown, hts⟩
  have hbA : ¬ (LL s) b := Nat.not_le.mpr hbl
  have v_x : vd SX x 4 := hXX.1.1
  have v_h : vd SM h 5 := hMM.1.1
  refine lv_aload_n hx hb dL_law_1566 rfl (lv_at hl 1 rfl) ?_
  obtain ⟨X1, ef, hXX⟩ := x_density hXX hO
  refine l_cld (v := (q_density o).2.1) (S1 := X1) (hr := va_runV (As := []) (rest := []) F (c_X4_density l D cy v_x ef) (cwV 0 hts gL_law_X4_density rfl rfl rfl ⟨rfl, ph_X4_density.1, ph_X4_density.2, pd_X4_density⟩ ⟨Nat.le_of_ble_eq_true rfl, Nat.le_of_ble_eq_true rfl⟩) ⟨PcW.bl, (q_rcv hK.1 hL.1 v_x.1 (pF_4 (S := SX) v_x.2) rfl), PcW.in hK.1 hL.hwX (fun _ h9 => h9) (fun z9 => z9.elim)⟩ rfl rfl hl.1 rfl (lv_room (Nat.le_of_ble_eq_true rfl)) dL_law_1567 ⟨by show _ ≤ 779852; omega, by show _ ≤ 6756547; omega⟩) hL (fun H locs hL => ?_)
  refine lv_dstore (lv' := [(5, .double (q_density o).2.1), (0, .ref b), (1, .ref x), (2, .ref h), (3, .ref qo), (4, .int x4)]) hx hb dL_law_1570 hl (by decide) rfl (fun ls hl => ?_)
  refine lv_aload_n hx hb dL_law_1572 rfl (lv_at hl 3 rfl) ?_
  obtain ⟨M1, v1, ef5, -, t1, t2, hMM⟩ := m_density hMM hO
  refine l_rfd (v := v1) (S1 := M1) (hr := va_runV (As := []) (rest := []) F (c_X5_density l D cy v_h ef5) (cwV 0 hts gL_law_X5_density rfl rfl rfl ⟨rfl, ph_X5_density.1, ph_X5_density.2, pd_X5_density⟩ ⟨Nat.le_of_ble_eq_true rfl, Nat.le_of_ble_eq_true rfl⟩) ⟨PcW.bl, (q_rcv hK.1 hL.2.1 v_h.1 (pF_5 (S := SM) v_h.2) rfl), PcW.in hK.1 hL.hwM (fun _ h9 => h9) (fun z9 => z9.elim)⟩ rfl rfl hl.1 rfl (lv_room (Nat.le_of_ble_eq_true rfl)) dL_law_1573 ⟨by show _ ≤ 779852; omega, by show _ ≤ 6756547; omega⟩) hL (fun H locs hL => ?_)
  have t3 := t2 rfl
  subst t3
  refine lv_dstore (lv' := [(7, .double (q_density o).2.1), (5, .double (q_density o).2.1), (0, .ref b), (1, .ref x), (2, .ref h), (3, .ref qo), (4, .int x4)]) hx hb dL_law_1576 hl (by decide) rfl (fun ls hl => ?_)
  refine lv_dload hx hb dL_law_1578 (lv_at hl 1 rfl) ?_
  refine lv_dload hx hb dL_law_1580 (lv_at hl 0 rfl) ?_
  refine lv_dcmp hx hb dL_law_1582 ?_
  refine lv_if_eq (tgt := 1604) hx hb dL_law_1583 (by decide) (fun _ => ?_) (fun c8 => absurd (show Op.cmpValue (FP.dcmp (dnv o.1.2 o.1.1) (dnv o.1.2 o.1.1)) CmpOp.l = 0 by rw [(dnv_bits (on_N hO)).2.2]; rfl) c8)
  refine lv_goto (tgt := 1621) hx hb dL_law_1604 (by decide) ?_
  refine W.widen (k := cells + 312) (n := slots + 1872) (by omega) (by omega) ?_
  exact K _ _ _ _ _ _ _ ⟨hO, hXX, hMM, hL, lv_sub hl [2, 3, 4, 5, 6] rfl⟩

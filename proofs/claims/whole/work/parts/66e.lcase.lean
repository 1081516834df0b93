set_option maxHeartbeats 4000000 in
set_option maxRecDepth 100000 in
theorem law_c9 {p : Program} {l : Launch} {e : Env} {s : State} {m : MethodId} {below : List Frame} {meth : Method} {c : Code} {b L : Nat} {xs : Nat → Int32} (hst : l.stackTraces = false) (C0 : lw_At p s m meth c b L xs) {D : va_G} {cy : cyT} {cL : ClassId} (hK : LK D cy cL s) {x h qo : Nat} {T : Nat → TR} {sa bu sc jo z sv bf rs : Nat} {x4 : Int32} (hi : vp_in (x4 + 1) L ∧ vp_in (x4 + 2) L ∧ vp_in (x4 + 3) L ∧ vp_in (x4 + 4) L) {cells slots : Nat} (hc : cells + 312 ≤ 779852) (hs : slots + 1872 ≤ 6756547) (K : LN p l e s m below meth c D cy cL b x h qo T sa bu sc jo z sv bf rs x4 (cells + 312) (slots + 1872) 1621) : LN p l e s m below meth c D cy cL b x h qo T sa bu sc jo z sv bf rs x4 cells slots 574 := by
  intro o SX SM f H locs ls V
  obtain ⟨hO, hXX, hMM, hL, hl⟩ := V
  obtain ⟨hx, hb, hr, hml, hown, hts0, hX, hbl, hlocks, hgv⟩ := C0
  have hts : ∀ w ∈ wsL_law, w.before #[Value.ref b] s = true := fun w h => hts0 w (wsL_law_in w h)
  have hown : s.vm.findClass RL = some m.cls := hown
  have hb : c.code = cL_law := hb
  have F : CallFix p m c cL_law 9 s #[Value.ref b] wsL_law RL := ⟨hx, hb, hml, hown, hts⟩
  have hbA : ¬ (LL s) b := Nat.not_le.mpr hbl
  have v_x : vd SX x 4 := hXX.1.1
  have v_h : vd SM h 5 := hMM.1.1
  refine lv_aload_n hx hb dL_law_574 rfl (lv_at hl 1 rfl) ?_
  refine lv_aload_n hx hb dL_law_575 rfl (lv_at hl 3 rfl) ?_
  have hXr := x_read hXX hO (wl_frn hL.1 rfl)
  refine l_wrap (hr := vx_runSW (As := [.ref x, .ref qo]) (rest := []) F (c_L_read l hst D cy cL v_x hXr r_read1) (vx_cwSW 2 hts gL_law_L_read rfl rfl rfl ⟨by decide, by decide, by decide +kernel⟩ ⟨Nat.le_of_ble_eq_true rfl, Nat.le_of_ble_eq_true rfl⟩) ⟨PcL.bl, PcL.in hK hL⟩ rfl rfl hl.1 rfl (lv_room (Nat.le_of_ble_eq_true rfl)) dL_law_576 ⟨by show _ ≤ 779852; omega, by show _ ≤ 6756547; omega⟩) hL (fun r u H locs hp hL => ?_)
  obtain ⟨er, hXX, hv⟩ := hp
  subst er
  refine lv_istore (lv' := [(5, .int (nI (o_read o).1)), (0, .ref b), (1, .ref x), (2, .ref h), (3, .ref qo), (4, .int x4)]) hx hb dL_law_579 hl (by decide) rfl (fun ls hl => ?_)
  refine lv_aload_n hx hb dL_law_581 rfl (lv_at hl 3 rfl) ?_
  obtain ⟨M1, v1, ef, -, t1, t2, hMM⟩ := m_read hMM hO
  refine l_rfi (v := v1) (S1 := M1) (hr := va_runV (As := []) (rest := []) F (c_X5_read l D cy v_h ef) (cwV 0 hts gL_law_X5_read rfl rfl rfl ⟨rfl, ph_X5_read.1, ph_X5_read.2, pd_X5_read⟩ ⟨Nat.le_of_ble_eq_true rfl, Nat.le_of_ble_eq_true rfl⟩) ⟨PcW.bl, (q_rcv hK.1 hL.2.1 v_h.1 (pF_5 (S := SM) v_h.2) rfl), PcW.in hK.1 hL.hwM (fun _ h9 => h9) (fun z9 => z9.elim)⟩ rfl rfl hl.1 rfl (lv_room (Nat.le_of_ble_eq_true rfl)) dL_law_582 ⟨by show _ ≤ 779852; omega, by show _ ≤ 6756547; omega⟩) hL (fun H locs hL => ?_)
  have v_h : vd M1 h 5 := hMM.1.1
  refine lv_istore (lv' := [(6, .int v1), (5, .int (nI (o_read o).1)), (0, .ref b), (1, .ref x), (2, .ref h), (3, .ref qo), (4, .int x4)]) hx hb dL_law_585 hl (by decide) rfl (fun ls hl => ?_)
  refine lv_aload_n hx hb dL_law_587 rfl (lv_at hl 4 rfl) ?_
  refine vp_callSi (va_runV (As := []) (rest := []) F (c_X5_thrown l D cy (H := H) (S := M1) hL.2.1 v_h (res := fI M1 80 h) rfl) (cwV 0 hts gL_law_X5_thrown rfl rfl rfl ⟨rfl, ph_X5_thrown.1, ph_X5_thrown.2, pd_X5_thrown⟩ ⟨Nat.le_of_ble_eq_true rfl, Nat.le_of_ble_eq_true rfl⟩) ⟨PcR.bl, (q_rcv hK.1 hL.2.1 v_h.1 (pF_5 (S := M1) v_h.2) rfl), PcR.in hK.1⟩ rfl rfl hl.1 rfl (lv_room (Nat.le_of_ble_eq_true rfl)) dL_law_588 ⟨by show _ ≤ 779852; omega, by show _ ≤ 6756547; omega⟩).run (fun r9 er9 => ?_)
  subst er9
  refine lv_iload hx hb dL_law_591 (lv_at hl 1 rfl) ?_
  refine lv_icmp_eq (tgt := 598) hx hb dL_law_593 (by decide) (fun _ => ?_) (fun c9 => absurd t1 c9)
  refine lv_iload hx hb dL_law_598 (lv_at hl 1 rfl) ?_
  refine lv_if_ne (tgt := 615) hx hb dL_law_600 (by decide) (fun c9 => ?_) (fun c9 => ?_)
  · refine lv_goto (tgt := 1621) hx hb dL_law_615 (by decide) ?_
    refine W.widen (k := cells + 312) (n := slots + 1872) (by omega) (by omega) ?_
    exact K _ _ _ _ _ _ _ ⟨o_read_ok hO, hXX, hMM, hL, lv_sub hl [2, 3, 4, 5, 6] rfl⟩
  · have hz : (o_read o).1 = 0 := (nI_n0 (xn_le hXr)).mp c9
    refine lv_aload_n hx hb dL_law_603 rfl (lv_at hl 5 rfl) ?_
    refine lv_iconst (v := 0) hx hb dL_law_604 (by decide) ?_
    refine va_lald hx hb hK.2.1 hL.O 0 0 rfl rfl (i := 0) (by unfold vp_in; decide) dL_law_605 ?_
    refine lv_iload hx hb dL_law_606 (lv_at hl 0 rfl) ?_
    refine lv_i2l hx hb dL_law_608 rfl ?_
    refine W.lcmp hx hb dL_law_609 ?_
    refine lv_if_eq (tgt := 615) hx hb dL_law_610 (by decide) (fun _ => ?_) (fun c8 => absurd ((lq_eq _ _).mpr (by rw [t2 hz]; exact hv hz)) c8)
    refine lv_goto (tgt := 1621) hx hb dL_law_615 (by decide) ?_
    refine W.widen (k := cells + 312) (n := slots + 1872) (by omega) (by omega) ?_
    exact K _ _ _ _ _ _ _ ⟨o_read_ok hO, hXX, hMM, hL, lv_sub hl [2, 3, 4, 5, 6] rfl⟩
set_option maxHeartbeats 4000000 in
set_option maxRecDepth 100000 in
theorem law_c10 {p : Program} {l : Launch} {e : Env} {s : State} {m : MethodId} {below : List Frame} {meth : Method} {c : Code} {b L : Nat} {xs : Nat → Int32} (hst : l.stackTraces = false) (C0 : lw_At p s m meth c b L xs) {D : va_G} {cy : cyT} {cL : ClassId} (hK : LK D cy cL s) {x h qo : Nat} {T : Nat → TR} {sa bu sc jo z sv bf rs : Nat} {x4 : Int32} (hi : vp_in (x4 + 1) L ∧ vp_in (x4 + 2) L ∧ vp_in (x4 + 3) L ∧ vp_in (x4 + 4) L) {cells slots : Nat} (hc : cells + 312 ≤ 779852) (hs : slots + 1872 ≤ 6756547) (K : LN p l e s m below meth c D cy cL b x h qo T sa bu sc jo z sv bf rs x4 (cells + 312) (slots + 1872) 1621) : LN p l e s m below meth c D cy cL b x h qo T sa bu sc jo z sv bf rs x4 cells slots 618 := by
  intro o SX SM f H locs ls V
  obtain ⟨hO, hXX, hMM, hL, hl⟩ := V
  obtain ⟨hx, hb, hr, hml, hown, hts0, hX, hbl, hlocks, hgv⟩ := C0
  have hts : ∀ w ∈ wsL_law, w.before #[Value.ref b] s = true := fun w h => hts0 w (wsL_law_in w h)
  have hown : s.vm.findClass RL = some m.cls := hown
  have hb : c.code = cL_law := hb
  have F : CallFix p m c cL_law 9 s #[Value.ref b] wsL_law RL := ⟨hx, hb, hml, hown, hts⟩
  have hbA : ¬ (LL s) b := Nat.not_le.mpr hbl
  have v_x : vd SX x 4 := hXX.1.1
  have v_h : vd SM h 5 := hMM.1.1
  refine lv_aload_n hx hb dL_law_618 rfl (lv_at hl 1 rfl) ?_
  refine lv_aload_n hx hb dL_law_619 rfl (lv_at hl 3 rfl) ?_
  have hXr := x_undo hXX hO
  refine l_wrap (hr := vx_runSW (As := [.ref x, .ref qo]) (rest := []) F (c_L_undo l hst D cy cL v_x hXr r_undo1) (vx_cwSW 2 hts gL_law_L_undo rfl rfl rfl ⟨by decide, by decide, by decide +kernel⟩ ⟨Nat.le_of_ble_eq_true rfl, Nat.le_of_ble_eq_true rfl⟩) ⟨PcL.bl, PcL.in hK hL⟩ rfl rfl hl.1 rfl (lv_room (Nat.le_of_ble_eq_true rfl)) dL_law_620 ⟨by show _ ≤ 779852; omega, by show _ ≤ 6756547; omega⟩) hL (fun r u H locs hp hL => ?_)
  obtain ⟨er, hXX, hv⟩ := hp
  subst er
  refine lv_istore (lv' := [(5, .int (nI (o_undo o).1)), (0, .ref b), (1, .ref x), (2, .ref h), (3, .ref qo), (4, .int x4)]) hx hb dL_law_623 hl (by decide) rfl (fun ls hl => ?_)
  refine lv_aload_n hx hb dL_law_625 rfl (lv_at hl 3 rfl) ?_
  obtain ⟨M1, v1, ef, -, t1, t2, hMM⟩ := m_undo hMM hO
  refine l_rfi (v := v1) (S1 := M1) (hr := va_runV (As := []) (rest := []) F (c_X5_undo l D cy v_h ef) (cwV 0 hts gL_law_X5_undo rfl rfl rfl ⟨rfl, ph_X5_undo.1, ph_X5_undo.2, pd_X5_undo⟩ ⟨Nat.le_of_ble_eq_true rfl, Nat.le_of_ble_eq_true rfl⟩) ⟨PcW.bl, (q_rcv hK.1 hL.2.1 v_h.1 (pF_5 (S := SM) v_h.2) rfl), PcW.in hK.1 hL.hwM (fun _ h9 => h9) (fun z9 => z9.elim)⟩ rfl rfl hl.1 rfl (lv_room (Nat.le_of_ble_eq_true rfl)) dL_law_626 ⟨by show _ ≤ 779852; omega, by show _ ≤ 6756547; omega⟩) hL (fun H locs hL => ?_)
  have v_h : vd M1 h 5 := hMM.1.1
  refine lv_istore (lv' := [(6, .int v1), (5, .int (nI (o_undo o).1)), (0, .ref b), (1, .ref x), (2, .ref h), (3, .ref qo), (4, .int x4)]) hx hb dL_law_629 hl (by decide) rfl (fun ls hl => ?_)
  refine lv_aload_n hx hb dL_law_631 rfl (lv_at hl 4 rfl) ?_
  refine vp_callSi (va_runV (As := []) (rest := []) F (c_X5_thrown l D cy (H := H) (S := M1) hL.2.1 v_h (res := fI M1 80 h) rfl) (cwV 0 hts gL_law_X5_thrown rfl rfl rfl ⟨rfl, ph_X5_thrown.1, ph_X5_thrown.2, pd_X5_thrown⟩ ⟨Nat.le_of_ble_eq_true rfl, Nat.le_of_ble_eq_true rfl⟩) ⟨PcR.bl, (q_rcv hK.1 hL.2.1 v_h.1 (pF_5 (S := M1) v_h.2) rfl), PcR.in hK.1⟩ rfl rfl hl.1 rfl (lv_room (Nat.le_of_ble_eq_true rfl)) dL_law_632 ⟨by show _ ≤ 779852; omega, by show _ ≤ 6756547; omega⟩).run (fun r9 er9 => ?_)
  subst er9
  refine lv_iload hx hb dL_law_635 (lv_at hl 1 rfl) ?_
  refine lv_icmp_eq (tgt := 642) hx hb dL_law_637 (by decide) (fun _ => ?_) (fun c9 => absurd t1 c9)
  refine lv_iload hx hb dL_law_642 (lv_at hl 1 rfl) ?_
  refine lv_if_ne (tgt := 659) hx hb dL_law_644 (by decide) (fun c9 => ?_) (fun c9 => ?_)
  · refine lv_goto (tgt := 1621) hx hb dL_law_659 (by decide) ?_
    refine W.widen (k := cells + 312) (n := slots + 1872) (by omega) (by omega) ?_
    exact K _ _ _ _ _ _ _ ⟨o_undo_ok hO, hXX, hMM, hL, lv_sub hl [2, 3, 4, 5, 6] rfl⟩
  · have hz : (o_undo o).1 = 0 := (nI_n0 (xg_le hXr)).mp c9
    refine lv_aload_n hx hb dL_law_647 rfl (lv_at hl 5 rfl) ?_
    refine lv_iconst (v := 0) hx hb dL_law_648 (by decide) ?_
    refine va_lald hx hb hK.2.1 hL.O 0 0 rfl rfl (i := 0) (by unfold vp_in; decide) dL_law_649 ?_
    refine lv_iload hx hb dL_law_650 (lv_at hl 0 rfl) ?_
    refine lv_i2l hx hb dL_law_652 rfl ?_
    refine W.lcmp hx hb dL_law_653 ?_
    refine lv_if_eq (tgt := 659) hx hb dL_law_654 (by decide) (fun _ => ?_) (fun c8 => absurd ((lq_eq _ _).mpr (by rw [t2 hz]; exact hv hz)) c8)
    refine lv_goto (tgt := 1621) hx hb dL_law_659 (by decide) ?_
    refine W.widen (k := cells + 312) (n := slots + 1872) (by omega) (by omega) ?_
    exact K _ _ _ _ _ _ _ ⟨o_undo_ok hO, hXX, hMM, hL, lv_sub hl [2, 3, 4, 5, 6] rfl⟩
set_option maxHeartbeats 4000000 in
set_option maxRecDepth 100000 in
theorem law_c11 {p : Program} {l : Launch} {e : Env} {s : State} {m : MethodId} {below : List Frame} {meth : Method} {c : Code} {b L : Nat} {xs : Nat → Int32} (hst : l.stackTraces = false) (C0 : lw_At p s m meth c b L xs) {D : va_G} {cy : cyT} {cL : ClassId} (hK : LK D cy cL s) {x h qo : Nat} {T : Nat → TR} {sa bu sc jo z sv bf rs : Nat} {x4 : Int32} (hi : vp_in (x4 + 1) L ∧ vp_in (x4 + 2) L ∧ vp_in (x4 + 3) L ∧ vp_in (x4 + 4) L) {cells slots : Nat} (hc : cells + 312 ≤ 779852) (hs : slots + 1872 ≤ 6756547) (K : LN p l e s m below meth c D cy cL b x h qo T sa bu sc jo z sv bf rs x4 (cells + 312) (slots + 1872) 1621) : LN p l e s m below meth c D cy cL b x h qo T sa bu sc jo z sv bf rs x4 cells slots 662 := by
  intro o SX SM f H locs ls V
  obtain ⟨hO, hXX, hMM, hL, hl⟩ := V
  obtain ⟨hx, hb, hr, hml, hown, hts0, hX, hbl, hlocks, hgv⟩ := C0
  have hts : ∀ w ∈ wsL_law, w.before #[Value.ref b] s = true := fun w h => hts0 w (wsL_law_in w h)
  have hown : s.vm.findClass RL = some m.cls := hown
  have hb : c.code = cL_law := hb
  have F : CallFix p m c cL_law 9 s #[Value.ref b] wsL_law RL := ⟨hx, hb, hml, hown, hts⟩
  have hbA : ¬ (LL s) b := Nat.not_le.mpr hbl
  have v_x : vd SX x 4 := hXX.1.1
  have v_h : vd SM h 5 := hMM.1.1
  obtain ⟨a1, ea1⟩ : ∃ y9 : Int32, xs (x4 + 1).toNatClampNeg = y9 := ⟨_, rfl⟩
  obtain ⟨a2, ea2⟩ : ∃ y9 : Int32, xs (x4 + 2).toNatClampNeg = y9 := ⟨_, rfl⟩
  refine lv_aload_n hx hb dL_law_662 rfl (lv_at hl 1 rfl) ?_
  refine l_ld hx hb hX hbl hbA hL.S (lv_at hl 0 rfl) (lv_at hl 4 rfl) dL_law_663 dL_law_664 dL_law_666 dL_law_667 dL_law_668 (by decide) hi.1 ea1 ?_
  refine l_ld hx hb hX hbl hbA hL.S (lv_at hl 0 rfl) (lv_at hl 4 rfl) dL_law_669 dL_law_670 dL_law_672 dL_law_673 dL_law_674 (by decide) hi.2.1 ea2 ?_
  refine lv_aload_n hx hb dL_law_675 rfl (lv_at hl 3 rfl) ?_
  have hXr := x_condition hXX hO a1 a2
  refine l_wrap (hr := vx_runSW (As := [.ref x, .int a1, .int a2, .ref qo]) (rest := []) F (c_L_condition l hst D cy cL v_x hXr) (vx_cwSW 4 hts gL_law_L_condition rfl rfl rfl ⟨by decide, by decide, by decide +kernel⟩ ⟨Nat.le_of_ble_eq_true rfl, Nat.le_of_ble_eq_true rfl⟩) ⟨PcL.bl, PcL.in hK hL⟩ rfl rfl hl.1 rfl (lv_room (Nat.le_of_ble_eq_true rfl)) dL_law_676 ⟨by show _ ≤ 779852; omega, by show _ ≤ 6756547; omega⟩) hL (fun r u H locs hp hL => ?_)
  obtain ⟨er, hXX, hv⟩ := hp
  subst er
  refine lv_istore (lv' := [(5, .int (nI (q_condition o a1 a2).1)), (0, .ref b), (1, .ref x), (2, .ref h), (3, .ref qo), (4, .int x4)]) hx hb dL_law_679 hl (by decide) rfl (fun ls hl => ?_)
  refine lv_aload_n hx hb dL_law_681 rfl (lv_at hl 3 rfl) ?_
  refine l_ld hx hb hX hbl hbA hL.S (lv_at hl 1 rfl) (lv_at hl 5 rfl) dL_law_682 dL_law_683 dL_law_685 dL_law_686 dL_law_687 (by decide) hi.1 ea1 ?_
  refine l_ld hx hb hX hbl hbA hL.S (lv_at hl 1 rfl) (lv_at hl 5 rfl) dL_law_688 dL_law_689 dL_law_691 dL_law_692 dL_law_693 (by decide) hi.2.1 ea2 ?_
  obtain ⟨M1, v1, ef, -, t1, t2, hMM⟩ := m_condition hMM hO a1 a2
  refine l_rfi (v := v1) (S1 := M1) (hr := va_runV (As := [.int a1, .int a2]) (rest := []) F (c_X5_condition l D cy v_h ef) (cwV 2 hts gL_law_X5_condition rfl rfl rfl ⟨rfl, ph_X5_condition.1, ph_X5_condition.2, pd_X5_condition⟩ ⟨Nat.le_of_ble_eq_true rfl, Nat.le_of_ble_eq_true rfl⟩) ⟨PcW.bl, (q_rcv hK.1 hL.2.1 v_h.1 (pF_5 (S := SM) v_h.2) rfl), PcW.in hK.1 hL.hwM (fun _ h9 => h9) (fun z9 => z9.elim)⟩ rfl rfl hl.1 rfl (lv_room (Nat.le_of_ble_eq_true rfl)) dL_law_694 ⟨by show _ ≤ 779852; omega, by show _ ≤ 6756547; omega⟩) hL (fun H locs hL => ?_)
  have v_h : vd M1 h 5 := hMM.1.1
  refine lv_istore (lv' := [(6, .int v1), (5, .int (nI (q_condition o a1 a2).1)), (0, .ref b), (1, .ref x), (2, .ref h), (3, .ref qo), (4, .int x4)]) hx hb dL_law_697 hl (by decide) rfl (fun ls hl => ?_)
  refine lv_aload_n hx hb dL_law_699 rfl (lv_at hl 4 rfl) ?_
  refine vp_callSi (va_runV (As := []) (rest := []) F (c_X5_thrown l D cy (H := H) (S := M1) hL.2.1 v_h (res := fI M1 80 h) rfl) (cwV 0 hts gL_law_X5_thrown rfl rfl rfl ⟨rfl, ph_X5_thrown.1, ph_X5_thrown.2, pd_X5_thrown⟩ ⟨Nat.le_of_ble_eq_true rfl, Nat.le_of_ble_eq_true rfl⟩) ⟨PcR.bl, (q_rcv hK.1 hL.2.1 v_h.1 (pF_5 (S := M1) v_h.2) rfl), PcR.in hK.1⟩ rfl rfl hl.1 rfl (lv_room (Nat.le_of_ble_eq_true rfl)) dL_law_700 ⟨by show _ ≤ 779852; omega, by show _ ≤ 6756547; omega⟩).run (fun r9 er9 => ?_)
  subst er9
  refine lv_iload hx hb dL_law_703 (lv_at hl 1 rfl) ?_
  refine lv_icmp_eq (tgt := 710) hx hb dL_law_705 (by decide) (fun _ => ?_) (fun c9 => absurd t1 c9)
  refine lv_iload hx hb dL_law_710 (lv_at hl 1 rfl) ?_
  refine lv_if_ne (tgt := 727) hx hb dL_law_712 (by decide) (fun c9 => ?_) (fun c9 => ?_)
  · refine lv_goto (tgt := 1621) hx hb dL_law_727 (by decide) ?_
    refine W.widen (k := cells + 312) (n := slots + 1872) (by omega) (by omega) ?_
    exact K _ _ _ _ _ _ _ ⟨r_condition_ok hO a1 a2, hXX, hMM, hL, lv_sub hl [2, 3, 4, 5, 6] rfl⟩
  · have hz : (q_condition o a1 a2).1 = 0 := (nI_n0 (xg_le hXr)).mp c9
    refine lv_aload_n hx hb dL_law_715 rfl (lv_at hl 5 rfl) ?_
    refine lv_iconst (v := 0) hx hb dL_law_716 (by decide) ?_
    refine va_lald hx hb hK.2.1 hL.O 0 0 rfl rfl (i := 0) (by unfold vp_in; decide) dL_law_717 ?_
    refine lv_iload hx hb dL_law_718 (lv_at hl 0 rfl) ?_
    refine lv_i2l hx hb dL_law_720 rfl ?_
    refine W.lcmp hx hb dL_law_721 ?_
    refine lv_if_eq (tgt := 727) hx hb dL_law_722 (by decide) (fun _ => ?_) (fun c8 => absurd ((lq_eq _ _).mpr (by rw [t2 hz]; exact hv hz)) c8)
    refine lv_goto (tgt := 1621) hx hb dL_law_727 (by decide) ?_
    refine W.widen (k := cells + 312) (n := slots + 1872) (by omega) (by omega) ?_
    exact K _ _ _ _ _ _ _ ⟨r_condition_ok hO a1 a2, hXX, hMM, hL, lv_sub hl [2, 3, 4, 5, 6] rfl⟩
set_option maxHeartbeats 4000000 in
set_option maxRecDepth 100000 in
theorem law_c12 {p : Program} {l : Launch} {e : Env} {s : State} {m : MethodId} {below : List Frame} {meth : Method} {c : Code} {b L : Nat} {xs : Nat → Int32} (hst : l.stackTraces = false) (C0 : lw_At p s m meth c b L xs) {D : va_G} {cy : cyT} {cL : ClassId} (hK : LK D cy cL s) {x h qo : Nat} {T : Nat → TR} {sa bu sc jo z sv bf rs : Nat} {x4 : Int32} (hi : vp_in (x4 + 1) L ∧ vp_in (x4 + 2) L ∧ vp_in (x4 + 3) L ∧ vp_in (x4 + 4) L) {cells slots : Nat} (hc : cells + 312 ≤ 779852) (hs : slots + 1872 ≤ 6756547) (K : LN p l e s m below meth c D cy cL b x h qo T sa bu sc jo z sv bf rs x4 (cells + 312) (slots + 1872) 1621) : LN p l e s m below meth c D cy cL b x h qo T sa bu sc jo z sv bf rs x4 cells slots 730 := by
  intro o SX SM f H locs ls V
  obtain ⟨hO, hXX, hMM, hL, hl⟩ := V
  obtain ⟨hx, hb, hr, hml, hown, hts0, hX, hbl, hlocks, hgv⟩ := C0
  have hts : ∀ w ∈ wsL_law, w.before #[Value.ref b] s = true := fun w h => hts0 w (wsL_law_in w h)
  have hown : s.vm.findClass RL = some m.cls := hown
  have hb : c.code = cL_law := hb
  have F : CallFix p m c cL_law 9 s #[Value.ref b] wsL_law RL := ⟨hx, hb, hml, hown, hts⟩
  have hbA : ¬ (LL s) b := Nat.not_le.mpr hbl
  have v_x : vd SX x 4 := hXX.1.1
  have v_h : vd SM h 5 := hMM.1.1
  obtain ⟨a1, ea1⟩ : ∃ y9 : Int32, xs (x4 + 1).toNatClampNeg = y9 := ⟨_, rfl⟩
  obtain ⟨a2, ea2⟩ : ∃ y9 : Int32, xs (x4 + 2).toNatClampNeg = y9 := ⟨_, rfl⟩
  refine lv_aload_n hx hb dL_law_730 rfl (lv_at hl 1 rfl) ?_
  refine l_ld hx hb hX hbl hbA hL.S (lv_at hl 0 rfl) (lv_at hl 4 rfl) dL_law_731 dL_law_732 dL_law_734 dL_law_735 dL_law_736 (by decide) hi.1 ea1 ?_
  refine l_ld hx hb hX hbl hbA hL.S (lv_at hl 0 rfl) (lv_at hl 4 rfl) dL_law_737 dL_law_738 dL_law_740 dL_law_741 dL_law_742 (by decide) hi.2.1 ea2 ?_
  refine lv_aload_n hx hb dL_law_743 rfl (lv_at hl 3 rfl) ?_
  have hXr := x_agrees hXX hO a1 a2
  refine l_wrap (hr := vx_runSW (As := [.ref x, .int a1, .int a2, .ref qo]) (rest := []) F (c_L_agrees l hst D cy cL v_x hXr r_agrees1) (vx_cwSW 4 hts gL_law_L_agrees rfl rfl rfl ⟨by decide, by decide, by decide +kernel⟩ ⟨Nat.le_of_ble_eq_true rfl, Nat.le_of_ble_eq_true rfl⟩) ⟨PcL.bl, PcL.in hK hL⟩ rfl rfl hl.1 rfl (lv_room (Nat.le_of_ble_eq_true rfl)) dL_law_744 ⟨by show _ ≤ 779852; omega, by show _ ≤ 6756547; omega⟩) hL (fun r u H locs hp hL => ?_)
  obtain ⟨er, hXX, hv⟩ := hp
  subst er
  refine lv_istore (lv' := [(5, .int (nI (q_agrees o a1 a2).1)), (0, .ref b), (1, .ref x), (2, .ref h), (3, .ref qo), (4, .int x4)]) hx hb dL_law_747 hl (by decide) rfl (fun ls hl => ?_)
  refine lv_aload_n hx hb dL_law_749 rfl (lv_at hl 3 rfl) ?_
  refine l_ld hx hb hX hbl hbA hL.S (lv_at hl 1 rfl) (lv_at hl 5 rfl) dL_law_750 dL_law_751 dL_law_753 dL_law_754 dL_law_755 (by decide) hi.1 ea1 ?_
  refine l_ld hx hb hX hbl hbA hL.S (lv_at hl 1 rfl) (lv_at hl 5 rfl) dL_law_756 dL_law_757 dL_law_759 dL_law_760 dL_law_761 (by decide) hi.2.1 ea2 ?_
  obtain ⟨M1, v1, ef, -, t1, t2, hMM⟩ := m_agrees hMM hO a1 a2
  refine l_rfi (v := v1) (S1 := M1) (hr := va_runV (As := [.int a1, .int a2]) (rest := []) F (c_X5_agrees l D cy v_h ef) (cwV 2 hts gL_law_X5_agrees rfl rfl rfl ⟨rfl, ph_X5_agrees.1, ph_X5_agrees.2, pd_X5_agrees⟩ ⟨Nat.le_of_ble_eq_true rfl, Nat.le_of_ble_eq_true rfl⟩) ⟨PcW.bl, (q_rcv hK.1 hL.2.1 v_h.1 (pF_5 (S := SM) v_h.2) rfl), PcW.in hK.1 hL.hwM (fun _ h9 => h9) (fun z9 => z9.elim)⟩ rfl rfl hl.1 rfl (lv_room (Nat.le_of_ble_eq_true rfl)) dL_law_762 ⟨by show _ ≤ 779852; omega, by show _ ≤ 6756547; omega⟩) hL (fun H locs hL => ?_)
  have v_h : vd M1 h 5 := hMM.1.1
  refine lv_istore (lv' := [(6, .int v1), (5, .int (nI (q_agrees o a1 a2).1)), (0, .ref b), (1, .ref x), (2, .ref h), (3, .ref qo), (4, .int x4)]) hx hb dL_law_765 hl (by decide) rfl (fun ls hl => ?_)
  refine lv_aload_n hx hb dL_law_767 rfl (lv_at hl 4 rfl) ?_
  refine vp_callSi (va_runV (As := []) (rest := []) F (c_X5_thrown l D cy (H := H) (S := M1) hL.2.1 v_h (res := fI M1 80 h) rfl) (cwV 0 hts gL_law_X5_thrown rfl rfl rfl ⟨rfl, ph_X5_thrown.1, ph_X5_thrown.2, pd_X5_thrown⟩ ⟨Nat.le_of_ble_eq_true rfl, Nat.le_of_ble_eq_true rfl⟩) ⟨PcR.bl, (q_rcv hK.1 hL.2.1 v_h.1 (pF_5 (S := M1) v_h.2) rfl), PcR.in hK.1⟩ rfl rfl hl.1 rfl (lv_room (Nat.le_of_ble_eq_true rfl)) dL_law_768 ⟨by show _ ≤ 779852; omega, by show _ ≤ 6756547; omega⟩).run (fun r9 er9 => ?_)
  subst er9
  refine lv_iload hx hb dL_law_771 (lv_at hl 1 rfl) ?_
  refine lv_icmp_eq (tgt := 778) hx hb dL_law_773 (by decide) (fun _ => ?_) (fun c9 => absurd t1 c9)
  refine lv_iload hx hb dL_law_778 (lv_at hl 1 rfl) ?_
  refine lv_if_ne (tgt := 795) hx hb dL_law_780 (by decide) (fun c9 => ?_) (fun c9 => ?_)
  · refine lv_goto (tgt := 1621) hx hb dL_law_795 (by decide) ?_
    refine W.widen (k := cells + 312) (n := slots + 1872) (by omega) (by omega) ?_
    exact K _ _ _ _ _ _ _ ⟨r_agrees_ok hO a1 a2, hXX, hMM, hL, lv_sub hl [2, 3, 4, 5, 6] rfl⟩
  · have hz : (q_agrees o a1 a2).1 = 0 := (nI_n0 (xg_le hXr)).mp c9
    refine lv_aload_n hx hb dL_law_783 rfl (lv_at hl 5 rfl) ?_
    refine lv_iconst (v := 0) hx hb dL_law_784 (by decide) ?_
    refine va_lald hx hb hK.2.1 hL.O 0 0 rfl rfl (i := 0) (by unfold vp_in; decide) dL_law_785 ?_
    refine lv_iload hx hb dL_law_786 (lv_at hl 0 rfl) ?_
    refine lv_i2l hx hb dL_law_788 rfl ?_
    refine W.lcmp hx hb dL_law_789 ?_
    refine lv_if_eq (tgt := 795) hx hb dL_law_790 (by decide) (fun _ => ?_) (fun c8 => absurd ((lq_eq _ _).mpr (by rw [t2 hz]; exact hv hz)) c8)
    refine lv_goto (tgt := 1621) hx hb dL_law_795 (by decide) ?_
    refine W.widen (k := cells + 312) (n := slots + 1872) (by omega) (by omega) ?_
    exact K _ _ _ _ _ _ _ ⟨r_agrees_ok hO a1 a2, hXX, hMM, hL, lv_sub hl [2, 3, 4, 5, 6] rfl⟩
set_option maxHeartbeats 4000000 in
set_option maxRecDepth 100000 in
theorem law_c13 {p : Program} {l : Launch} {e : Env} {s : State} {m : MethodId} {below : List Frame} {meth : Method} {c : Code} {b L : Nat} {xs : Nat → Int32} (hst : l.stackTraces = false) (C0 : lw_At p s m meth c b L xs) {D : va_G} {cy : cyT} {cL : ClassId} (hK : LK D cy cL s) {x h qo : Nat} {T : Nat → TR} {sa bu sc jo z sv bf rs : Nat} {x4 : Int32} (hi : vp_in (x4 + 1) L ∧ vp_in (x4 + 2) L ∧ vp_in (x4 + 3) L ∧ vp_in (x4 + 4) L) {cells slots : Nat} (hc : cells + 312 ≤ 779852) (hs : slots + 1872 ≤ 6756547) (K : LN p l e s m below meth c D cy cL b x h qo T sa bu sc jo z sv bf rs x4 (cells + 312) (slots + 1872) 1621) : LN p l e s m below meth c D cy cL b x h qo T sa bu sc jo z sv bf rs x4 cells slots 798 := by
  intro o SX SM f H locs ls V
  obtain ⟨hO, hXX, hMM, hL, hl⟩ := V
  obtain ⟨hx, hb, hr, hml, hown, hts0, hX, hbl, hlocks, hgv⟩ := C0
  have hts : ∀ w ∈ wsL_law, w.before #[Value.ref b] s = true := fun w h => hts0 w (wsL_law_in w h)
  have hown : s.vm.findClass RL = some m.cls := hown
  have hb : c.code = cL_law := hb
  have F : CallFix p m c cL_law 9 s #[Value.ref b] wsL_law RL := ⟨hx, hb, hml, hown, hts⟩
  have hbA : ¬ (LL s) b := Nat.not_le.mpr hbl
  have v_x : vd SX x 4 := hXX.1.1
  have v_h : vd SM h 5 := hMM.1.1
  obtain ⟨a1, ea1⟩ : ∃ y9 : Int32, xs (x4 + 1).toNatClampNeg = y9 := ⟨_, rfl⟩
  refine lv_aload_n hx hb dL_law_798 rfl (lv_at hl 1 rfl) ?_
  refine l_ld hx hb hX hbl hbA hL.S (lv_at hl 0 rfl) (lv_at hl 4 rfl) dL_law_799 dL_law_800 dL_law_802 dL_law_803 dL_law_804 (by decide) hi.1 ea1 ?_
  refine lv_aload_n hx hb dL_law_805 rfl (lv_at hl 3 rfl) ?_
  have hXr := x_joined hXX hO a1
  refine l_wrap (hr := vx_runSW (As := [.ref x, .int a1, .ref qo]) (rest := []) F (c_L_joined l hst D cy cL v_x hXr r_joined1) (vx_cwSW 3 hts gL_law_L_joined rfl rfl rfl ⟨by decide, by decide, by decide +kernel⟩ ⟨Nat.le_of_ble_eq_true rfl, Nat.le_of_ble_eq_true rfl⟩) ⟨PcL.bl, PcL.in hK hL⟩ rfl rfl hl.1 rfl (lv_room (Nat.le_of_ble_eq_true rfl)) dL_law_806 ⟨by show _ ≤ 779852; omega, by show _ ≤ 6756547; omega⟩) hL (fun r u H locs hp hL => ?_)
  obtain ⟨er, hXX, hv⟩ := hp
  subst er
  refine lv_istore (lv' := [(5, .int (nI (q_joined o a1).1)), (0, .ref b), (1, .ref x), (2, .ref h), (3, .ref qo), (4, .int x4)]) hx hb dL_law_809 hl (by decide) rfl (fun ls hl => ?_)
  refine lv_aload_n hx hb dL_law_811 rfl (lv_at hl 3 rfl) ?_
  refine l_ld hx hb hX hbl hbA hL.S (lv_at hl 1 rfl) (lv_at hl 5 rfl) dL_law_812 dL_law_813 dL_law_815 dL_law_816 dL_law_817 (by decide) hi.1 ea1 ?_
  obtain ⟨M1, v1, ef, -, t1, t2, hMM⟩ := m_joined hMM hO a1
  refine l_rfl (v := v1) (S1 := M1) (hr := va_runV (As := [.int a1]) (rest := []) F (c_X5_joined l D cy v_h ef) (cwV 1 hts gL_law_X5_joined rfl rfl rfl ⟨rfl, ph_X5_joined.1, ph_X5_joined.2, pd_X5_joined⟩ ⟨Nat.le_of_ble_eq_true rfl, Nat.le_of_ble_eq_true rfl⟩) ⟨PcW.bl, (q_rcv hK.1 hL.2.1 v_h.1 (pF_5 (S := SM) v_h.2) rfl), PcW.in hK.1 hL.hwM (fun _ h9 => h9) (fun z9 => z9.elim)⟩ rfl rfl hl.1 rfl (lv_room (Nat.le_of_ble_eq_true rfl)) dL_law_818 ⟨by show _ ≤ 779852; omega, by show _ ≤ 6756547; omega⟩) hL (fun H locs hL => ?_)
  have v_h : vd M1 h 5 := hMM.1.1
  refine lv_lstore (lv' := [(6, .long v1), (5, .int (nI (q_joined o a1).1)), (0, .ref b), (1, .ref x), (2, .ref h), (3, .ref qo), (4, .int x4)]) hx hb dL_law_821 hl (by decide) rfl (fun ls hl => ?_)
  refine lv_aload_n hx hb dL_law_823 rfl (lv_at hl 4 rfl) ?_
  refine vp_callSi (va_runV (As := []) (rest := []) F (c_X5_thrown l D cy (H := H) (S := M1) hL.2.1 v_h (res := fI M1 80 h) rfl) (cwV 0 hts gL_law_X5_thrown rfl rfl rfl ⟨rfl, ph_X5_thrown.1, ph_X5_thrown.2, pd_X5_thrown⟩ ⟨Nat.le_of_ble_eq_true rfl, Nat.le_of_ble_eq_true rfl⟩) ⟨PcR.bl, (q_rcv hK.1 hL.2.1 v_h.1 (pF_5 (S := M1) v_h.2) rfl), PcR.in hK.1⟩ rfl rfl hl.1 rfl (lv_room (Nat.le_of_ble_eq_true rfl)) dL_law_824 ⟨by show _ ≤ 779852; omega, by show _ ≤ 6756547; omega⟩).run (fun r9 er9 => ?_)
  subst er9
  refine lv_iload hx hb dL_law_827 (lv_at hl 1 rfl) ?_
  refine lv_icmp_eq (tgt := 834) hx hb dL_law_829 (by decide) (fun _ => ?_) (fun c9 => absurd t1 c9)
  refine lv_iload hx hb dL_law_834 (lv_at hl 1 rfl) ?_
  refine lv_if_ne (tgt := 850) hx hb dL_law_836 (by decide) (fun c9 => ?_) (fun c9 => ?_)
  · refine lv_goto (tgt := 1621) hx hb dL_law_850 (by decide) ?_
    refine W.widen (k := cells + 312) (n := slots + 1872) (by omega) (by omega) ?_
    exact K _ _ _ _ _ _ _ ⟨r_joined_ok hO a1, hXX, hMM, hL, lv_sub hl [2, 3, 4, 5, 6] rfl⟩
  · have hz : (q_joined o a1).1 = 0 := (nI_n0 (xg_le hXr)).mp c9
    refine lv_aload_n hx hb dL_law_839 rfl (lv_at hl 5 rfl) ?_
    refine lv_iconst (v := 0) hx hb dL_law_840 (by decide) ?_
    refine va_lald hx hb hK.2.1 hL.O 0 0 rfl rfl (i := 0) (by unfold vp_in; decide) dL_law_841 ?_
    refine lv_lload hx hb dL_law_842 (lv_at hl 0 rfl) ?_
    refine W.lcmp hx hb dL_law_844 ?_
    refine lv_if_eq (tgt := 850) hx hb dL_law_845 (by decide) (fun _ => ?_) (fun c8 => absurd ((lq_eq _ _).mpr (by rw [t2 hz]; exact hv hz)) c8)
    refine lv_goto (tgt := 1621) hx hb dL_law_850 (by decide) ?_
    refine W.widen (k := cells + 312) (n := slots + 1872) (by omega) (by omega) ?_
    exact K _ _ _ _ _ _ _ ⟨r_joined_ok hO a1, hXX, hMM, hL, lv_sub hl [2, 3, 4, 5, 6] rfl⟩
set_option maxHeartbeats 4000000 in
set_option maxRecDepth 100000 in
theorem law_c14 {p : Program} {l : Launch} {e : Env} {s : State} {m : MethodId} {below : List Frame} {meth : Method} {c : Code} {b L : Nat} {xs : Nat → Int32} (hst : l.stackTraces = false) (C0 : lw_At p s m meth c b L xs) {D : va_G} {cy : cyT} {cL : ClassId} (hK : LK D cy cL s) {x h qo : Nat} {T : Nat → TR} {sa bu sc jo z sv bf rs : Nat} {x4 : Int32} (hi : vp_in (x4 + 1) L ∧ vp_in (x4 + 2) L ∧ vp_in (x4 + 3) L ∧ vp_in (x4 + 4) L) {cells slots : Nat} (hc : cells + 312 ≤ 779852) (hs : slots + 1872 ≤ 6756547) (K : LN p l e s m below meth c D cy cL b x h qo T sa bu sc jo z sv bf rs x4 (cells + 312) (slots + 1872) 1621) : LN p l e s m below meth c D cy cL b x h qo T sa bu sc jo z sv bf rs x4 cells slots 853 := by
  intro o SX SM f H locs ls V
  obtain ⟨hO, hXX, hMM, hL, hl⟩ := V
  obtain ⟨hx, hb, hr, hml, hown, hts0, hX, hbl, hlocks, hgv⟩ := C0
  have hts : ∀ w ∈ wsL_law, w.before #[Value.ref b] s = true := fun w h => hts0 w (wsL_law_in w h)
  have hown : s.vm.findClass RL = some m.cls := hown
  have hb : c.code = cL_law := hb
  have F : CallFix p m c cL_law 9 s #[Value.ref b] wsL_law RL := ⟨hx, hb, hml, hown, hts⟩
  have hbA : ¬ (LL s) b := Nat.not_le.mpr hbl
  have v_x : vd SX x 4 := hXX.1.1
  have v_h : vd SM h 5 := hMM.1.1
  obtain ⟨a1, ea1⟩ : ∃ y9 : Int32, xs (x4 + 1).toNatClampNeg = y9 := ⟨_, rfl⟩
  refine lv_aload_n hx hb dL_law_853 rfl (lv_at hl 1 rfl) ?_
  refine l_ld hx hb hX hbl hbA hL.S (lv_at hl 0 rfl) (lv_at hl 4 rfl) dL_law_854 dL_law_855 dL_law_857 dL_law_858 dL_law_859 (by decide) hi.1 ea1 ?_
  refine lv_aload_n hx hb dL_law_860 rfl (lv_at hl 3 rfl) ?_
  have hXr := x_count hXX hO a1
  refine l_wrap (hr := vx_runSW (As := [.ref x, .int a1, .ref qo]) (rest := []) F (c_L_count l hst D cy cL v_x hXr r_count1) (vx_cwSW 3 hts gL_law_L_count rfl rfl rfl ⟨by decide, by decide, by decide +kernel⟩ ⟨Nat.le_of_ble_eq_true rfl, Nat.le_of_ble_eq_true rfl⟩) ⟨PcL.bl, PcL.in hK hL⟩ rfl rfl hl.1 rfl (lv_room (Nat.le_of_ble_eq_true rfl)) dL_law_861 ⟨by show _ ≤ 779852; omega, by show _ ≤ 6756547; omega⟩) hL (fun r u H locs hp hL => ?_)
  obtain ⟨er, hXX, hv⟩ := hp
  subst er
  refine lv_istore (lv' := [(5, .int (nI (q_count o a1).1)), (0, .ref b), (1, .ref x), (2, .ref h), (3, .ref qo), (4, .int x4)]) hx hb dL_law_864 hl (by decide) rfl (fun ls hl => ?_)
  refine lv_aload_n hx hb dL_law_866 rfl (lv_at hl 3 rfl) ?_
  refine l_ld hx hb hX hbl hbA hL.S (lv_at hl 1 rfl) (lv_at hl 5 rfl) dL_law_867 dL_law_868 dL_law_870 dL_law_871 dL_law_872 (by decide) hi.1 ea1 ?_
  obtain ⟨M1, v1, ef, -, t1, t2, hMM⟩ := m_count hMM hO a1
  refine l_rfi (v := v1) (S1 := M1) (hr := va_runV (As := [.int a1]) (rest := []) F (c_X5_count l D cy v_h ef) (cwV 1 hts gL_law_X5_count rfl rfl rfl ⟨rfl, ph_X5_count.1, ph_X5_count.2, pd_X5_count⟩ ⟨Nat.le_of_ble_eq_true rfl, Nat.le_of_ble_eq_true rfl⟩) ⟨PcW.bl, (q_rcv hK.1 hL.2.1 v_h.1 (pF_5 (S := SM) v_h.2) rfl), PcW.in hK.1 hL.hwM (fun _ h9 => h9) (fun z9 => z9.elim)⟩ rfl rfl hl.1 rfl (lv_room (Nat.le_of_ble_eq_true rfl)) dL_law_873 ⟨by show _ ≤ 779852; omega, by show _ ≤ 6756547; omega⟩) hL (fun H locs hL => ?_)
  have v_h : vd M1 h 5 := hMM.1.1
  refine lv_istore (lv' := [(6, .int v1), (5, .int (nI (q_count o a1).1)), (0, .ref b), (1, .ref x), (2, .ref h), (3, .ref qo), (4, .int x4)]) hx hb dL_law_876 hl (by decide) rfl (fun ls hl => ?_)
  refine lv_aload_n hx hb dL_law_878 rfl (lv_at hl 4 rfl) ?_
  refine vp_callSi (va_runV (As := []) (rest := []) F (c_X5_thrown l D cy (H := H) (S := M1) hL.2.1 v_h (res := fI M1 80 h) rfl) (cwV 0 hts gL_law_X5_thrown rfl rfl rfl ⟨rfl, ph_X5_thrown.1, ph_X5_thrown.2, pd_X5_thrown⟩ ⟨Nat.le_of_ble_eq_true rfl, Nat.le_of_ble_eq_true rfl⟩) ⟨PcR.bl, (q_rcv hK.1 hL.2.1 v_h.1 (pF_5 (S := M1) v_h.2) rfl), PcR.in hK.1⟩ rfl rfl hl.1 rfl (lv_room (Nat.le_of_ble_eq_true rfl)) dL_law_879 ⟨by show _ ≤ 779852; omega, by show _ ≤ 6756547; omega⟩).run (fun r9 er9 => ?_)
  subst er9
  refine lv_iload hx hb dL_law_882 (lv_at hl 1 rfl) ?_
  refine lv_icmp_eq (tgt := 889) hx hb dL_law_884 (by decide) (fun _ => ?_) (fun c9 => absurd t1 c9)
  refine lv_iload hx hb dL_law_889 (lv_at hl 1 rfl) ?_
  refine lv_if_ne (tgt := 906) hx hb dL_law_891 (by decide) (fun c9 => ?_) (fun c9 => ?_)
  · refine lv_goto (tgt := 1621) hx hb dL_law_906 (by decide) ?_
    refine W.widen (k := cells + 312) (n := slots + 1872) (by omega) (by omega) ?_
    exact K _ _ _ _ _ _ _ ⟨r_count_ok hO a1, hXX, hMM, hL, lv_sub hl [2, 3, 4, 5, 6] rfl⟩
  · have hz : (q_count o a1).1 = 0 := (nI_n0 (xg_le hXr)).mp c9
    refine lv_aload_n hx hb dL_law_894 rfl (lv_at hl 5 rfl) ?_
    refine lv_iconst (v := 0) hx hb dL_law_895 (by decide) ?_
    refine va_lald hx hb hK.2.1 hL.O 0 0 rfl rfl (i := 0) (by unfold vp_in; decide) dL_law_896 ?_
    refine lv_iload hx hb dL_law_897 (lv_at hl 0 rfl) ?_
    refine lv_i2l hx hb dL_law_899 rfl ?_
    refine W.lcmp hx hb dL_law_900 ?_
    refine lv_if_eq (tgt := 906) hx hb dL_law_901 (by decide) (fun _ => ?_) (fun c8 => absurd ((lq_eq _ _).mpr (by rw [t2 hz]; exact hv hz)) c8)
    refine lv_goto (tgt := 1621) hx hb dL_law_906 (by decide) ?_
    refine W.widen (k := cells + 312) (n := slots + 1872) (by omega) (by omega) ?_
    exact K _ _ _ _ _ _ _ ⟨r_count_ok hO a1, hXX, hMM, hL, lv_sub hl [2, 3, 4, 5, 6] rfl⟩
set_option maxHeartbeats 4000000 in
set_option maxRecDepth 100000 in
theorem law_c15 {p : Program} {l : Launch} {e : Env} {s : State} {m : MethodId} {below : List Frame} {meth : Method} {c : Code} {b L : Nat} {xs : Nat → Int32} (hst : l.stackTraces = false) (C0 : lw_At p s m meth c b L xs) {D : va_G} {cy : cyT} {cL : ClassId} (hK : LK D cy cL s) {x h qo : Nat} {T : Nat → TR} {sa bu sc jo z sv bf rs : Nat} {x4 : Int32} (hi : vp_in (x4 + 1) L ∧ vp_in (x4 + 2) L ∧ vp_in (x4 + 3) L ∧ vp_in (x4 + 4) L) {cells slots : Nat} (hc : cells + 312 ≤ 779852) (hs : slots + 1872 ≤ 6756547) (K : LN p l e s m below meth c D cy cL b x h qo T sa bu sc jo z sv bf rs x4 (cells + 312) (slots + 1872) 1621) : LN p l e s m below meth c D cy cL b x h qo T sa bu sc jo z sv bf rs x4 cells slots 909 := by
  intro o SX SM f H locs ls V
  obtain ⟨hO, hXX, hMM, hL, hl⟩ := V
  obtain ⟨hx, hb, hr, hml, hown, hts0, hX, hbl, hlocks, hgv⟩ := C0
  have hts : ∀ w ∈ wsL_law, w.before #[Value.ref b] s = true := fun w h => hts0 w (wsL_law_in w h)
  have hown : s.vm.findClass RL = some m.cls := hown
  have hb : c.code = cL_law := hb
  have F : CallFix p m c cL_law 9 s #[Value.ref b] wsL_law RL := ⟨hx, hb, hml, hown, hts⟩
  have hbA : ¬ (LL s) b := Nat.not_le.mpr hbl
  have v_x : vd SX x 4 := hXX.1.1
  have v_h : vd SM h 5 := hMM.1.1
  obtain ⟨a1, ea1⟩ : ∃ y9 : Int32, xs (x4 + 1).toNatClampNeg = y9 := ⟨_, rfl⟩
  obtain ⟨a2, ea2⟩ : ∃ y9 : Int32, xs (x4 + 2).toNatClampNeg = y9 := ⟨_, rfl⟩
  refine lv_aload_n hx hb dL_law_909 rfl (lv_at hl 1 rfl) ?_
  refine l_ld hx hb hX hbl hbA hL.S (lv_at hl 0 rfl) (lv_at hl 4 rfl) dL_law_910 dL_law_911 dL_law_913 dL_law_914 dL_law_915 (by decide) hi.1 ea1 ?_
  refine l_ld hx hb hX hbl hbA hL.S (lv_at hl 0 rfl) (lv_at hl 4 rfl) dL_law_916 dL_law_917 dL_law_919 dL_law_920 dL_law_921 (by decide) hi.2.1 ea2 ?_
  refine lv_aload_n hx hb dL_law_922 rfl (lv_at hl 3 rfl) ?_
  have hXr := x_prime hXX hO a1 a2
  refine l_wrap (hr := vx_runSW (As := [.ref x, .int a1, .int a2, .ref qo]) (rest := []) F (c_L_prime l hst D cy cL v_x hXr r_prime1) (vx_cwSW 4 hts gL_law_L_prime rfl rfl rfl ⟨by decide, by decide, by decide +kernel⟩ ⟨Nat.le_of_ble_eq_true rfl, Nat.le_of_ble_eq_true rfl⟩) ⟨PcL.bl, PcL.in hK hL⟩ rfl rfl hl.1 rfl (lv_room (Nat.le_of_ble_eq_true rfl)) dL_law_923 ⟨by show _ ≤ 779852; omega, by show _ ≤ 6756547; omega⟩) hL (fun r u H locs hp hL => ?_)
  obtain ⟨er, hXX, hv⟩ := hp
  subst er
  refine lv_istore (lv' := [(5, .int (nI (q_prime o a1 a2).1)), (0, .ref b), (1, .ref x), (2, .ref h), (3, .ref qo), (4, .int x4)]) hx hb dL_law_926 hl (by decide) rfl (fun ls hl => ?_)
  refine lv_aload_n hx hb dL_law_928 rfl (lv_at hl 3 rfl) ?_
  refine l_ld hx hb hX hbl hbA hL.S (lv_at hl 1 rfl) (lv_at hl 5 rfl) dL_law_929 dL_law_930 dL_law_932 dL_law_933 dL_law_934 (by decide) hi.1 ea1 ?_
  refine l_ld hx hb hX hbl hbA hL.S (lv_at hl 1 rfl) (lv_at hl 5 rfl) dL_law_935 dL_law_936 dL_law_938 dL_law_939 dL_law_940 (by decide) hi.2.1 ea2 ?_
  obtain ⟨M1, v1, ef, -, t1, t2, hMM⟩ := m_prime hMM hO a1 a2
  refine l_rfi (v := v1) (S1 := M1) (hr := va_runV (As := [.int a1, .int a2]) (rest := []) F (c_X5_prime l D cy v_h ef) (cwV 2 hts gL_law_X5_prime rfl rfl rfl ⟨rfl, ph_X5_prime.1, ph_X5_prime.2, pd_X5_prime⟩ ⟨Nat.le_of_ble_eq_true rfl, Nat.le_of_ble_eq_true rfl⟩) ⟨PcW.bl, (q_rcv hK.1 hL.2.1 v_h.1 (pF_5 (S := SM) v_h.2) rfl), PcW.in hK.1 hL.hwM (fun _ h9 => h9) (fun z9 => z9.elim)⟩ rfl rfl hl.1 rfl (lv_room (Nat.le_of_ble_eq_true rfl)) dL_law_941 ⟨by show _ ≤ 779852; omega, by show _ ≤ 6756547; omega⟩) hL (fun H locs hL => ?_)
  have v_h : vd M1 h 5 := hMM.1.1
  refine lv_istore (lv' := [(6, .int v1), (5, .int (nI (q_prime o a1 a2).1)), (0, .ref b), (1, .ref x), (2, .ref h), (3, .ref qo), (4, .int x4)]) hx hb dL_law_944 hl (by decide) rfl (fun ls hl => ?_)
  refine lv_aload_n hx hb dL_law_946 rfl (lv_at hl 4 rfl) ?_
  refine vp_callSi (va_runV (As := []) (rest := []) F (c_X5_thrown l D cy (H := H) (S := M1) hL.2.1 v_h (res := fI M1 80 h) rfl) (cwV 0 hts gL_law_X5_thrown rfl rfl rfl ⟨rfl, ph_X5_thrown.1, ph_X5_thrown.2, pd_X5_thrown⟩ ⟨Nat.le_of_ble_eq_true rfl, Nat.le_of_ble_eq_true rfl⟩) ⟨PcR.bl, (q_rcv hK.1 hL.2.1 v_h.1 (pF_5 (S := M1) v_h.2) rfl), PcR.in hK.1⟩ rfl rfl hl.1 rfl (lv_room (Nat.le_of_ble_eq_true rfl)) dL_law_947 ⟨by show _ ≤ 779852; omega, by show _ ≤ 6756547; omega⟩).run (fun r9 er9 => ?_)
  subst er9
  refine lv_iload hx hb dL_law_950 (lv_at hl 1 rfl) ?_
  refine lv_icmp_eq (tgt := 957) hx hb dL_law_952 (by decide) (fun _ => ?_) (fun c9 => absurd t1 c9)
  refine lv_iload hx hb dL_law_957 (lv_at hl 1 rfl) ?_
  refine lv_if_ne (tgt := 974) hx hb dL_law_959 (by decide) (fun c9 => ?_) (fun c9 => ?_)
  · refine lv_goto (tgt := 1621) hx hb dL_law_974 (by decide) ?_
    refine W.widen (k := cells + 312) (n := slots + 1872) (by omega) (by omega) ?_
    exact K _ _ _ _ _ _ _ ⟨r_prime_ok hO a1 a2, hXX, hMM, hL, lv_sub hl [2, 3, 4, 5, 6] rfl⟩
  · have hz : (q_prime o a1 a2).1 = 0 := (nI_n0 (xg_le hXr)).mp c9
    refine lv_aload_n hx hb dL_law_962 rfl (lv_at hl 5 rfl) ?_
    refine lv_iconst (v := 0) hx hb dL_law_963 (by decide) ?_
    refine va_lald hx hb hK.2.1 hL.O 0 0 rfl rfl (i := 0) (by unfold vp_in; decide) dL_law_964 ?_
    refine lv_iload hx hb dL_law_965 (lv_at hl 0 rfl) ?_
    refine lv_i2l hx hb dL_law_967 rfl ?_
    refine W.lcmp hx hb dL_law_968 ?_
    refine lv_if_eq (tgt := 974) hx hb dL_law_969 (by decide) (fun _ => ?_) (fun c8 => absurd ((lq_eq _ _).mpr (by rw [t2 hz]; exact hv hz)) c8)
    refine lv_goto (tgt := 1621) hx hb dL_law_974 (by decide) ?_
    refine W.widen (k := cells + 312) (n := slots + 1872) (by omega) (by omega) ?_
    exact K _ _ _ _ _ _ _ ⟨r_prime_ok hO a1 a2, hXX, hMM, hL, lv_sub hl [2, 3, 4, 5, 6] rfl⟩

set_option maxHeartbeats 4000000 in
set_option maxRecDepth 100000 in
theorem law_c20 {p : Program} {l : Launch} {e : Env} {s : State} {m : MethodId} {below : List Frame} {meth : Method} {c : Code} {b L : Nat} {xs : Nat → Int32} (hst : l.stackTraces = false) (C0 : lw_At p s m meth c b L xs) {D : va_G} {cy : cyT} {cL : ClassId} (hK : LK D cy cL s) {x h qo : Nat} {T : Nat → TR} {sa bu sc jo z sv bf rs : Nat} {x4 : Int32} (hi : vp_in (x4 + 1) L ∧ vp_in (x4 + 2) L ∧ vp_in (x4 + 3) L ∧ vp_in (x4 + 4) L) {cells slots : Nat} (hc : cells + 312 ≤ 779852) (hs : slots + 1872 ≤ 6756547) (K : LN p l e s m below meth c D cy cL b x h qo T sa bu sc jo z sv bf rs x4 (cells + 312) (slots + 1872) 1621) : LN p l e s m below meth c D cy cL b x h qo T sa bu sc jo z sv bf rs x4 cells slots 1382 := by
  intro o SX SM f H locs ls V
  obtain ⟨hO, hXX, hMM, hL, hl⟩ := V
  obtain ⟨hx, hb, hr, hml, hown, hts0, hX, hbl, hlocks, hgv⟩ := C0
  have hts : ∀ w ∈ wsL_law, w.before #[Value.ref b] s = true := fun w h => hts0 w (wsL_law_in w h)
  have hown : s.vm.findClass RL = some m.cls := hown
  have hb : c.code = cL_law := hb
  have F : CallFix p m c cL_law 9 s #[Value.ref b] wsL_law RL := ⟨hx, hb, hml, hown, hts⟩
  have hbA : ¬ (LL s) b := Nat.not_le.mpr hbl
  have v_x : vd SX x 4 := hXX.1.1
  have v_h : vd SM h 5 := hMM.1.1
  obtain ⟨a1, ea1⟩ : ∃ y9 : Int32, xs (x4 + 1).toNatClampNeg = y9 := ⟨_, rfl⟩
  obtain ⟨a2, ea2⟩ : ∃ y9 : Int32, xs (x4 + 2).toNatClampNeg = y9 := ⟨_, rfl⟩
  obtain ⟨a3, ea3⟩ : ∃ y9 : Int32, xs (x4 + 3).toNatClampNeg = y9 := ⟨_, rfl⟩
  obtain ⟨a4, ea4⟩ : ∃ y9 : Int32, xs (x4 + 4).toNatClampNeg = y9 := ⟨_, rfl⟩
  refine lv_aload_n hx hb dL_law_1382 rfl (lv_at hl 1 rfl) ?_
  refine l_ld hx hb hX hbl hbA hL.S (lv_at hl 0 rfl) (lv_at hl 4 rfl) dL_law_1383 dL_law_1384 dL_law_1386 dL_law_1387 dL_law_1388 (by decide) hi.1 ea1 ?_
  refine l_ld hx hb hX hbl hbA hL.S (lv_at hl 0 rfl) (lv_at hl 4 rfl) dL_law_1389 dL_law_1390 dL_law_1392 dL_law_1393 dL_law_1394 (by decide) hi.2.1 ea2 ?_
  refine l_ld hx hb hX hbl hbA hL.S (lv_at hl 0 rfl) (lv_at hl 4 rfl) dL_law_1395 dL_law_1396 dL_law_1398 dL_law_1399 dL_law_1400 (by decide) hi.2.2.1 ea3 ?_
  refine l_ld hx hb hX hbl hbA hL.S (lv_at hl 0 rfl) (lv_at hl 4 rfl) dL_law_1401 dL_law_1402 dL_law_1404 dL_law_1405 dL_law_1406 (by decide) hi.2.2.2 ea4 ?_
  refine lv_aload_n hx hb dL_law_1407 rfl (lv_at hl 3 rfl) ?_
  have hXr := x_ifAdded hXX hO (wl_frn hL.1 rfl) a1 a2 a3 a4
  refine l_wrap (hr := vx_runSW (As := [.ref x, .int a1, .int a2, .int a3, .int a4, .ref qo]) (rest := []) F (c_L_ifAdded l hst D cy cL v_x hXr r_ifAdded1) (vx_cwSW 6 hts gL_law_L_ifAdded rfl rfl rfl ⟨by decide, by decide, by decide +kernel⟩ ⟨Nat.le_of_ble_eq_true rfl, Nat.le_of_ble_eq_true rfl⟩) ⟨PcL.bl, PcL.in hK hL⟩ rfl rfl hl.1 rfl (lv_room (Nat.le_of_ble_eq_true rfl)) dL_law_1408 ⟨by show _ ≤ 779852; omega, by show _ ≤ 6756547; omega⟩) hL (fun r u H locs hp hL => ?_)
  obtain ⟨er, hXX, hv⟩ := hp
  subst er
  refine lv_istore (lv' := [(5, .int (nI (q_ifAdded o a1 a2 a3 a4).1)), (0, .ref b), (1, .ref x), (2, .ref h), (3, .ref qo), (4, .int x4)]) hx hb dL_law_1411 hl (by decide) rfl (fun ls hl => ?_)
  refine lv_aload_n hx hb dL_law_1413 rfl (lv_at hl 3 rfl) ?_
  refine l_ld hx hb hX hbl hbA hL.S (lv_at hl 1 rfl) (lv_at hl 5 rfl) dL_law_1414 dL_law_1415 dL_law_1417 dL_law_1418 dL_law_1419 (by decide) hi.1 ea1 ?_
  refine l_ld hx hb hX hbl hbA hL.S (lv_at hl 1 rfl) (lv_at hl 5 rfl) dL_law_1420 dL_law_1421 dL_law_1423 dL_law_1424 dL_law_1425 (by decide) hi.2.1 ea2 ?_
  refine l_ld hx hb hX hbl hbA hL.S (lv_at hl 1 rfl) (lv_at hl 5 rfl) dL_law_1426 dL_law_1427 dL_law_1429 dL_law_1430 dL_law_1431 (by decide) hi.2.2.1 ea3 ?_
  refine l_ld hx hb hX hbl hbA hL.S (lv_at hl 1 rfl) (lv_at hl 5 rfl) dL_law_1432 dL_law_1433 dL_law_1435 dL_law_1436 dL_law_1437 (by decide) hi.2.2.2 ea4 ?_
  obtain ⟨M1, v1, ef, -, t1, t2, hMM⟩ := m_ifAdded hMM hO a1 a2 a3 a4
  refine l_rfl (v := v1) (S1 := M1) (hr := va_runV (As := [.int a1, .int a2, .int a3, .int a4]) (rest := []) F (c_X5_ifAdded l D cy v_h ef) (cwV 4 hts gL_law_X5_ifAdded rfl rfl rfl ⟨rfl, ph_X5_ifAdded.1, ph_X5_ifAdded.2, pd_X5_ifAdded⟩ ⟨Nat.le_of_ble_eq_true rfl, Nat.le_of_ble_eq_true rfl⟩) ⟨PcW.bl, (q_rcv hK.1 hL.2.1 v_h.1 (pF_5 (S := SM) v_h.2) rfl), PcW.in hK.1 hL.hwM (fun _ h9 => h9) (fun z9 => z9.elim)⟩ rfl rfl hl.1 rfl (lv_room (Nat.le_of_ble_eq_true rfl)) dL_law_1438 ⟨by show _ ≤ 779852; omega, by show _ ≤ 6756547; omega⟩) hL (fun H locs hL => ?_)
  have v_h : vd M1 h 5 := hMM.1.1
  refine lv_lstore (lv' := [(6, .long v1), (5, .int (nI (q_ifAdded o a1 a2 a3 a4).1)), (0, .ref b), (1, .ref x), (2, .ref h), (3, .ref qo), (4, .int x4)]) hx hb dL_law_1441 hl (by decide) rfl (fun ls hl => ?_)
  refine lv_aload_n hx hb dL_law_1443 rfl (lv_at hl 4 rfl) ?_
  refine vp_callSi (va_runV (As := []) (rest := []) F (c_X5_thrown l D cy (H := H) (S := M1) hL.2.1 v_h (res := fI M1 80 h) rfl) (cwV 0 hts gL_law_X5_thrown rfl rfl rfl ⟨rfl, ph_X5_thrown.1, ph_X5_thrown.2, pd_X5_thrown⟩ ⟨Nat.le_of_ble_eq_true rfl, Nat.le_of_ble_eq_true rfl⟩) ⟨PcR.bl, (q_rcv hK.1 hL.2.1 v_h.1 (pF_5 (S := M1) v_h.2) rfl), PcR.in hK.1⟩ rfl rfl hl.1 rfl (lv_room (Nat.le_of_ble_eq_true rfl)) dL_law_1444 ⟨by show _ ≤ 779852; omega, by show _ ≤ 6756547; omega⟩).run (fun r9 er9 => ?_)
  subst er9
  refine lv_iload hx hb dL_law_1447 (lv_at hl 1 rfl) ?_
  refine lv_icmp_eq (tgt := 1454) hx hb dL_law_1449 (by decide) (fun _ => ?_) (fun c9 => absurd t1 c9)
  refine lv_iload hx hb dL_law_1454 (lv_at hl 1 rfl) ?_
  refine lv_if_ne (tgt := 1470) hx hb dL_law_1456 (by decide) (fun c9 => ?_) (fun c9 => ?_)
  · refine lv_goto (tgt := 1621) hx hb dL_law_1470 (by decide) ?_
    refine W.widen (k := cells + 312) (n := slots + 1872) (by omega) (by omega) ?_
    exact K _ _ _ _ _ _ _ ⟨r_ifAdded_ok hO a1 a2 a3 a4, hXX, hMM, hL, lv_sub hl [2, 3, 4, 5, 6] rfl⟩
  · have hz : (q_ifAdded o a1 a2 a3 a4).1 = 0 := (nI_n0 (xn_le hXr)).mp c9
    refine lv_aload_n hx hb dL_law_1459 rfl (lv_at hl 5 rfl) ?_
    refine lv_iconst (v := 0) hx hb dL_law_1460 (by decide) ?_
    refine va_lald hx hb hK.2.1 hL.O 0 0 rfl rfl (i := 0) (by unfold vp_in; decide) dL_law_1461 ?_
    refine lv_lload hx hb dL_law_1462 (lv_at hl 0 rfl) ?_
    refine W.lcmp hx hb dL_law_1464 ?_
    refine lv_if_eq (tgt := 1470) hx hb dL_law_1465 (by decide) (fun _ => ?_) (fun c8 => absurd ((lq_eq _ _).mpr (by rw [t2 hz]; exact hv hz)) c8)
    refine lv_goto (tgt := 1621) hx hb dL_law_1470 (by decide) ?_
    refine W.widen (k := cells + 312) (n := slots + 1872) (by omega) (by omega) ?_
    exact K _ _ _ _ _ _ _ ⟨r_ifAdded_ok hO a1 a2 a3 a4, hXX, hMM, hL, lv_sub hl [2, 3, 4, 5, 6] rfl⟩
set_option maxHeartbeats 4000000 in
set_option maxRecDepth 100000 in
theorem law_c21 {p : Program} {l : Launch} {e : Env} {s : State} {m : MethodId} {below : List Frame} {meth : Method} {c : Code} {b L : Nat} {xs : Nat → Int32} (hst : l.stackTraces = false) (C0 : lw_At p s m meth c b L xs) {D : va_G} {cy : cyT} {cL : ClassId} (hK : LK D cy cL s) {x h qo : Nat} {T : Nat → TR} {sa bu sc jo z sv bf rs : Nat} {x4 : Int32} (hi : vp_in (x4 + 1) L ∧ vp_in (x4 + 2) L ∧ vp_in (x4 + 3) L ∧ vp_in (x4 + 4) L) {cells slots : Nat} (hc : cells + 312 ≤ 779852) (hs : slots + 1872 ≤ 6756547) (K : LN p l e s m below meth c D cy cL b x h qo T sa bu sc jo z sv bf rs x4 (cells + 312) (slots + 1872) 1621) : LN p l e s m below meth c D cy cL b x h qo T sa bu sc jo z sv bf rs x4 cells slots 1473 := by
  intro o SX SM f H locs ls V
  obtain ⟨hO, hXX, hMM, hL, hl⟩ := V
  obtain ⟨hx, hb, hr, hml, hown, hts0, hX, hbl, hlocks, hgv⟩ := C0
  have hts : ∀ w ∈ wsL_law, w.before #[Value.ref b] s = true := fun w h => hts0 w (wsL_law_in w h)
  have hown : s.vm.findClass RL = some m.cls := hown
  have hb : c.code = cL_law := hb
  have F : CallFix p m c cL_law 9 s #[Value.ref b] wsL_law RL := ⟨hx, hb, hml, hown, hts⟩
  have hbA : ¬ (LL s) b := Nat.not_le.mpr hbl
  have v_x : vd SX x 4 := hXX.1.1
  have v_h : vd SM h 5 := hMM.1.1
  obtain ⟨a1, ea1⟩ : ∃ y9 : Int32, xs (x4 + 1).toNatClampNeg = y9 := ⟨_, rfl⟩
  obtain ⟨a2, ea2⟩ : ∃ y9 : Int32, xs (x4 + 2).toNatClampNeg = y9 := ⟨_, rfl⟩
  refine lv_aload_n hx hb dL_law_1473 rfl (lv_at hl 1 rfl) ?_
  refine l_ld hx hb hX hbl hbA hL.S (lv_at hl 0 rfl) (lv_at hl 4 rfl) dL_law_1474 dL_law_1475 dL_law_1477 dL_law_1478 dL_law_1479 (by decide) hi.1 ea1 ?_
  refine l_ld hx hb hX hbl hbA hL.S (lv_at hl 0 rfl) (lv_at hl 4 rfl) dL_law_1480 dL_law_1481 dL_law_1483 dL_law_1484 dL_law_1485 (by decide) hi.2.1 ea2 ?_
  refine lv_aload_n hx hb dL_law_1486 rfl (lv_at hl 3 rfl) ?_
  have hXr := x_without hXX hO a1 a2
  refine l_wrap (hr := vx_runSW (As := [.ref x, .int a1, .int a2, .ref qo]) (rest := []) F (c_L_without l hst D cy cL v_x hXr) (vx_cwSW 4 hts gL_law_L_without rfl rfl rfl ⟨by decide, by decide, by decide +kernel⟩ ⟨Nat.le_of_ble_eq_true rfl, Nat.le_of_ble_eq_true rfl⟩) ⟨PcL.bl, PcL.in hK hL⟩ rfl rfl hl.1 rfl (lv_room (Nat.le_of_ble_eq_true rfl)) dL_law_1487 ⟨by show _ ≤ 779852; omega, by show _ ≤ 6756547; omega⟩) hL (fun r u H locs hp hL => ?_)
  obtain ⟨er, hXX, hv⟩ := hp
  subst er
  refine lv_istore (lv' := [(5, .int (nI (q_without o a1 a2).1)), (0, .ref b), (1, .ref x), (2, .ref h), (3, .ref qo), (4, .int x4)]) hx hb dL_law_1490 hl (by decide) rfl (fun ls hl => ?_)
  refine lv_aload_n hx hb dL_law_1492 rfl (lv_at hl 3 rfl) ?_
  refine l_ld hx hb hX hbl hbA hL.S (lv_at hl 1 rfl) (lv_at hl 5 rfl) dL_law_1493 dL_law_1494 dL_law_1496 dL_law_1497 dL_law_1498 (by decide) hi.1 ea1 ?_
  refine l_ld hx hb hX hbl hbA hL.S (lv_at hl 1 rfl) (lv_at hl 5 rfl) dL_law_1499 dL_law_1500 dL_law_1502 dL_law_1503 dL_law_1504 (by decide) hi.2.1 ea2 ?_
  obtain ⟨M1, v1, ef, -, t1, t2, hMM⟩ := m_without hMM hO a1 a2
  refine l_rfl (v := v1) (S1 := M1) (hr := va_runV (As := [.int a1, .int a2]) (rest := []) F (c_X5_without l D cy v_h ef) (cwV 2 hts gL_law_X5_without rfl rfl rfl ⟨rfl, ph_X5_without.1, ph_X5_without.2, pd_X5_without⟩ ⟨Nat.le_of_ble_eq_true rfl, Nat.le_of_ble_eq_true rfl⟩) ⟨PcW.bl, (q_rcv hK.1 hL.2.1 v_h.1 (pF_5 (S := SM) v_h.2) rfl), PcW.in hK.1 hL.hwM (fun _ h9 => h9) (fun z9 => z9.elim)⟩ rfl rfl hl.1 rfl (lv_room (Nat.le_of_ble_eq_true rfl)) dL_law_1505 ⟨by show _ ≤ 779852; omega, by show _ ≤ 6756547; omega⟩) hL (fun H locs hL => ?_)
  have v_h : vd M1 h 5 := hMM.1.1
  refine lv_lstore (lv' := [(6, .long v1), (5, .int (nI (q_without o a1 a2).1)), (0, .ref b), (1, .ref x), (2, .ref h), (3, .ref qo), (4, .int x4)]) hx hb dL_law_1508 hl (by decide) rfl (fun ls hl => ?_)
  refine lv_aload_n hx hb dL_law_1510 rfl (lv_at hl 4 rfl) ?_
  refine vp_callSi (va_runV (As := []) (rest := []) F (c_X5_thrown l D cy (H := H) (S := M1) hL.2.1 v_h (res := fI M1 80 h) rfl) (cwV 0 hts gL_law_X5_thrown rfl rfl rfl ⟨rfl, ph_X5_thrown.1, ph_X5_thrown.2, pd_X5_thrown⟩ ⟨Nat.le_of_ble_eq_true rfl, Nat.le_of_ble_eq_true rfl⟩) ⟨PcR.bl, (q_rcv hK.1 hL.2.1 v_h.1 (pF_5 (S := M1) v_h.2) rfl), PcR.in hK.1⟩ rfl rfl hl.1 rfl (lv_room (Nat.le_of_ble_eq_true rfl)) dL_law_1511 ⟨by show _ ≤ 779852; omega, by show _ ≤ 6756547; omega⟩).run (fun r9 er9 => ?_)
  subst er9
  refine lv_iload hx hb dL_law_1514 (lv_at hl 1 rfl) ?_
  refine lv_icmp_eq (tgt := 1521) hx hb dL_law_1516 (by decide) (fun _ => ?_) (fun c9 => absurd t1 c9)
  refine lv_iload hx hb dL_law_1521 (lv_at hl 1 rfl) ?_
  refine lv_if_ne (tgt := 1537) hx hb dL_law_1523 (by decide) (fun c9 => ?_) (fun c9 => ?_)
  · refine lv_goto (tgt := 1621) hx hb dL_law_1537 (by decide) ?_
    refine W.widen (k := cells + 312) (n := slots + 1872) (by omega) (by omega) ?_
    exact K _ _ _ _ _ _ _ ⟨r_without_ok hO a1 a2, hXX, hMM, hL, lv_sub hl [2, 3, 4, 5, 6] rfl⟩
  · have hz : (q_without o a1 a2).1 = 0 := (nI_n0 (xg_le hXr)).mp c9
    refine lv_aload_n hx hb dL_law_1526 rfl (lv_at hl 5 rfl) ?_
    refine lv_iconst (v := 0) hx hb dL_law_1527 (by decide) ?_
    refine va_lald hx hb hK.2.1 hL.O 0 0 rfl rfl (i := 0) (by unfold vp_in; decide) dL_law_1528 ?_
    refine lv_lload hx hb dL_law_1529 (lv_at hl 0 rfl) ?_
    refine W.lcmp hx hb dL_law_1531 ?_
    refine lv_if_eq (tgt := 1537) hx hb dL_law_1532 (by decide) (fun _ => ?_) (fun c8 => absurd ((lq_eq _ _).mpr (by rw [t2 hz]; exact hv hz)) c8)
    refine lv_goto (tgt := 1621) hx hb dL_law_1537 (by decide) ?_
    refine W.widen (k := cells + 312) (n := slots + 1872) (by omega) (by omega) ?_
    exact K _ _ _ _ _ _ _ ⟨r_without_ok hO a1 a2, hXX, hMM, hL, lv_sub hl [2, 3, 4, 5, 6] rfl⟩

set_option maxHeartbeats 4000000 in
set_option maxRecDepth 100000 in
theorem law_c8 {p : Program} {l : Launch} {e : Env} {s : State} {m : MethodId} {below : List Frame} {meth : Method} {c : Code} {b L : Nat} {xs : Nat → Int32} (hst : l.stackTraces = false) (C0 : lw_At p s m meth c b L xs) {D : va_G} {cy : cyT} {cL : ClassId} (hK : LK D cy cL s) {x h qo : Nat} {T : Nat → TR} {sa bu sc jo z sv bf rs : Nat} {x4 : Int32} (hi : vp_in (x4 + 1) L ∧ vp_in (x4 + 2) L ∧ vp_in (x4 + 3) L ∧ vp_in (x4 + 4) L) {cells slots : Nat} (hc : cells + 312 ≤ 779852) (hs : slots + 1872 ≤ 6756547) (K : LN p l e s m below meth c D cy cL b x h qo T sa bu sc jo z sv bf rs x4 (cells + 312) (slots + 1872) 1621) : LN p l e s m below meth c D cy cL b x h qo T sa bu sc jo z sv bf rs x4 cells slots 561 := by
  intro o SX SM f H locs ls V
  obtain ⟨hO, hXX, hMM, hL, hl⟩ := V
  obtain ⟨hx, hb, hr, hml, hown, hts0, hX, hbl, hlocks, hgv⟩ := C0
  have hts : ∀ w ∈ wsL_law, w.before #[Value.ref b] s = true := fun w h => hts0 w (wsL_law_in w h)
  have hown : s.vm.findClass RL = some m.cls := hown
  have hb : c.code = cL_law := hb
  have F : CallFix p m c cL_law 9 s #[Value.ref b] wsL_law RL := ⟨hx, hb, hml, hown, hts⟩
  have hbA : ¬ (LL s) b := Nat.not_le.mpr hbl
  have v_x : vd SX x 4 := hXX.1.1
  have v_h : vd SM h 5 := hMM.1.1
  refine lv_aload_n hx hb dL_law_561 rfl (lv_at hl 1 rfl) ?_
  obtain ⟨X1, ef, hXX, -, -⟩ := x_first hXX hO
  refine l_cli (v := (nI (fe o.2.2.2.2 o.2.2.2.1))) (S1 := X1) (hr := va_runV (As := []) (rest := []) F (c_X4_firstError l D cy v_x ef) (cwV 0 hts gL_law_X4_firstError rfl rfl rfl ⟨rfl, ph_X4_firstError.1, ph_X4_firstError.2, pd_X4_firstError⟩ ⟨Nat.le_of_ble_eq_true rfl, Nat.le_of_ble_eq_true rfl⟩) ⟨PcW.bl, (q_rcv hK.1 hL.1 v_x.1 (pF_4 (S := SX) v_x.2) rfl), PcW.in hK.1 hL.hwX (fun _ h9 => h9) (fun z9 => z9.elim)⟩ rfl rfl hl.1 rfl (lv_room (Nat.le_of_ble_eq_true rfl)) dL_law_562 ⟨by show _ ≤ 779852; omega, by show _ ≤ 6756547; omega⟩) hL (fun H locs hL => ?_)
  refine lv_aload_n hx hb dL_law_565 rfl (lv_at hl 2 rfl) ?_
  obtain ⟨M1, v1, ef5, -, t1, t2, hMM⟩ := m_firstError hMM hO
  refine l_rfi (v := v1) (S1 := M1) (hr := va_runV (As := []) (rest := [.int (nI (fe o.2.2.2.2 o.2.2.2.1))]) F (c_X5_firstError l D cy v_h ef5) (cwV 0 hts gL_law_X5_firstError rfl rfl rfl ⟨rfl, ph_X5_firstError.1, ph_X5_firstError.2, pd_X5_firstError⟩ ⟨Nat.le_of_ble_eq_true rfl, Nat.le_of_ble_eq_true rfl⟩) ⟨PcW.bl, (q_rcv hK.1 hL.2.1 v_h.1 (pF_5 (S := SM) v_h.2) rfl), PcW.in hK.1 hL.hwM (fun _ h9 => h9) (fun z9 => z9.elim)⟩ rfl rfl hl.1 rfl (lv_room (Nat.le_of_ble_eq_true rfl)) dL_law_566 ⟨by show _ ≤ 779852; omega, by show _ ≤ 6756547; omega⟩) hL (fun H locs hL => ?_)
  have t3 := t2 rfl
  subst t3
  refine lv_icmp_eq (tgt := 1621) hx hb dL_law_569 (by decide) (fun _ => ?_) (fun c8 => absurd rfl c8)
  refine W.widen (k := cells + 312) (n := slots + 1872) (by omega) (by omega) ?_
  exact K _ _ _ _ _ _ _ ⟨hO, hXX, hMM, hL, lv_sub hl [0, 1, 2, 3, 4] rfl⟩
set_option maxHeartbeats 4000000 in
set_option maxRecDepth 100000 in
theorem law_c23 {p : Program} {l : Launch} {e : Env} {s : State} {m : MethodId} {below : List Frame} {meth : Method} {c : Code} {b L : Nat} {xs : Nat → Int32} (hst : l.stackTraces = false) (C0 : lw_At p s m meth c b L xs) {D : va_G} {cy : cyT} {cL : ClassId} (hK : LK D cy cL s) {x h qo : Nat} {T : Nat → TR} {sa bu sc jo z sv bf rs : Nat} {x4 : Int32} (hi : vp_in (x4 + 1) L ∧ vp_in (x4 + 2) L ∧ vp_in (x4 + 3) L ∧ vp_in (x4 + 4) L) {cells slots : Nat} (hc : cells + 312 ≤ 779852) (hs : slots + 1872 ≤ 6756547) (K : LN p l e s m below meth c D cy cL b x h qo T sa bu sc jo z sv bf rs x4 (cells + 312) (slots + 1872) 1621) : LN p l e s m below meth c D cy cL b x h qo T sa bu sc jo z sv bf rs x4 cells slots 1553 := by
  intro o SX SM f H locs ls V
  obtain ⟨hO, hXX, hMM, hL, hl⟩ := V
  obtain ⟨hx, hb, hr, hml, hown, hts0, hX, hbl, hlocks, hgv⟩ := C0
  have hts : ∀ w ∈ wsL_law, w.before #[Value.ref b] s = true := fun w h => hts0 w (wsL_law_in w h)
  have hown : s.vm.findClass RL = some m.cls := hown
  have hb : c.code = cL_law := hb
  have F : CallFix p m c cL_law 9 s #[Value.ref b] wsL_law RL := ⟨hx, hb, hml, hown, hts⟩
  have hbA : ¬ (LL s) b := Nat.not_le.mpr hbl
  have v_x : vd SX x 4 := hXX.1.1
  have v_h : vd SM h 5 := hMM.1.1
  refine lv_aload_n hx hb dL_law_1553 rfl (lv_at hl 1 rfl) ?_
  have ef := x_blame (hXX.q hO)
  refine vp_callSi (va_runV (As := []) (rest := []) F (c_X4_blame l D cy (H := H) hL.1 v_x ef) (cwV 0 hts gL_law_X4_blame rfl rfl rfl ⟨rfl, ph_X4_blame.1, ph_X4_blame.2, pd_X4_blame⟩ ⟨Nat.le_of_ble_eq_true rfl, Nat.le_of_ble_eq_true rfl⟩) ⟨PcR.bl, (q_rcv hK.1 hL.1 v_x.1 (pF_4 (S := SX) v_x.2) rfl), PcR.in hK.1⟩ rfl rfl hl.1 rfl (lv_room (Nat.le_of_ble_eq_true rfl)) dL_law_1554 ⟨by show _ ≤ 779852; omega, by show _ ≤ 6756547; omega⟩).run (fun r9 er9 => ?_)
  subst er9
  refine lv_aload_n hx hb dL_law_1557 rfl (lv_at hl 2 rfl) ?_
  obtain ⟨M1, v1, ef5, -, t1, t2, hMM⟩ := m_blame hMM hO
  refine l_rfi (v := v1) (S1 := M1) (hr := va_runV (As := []) (rest := [.int (bst (blw o.1.2 o.1.1) 0 o.1.1).1]) F (c_X5_blame l D cy v_h ef5) (cwV 0 hts gL_law_X5_blame rfl rfl rfl ⟨rfl, ph_X5_blame.1, ph_X5_blame.2, pd_X5_blame⟩ ⟨Nat.le_of_ble_eq_true rfl, Nat.le_of_ble_eq_true rfl⟩) ⟨PcW.bl, (q_rcv hK.1 hL.2.1 v_h.1 (pF_5 (S := SM) v_h.2) rfl), PcW.in hK.1 hL.hwM (fun _ h9 => h9) (fun z9 => z9.elim)⟩ rfl rfl hl.1 rfl (lv_room (Nat.le_of_ble_eq_true rfl)) dL_law_1558 ⟨by show _ ≤ 779852; omega, by show _ ≤ 6756547; omega⟩) hL (fun H locs hL => ?_)
  have t3 := t2 rfl
  subst t3
  refine lv_icmp_eq (tgt := 1621) hx hb dL_law_1561 (by decide) (fun _ => ?_) (fun c8 => absurd rfl c8)
  refine W.widen (k := cells + 312) (n := slots + 1872) (by omega) (by omega) ?_
  exact K _ _ _ _ _ _ _ ⟨hO, hXX, hMM, hL, lv_sub hl [0, 1, 2, 3, 4] rfl⟩
set_option maxHeartbeats 4000000 in
set_option maxRecDepth 100000 in
theorem law_c25 {p : Program} {l : Launch} {e : Env} {s : State} {m : MethodId} {below : List Frame} {meth : Method} {c : Code} {b L : Nat} {xs : Nat → Int32} (hst : l.stackTraces = false) (C0 : lw_At p s m meth c b L xs) {D : va_G} {cy : cyT} {cL : ClassId} (hK : LK D cy cL s) {x h qo : Nat} {T : Nat → TR} {sa bu sc jo z sv bf rs : Nat} {x4 : Int32} (hi : vp_in (x4 + 1) L ∧ vp_in (x4 + 2) L ∧ vp_in (x4 + 3) L ∧ vp_in (x4 + 4) L) {cells slots : Nat} (hc : cells + 312 ≤ 779852) (hs : slots + 1872 ≤ 6756547) (K : LN p l e s m below meth c D cy cL b x h qo T sa bu sc jo z sv bf rs x4 (cells + 312) (slots + 1872) 1621) : LN p l e s m below meth c D cy cL b x h qo T sa bu sc jo z sv bf rs x4 cells slots 1607 := by
  intro o SX SM f H locs ls V
  obtain ⟨hO, hXX, hMM, hL, hl⟩ := V
  obtain ⟨hx, hb, hr, hml, hown, hts0, hX, hbl, hlocks, hgv⟩ := C0
  have hts : ∀ w ∈ wsL_law, w.before #[Value.ref b] s = true := fun w h => hts0 w (wsL_law_in w h)
  have hown : s.vm.findClass RL = some m.cls := hown
  have hb : c.code = cL_law := hb
  have F : CallFix p m c cL_law 9 s #[Value.ref b] wsL_law RL := ⟨hx, hb, hml, hown, hts⟩
  have hbA : ¬ (LL s) b := Nat.not_le.mpr hbl
  have v_x : vd SX x 4 := hXX.1.1
  have v_h : vd SM h 5 := hMM.1.1
  refine lv_aload_n hx hb dL_law_1607 rfl (lv_at hl 1 rfl) ?_
  obtain ⟨X1, n1, ef, hXX⟩ := x_digest hXX hO (wl_frn hL.1 rfl)
  refine l_cll (v := (dgs o)) (S1 := X1) (hr := va_runV (As := []) (rest := []) F (c_X4_digest l hst D cy v_x ef) (cwV 0 hts gL_law_X4_digest rfl rfl rfl ⟨rfl, ph_X4_digest.1, ph_X4_digest.2, pd_X4_digest⟩ ⟨Nat.le_of_ble_eq_true rfl, Nat.le_of_ble_eq_true rfl⟩) ⟨PcW.bl, (q_rcv hK.1 hL.1 v_x.1 (pF_4 (S := SX) v_x.2) rfl), PcW.in hK.1 hL.hwX (fun _ h9 => h9) (fun _ => hK.2.2.2)⟩ rfl rfl hl.1 rfl (lv_room (Nat.le_of_ble_eq_true rfl)) dL_law_1608 ⟨by show _ ≤ 779852; omega, by show _ ≤ 6756547; omega⟩) hL (fun H locs hL => ?_)
  refine lv_aload_n hx hb dL_law_1611 rfl (lv_at hl 2 rfl) ?_
  obtain ⟨M1, v1, ef5, -, t1, t2, hMM⟩ := m_digest hMM hO
  refine l_rfl (v := v1) (S1 := M1) (hr := va_runV (As := []) (rest := [.long (dgs o)]) F (c_X5_digest l D cy v_h ef5) (cwV 0 hts gL_law_X5_digest rfl rfl rfl ⟨rfl, ph_X5_digest.1, ph_X5_digest.2, pd_X5_digest⟩ ⟨Nat.le_of_ble_eq_true rfl, Nat.le_of_ble_eq_true rfl⟩) ⟨PcW.bl, (q_rcv hK.1 hL.2.1 v_h.1 (pF_5 (S := SM) v_h.2) rfl), PcW.in hK.1 hL.hwM (fun _ h9 => h9) (fun z9 => z9.elim)⟩ rfl rfl hl.1 rfl (lv_room (Nat.le_of_ble_eq_true rfl)) dL_law_1612 ⟨by show _ ≤ 779852; omega, by show _ ≤ 6756547; omega⟩) hL (fun H locs hL => ?_)
  have t3 := t2 rfl
  subst t3
  refine W.lcmp hx hb dL_law_1615 ?_
  refine lv_if_eq (tgt := 1621) hx hb dL_law_1616 (by decide) (fun _ => ?_) (fun c8 => absurd ((lq_eq _ _).mpr rfl) c8)
  refine W.widen (k := cells + 312) (n := slots + 1872) (by omega) (by omega) ?_
  exact K _ _ _ _ _ _ _ ⟨hO, hXX, hMM, hL, lv_sub hl [0, 1, 2, 3, 4] rfl⟩

set_option maxHeartbeats 4000000 in
set_option maxRecDepth 100000 in
theorem law_c1 {p : Program} {l : Launch} {e : Env} {s : State} {m : MethodId} {below : List Frame} {meth : Method} {c : Code} {b L : Nat} {xs : Nat → Int32} (hst : l.stackTraces = false) (C0 : lw_At p s m meth c b L xs) {D : va_G} {cy : cyT} {cL : ClassId} (hK : LK D cy cL s) {x h qo : Nat} {T : Nat → TR} {sa bu sc jo z sv bf rs : Nat} {x4 : Int32} (hi : vp_in (x4 + 1) L ∧ vp_in (x4 + 2) L ∧ vp_in (x4 + 3) L ∧ vp_in (x4 + 4) L) {cells slots : Nat} (hc : cells + 312 ≤ 779852) (hs : slots + 1872 ≤ 6756547) (K : LN p l e s m below meth c D cy cL b x h qo T sa bu sc jo z sv bf rs x4 (cells + 312) (slots + 1872) 1621) : LN p l e s m below meth c D cy cL b x h qo T sa bu sc jo z sv bf rs x4 cells slots 236 := by
  intro o SX SM f H locs ls V
  obtain ⟨hO, hXX, hMM, hL, hl⟩ := V
  obtain ⟨hx, hb, hr, hml, hown, hts0, hX, hbl, hlocks, hgv⟩ := C0
  have hts : ∀ w ∈ wsL_law, w.before #[Value.ref b] s = true := fun w h => hts0 w (wsL_law_in w h)
  have hown : s.vm.findClass RL = some m.cls := hown
  have hb : c.code = cL_law := hb
  have F : CallFix p m c cL_law 9 s #[Value.ref b] wsL_law RL := ⟨hx, hb, hml, hown, hts⟩
  have hbA : ¬ (LL s) b := Nat.not_le.mpr hbl
  have v_x : vd SX x 4 := hXX.1.1
  have v_h : vd SM h 5 := hMM.1.1
  obtain ⟨a1, ea1⟩ : ∃ y9 : Int32, xs (x4 + 1).toNatClampNeg = y9 := ⟨_, rfl⟩
  refine lv_aload_n hx hb dL_law_236 rfl (lv_at hl 1 rfl) ?_
  refine l_ld hx hb hX hbl hbA hL.S (lv_at hl 0 rfl) (lv_at hl 4 rfl) dL_law_237 dL_law_238 dL_law_240 dL_law_241 dL_law_242 (by decide) hi.1 ea1 ?_
  refine lv_aload_n hx hb dL_law_243 rfl (lv_at hl 3 rfl) ?_
  have hXr := x_remove hXX hO a1
  refine l_wrap (hr := vx_runSW (As := [.ref x, .int a1, .ref qo]) (rest := []) F (c_L_remove l hst D cy cL v_x hXr r_remove1) (vx_cwSW 3 hts gL_law_L_remove rfl rfl rfl ⟨by decide, by decide, by decide +kernel⟩ ⟨Nat.le_of_ble_eq_true rfl, Nat.le_of_ble_eq_true rfl⟩) ⟨PcL.bl, PcL.in hK hL⟩ rfl rfl hl.1 rfl (lv_room (Nat.le_of_ble_eq_true rfl)) dL_law_244 ⟨by show _ ≤ 779852; omega, by show _ ≤ 6756547; omega⟩) hL (fun r u H locs hp hL => ?_)
  obtain ⟨er, hXX, hv⟩ := hp
  subst er
  refine lv_istore (lv' := [(5, .int (nI (o_remove o a1).1)), (0, .ref b), (1, .ref x), (2, .ref h), (3, .ref qo), (4, .int x4)]) hx hb dL_law_247 hl (by decide) rfl (fun ls hl => ?_)
  refine lv_aload_n hx hb dL_law_249 rfl (lv_at hl 3 rfl) ?_
  refine l_ld hx hb hX hbl hbA hL.S (lv_at hl 1 rfl) (lv_at hl 5 rfl) dL_law_250 dL_law_251 dL_law_253 dL_law_254 dL_law_255 (by decide) hi.1 ea1 ?_
  obtain ⟨M1, v1, ef, -, t1, t2, hMM⟩ := m_remove hMM hO a1
  refine l_rfi (v := v1) (S1 := M1) (hr := va_runV (As := [.int a1]) (rest := []) F (c_X5_remove l D cy v_h ef) (cwV 1 hts gL_law_X5_remove rfl rfl rfl ⟨rfl, ph_X5_remove.1, ph_X5_remove.2, pd_X5_remove⟩ ⟨Nat.le_of_ble_eq_true rfl, Nat.le_of_ble_eq_true rfl⟩) ⟨PcW.bl, (q_rcv hK.1 hL.2.1 v_h.1 (pF_5 (S := SM) v_h.2) rfl), PcW.in hK.1 hL.hwM (fun _ h9 => h9) (fun z9 => z9.elim)⟩ rfl rfl hl.1 rfl (lv_room (Nat.le_of_ble_eq_true rfl)) dL_law_256 ⟨by show _ ≤ 779852; omega, by show _ ≤ 6756547; omega⟩) hL (fun H locs hL => ?_)
  have v_h : vd M1 h 5 := hMM.1.1
  refine lv_istore (lv' := [(6, .int v1), (5, .int (nI (o_remove o a1).1)), (0, .ref b), (1, .ref x), (2, .ref h), (3, .ref qo), (4, .int x4)]) hx hb dL_law_259 hl (by decide) rfl (fun ls hl => ?_)
  refine lv_aload_n hx hb dL_law_261 rfl (lv_at hl 4 rfl) ?_
  refine vp_callSi (va_runV (As := []) (rest := []) F (c_X5_thrown l D cy (H := H) (S := M1) hL.2.1 v_h (res := fI M1 80 h) rfl) (cwV 0 hts gL_law_X5_thrown rfl rfl rfl ⟨rfl, ph_X5_thrown.1, ph_X5_thrown.2, pd_X5_thrown⟩ ⟨Nat.le_of_ble_eq_true rfl, Nat.le_of_ble_eq_true rfl⟩) ⟨PcR.bl, (q_rcv hK.1 hL.2.1 v_h.1 (pF_5 (S := M1) v_h.2) rfl), PcR.in hK.1⟩ rfl rfl hl.1 rfl (lv_room (Nat.le_of_ble_eq_true rfl)) dL_law_262 ⟨by show _ ≤ 779852; omega, by show _ ≤ 6756547; omega⟩).run (fun r9 er9 => ?_)
  subst er9
  refine lv_iload hx hb dL_law_265 (lv_at hl 1 rfl) ?_
  refine lv_icmp_eq (tgt := 272) hx hb dL_law_267 (by decide) (fun _ => ?_) (fun c9 => absurd t1 c9)
  refine lv_iload hx hb dL_law_272 (lv_at hl 1 rfl) ?_
  refine lv_if_ne (tgt := 289) hx hb dL_law_274 (by decide) (fun c9 => ?_) (fun c9 => ?_)
  · refine lv_goto (tgt := 1621) hx hb dL_law_289 (by decide) ?_
    refine W.widen (k := cells + 312) (n := slots + 1872) (by omega) (by omega) ?_
    exact K _ _ _ _ _ _ _ ⟨o_remove_ok hO a1, hXX, hMM, hL, lv_sub hl [2, 3, 4, 5, 6] rfl⟩
  · have hz : (o_remove o a1).1 = 0 := (nI_n0 (xg_le hXr)).mp c9
    refine lv_aload_n hx hb dL_law_277 rfl (lv_at hl 5 rfl) ?_
    refine lv_iconst (v := 0) hx hb dL_law_278 (by decide) ?_
    refine va_lald hx hb hK.2.1 hL.O 0 0 rfl rfl (i := 0) (by unfold vp_in; decide) dL_law_279 ?_
    refine lv_iload hx hb dL_law_280 (lv_at hl 0 rfl) ?_
    refine lv_i2l hx hb dL_law_282 rfl ?_
    refine W.lcmp hx hb dL_law_283 ?_
    refine lv_if_eq (tgt := 289) hx hb dL_law_284 (by decide) (fun _ => ?_) (fun c8 => absurd ((lq_eq _ _).mpr (by rw [t2 hz]; exact hv hz)) c8)
    refine lv_goto (tgt := 1621) hx hb dL_law_289 (by decide) ?_
    refine W.widen (k := cells + 312) (n := slots + 1872) (by omega) (by omega) ?_
    exact K _ _ _ _ _ _ _ ⟨o_remove_ok hO a1, hXX, hMM, hL, lv_sub hl [2, 3, 4, 5, 6] rfl⟩
set_option maxHeartbeats 4000000 in
set_option maxRecDepth 100000 in
theorem law_c2 {p : Program} {l : Launch} {e : Env} {s : State} {m : MethodId} {below : List Frame} {meth : Method} {c : Code} {b L : Nat} {xs : Nat → Int32} (hst : l.stackTraces = false) (C0 : lw_At p s m meth c b L xs) {D : va_G} {cy : cyT} {cL : ClassId} (hK : LK D cy cL s) {x h qo : Nat} {T : Nat → TR} {sa bu sc jo z sv bf rs : Nat} {x4 : Int32} (hi : vp_in (x4 + 1) L ∧ vp_in (x4 + 2) L ∧ vp_in (x4 + 3) L ∧ vp_in (x4 + 4) L) {cells slots : Nat} (hc : cells + 312 ≤ 779852) (hs : slots + 1872 ≤ 6756547) (K : LN p l e s m below meth c D cy cL b x h qo T sa bu sc jo z sv bf rs x4 (cells + 312) (slots + 1872) 1621) : LN p l e s m below meth c D cy cL b x h qo T sa bu sc jo z sv bf rs x4 cells slots 292 := by
  intro o SX SM f H locs ls V
  obtain ⟨hO, hXX, hMM, hL, hl⟩ := V
  obtain ⟨hx, hb, hr, hml, hown, hts0, hX, hbl, hlocks, hgv⟩ := C0
  have hts : ∀ w ∈ wsL_law, w.before #[Value.ref b] s = true := fun w h => hts0 w (wsL_law_in w h)
  have hown : s.vm.findClass RL = some m.cls := hown
  have hb : c.code = cL_law := hb
  have F : CallFix p m c cL_law 9 s #[Value.ref b] wsL_law RL := ⟨hx, hb, hml, hown, hts⟩
  have hbA : ¬ (LL s) b := Nat.not_le.mpr hbl
  have v_x : vd SX x 4 := hXX.1.1
  have v_h : vd SM h 5 := hMM.1.1
  obtain ⟨a1, ea1⟩ : ∃ y9 : Int32, xs (x4 + 1).toNatClampNeg = y9 := ⟨_, rfl⟩
  refine lv_aload_n hx hb dL_law_292 rfl (lv_at hl 1 rfl) ?_
  refine l_ld hx hb hX hbl hbA hL.S (lv_at hl 0 rfl) (lv_at hl 4 rfl) dL_law_293 dL_law_294 dL_law_296 dL_law_297 dL_law_298 (by decide) hi.1 ea1 ?_
  refine lv_aload_n hx hb dL_law_299 rfl (lv_at hl 3 rfl) ?_
  have hXr := x_toggle hXX hO a1
  refine l_wrap (hr := vx_runSW (As := [.ref x, .int a1, .ref qo]) (rest := []) F (c_L_toggle l hst D cy cL v_x hXr) (vx_cwSW 3 hts gL_law_L_toggle rfl rfl rfl ⟨by decide, by decide, by decide +kernel⟩ ⟨Nat.le_of_ble_eq_true rfl, Nat.le_of_ble_eq_true rfl⟩) ⟨PcL.bl, PcL.in hK hL⟩ rfl rfl hl.1 rfl (lv_room (Nat.le_of_ble_eq_true rfl)) dL_law_300 ⟨by show _ ≤ 779852; omega, by show _ ≤ 6756547; omega⟩) hL (fun r u H locs hp hL => ?_)
  obtain ⟨er, hXX, hv⟩ := hp
  subst er
  refine lv_istore (lv' := [(5, .int (nI (o_toggle o a1).1)), (0, .ref b), (1, .ref x), (2, .ref h), (3, .ref qo), (4, .int x4)]) hx hb dL_law_303 hl (by decide) rfl (fun ls hl => ?_)
  refine lv_aload_n hx hb dL_law_305 rfl (lv_at hl 3 rfl) ?_
  refine l_ld hx hb hX hbl hbA hL.S (lv_at hl 1 rfl) (lv_at hl 5 rfl) dL_law_306 dL_law_307 dL_law_309 dL_law_310 dL_law_311 (by decide) hi.1 ea1 ?_
  obtain ⟨M1, v1, ef, -, t1, t2, hMM⟩ := m_toggle hMM hO a1
  refine l_rfi (v := v1) (S1 := M1) (hr := va_runV (As := [.int a1]) (rest := []) F (c_X5_toggle l D cy v_h ef) (cwV 1 hts gL_law_X5_toggle rfl rfl rfl ⟨rfl, ph_X5_toggle.1, ph_X5_toggle.2, pd_X5_toggle⟩ ⟨Nat.le_of_ble_eq_true rfl, Nat.le_of_ble_eq_true rfl⟩) ⟨PcW.bl, (q_rcv hK.1 hL.2.1 v_h.1 (pF_5 (S := SM) v_h.2) rfl), PcW.in hK.1 hL.hwM (fun _ h9 => h9) (fun z9 => z9.elim)⟩ rfl rfl hl.1 rfl (lv_room (Nat.le_of_ble_eq_true rfl)) dL_law_312 ⟨by show _ ≤ 779852; omega, by show _ ≤ 6756547; omega⟩) hL (fun H locs hL => ?_)
  have v_h : vd M1 h 5 := hMM.1.1
  refine lv_istore (lv' := [(6, .int v1), (5, .int (nI (o_toggle o a1).1)), (0, .ref b), (1, .ref x), (2, .ref h), (3, .ref qo), (4, .int x4)]) hx hb dL_law_315 hl (by decide) rfl (fun ls hl => ?_)
  refine lv_aload_n hx hb dL_law_317 rfl (lv_at hl 4 rfl) ?_
  refine vp_callSi (va_runV (As := []) (rest := []) F (c_X5_thrown l D cy (H := H) (S := M1) hL.2.1 v_h (res := fI M1 80 h) rfl) (cwV 0 hts gL_law_X5_thrown rfl rfl rfl ⟨rfl, ph_X5_thrown.1, ph_X5_thrown.2, pd_X5_thrown⟩ ⟨Nat.le_of_ble_eq_true rfl, Nat.le_of_ble_eq_true rfl⟩) ⟨PcR.bl, (q_rcv hK.1 hL.2.1 v_h.1 (pF_5 (S := M1) v_h.2) rfl), PcR.in hK.1⟩ rfl rfl hl.1 rfl (lv_room (Nat.le_of_ble_eq_true rfl)) dL_law_318 ⟨by show _ ≤ 779852; omega, by show _ ≤ 6756547; omega⟩).run (fun r9 er9 => ?_)
  subst er9
  refine lv_iload hx hb dL_law_321 (lv_at hl 1 rfl) ?_
  refine lv_icmp_eq (tgt := 328) hx hb dL_law_323 (by decide) (fun _ => ?_) (fun c9 => absurd t1 c9)
  refine lv_iload hx hb dL_law_328 (lv_at hl 1 rfl) ?_
  refine lv_if_ne (tgt := 345) hx hb dL_law_330 (by decide) (fun c9 => ?_) (fun c9 => ?_)
  · refine lv_goto (tgt := 1621) hx hb dL_law_345 (by decide) ?_
    refine W.widen (k := cells + 312) (n := slots + 1872) (by omega) (by omega) ?_
    exact K _ _ _ _ _ _ _ ⟨o_toggle_ok hO a1, hXX, hMM, hL, lv_sub hl [2, 3, 4, 5, 6] rfl⟩
  · have hz : (o_toggle o a1).1 = 0 := (nI_n0 (xg_le hXr)).mp c9
    refine lv_aload_n hx hb dL_law_333 rfl (lv_at hl 5 rfl) ?_
    refine lv_iconst (v := 0) hx hb dL_law_334 (by decide) ?_
    refine va_lald hx hb hK.2.1 hL.O 0 0 rfl rfl (i := 0) (by unfold vp_in; decide) dL_law_335 ?_
    refine lv_iload hx hb dL_law_336 (lv_at hl 0 rfl) ?_
    refine lv_i2l hx hb dL_law_338 rfl ?_
    refine W.lcmp hx hb dL_law_339 ?_
    refine lv_if_eq (tgt := 345) hx hb dL_law_340 (by decide) (fun _ => ?_) (fun c8 => absurd ((lq_eq _ _).mpr (by rw [t2 hz]; exact hv hz)) c8)
    refine lv_goto (tgt := 1621) hx hb dL_law_345 (by decide) ?_
    refine W.widen (k := cells + 312) (n := slots + 1872) (by omega) (by omega) ?_
    exact K _ _ _ _ _ _ _ ⟨o_toggle_ok hO a1, hXX, hMM, hL, lv_sub hl [2, 3, 4, 5, 6] rfl⟩
set_option maxHeartbeats 4000000 in
set_option maxRecDepth 100000 in
theorem law_c3 {p : Program} {l : Launch} {e : Env} {s : State} {m : MethodId} {below : List Frame} {meth : Method} {c : Code} {b L : Nat} {xs : Nat → Int32} (hst : l.stackTraces = false) (C0 : lw_At p s m meth c b L xs) {D : va_G} {cy : cyT} {cL : ClassId} (hK : LK D cy cL s) {x h qo : Nat} {T : Nat → TR} {sa bu sc jo z sv bf rs : Nat} {x4 : Int32} (hi : vp_in (x4 + 1) L ∧ vp_in (x4 + 2) L ∧ vp_in (x4 + 3) L ∧ vp_in (x4 + 4) L) {cells slots : Nat} (hc : cells + 312 ≤ 779852) (hs : slots + 1872 ≤ 6756547) (K : LN p l e s m below meth c D cy cL b x h qo T sa bu sc jo z sv bf rs x4 (cells + 312) (slots + 1872) 1621) : LN p l e s m below meth c D cy cL b x h qo T sa bu sc jo z sv bf rs x4 cells slots 348 := by
  intro o SX SM f H locs ls V
  obtain ⟨hO, hXX, hMM, hL, hl⟩ := V
  obtain ⟨hx, hb, hr, hml, hown, hts0, hX, hbl, hlocks, hgv⟩ := C0
  have hts : ∀ w ∈ wsL_law, w.before #[Value.ref b] s = true := fun w h => hts0 w (wsL_law_in w h)
  have hown : s.vm.findClass RL = some m.cls := hown
  have hb : c.code = cL_law := hb
  have F : CallFix p m c cL_law 9 s #[Value.ref b] wsL_law RL := ⟨hx, hb, hml, hown, hts⟩
  have hbA : ¬ (LL s) b := Nat.not_le.mpr hbl
  have v_x : vd SX x 4 := hXX.1.1
  have v_h : vd SM h 5 := hMM.1.1
  obtain ⟨a1, ea1⟩ : ∃ y9 : Int32, xs (x4 + 1).toNatClampNeg = y9 := ⟨_, rfl⟩
  refine lv_aload_n hx hb dL_law_348 rfl (lv_at hl 1 rfl) ?_
  refine l_ld hx hb hX hbl hbA hL.S (lv_at hl 0 rfl) (lv_at hl 4 rfl) dL_law_349 dL_law_350 dL_law_352 dL_law_353 dL_law_354 (by decide) hi.1 ea1 ?_
  refine lv_aload_n hx hb dL_law_355 rfl (lv_at hl 3 rfl) ?_
  have hXr := x_bare hXX hO (wl_frn hL.1 rfl) a1
  refine l_wrap (hr := vx_runSW (As := [.ref x, .int a1, .ref qo]) (rest := []) F (c_L_bare l hst D cy cL v_x hXr) (vx_cwSW 3 hts gL_law_L_bare rfl rfl rfl ⟨by decide, by decide, by decide +kernel⟩ ⟨Nat.le_of_ble_eq_true rfl, Nat.le_of_ble_eq_true rfl⟩) ⟨PcL.bl, PcL.in hK hL⟩ rfl rfl hl.1 rfl (lv_room (Nat.le_of_ble_eq_true rfl)) dL_law_356 ⟨by show _ ≤ 779852; omega, by show _ ≤ 6756547; omega⟩) hL (fun r u H locs hp hL => ?_)
  obtain ⟨er, hXX, hv⟩ := hp
  subst er
  refine lv_istore (lv' := [(5, .int (nI (o_bare o a1).1)), (0, .ref b), (1, .ref x), (2, .ref h), (3, .ref qo), (4, .int x4)]) hx hb dL_law_359 hl (by decide) rfl (fun ls hl => ?_)
  refine lv_aload_n hx hb dL_law_361 rfl (lv_at hl 3 rfl) ?_
  refine l_ld hx hb hX hbl hbA hL.S (lv_at hl 1 rfl) (lv_at hl 5 rfl) dL_law_362 dL_law_363 dL_law_365 dL_law_366 dL_law_367 (by decide) hi.1 ea1 ?_
  obtain ⟨M1, v1, ef, -, t1, t2, hMM⟩ := m_bare hMM hO a1
  refine l_rfi (v := v1) (S1 := M1) (hr := va_runV (As := [.int a1]) (rest := []) F (c_X5_bare l D cy v_h ef) (cwV 1 hts gL_law_X5_bare rfl rfl rfl ⟨rfl, ph_X5_bare.1, ph_X5_bare.2, pd_X5_bare⟩ ⟨Nat.le_of_ble_eq_true rfl, Nat.le_of_ble_eq_true rfl⟩) ⟨PcW.bl, (q_rcv hK.1 hL.2.1 v_h.1 (pF_5 (S := SM) v_h.2) rfl), PcW.in hK.1 hL.hwM (fun _ h9 => h9) (fun z9 => z9.elim)⟩ rfl rfl hl.1 rfl (lv_room (Nat.le_of_ble_eq_true rfl)) dL_law_368 ⟨by show _ ≤ 779852; omega, by show _ ≤ 6756547; omega⟩) hL (fun H locs hL => ?_)
  have v_h : vd M1 h 5 := hMM.1.1
  refine lv_istore (lv' := [(6, .int v1), (5, .int (nI (o_bare o a1).1)), (0, .ref b), (1, .ref x), (2, .ref h), (3, .ref qo), (4, .int x4)]) hx hb dL_law_371 hl (by decide) rfl (fun ls hl => ?_)
  refine lv_aload_n hx hb dL_law_373 rfl (lv_at hl 4 rfl) ?_
  refine vp_callSi (va_runV (As := []) (rest := []) F (c_X5_thrown l D cy (H := H) (S := M1) hL.2.1 v_h (res := fI M1 80 h) rfl) (cwV 0 hts gL_law_X5_thrown rfl rfl rfl ⟨rfl, ph_X5_thrown.1, ph_X5_thrown.2, pd_X5_thrown⟩ ⟨Nat.le_of_ble_eq_true rfl, Nat.le_of_ble_eq_true rfl⟩) ⟨PcR.bl, (q_rcv hK.1 hL.2.1 v_h.1 (pF_5 (S := M1) v_h.2) rfl), PcR.in hK.1⟩ rfl rfl hl.1 rfl (lv_room (Nat.le_of_ble_eq_true rfl)) dL_law_374 ⟨by show _ ≤ 779852; omega, by show _ ≤ 6756547; omega⟩).run (fun r9 er9 => ?_)
  subst er9
  refine lv_iload hx hb dL_law_377 (lv_at hl 1 rfl) ?_
  refine lv_icmp_eq (tgt := 384) hx hb dL_law_379 (by decide) (fun _ => ?_) (fun c9 => absurd t1 c9)
  refine lv_iload hx hb dL_law_384 (lv_at hl 1 rfl) ?_
  refine lv_if_ne (tgt := 401) hx hb dL_law_386 (by decide) (fun c9 => ?_) (fun c9 => ?_)
  · refine lv_goto (tgt := 1621) hx hb dL_law_401 (by decide) ?_
    refine W.widen (k := cells + 312) (n := slots + 1872) (by omega) (by omega) ?_
    exact K _ _ _ _ _ _ _ ⟨o_bare_ok hO a1, hXX, hMM, hL, lv_sub hl [2, 3, 4, 5, 6] rfl⟩
  · have hz : (o_bare o a1).1 = 0 := (nI_n0 (xn_le hXr)).mp c9
    refine lv_aload_n hx hb dL_law_389 rfl (lv_at hl 5 rfl) ?_
    refine lv_iconst (v := 0) hx hb dL_law_390 (by decide) ?_
    refine va_lald hx hb hK.2.1 hL.O 0 0 rfl rfl (i := 0) (by unfold vp_in; decide) dL_law_391 ?_
    refine lv_iload hx hb dL_law_392 (lv_at hl 0 rfl) ?_
    refine lv_i2l hx hb dL_law_394 rfl ?_
    refine W.lcmp hx hb dL_law_395 ?_
    refine lv_if_eq (tgt := 401) hx hb dL_law_396 (by decide) (fun _ => ?_) (fun c8 => absurd ((lq_eq _ _).mpr (by rw [t2 hz]; exact hv hz)) c8)
    refine lv_goto (tgt := 1621) hx hb dL_law_401 (by decide) ?_
    refine W.widen (k := cells + 312) (n := slots + 1872) (by omega) (by omega) ?_
    exact K _ _ _ _ _ _ _ ⟨o_bare_ok hO a1, hXX, hMM, hL, lv_sub hl [2, 3, 4, 5, 6] rfl⟩
set_option maxHeartbeats 4000000 in
set_option maxRecDepth 100000 in
theorem law_c4 {p : Program} {l : Launch} {e : Env} {s : State} {m : MethodId} {below : List Frame} {meth : Method} {c : Code} {b L : Nat} {xs : Nat → Int32} (hst : l.stackTraces = false) (C0 : lw_At p s m meth c b L xs) {D : va_G} {cy : cyT} {cL : ClassId} (hK : LK D cy cL s) {x h qo : Nat} {T : Nat → TR} {sa bu sc jo z sv bf rs : Nat} {x4 : Int32} (hi : vp_in (x4 + 1) L ∧ vp_in (x4 + 2) L ∧ vp_in (x4 + 3) L ∧ vp_in (x4 + 4) L) {cells slots : Nat} (hc : cells + 312 ≤ 779852) (hs : slots + 1872 ≤ 6756547) (K : LN p l e s m below meth c D cy cL b x h qo T sa bu sc jo z sv bf rs x4 (cells + 312) (slots + 1872) 1621) : LN p l e s m below meth c D cy cL b x h qo T sa bu sc jo z sv bf rs x4 cells slots 404 := by
  intro o SX SM f H locs ls V
  obtain ⟨hO, hXX, hMM, hL, hl⟩ := V
  obtain ⟨hx, hb, hr, hml, hown, hts0, hX, hbl, hlocks, hgv⟩ := C0
  have hts : ∀ w ∈ wsL_law, w.before #[Value.ref b] s = true := fun w h => hts0 w (wsL_law_in w h)
  have hown : s.vm.findClass RL = some m.cls := hown
  have hb : c.code = cL_law := hb
  have F : CallFix p m c cL_law 9 s #[Value.ref b] wsL_law RL := ⟨hx, hb, hml, hown, hts⟩
  have hbA : ¬ (LL s) b := Nat.not_le.mpr hbl
  have v_x : vd SX x 4 := hXX.1.1
  have v_h : vd SM h 5 := hMM.1.1
  refine lv_aload_n hx hb dL_law_404 rfl (lv_at hl 1 rfl) ?_
  refine lv_aload_n hx hb dL_law_405 rfl (lv_at hl 3 rfl) ?_
  have hXr := x_thin hXX hO
  refine l_wrap (hr := vx_runSW (As := [.ref x, .ref qo]) (rest := []) F (c_L_thin l hst D cy cL v_x hXr r_thin1) (vx_cwSW 2 hts gL_law_L_thin rfl rfl rfl ⟨by decide, by decide, by decide +kernel⟩ ⟨Nat.le_of_ble_eq_true rfl, Nat.le_of_ble_eq_true rfl⟩) ⟨PcL.bl, PcL.in hK hL⟩ rfl rfl hl.1 rfl (lv_room (Nat.le_of_ble_eq_true rfl)) dL_law_406 ⟨by show _ ≤ 779852; omega, by show _ ≤ 6756547; omega⟩) hL (fun r u H locs hp hL => ?_)
  obtain ⟨er, hXX, hv⟩ := hp
  subst er
  refine lv_istore (lv' := [(5, .int (nI (o_thin o).1)), (0, .ref b), (1, .ref x), (2, .ref h), (3, .ref qo), (4, .int x4)]) hx hb dL_law_409 hl (by decide) rfl (fun ls hl => ?_)
  refine lv_aload_n hx hb dL_law_411 rfl (lv_at hl 3 rfl) ?_
  obtain ⟨M1, v1, ef, -, t1, t2, hMM⟩ := m_thin hMM hO
  refine l_rfi (v := v1) (S1 := M1) (hr := va_runV (As := []) (rest := []) F (c_X5_thin l D cy v_h ef) (cwV 0 hts gL_law_X5_thin rfl rfl rfl ⟨rfl, ph_X5_thin.1, ph_X5_thin.2, pd_X5_thin⟩ ⟨Nat.le_of_ble_eq_true rfl, Nat.le_of_ble_eq_true rfl⟩) ⟨PcW.bl, (q_rcv hK.1 hL.2.1 v_h.1 (pF_5 (S := SM) v_h.2) rfl), PcW.in hK.1 hL.hwM (fun _ h9 => h9) (fun z9 => z9.elim)⟩ rfl rfl hl.1 rfl (lv_room (Nat.le_of_ble_eq_true rfl)) dL_law_412 ⟨by show _ ≤ 779852; omega, by show _ ≤ 6756547; omega⟩) hL (fun H locs hL => ?_)
  have v_h : vd M1 h 5 := hMM.1.1
  refine lv_istore (lv' := [(6, .int v1), (5, .int (nI (o_thin o).1)), (0, .ref b), (1, .ref x), (2, .ref h), (3, .ref qo), (4, .int x4)]) hx hb dL_law_415 hl (by decide) rfl (fun ls hl => ?_)
  refine lv_aload_n hx hb dL_law_417 rfl (lv_at hl 4 rfl) ?_
  refine vp_callSi (va_runV (As := []) (rest := []) F (c_X5_thrown l D cy (H := H) (S := M1) hL.2.1 v_h (res := fI M1 80 h) rfl) (cwV 0 hts gL_law_X5_thrown rfl rfl rfl ⟨rfl, ph_X5_thrown.1, ph_X5_thrown.2, pd_X5_thrown⟩ ⟨Nat.le_of_ble_eq_true rfl, Nat.le_of_ble_eq_true rfl⟩) ⟨PcR.bl, (q_rcv hK.1 hL.2.1 v_h.1 (pF_5 (S := M1) v_h.2) rfl), PcR.in hK.1⟩ rfl rfl hl.1 rfl (lv_room (Nat.le_of_ble_eq_true rfl)) dL_law_418 ⟨by show _ ≤ 779852; omega, by show _ ≤ 6756547; omega⟩).run (fun r9 er9 => ?_)
  subst er9
  refine lv_iload hx hb dL_law_421 (lv_at hl 1 rfl) ?_
  refine lv_icmp_eq (tgt := 428) hx hb dL_law_423 (by decide) (fun _ => ?_) (fun c9 => absurd t1 c9)
  refine lv_iload hx hb dL_law_428 (lv_at hl 1 rfl) ?_
  refine lv_if_ne (tgt := 445) hx hb dL_law_430 (by decide) (fun c9 => ?_) (fun c9 => ?_)
  · refine lv_goto (tgt := 1621) hx hb dL_law_445 (by decide) ?_
    refine W.widen (k := cells + 312) (n := slots + 1872) (by omega) (by omega) ?_
    exact K _ _ _ _ _ _ _ ⟨o_thin_ok hO, hXX, hMM, hL, lv_sub hl [2, 3, 4, 5, 6] rfl⟩
  · have hz : (o_thin o).1 = 0 := (nI_n0 (xg_le hXr)).mp c9
    refine lv_aload_n hx hb dL_law_433 rfl (lv_at hl 5 rfl) ?_
    refine lv_iconst (v := 0) hx hb dL_law_434 (by decide) ?_
    refine va_lald hx hb hK.2.1 hL.O 0 0 rfl rfl (i := 0) (by unfold vp_in; decide) dL_law_435 ?_
    refine lv_iload hx hb dL_law_436 (lv_at hl 0 rfl) ?_
    refine lv_i2l hx hb dL_law_438 rfl ?_
    refine W.lcmp hx hb dL_law_439 ?_
    refine lv_if_eq (tgt := 445) hx hb dL_law_440 (by decide) (fun _ => ?_) (fun c8 => absurd ((lq_eq _ _).mpr (by rw [t2 hz]; exact hv hz)) c8)
    refine lv_goto (tgt := 1621) hx hb dL_law_445 (by decide) ?_
    refine W.widen (k := cells + 312) (n := slots + 1872) (by omega) (by omega) ?_
    exact K _ _ _ _ _ _ _ ⟨o_thin_ok hO, hXX, hMM, hL, lv_sub hl [2, 3, 4, 5, 6] rfl⟩
set_option maxHeartbeats 4000000 in
set_option maxRecDepth 100000 in
theorem law_c5 {p : Program} {l : Launch} {e : Env} {s : State} {m : MethodId} {below : List Frame} {meth : Method} {c : Code} {b L : Nat} {xs : Nat → Int32} (hst : l.stackTraces = false) (C0 : lw_At p s m meth c b L xs) {D : va_G} {cy : cyT} {cL : ClassId} (hK : LK D cy cL s) {x h qo : Nat} {T : Nat → TR} {sa bu sc jo z sv bf rs : Nat} {x4 : Int32} (hi : vp_in (x4 + 1) L ∧ vp_in (x4 + 2) L ∧ vp_in (x4 + 3) L ∧ vp_in (x4 + 4) L) {cells slots : Nat} (hc : cells + 312 ≤ 779852) (hs : slots + 1872 ≤ 6756547) (K : LN p l e s m below meth c D cy cL b x h qo T sa bu sc jo z sv bf rs x4 (cells + 312) (slots + 1872) 1621) : LN p l e s m below meth c D cy cL b x h qo T sa bu sc jo z sv bf rs x4 cells slots 448 := by
  intro o SX SM f H locs ls V
  obtain ⟨hO, hXX, hMM, hL, hl⟩ := V
  obtain ⟨hx, hb, hr, hml, hown, hts0, hX, hbl, hlocks, hgv⟩ := C0
  have hts : ∀ w ∈ wsL_law, w.before #[Value.ref b] s = true := fun w h => hts0 w (wsL_law_in w h)
  have hown : s.vm.findClass RL = some m.cls := hown
  have hb : c.code = cL_law := hb
  have F : CallFix p m c cL_law 9 s #[Value.ref b] wsL_law RL := ⟨hx, hb, hml, hown, hts⟩
  have hbA : ¬ (LL s) b := Nat.not_le.mpr hbl
  have v_x : vd SX x 4 := hXX.1.1
  have v_h : vd SM h 5 := hMM.1.1
  refine lv_aload_n hx hb dL_law_448 rfl (lv_at hl 1 rfl) ?_
  refine lv_aload_n hx hb dL_law_449 rfl (lv_at hl 3 rfl) ?_
  have hXr := x_agree hXX hO
  refine l_wrap (hr := vx_runSW (As := [.ref x, .ref qo]) (rest := []) F (c_L_agree l hst D cy cL v_x hXr r_agree1) (vx_cwSW 2 hts gL_law_L_agree rfl rfl rfl ⟨by decide, by decide, by decide +kernel⟩ ⟨Nat.le_of_ble_eq_true rfl, Nat.le_of_ble_eq_true rfl⟩) ⟨PcL.bl, PcL.in hK hL⟩ rfl rfl hl.1 rfl (lv_room (Nat.le_of_ble_eq_true rfl)) dL_law_450 ⟨by show _ ≤ 779852; omega, by show _ ≤ 6756547; omega⟩) hL (fun r u H locs hp hL => ?_)
  obtain ⟨er, hXX, hv⟩ := hp
  subst er
  refine lv_istore (lv' := [(5, .int (nI (o_agree o).1)), (0, .ref b), (1, .ref x), (2, .ref h), (3, .ref qo), (4, .int x4)]) hx hb dL_law_453 hl (by decide) rfl (fun ls hl => ?_)
  refine lv_aload_n hx hb dL_law_455 rfl (lv_at hl 3 rfl) ?_
  obtain ⟨M1, v1, ef, -, t1, t2, hMM⟩ := m_agree hMM hO
  refine l_rfi (v := v1) (S1 := M1) (hr := va_runV (As := []) (rest := []) F (c_X5_agree l D cy v_h ef) (cwV 0 hts gL_law_X5_agree rfl rfl rfl ⟨rfl, ph_X5_agree.1, ph_X5_agree.2, pd_X5_agree⟩ ⟨Nat.le_of_ble_eq_true rfl, Nat.le_of_ble_eq_true rfl⟩) ⟨PcW.bl, (q_rcv hK.1 hL.2.1 v_h.1 (pF_5 (S := SM) v_h.2) rfl), PcW.in hK.1 hL.hwM (fun _ h9 => h9) (fun z9 => z9.elim)⟩ rfl rfl hl.1 rfl (lv_room (Nat.le_of_ble_eq_true rfl)) dL_law_456 ⟨by show _ ≤ 779852; omega, by show _ ≤ 6756547; omega⟩) hL (fun H locs hL => ?_)
  have v_h : vd M1 h 5 := hMM.1.1
  refine lv_istore (lv' := [(6, .int v1), (5, .int (nI (o_agree o).1)), (0, .ref b), (1, .ref x), (2, .ref h), (3, .ref qo), (4, .int x4)]) hx hb dL_law_459 hl (by decide) rfl (fun ls hl => ?_)
  refine lv_aload_n hx hb dL_law_461 rfl (lv_at hl 4 rfl) ?_
  refine vp_callSi (va_runV (As := []) (rest := []) F (c_X5_thrown l D cy (H := H) (S := M1) hL.2.1 v_h (res := fI M1 80 h) rfl) (cwV 0 hts gL_law_X5_thrown rfl rfl rfl ⟨rfl, ph_X5_thrown.1, ph_X5_thrown.2, pd_X5_thrown⟩ ⟨Nat.le_of_ble_eq_true rfl, Nat.le_of_ble_eq_true rfl⟩) ⟨PcR.bl, (q_rcv hK.1 hL.2.1 v_h.1 (pF_5 (S := M1) v_h.2) rfl), PcR.in hK.1⟩ rfl rfl hl.1 rfl (lv_room (Nat.le_of_ble_eq_true rfl)) dL_law_462 ⟨by show _ ≤ 779852; omega, by show _ ≤ 6756547; omega⟩).run (fun r9 er9 => ?_)
  subst er9
  refine lv_iload hx hb dL_law_465 (lv_at hl 1 rfl) ?_
  refine lv_icmp_eq (tgt := 472) hx hb dL_law_467 (by decide) (fun _ => ?_) (fun c9 => absurd t1 c9)
  refine lv_iload hx hb dL_law_472 (lv_at hl 1 rfl) ?_
  refine lv_if_ne (tgt := 489) hx hb dL_law_474 (by decide) (fun c9 => ?_) (fun c9 => ?_)
  · refine lv_goto (tgt := 1621) hx hb dL_law_489 (by decide) ?_
    refine W.widen (k := cells + 312) (n := slots + 1872) (by omega) (by omega) ?_
    exact K _ _ _ _ _ _ _ ⟨o_agree_ok hO, hXX, hMM, hL, lv_sub hl [2, 3, 4, 5, 6] rfl⟩
  · have hz : (o_agree o).1 = 0 := (nI_n0 (xg_le hXr)).mp c9
    refine lv_aload_n hx hb dL_law_477 rfl (lv_at hl 5 rfl) ?_
    refine lv_iconst (v := 0) hx hb dL_law_478 (by decide) ?_
    refine va_lald hx hb hK.2.1 hL.O 0 0 rfl rfl (i := 0) (by unfold vp_in; decide) dL_law_479 ?_
    refine lv_iload hx hb dL_law_480 (lv_at hl 0 rfl) ?_
    refine lv_i2l hx hb dL_law_482 rfl ?_
    refine W.lcmp hx hb dL_law_483 ?_
    refine lv_if_eq (tgt := 489) hx hb dL_law_484 (by decide) (fun _ => ?_) (fun c8 => absurd ((lq_eq _ _).mpr (by rw [t2 hz]; exact hv hz)) c8)
    refine lv_goto (tgt := 1621) hx hb dL_law_489 (by decide) ?_
    refine W.widen (k := cells + 312) (n := slots + 1872) (by omega) (by omega) ?_
    exact K _ _ _ _ _ _ _ ⟨o_agree_ok hO, hXX, hMM, hL, lv_sub hl [2, 3, 4, 5, 6] rfl⟩
set_option maxHeartbeats 4000000 in
set_option maxRecDepth 100000 in
theorem law_c6 {p : Program} {l : Launch} {e : Env} {s : State} {m : MethodId} {below : List Frame} {meth : Method} {c : Code} {b L : Nat} {xs : Nat → Int32} (hst : l.stackTraces = false) (C0 : lw_At p s m meth c b L xs) {D : va_G} {cy : cyT} {cL : ClassId} (hK : LK D cy cL s) {x h qo : Nat} {T : Nat → TR} {sa bu sc jo z sv bf rs : Nat} {x4 : Int32} (hi : vp_in (x4 + 1) L ∧ vp_in (x4 + 2) L ∧ vp_in (x4 + 3) L ∧ vp_in (x4 + 4) L) {cells slots : Nat} (hc : cells + 312 ≤ 779852) (hs : slots + 1872 ≤ 6756547) (K : LN p l e s m below meth c D cy cL b x h qo T sa bu sc jo z sv bf rs x4 (cells + 312) (slots + 1872) 1621) : LN p l e s m below meth c D cy cL b x h qo T sa bu sc jo z sv bf rs x4 cells slots 492 := by
  intro o SX SM f H locs ls V
  obtain ⟨hO, hXX, hMM, hL, hl⟩ := V
  obtain ⟨hx, hb, hr, hml, hown, hts0, hX, hbl, hlocks, hgv⟩ := C0
  have hts : ∀ w ∈ wsL_law, w.before #[Value.ref b] s = true := fun w h => hts0 w (wsL_law_in w h)
  have hown : s.vm.findClass RL = some m.cls := hown
  have hb : c.code = cL_law := hb
  have F : CallFix p m c cL_law 9 s #[Value.ref b] wsL_law RL := ⟨hx, hb, hml, hown, hts⟩
  have hbA : ¬ (LL s) b := Nat.not_le.mpr hbl
  have v_x : vd SX x 4 := hXX.1.1
  have v_h : vd SM h 5 := hMM.1.1
  obtain ⟨a1, ea1⟩ : ∃ y9 : Int32, xs (x4 + 1).toNatClampNeg = y9 := ⟨_, rfl⟩
  refine lv_aload_n hx hb dL_law_492 rfl (lv_at hl 1 rfl) ?_
  refine l_ld hx hb hX hbl hbA hL.S (lv_at hl 0 rfl) (lv_at hl 4 rfl) dL_law_493 dL_law_494 dL_law_496 dL_law_497 dL_law_498 (by decide) hi.1 ea1 ?_
  refine lv_aload_n hx hb dL_law_499 rfl (lv_at hl 3 rfl) ?_
  have hXr := x_append hXX hO a1
  refine l_wrap (hr := vx_runSW (As := [.ref x, .int a1, .ref qo]) (rest := []) F (c_L_append l hst D cy cL v_x hXr) (vx_cwSW 3 hts gL_law_L_append rfl rfl rfl ⟨by decide, by decide, by decide +kernel⟩ ⟨Nat.le_of_ble_eq_true rfl, Nat.le_of_ble_eq_true rfl⟩) ⟨PcL.bl, PcL.in hK hL⟩ rfl rfl hl.1 rfl (lv_room (Nat.le_of_ble_eq_true rfl)) dL_law_500 ⟨by show _ ≤ 779852; omega, by show _ ≤ 6756547; omega⟩) hL (fun r u H locs hp hL => ?_)
  obtain ⟨er, hXX, hv⟩ := hp
  subst er
  refine lv_istore (lv' := [(5, .int (nI (o_append o a1).1)), (0, .ref b), (1, .ref x), (2, .ref h), (3, .ref qo), (4, .int x4)]) hx hb dL_law_503 hl (by decide) rfl (fun ls hl => ?_)
  refine lv_aload_n hx hb dL_law_505 rfl (lv_at hl 3 rfl) ?_
  refine l_ld hx hb hX hbl hbA hL.S (lv_at hl 1 rfl) (lv_at hl 5 rfl) dL_law_506 dL_law_507 dL_law_509 dL_law_510 dL_law_511 (by decide) hi.1 ea1 ?_
  obtain ⟨M1, v1, ef, -, t1, t2, hMM⟩ := m_append hMM hO a1
  refine l_rfi (v := v1) (S1 := M1) (hr := va_runV (As := [.int a1]) (rest := []) F (c_X5_append l D cy v_h ef) (cwV 1 hts gL_law_X5_append rfl rfl rfl ⟨rfl, ph_X5_append.1, ph_X5_append.2, pd_X5_append⟩ ⟨Nat.le_of_ble_eq_true rfl, Nat.le_of_ble_eq_true rfl⟩) ⟨PcW.bl, (q_rcv hK.1 hL.2.1 v_h.1 (pF_5 (S := SM) v_h.2) rfl), PcW.in hK.1 hL.hwM (fun _ h9 => h9) (fun z9 => z9.elim)⟩ rfl rfl hl.1 rfl (lv_room (Nat.le_of_ble_eq_true rfl)) dL_law_512 ⟨by show _ ≤ 779852; omega, by show _ ≤ 6756547; omega⟩) hL (fun H locs hL => ?_)
  have v_h : vd M1 h 5 := hMM.1.1
  refine lv_istore (lv' := [(6, .int v1), (5, .int (nI (o_append o a1).1)), (0, .ref b), (1, .ref x), (2, .ref h), (3, .ref qo), (4, .int x4)]) hx hb dL_law_515 hl (by decide) rfl (fun ls hl => ?_)
  refine lv_aload_n hx hb dL_law_517 rfl (lv_at hl 4 rfl) ?_
  refine vp_callSi (va_runV (As := []) (rest := []) F (c_X5_thrown l D cy (H := H) (S := M1) hL.2.1 v_h (res := fI M1 80 h) rfl) (cwV 0 hts gL_law_X5_thrown rfl rfl rfl ⟨rfl, ph_X5_thrown.1, ph_X5_thrown.2, pd_X5_thrown⟩ ⟨Nat.le_of_ble_eq_true rfl, Nat.le_of_ble_eq_true rfl⟩) ⟨PcR.bl, (q_rcv hK.1 hL.2.1 v_h.1 (pF_5 (S := M1) v_h.2) rfl), PcR.in hK.1⟩ rfl rfl hl.1 rfl (lv_room (Nat.le_of_ble_eq_true rfl)) dL_law_518 ⟨by show _ ≤ 779852; omega, by show _ ≤ 6756547; omega⟩).run (fun r9 er9 => ?_)
  subst er9
  refine lv_iload hx hb dL_law_521 (lv_at hl 1 rfl) ?_
  refine lv_icmp_eq (tgt := 528) hx hb dL_law_523 (by decide) (fun _ => ?_) (fun c9 => absurd t1 c9)
  refine lv_iload hx hb dL_law_528 (lv_at hl 1 rfl) ?_
  refine lv_if_ne (tgt := 545) hx hb dL_law_530 (by decide) (fun c9 => ?_) (fun c9 => ?_)
  · refine lv_goto (tgt := 1621) hx hb dL_law_545 (by decide) ?_
    refine W.widen (k := cells + 312) (n := slots + 1872) (by omega) (by omega) ?_
    exact K _ _ _ _ _ _ _ ⟨o_append_ok hO a1, hXX, hMM, hL, lv_sub hl [2, 3, 4, 5, 6] rfl⟩
  · have hz : (o_append o a1).1 = 0 := (nI_n0 (xg_le hXr)).mp c9
    refine lv_aload_n hx hb dL_law_533 rfl (lv_at hl 5 rfl) ?_
    refine lv_iconst (v := 0) hx hb dL_law_534 (by decide) ?_
    refine va_lald hx hb hK.2.1 hL.O 0 0 rfl rfl (i := 0) (by unfold vp_in; decide) dL_law_535 ?_
    refine lv_iload hx hb dL_law_536 (lv_at hl 0 rfl) ?_
    refine lv_i2l hx hb dL_law_538 rfl ?_
    refine W.lcmp hx hb dL_law_539 ?_
    refine lv_if_eq (tgt := 545) hx hb dL_law_540 (by decide) (fun _ => ?_) (fun c8 => absurd ((lq_eq _ _).mpr (by rw [t2 hz]; exact hv hz)) c8)
    refine lv_goto (tgt := 1621) hx hb dL_law_545 (by decide) ?_
    refine W.widen (k := cells + 312) (n := slots + 1872) (by omega) (by omega) ?_
    exact K _ _ _ _ _ _ _ ⟨o_append_ok hO a1, hXX, hMM, hL, lv_sub hl [2, 3, 4, 5, 6] rfl⟩

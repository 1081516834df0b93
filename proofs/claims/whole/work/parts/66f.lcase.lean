set_option maxHeartbeats 4000000 in
set_option maxRecDepth 100000 in
theorem law_c16 {p : Program} {l : Launch} {e : Env} {s : State} {m : MethodId} {below : List Frame} {meth : Method} {c : Code} {b L : Nat} {xs : Nat → Int32} (hst : l.stackTraces = false) (C0 : lw_At p s m meth c b L xs) {D : va_G} {cy : cyT} {cL : ClassId} (hK : LK D cy cL s) {x h qo : Nat} {T : Nat → TR} {sa bu sc jo z sv bf rs : Nat} {x4 : Int32} (hi : vp_in (x4 + 1) L ∧ vp_in (x4 + 2) L ∧ vp_in (x4 + 3) L ∧ vp_in (x4 + 4) L) {cells slots : Nat} (hc : cells + 312 ≤ 779852) (hs : slots + 1872 ≤ 6756547) (K : LN p l e s m below meth c D cy cL b x h qo T sa bu sc jo z sv bf rs x4 (cells + 312) (slots + 1872) 1621) : LN p l e s m below meth c D cy cL b x h qo T sa bu sc jo z sv bf rs x4 cells slots 977 := by
  intro o SX SM f H locs ls V
  obtain ⟨hO, hXX, hMM, hL, hl⟩ := V
  obtain ⟨hx, hb, hr, hml, hown, hts0, hX, hbl, hlocks, hgv⟩ := C0
  have hts : ∀ w ∈ wsL_law, w.before #[Value.ref b] s = true := fun w h => hts0 w (wsL_law_in w h)
  have hown : s.vm.findClass RL = some m.cls := hown
  have hb : c.code = cL_law := hb
  have F : CallFix p m c cL_law 9 s #[Value.ref b] wsL_law RL := ⟨hx, hb, hml, hown, hts⟩
  have hbA : ¬ (LL s) b := Nat.not_le.mpr hbl
  have v_x : vd SX x 4 := hXX.1.1
  have v_h : vd SM h 5 := hMM.1.1
  obtain ⟨a1, ea1⟩ : ∃ y9 : Int32, xs (x4 + 1).toNatClampNeg = y9 := ⟨_, rfl⟩
  obtain ⟨a2, ea2⟩ : ∃ y9 : Int32, xs (x4 + 2).toNatClampNeg = y9 := ⟨_, rfl⟩
  obtain ⟨a3, ea3⟩ : ∃ y9 : Int32, xs (x4 + 3).toNatClampNeg = y9 := ⟨_, rfl⟩
  refine lv_aload_n hx hb dL_law_977 rfl (lv_at hl 1 rfl) ?_
  refine l_ld2 (own := RL) hx hb hX hbl hbA hL.S (lv_at hl 0 rfl) (lv_at hl 4 rfl) hown (hts (.constantLong RL 149 (4294967295)) (List.mem_of_getElem? (i := 7) rfl)) dL_law_978 dL_law_979 dL_law_981 dL_law_982 dL_law_983 dL_law_984 dL_law_985 dL_law_987 dL_law_988 dL_law_989 dL_law_991 dL_law_992 dL_law_993 dL_law_994 dL_law_995 dL_law_998 dL_law_999 (by decide) hi.1 ea1 (by decide) hi.2.1 ea2 ?_
  refine l_ld hx hb hX hbl hbA hL.S (lv_at hl 0 rfl) (lv_at hl 4 rfl) dL_law_1000 dL_law_1001 dL_law_1003 dL_law_1004 dL_law_1005 (by decide) hi.2.2.1 ea3 ?_
  refine lv_aload_n hx hb dL_law_1006 rfl (lv_at hl 3 rfl) ?_
  have hXr := x_answer hXX hO (lgv a1 a2) a3
  refine l_wrap (hr := vx_runSW (As := [.ref x, .long (lgv a1 a2), .int a3, .ref qo]) (rest := []) F (c_L_answer l hst D cy cL v_x hXr r_answer1) (vx_cwSW 4 hts gL_law_L_answer rfl rfl rfl ⟨by decide, by decide, by decide +kernel⟩ ⟨Nat.le_of_ble_eq_true rfl, Nat.le_of_ble_eq_true rfl⟩) ⟨PcL.bl, PcL.in hK hL⟩ rfl rfl hl.1 rfl (lv_room (Nat.le_of_ble_eq_true rfl)) dL_law_1007 ⟨by show _ ≤ 779852; omega, by show _ ≤ 6756547; omega⟩) hL (fun r u H locs hp hL => ?_)
  obtain ⟨er, hXX, hv⟩ := hp
  subst er
  refine lv_istore (lv' := [(5, .int (nI (q_answer o (lgv a1 a2) a3).1)), (0, .ref b), (1, .ref x), (2, .ref h), (3, .ref qo), (4, .int x4)]) hx hb dL_law_1010 hl (by decide) rfl (fun ls hl => ?_)
  refine lv_aload_n hx hb dL_law_1012 rfl (lv_at hl 3 rfl) ?_
  refine l_ld2 (own := RL) hx hb hX hbl hbA hL.S (lv_at hl 1 rfl) (lv_at hl 5 rfl) hown (hts (.constantLong RL 149 (4294967295)) (List.mem_of_getElem? (i := 7) rfl)) dL_law_1013 dL_law_1014 dL_law_1016 dL_law_1017 dL_law_1018 dL_law_1019 dL_law_1020 dL_law_1022 dL_law_1023 dL_law_1024 dL_law_1026 dL_law_1027 dL_law_1028 dL_law_1029 dL_law_1030 dL_law_1033 dL_law_1034 (by decide) hi.1 ea1 (by decide) hi.2.1 ea2 ?_
  refine l_ld hx hb hX hbl hbA hL.S (lv_at hl 1 rfl) (lv_at hl 5 rfl) dL_law_1035 dL_law_1036 dL_law_1038 dL_law_1039 dL_law_1040 (by decide) hi.2.2.1 ea3 ?_
  obtain ⟨M1, v1, ef, -, t1, t2, hMM⟩ := m_answer hMM hO (lgv a1 a2) a3
  refine l_rfl (v := v1) (S1 := M1) (hr := va_runV (As := [.long (lgv a1 a2), .int a3]) (rest := []) F (c_X5_answer l D cy v_h ef) (cwV 2 hts gL_law_X5_answer rfl rfl rfl ⟨rfl, ph_X5_answer.1, ph_X5_answer.2, pd_X5_answer⟩ ⟨Nat.le_of_ble_eq_true rfl, Nat.le_of_ble_eq_true rfl⟩) ⟨PcW.bl, (q_rcv hK.1 hL.2.1 v_h.1 (pF_5 (S := SM) v_h.2) rfl), PcW.in hK.1 hL.hwM (fun _ h9 => h9) (fun z9 => z9.elim)⟩ rfl rfl hl.1 rfl (lv_room (Nat.le_of_ble_eq_true rfl)) dL_law_1041 ⟨by show _ ≤ 779852; omega, by show _ ≤ 6756547; omega⟩) hL (fun H locs hL => ?_)
  have v_h : vd M1 h 5 := hMM.1.1
  refine lv_lstore (lv' := [(6, .long v1), (5, .int (nI (q_answer o (lgv a1 a2) a3).1)), (0, .ref b), (1, .ref x), (2, .ref h), (3, .ref qo), (4, .int x4)]) hx hb dL_law_1044 hl (by decide) rfl (fun ls hl => ?_)
  refine lv_aload_n hx hb dL_law_1046 rfl (lv_at hl 4 rfl) ?_
  refine vp_callSi (va_runV (As := []) (rest := []) F (c_X5_thrown l D cy (H := H) (S := M1) hL.2.1 v_h (res := fI M1 80 h) rfl) (cwV 0 hts gL_law_X5_thrown rfl rfl rfl ⟨rfl, ph_X5_thrown.1, ph_X5_thrown.2, pd_X5_thrown⟩ ⟨Nat.le_of_ble_eq_true rfl, Nat.le_of_ble_eq_true rfl⟩) ⟨PcR.bl, (q_rcv hK.1 hL.2.1 v_h.1 (pF_5 (S := M1) v_h.2) rfl), PcR.in hK.1⟩ rfl rfl hl.1 rfl (lv_room (Nat.le_of_ble_eq_true rfl)) dL_law_1047 ⟨by show _ ≤ 779852; omega, by show _ ≤ 6756547; omega⟩).run (fun r9 er9 => ?_)
  subst er9
  refine lv_iload hx hb dL_law_1050 (lv_at hl 1 rfl) ?_
  refine lv_icmp_eq (tgt := 1057) hx hb dL_law_1052 (by decide) (fun _ => ?_) (fun c9 => absurd t1 c9)
  refine lv_iload hx hb dL_law_1057 (lv_at hl 1 rfl) ?_
  refine lv_if_ne (tgt := 1073) hx hb dL_law_1059 (by decide) (fun c9 => ?_) (fun c9 => ?_)
  · refine lv_goto (tgt := 1621) hx hb dL_law_1073 (by decide) ?_
    refine W.widen (k := cells + 312) (n := slots + 1872) (by omega) (by omega) ?_
    exact K _ _ _ _ _ _ _ ⟨r_answer_ok hO (lgv a1 a2) a3, hXX, hMM, hL, lv_sub hl [2, 3, 4, 5, 6] rfl⟩
  · have hz : (q_answer o (lgv a1 a2) a3).1 = 0 := (nI_n0 (xg_le hXr)).mp c9
    refine lv_aload_n hx hb dL_law_1062 rfl (lv_at hl 5 rfl) ?_
    refine lv_iconst (v := 0) hx hb dL_law_1063 (by decide) ?_
    refine va_lald hx hb hK.2.1 hL.O 0 0 rfl rfl (i := 0) (by unfold vp_in; decide) dL_law_1064 ?_
    refine lv_lload hx hb dL_law_1065 (lv_at hl 0 rfl) ?_
    refine W.lcmp hx hb dL_law_1067 ?_
    refine lv_if_eq (tgt := 1073) hx hb dL_law_1068 (by decide) (fun _ => ?_) (fun c8 => absurd ((lq_eq _ _).mpr (by rw [t2 hz]; exact hv hz)) c8)
    refine lv_goto (tgt := 1621) hx hb dL_law_1073 (by decide) ?_
    refine W.widen (k := cells + 312) (n := slots + 1872) (by omega) (by omega) ?_
    exact K _ _ _ _ _ _ _ ⟨r_answer_ok hO (lgv a1 a2) a3, hXX, hMM, hL, lv_sub hl [2, 3, 4, 5, 6] rfl⟩
set_option maxHeartbeats 4000000 in
set_option maxRecDepth 100000 in
theorem law_c17 {p : Program} {l : Launch} {e : Env} {s : State} {m : MethodId} {below : List Frame} {meth : Method} {c : Code} {b L : Nat} {xs : Nat → Int32} (hst : l.stackTraces = false) (C0 : lw_At p s m meth c b L xs) {D : va_G} {cy : cyT} {cL : ClassId} (hK : LK D cy cL s) {x h qo : Nat} {T : Nat → TR} {sa bu sc jo z sv bf rs : Nat} {x4 : Int32} (hi : vp_in (x4 + 1) L ∧ vp_in (x4 + 2) L ∧ vp_in (x4 + 3) L ∧ vp_in (x4 + 4) L) {cells slots : Nat} (hc : cells + 312 ≤ 779852) (hs : slots + 1872 ≤ 6756547) (K : LN p l e s m below meth c D cy cL b x h qo T sa bu sc jo z sv bf rs x4 (cells + 312) (slots + 1872) 1621) : LN p l e s m below meth c D cy cL b x h qo T sa bu sc jo z sv bf rs x4 cells slots 1076 := by
  intro o SX SM f H locs ls V
  obtain ⟨hO, hXX, hMM, hL, hl⟩ := V
  obtain ⟨hx, hb, hr, hml, hown, hts0, hX, hbl, hlocks, hgv⟩ := C0
  have hts : ∀ w ∈ wsL_law, w.before #[Value.ref b] s = true := fun w h => hts0 w (wsL_law_in w h)
  have hown : s.vm.findClass RL = some m.cls := hown
  have hb : c.code = cL_law := hb
  have F : CallFix p m c cL_law 9 s #[Value.ref b] wsL_law RL := ⟨hx, hb, hml, hown, hts⟩
  have hbA : ¬ (LL s) b := Nat.not_le.mpr hbl
  have v_x : vd SX x 4 := hXX.1.1
  have v_h : vd SM h 5 := hMM.1.1
  obtain ⟨a1, ea1⟩ : ∃ y9 : Int32, xs (x4 + 1).toNatClampNeg = y9 := ⟨_, rfl⟩
  obtain ⟨a2, ea2⟩ : ∃ y9 : Int32, xs (x4 + 2).toNatClampNeg = y9 := ⟨_, rfl⟩
  refine lv_aload_n hx hb dL_law_1076 rfl (lv_at hl 1 rfl) ?_
  refine l_ld2 (own := RL) hx hb hX hbl hbA hL.S (lv_at hl 0 rfl) (lv_at hl 4 rfl) hown (hts (.constantLong RL 149 (4294967295)) (List.mem_of_getElem? (i := 7) rfl)) dL_law_1077 dL_law_1078 dL_law_1080 dL_law_1081 dL_law_1082 dL_law_1083 dL_law_1084 dL_law_1086 dL_law_1087 dL_law_1088 dL_law_1090 dL_law_1091 dL_law_1092 dL_law_1093 dL_law_1094 dL_law_1097 dL_law_1098 (by decide) hi.1 ea1 (by decide) hi.2.1 ea2 ?_
  refine lv_aload_n hx hb dL_law_1099 rfl (lv_at hl 3 rfl) ?_
  have hXr := x_nearest hXX hO (lgv a1 a2)
  refine l_wrap (hr := vx_runSW (As := [.ref x, .long (lgv a1 a2), .ref qo]) (rest := []) F (c_L_nearest l hst D cy cL v_x hXr r_nearest1) (vx_cwSW 3 hts gL_law_L_nearest rfl rfl rfl ⟨by decide, by decide, by decide +kernel⟩ ⟨Nat.le_of_ble_eq_true rfl, Nat.le_of_ble_eq_true rfl⟩) ⟨PcL.bl, PcL.in hK hL⟩ rfl rfl hl.1 rfl (lv_room (Nat.le_of_ble_eq_true rfl)) dL_law_1100 ⟨by show _ ≤ 779852; omega, by show _ ≤ 6756547; omega⟩) hL (fun r u H locs hp hL => ?_)
  obtain ⟨er, hXX, hv⟩ := hp
  subst er
  refine lv_istore (lv' := [(5, .int (nI (q_nearest o (lgv a1 a2)).1)), (0, .ref b), (1, .ref x), (2, .ref h), (3, .ref qo), (4, .int x4)]) hx hb dL_law_1103 hl (by decide) rfl (fun ls hl => ?_)
  refine lv_aload_n hx hb dL_law_1105 rfl (lv_at hl 3 rfl) ?_
  refine l_ld2 (own := RL) hx hb hX hbl hbA hL.S (lv_at hl 1 rfl) (lv_at hl 5 rfl) hown (hts (.constantLong RL 149 (4294967295)) (List.mem_of_getElem? (i := 7) rfl)) dL_law_1106 dL_law_1107 dL_law_1109 dL_law_1110 dL_law_1111 dL_law_1112 dL_law_1113 dL_law_1115 dL_law_1116 dL_law_1117 dL_law_1119 dL_law_1120 dL_law_1121 dL_law_1122 dL_law_1123 dL_law_1126 dL_law_1127 (by decide) hi.1 ea1 (by decide) hi.2.1 ea2 ?_
  obtain ⟨M1, v1, ef, -, t1, t2, hMM⟩ := m_nearest' hMM hO (lgv a1 a2)
  refine l_rfl (v := v1) (S1 := M1) (hr := va_runV (As := [.long (lgv a1 a2)]) (rest := []) F (c_X5_nearest l D cy v_h ef) (cwV 1 hts gL_law_X5_nearest rfl rfl rfl ⟨rfl, ph_X5_nearest.1, ph_X5_nearest.2, pd_X5_nearest⟩ ⟨Nat.le_of_ble_eq_true rfl, Nat.le_of_ble_eq_true rfl⟩) ⟨PcW.bl, (q_rcv hK.1 hL.2.1 v_h.1 (pF_5 (S := SM) v_h.2) rfl), PcW.in hK.1 hL.hwM (fun _ h9 => h9) (fun z9 => z9.elim)⟩ rfl rfl hl.1 rfl (lv_room (Nat.le_of_ble_eq_true rfl)) dL_law_1128 ⟨by show _ ≤ 779852; omega, by show _ ≤ 6756547; omega⟩) hL (fun H locs hL => ?_)
  have v_h : vd M1 h 5 := hMM.1.1
  refine lv_lstore (lv' := [(6, .long v1), (5, .int (nI (q_nearest o (lgv a1 a2)).1)), (0, .ref b), (1, .ref x), (2, .ref h), (3, .ref qo), (4, .int x4)]) hx hb dL_law_1131 hl (by decide) rfl (fun ls hl => ?_)
  refine lv_aload_n hx hb dL_law_1133 rfl (lv_at hl 4 rfl) ?_
  refine vp_callSi (va_runV (As := []) (rest := []) F (c_X5_thrown l D cy (H := H) (S := M1) hL.2.1 v_h (res := fI M1 80 h) rfl) (cwV 0 hts gL_law_X5_thrown rfl rfl rfl ⟨rfl, ph_X5_thrown.1, ph_X5_thrown.2, pd_X5_thrown⟩ ⟨Nat.le_of_ble_eq_true rfl, Nat.le_of_ble_eq_true rfl⟩) ⟨PcR.bl, (q_rcv hK.1 hL.2.1 v_h.1 (pF_5 (S := M1) v_h.2) rfl), PcR.in hK.1⟩ rfl rfl hl.1 rfl (lv_room (Nat.le_of_ble_eq_true rfl)) dL_law_1134 ⟨by show _ ≤ 779852; omega, by show _ ≤ 6756547; omega⟩).run (fun r9 er9 => ?_)
  subst er9
  refine lv_iload hx hb dL_law_1137 (lv_at hl 1 rfl) ?_
  refine lv_icmp_eq (tgt := 1144) hx hb dL_law_1139 (by decide) (fun _ => ?_) (fun c9 => absurd t1 c9)
  refine lv_iload hx hb dL_law_1144 (lv_at hl 1 rfl) ?_
  refine lv_if_ne (tgt := 1160) hx hb dL_law_1146 (by decide) (fun c9 => ?_) (fun c9 => ?_)
  · refine lv_goto (tgt := 1621) hx hb dL_law_1160 (by decide) ?_
    refine W.widen (k := cells + 312) (n := slots + 1872) (by omega) (by omega) ?_
    exact K _ _ _ _ _ _ _ ⟨r_nearest_ok hO (lgv a1 a2), hXX, hMM, hL, lv_sub hl [2, 3, 4, 5, 6] rfl⟩
  · have hz : (q_nearest o (lgv a1 a2)).1 = 0 := (nI_n0 (xg_le hXr)).mp c9
    refine lv_aload_n hx hb dL_law_1149 rfl (lv_at hl 5 rfl) ?_
    refine lv_iconst (v := 0) hx hb dL_law_1150 (by decide) ?_
    refine va_lald hx hb hK.2.1 hL.O 0 0 rfl rfl (i := 0) (by unfold vp_in; decide) dL_law_1151 ?_
    refine lv_lload hx hb dL_law_1152 (lv_at hl 0 rfl) ?_
    refine W.lcmp hx hb dL_law_1154 ?_
    refine lv_if_eq (tgt := 1160) hx hb dL_law_1155 (by decide) (fun _ => ?_) (fun c8 => absurd ((lq_eq _ _).mpr (by rw [t2 hz]; exact hv hz)) c8)
    refine lv_goto (tgt := 1621) hx hb dL_law_1160 (by decide) ?_
    refine W.widen (k := cells + 312) (n := slots + 1872) (by omega) (by omega) ?_
    exact K _ _ _ _ _ _ _ ⟨r_nearest_ok hO (lgv a1 a2), hXX, hMM, hL, lv_sub hl [2, 3, 4, 5, 6] rfl⟩
set_option maxHeartbeats 4000000 in
set_option maxRecDepth 100000 in
theorem law_c18 {p : Program} {l : Launch} {e : Env} {s : State} {m : MethodId} {below : List Frame} {meth : Method} {c : Code} {b L : Nat} {xs : Nat → Int32} (hst : l.stackTraces = false) (C0 : lw_At p s m meth c b L xs) {D : va_G} {cy : cyT} {cL : ClassId} (hK : LK D cy cL s) {x h qo : Nat} {T : Nat → TR} {sa bu sc jo z sv bf rs : Nat} {x4 : Int32} (hi : vp_in (x4 + 1) L ∧ vp_in (x4 + 2) L ∧ vp_in (x4 + 3) L ∧ vp_in (x4 + 4) L) {cells slots : Nat} (hc : cells + 312 ≤ 779852) (hs : slots + 1872 ≤ 6756547) (K : LN p l e s m below meth c D cy cL b x h qo T sa bu sc jo z sv bf rs x4 (cells + 312) (slots + 1872) 1621) : LN p l e s m below meth c D cy cL b x h qo T sa bu sc jo z sv bf rs x4 cells slots 1163 := by
  intro o SX SM f H locs ls V
  obtain ⟨hO, hXX, hMM, hL, hl⟩ := V
  obtain ⟨hx, hb, hr, hml, hown, hts0, hX, hbl, hlocks, hgv⟩ := C0
  have hts : ∀ w ∈ wsL_law, w.before #[Value.ref b] s = true := fun w h => hts0 w (wsL_law_in w h)
  have hown : s.vm.findClass RL = some m.cls := hown
  have hb : c.code = cL_law := hb
  have F : CallFix p m c cL_law 9 s #[Value.ref b] wsL_law RL := ⟨hx, hb, hml, hown, hts⟩
  have hbA : ¬ (LL s) b := Nat.not_le.mpr hbl
  have v_x : vd SX x 4 := hXX.1.1
  have v_h : vd SM h 5 := hMM.1.1
  obtain ⟨a1, ea1⟩ : ∃ y9 : Int32, xs (x4 + 1).toNatClampNeg = y9 := ⟨_, rfl⟩
  obtain ⟨a2, ea2⟩ : ∃ y9 : Int32, xs (x4 + 2).toNatClampNeg = y9 := ⟨_, rfl⟩
  obtain ⟨a3, ea3⟩ : ∃ y9 : Int32, xs (x4 + 3).toNatClampNeg = y9 := ⟨_, rfl⟩
  obtain ⟨a4, ea4⟩ : ∃ y9 : Int32, xs (x4 + 4).toNatClampNeg = y9 := ⟨_, rfl⟩
  refine lv_aload_n hx hb dL_law_1163 rfl (lv_at hl 1 rfl) ?_
  refine l_ld2 (own := RL) hx hb hX hbl hbA hL.S (lv_at hl 0 rfl) (lv_at hl 4 rfl) hown (hts (.constantLong RL 149 (4294967295)) (List.mem_of_getElem? (i := 7) rfl)) dL_law_1164 dL_law_1165 dL_law_1167 dL_law_1168 dL_law_1169 dL_law_1170 dL_law_1171 dL_law_1173 dL_law_1174 dL_law_1175 dL_law_1177 dL_law_1178 dL_law_1179 dL_law_1180 dL_law_1181 dL_law_1184 dL_law_1185 (by decide) hi.1 ea1 (by decide) hi.2.1 ea2 ?_
  refine l_ld2 (own := RL) hx hb hX hbl hbA hL.S (lv_at hl 0 rfl) (lv_at hl 4 rfl) hown (hts (.constantLong RL 149 (4294967295)) (List.mem_of_getElem? (i := 7) rfl)) dL_law_1186 dL_law_1187 dL_law_1189 dL_law_1190 dL_law_1191 dL_law_1192 dL_law_1193 dL_law_1195 dL_law_1196 dL_law_1197 dL_law_1199 dL_law_1200 dL_law_1201 dL_law_1202 dL_law_1203 dL_law_1206 dL_law_1207 (by decide) hi.2.2.1 ea3 (by decide) hi.2.2.2 ea4 ?_
  refine lv_aload_n hx hb dL_law_1208 rfl (lv_at hl 3 rfl) ?_
  have hXr := x_between hXX hO (lgv a1 a2) (lgv a3 a4)
  refine l_wrap (hr := vx_runSW (As := [.ref x, .long (lgv a1 a2), .long (lgv a3 a4), .ref qo]) (rest := []) F (c_L_between l hst D cy cL v_x hXr r_between1) (vx_cwSW 4 hts gL_law_L_between rfl rfl rfl ⟨by decide, by decide, by decide +kernel⟩ ⟨Nat.le_of_ble_eq_true rfl, Nat.le_of_ble_eq_true rfl⟩) ⟨PcL.bl, PcL.in hK hL⟩ rfl rfl hl.1 rfl (lv_room (Nat.le_of_ble_eq_true rfl)) dL_law_1209 ⟨by show _ ≤ 779852; omega, by show _ ≤ 6756547; omega⟩) hL (fun r u H locs hp hL => ?_)
  obtain ⟨er, hXX, hv⟩ := hp
  subst er
  refine lv_istore (lv' := [(5, .int (nI (q_between o (lgv a1 a2) (lgv a3 a4)).1)), (0, .ref b), (1, .ref x), (2, .ref h), (3, .ref qo), (4, .int x4)]) hx hb dL_law_1212 hl (by decide) rfl (fun ls hl => ?_)
  refine lv_aload_n hx hb dL_law_1214 rfl (lv_at hl 3 rfl) ?_
  refine l_ld2 (own := RL) hx hb hX hbl hbA hL.S (lv_at hl 1 rfl) (lv_at hl 5 rfl) hown (hts (.constantLong RL 149 (4294967295)) (List.mem_of_getElem? (i := 7) rfl)) dL_law_1215 dL_law_1216 dL_law_1218 dL_law_1219 dL_law_1220 dL_law_1221 dL_law_1222 dL_law_1224 dL_law_1225 dL_law_1226 dL_law_1228 dL_law_1229 dL_law_1230 dL_law_1231 dL_law_1232 dL_law_1235 dL_law_1236 (by decide) hi.1 ea1 (by decide) hi.2.1 ea2 ?_
  refine l_ld2 (own := RL) hx hb hX hbl hbA hL.S (lv_at hl 1 rfl) (lv_at hl 5 rfl) hown (hts (.constantLong RL 149 (4294967295)) (List.mem_of_getElem? (i := 7) rfl)) dL_law_1237 dL_law_1238 dL_law_1240 dL_law_1241 dL_law_1242 dL_law_1243 dL_law_1244 dL_law_1246 dL_law_1247 dL_law_1248 dL_law_1250 dL_law_1251 dL_law_1252 dL_law_1253 dL_law_1254 dL_law_1257 dL_law_1258 (by decide) hi.2.2.1 ea3 (by decide) hi.2.2.2 ea4 ?_
  obtain ⟨M1, v1, ef, -, t1, t2, hMM⟩ := m_between' hMM hO (lgv a1 a2) (lgv a3 a4)
  refine l_rfl (v := v1) (S1 := M1) (hr := va_runV (As := [.long (lgv a1 a2), .long (lgv a3 a4)]) (rest := []) F (c_X5_between l D cy v_h ef) (cwV 2 hts gL_law_X5_between rfl rfl rfl ⟨rfl, ph_X5_between.1, ph_X5_between.2, pd_X5_between⟩ ⟨Nat.le_of_ble_eq_true rfl, Nat.le_of_ble_eq_true rfl⟩) ⟨PcW.bl, (q_rcv hK.1 hL.2.1 v_h.1 (pF_5 (S := SM) v_h.2) rfl), PcW.in hK.1 hL.hwM (fun _ h9 => h9) (fun z9 => z9.elim)⟩ rfl rfl hl.1 rfl (lv_room (Nat.le_of_ble_eq_true rfl)) dL_law_1259 ⟨by show _ ≤ 779852; omega, by show _ ≤ 6756547; omega⟩) hL (fun H locs hL => ?_)
  have v_h : vd M1 h 5 := hMM.1.1
  refine lv_lstore (lv' := [(6, .long v1), (5, .int (nI (q_between o (lgv a1 a2) (lgv a3 a4)).1)), (0, .ref b), (1, .ref x), (2, .ref h), (3, .ref qo), (4, .int x4)]) hx hb dL_law_1262 hl (by decide) rfl (fun ls hl => ?_)
  refine lv_aload_n hx hb dL_law_1264 rfl (lv_at hl 4 rfl) ?_
  refine vp_callSi (va_runV (As := []) (rest := []) F (c_X5_thrown l D cy (H := H) (S := M1) hL.2.1 v_h (res := fI M1 80 h) rfl) (cwV 0 hts gL_law_X5_thrown rfl rfl rfl ⟨rfl, ph_X5_thrown.1, ph_X5_thrown.2, pd_X5_thrown⟩ ⟨Nat.le_of_ble_eq_true rfl, Nat.le_of_ble_eq_true rfl⟩) ⟨PcR.bl, (q_rcv hK.1 hL.2.1 v_h.1 (pF_5 (S := M1) v_h.2) rfl), PcR.in hK.1⟩ rfl rfl hl.1 rfl (lv_room (Nat.le_of_ble_eq_true rfl)) dL_law_1265 ⟨by show _ ≤ 779852; omega, by show _ ≤ 6756547; omega⟩).run (fun r9 er9 => ?_)
  subst er9
  refine lv_iload hx hb dL_law_1268 (lv_at hl 1 rfl) ?_
  refine lv_icmp_eq (tgt := 1275) hx hb dL_law_1270 (by decide) (fun _ => ?_) (fun c9 => absurd t1 c9)
  refine lv_iload hx hb dL_law_1275 (lv_at hl 1 rfl) ?_
  refine lv_if_ne (tgt := 1291) hx hb dL_law_1277 (by decide) (fun c9 => ?_) (fun c9 => ?_)
  · refine lv_goto (tgt := 1621) hx hb dL_law_1291 (by decide) ?_
    refine W.widen (k := cells + 312) (n := slots + 1872) (by omega) (by omega) ?_
    exact K _ _ _ _ _ _ _ ⟨r_between_ok hO (lgv a1 a2) (lgv a3 a4), hXX, hMM, hL, lv_sub hl [2, 3, 4, 5, 6] rfl⟩
  · have hz : (q_between o (lgv a1 a2) (lgv a3 a4)).1 = 0 := (nI_n0 (xg_le hXr)).mp c9
    refine lv_aload_n hx hb dL_law_1280 rfl (lv_at hl 5 rfl) ?_
    refine lv_iconst (v := 0) hx hb dL_law_1281 (by decide) ?_
    refine va_lald hx hb hK.2.1 hL.O 0 0 rfl rfl (i := 0) (by unfold vp_in; decide) dL_law_1282 ?_
    refine lv_lload hx hb dL_law_1283 (lv_at hl 0 rfl) ?_
    refine W.lcmp hx hb dL_law_1285 ?_
    refine lv_if_eq (tgt := 1291) hx hb dL_law_1286 (by decide) (fun _ => ?_) (fun c8 => absurd ((lq_eq _ _).mpr (by rw [t2 hz]; exact hv hz)) c8)
    refine lv_goto (tgt := 1621) hx hb dL_law_1291 (by decide) ?_
    refine W.widen (k := cells + 312) (n := slots + 1872) (by omega) (by omega) ?_
    exact K _ _ _ _ _ _ _ ⟨r_between_ok hO (lgv a1 a2) (lgv a3 a4), hXX, hMM, hL, lv_sub hl [2, 3, 4, 5, 6] rfl⟩
set_option maxHeartbeats 4000000 in
set_option maxRecDepth 100000 in
theorem law_c19 {p : Program} {l : Launch} {e : Env} {s : State} {m : MethodId} {below : List Frame} {meth : Method} {c : Code} {b L : Nat} {xs : Nat → Int32} (hst : l.stackTraces = false) (C0 : lw_At p s m meth c b L xs) {D : va_G} {cy : cyT} {cL : ClassId} (hK : LK D cy cL s) {x h qo : Nat} {T : Nat → TR} {sa bu sc jo z sv bf rs : Nat} {x4 : Int32} (hi : vp_in (x4 + 1) L ∧ vp_in (x4 + 2) L ∧ vp_in (x4 + 3) L ∧ vp_in (x4 + 4) L) {cells slots : Nat} (hc : cells + 312 ≤ 779852) (hs : slots + 1872 ≤ 6756547) (K : LN p l e s m below meth c D cy cL b x h qo T sa bu sc jo z sv bf rs x4 (cells + 312) (slots + 1872) 1621) : LN p l e s m below meth c D cy cL b x h qo T sa bu sc jo z sv bf rs x4 cells slots 1294 := by
  intro o SX SM f H locs ls V
  obtain ⟨hO, hXX, hMM, hL, hl⟩ := V
  obtain ⟨hx, hb, hr, hml, hown, hts0, hX, hbl, hlocks, hgv⟩ := C0
  have hts : ∀ w ∈ wsL_law, w.before #[Value.ref b] s = true := fun w h => hts0 w (wsL_law_in w h)
  have hown : s.vm.findClass RL = some m.cls := hown
  have hb : c.code = cL_law := hb
  have F : CallFix p m c cL_law 9 s #[Value.ref b] wsL_law RL := ⟨hx, hb, hml, hown, hts⟩
  have hbA : ¬ (LL s) b := Nat.not_le.mpr hbl
  have v_x : vd SX x 4 := hXX.1.1
  have v_h : vd SM h 5 := hMM.1.1
  obtain ⟨a1, ea1⟩ : ∃ y9 : Int32, xs (x4 + 1).toNatClampNeg = y9 := ⟨_, rfl⟩
  obtain ⟨a2, ea2⟩ : ∃ y9 : Int32, xs (x4 + 2).toNatClampNeg = y9 := ⟨_, rfl⟩
  refine lv_aload_n hx hb dL_law_1294 rfl (lv_at hl 1 rfl) ?_
  refine l_ld2 (own := RL) hx hb hX hbl hbA hL.S (lv_at hl 0 rfl) (lv_at hl 4 rfl) hown (hts (.constantLong RL 149 (4294967295)) (List.mem_of_getElem? (i := 7) rfl)) dL_law_1295 dL_law_1296 dL_law_1298 dL_law_1299 dL_law_1300 dL_law_1301 dL_law_1302 dL_law_1304 dL_law_1305 dL_law_1306 dL_law_1308 dL_law_1309 dL_law_1310 dL_law_1311 dL_law_1312 dL_law_1315 dL_law_1316 (by decide) hi.1 ea1 (by decide) hi.2.1 ea2 ?_
  refine lv_aload_n hx hb dL_law_1317 rfl (lv_at hl 3 rfl) ?_
  have hXr := x_misses hXX hO (lgv a1 a2)
  refine l_wrap (hr := vx_runSW (As := [.ref x, .long (lgv a1 a2), .ref qo]) (rest := []) F (c_L_misses l hst D cy cL v_x hXr r_misses1) (vx_cwSW 3 hts gL_law_L_misses rfl rfl rfl ⟨by decide, by decide, by decide +kernel⟩ ⟨Nat.le_of_ble_eq_true rfl, Nat.le_of_ble_eq_true rfl⟩) ⟨PcL.bl, PcL.in hK hL⟩ rfl rfl hl.1 rfl (lv_room (Nat.le_of_ble_eq_true rfl)) dL_law_1318 ⟨by show _ ≤ 779852; omega, by show _ ≤ 6756547; omega⟩) hL (fun r u H locs hp hL => ?_)
  obtain ⟨er, hXX, hv⟩ := hp
  subst er
  refine lv_istore (lv' := [(5, .int (nI (q_misses o (lgv a1 a2)).1)), (0, .ref b), (1, .ref x), (2, .ref h), (3, .ref qo), (4, .int x4)]) hx hb dL_law_1321 hl (by decide) rfl (fun ls hl => ?_)
  refine lv_aload_n hx hb dL_law_1323 rfl (lv_at hl 3 rfl) ?_
  refine l_ld2 (own := RL) hx hb hX hbl hbA hL.S (lv_at hl 1 rfl) (lv_at hl 5 rfl) hown (hts (.constantLong RL 149 (4294967295)) (List.mem_of_getElem? (i := 7) rfl)) dL_law_1324 dL_law_1325 dL_law_1327 dL_law_1328 dL_law_1329 dL_law_1330 dL_law_1331 dL_law_1333 dL_law_1334 dL_law_1335 dL_law_1337 dL_law_1338 dL_law_1339 dL_law_1340 dL_law_1341 dL_law_1344 dL_law_1345 (by decide) hi.1 ea1 (by decide) hi.2.1 ea2 ?_
  obtain ⟨M1, v1, ef, -, t1, t2, hMM⟩ := m_misses hMM hO (lgv a1 a2)
  refine l_rfi (v := v1) (S1 := M1) (hr := va_runV (As := [.long (lgv a1 a2)]) (rest := []) F (c_X5_misses l D cy v_h ef) (cwV 1 hts gL_law_X5_misses rfl rfl rfl ⟨rfl, ph_X5_misses.1, ph_X5_misses.2, pd_X5_misses⟩ ⟨Nat.le_of_ble_eq_true rfl, Nat.le_of_ble_eq_true rfl⟩) ⟨PcW.bl, (q_rcv hK.1 hL.2.1 v_h.1 (pF_5 (S := SM) v_h.2) rfl), PcW.in hK.1 hL.hwM (fun _ h9 => h9) (fun z9 => z9.elim)⟩ rfl rfl hl.1 rfl (lv_room (Nat.le_of_ble_eq_true rfl)) dL_law_1346 ⟨by show _ ≤ 779852; omega, by show _ ≤ 6756547; omega⟩) hL (fun H locs hL => ?_)
  have v_h : vd M1 h 5 := hMM.1.1
  refine lv_istore (lv' := [(6, .int v1), (5, .int (nI (q_misses o (lgv a1 a2)).1)), (0, .ref b), (1, .ref x), (2, .ref h), (3, .ref qo), (4, .int x4)]) hx hb dL_law_1349 hl (by decide) rfl (fun ls hl => ?_)
  refine lv_aload_n hx hb dL_law_1351 rfl (lv_at hl 4 rfl) ?_
  refine vp_callSi (va_runV (As := []) (rest := []) F (c_X5_thrown l D cy (H := H) (S := M1) hL.2.1 v_h (res := fI M1 80 h) rfl) (cwV 0 hts gL_law_X5_thrown rfl rfl rfl ⟨rfl, ph_X5_thrown.1, ph_X5_thrown.2, pd_X5_thrown⟩ ⟨Nat.le_of_ble_eq_true rfl, Nat.le_of_ble_eq_true rfl⟩) ⟨PcR.bl, (q_rcv hK.1 hL.2.1 v_h.1 (pF_5 (S := M1) v_h.2) rfl), PcR.in hK.1⟩ rfl rfl hl.1 rfl (lv_room (Nat.le_of_ble_eq_true rfl)) dL_law_1352 ⟨by show _ ≤ 779852; omega, by show _ ≤ 6756547; omega⟩).run (fun r9 er9 => ?_)
  subst er9
  refine lv_iload hx hb dL_law_1355 (lv_at hl 1 rfl) ?_
  refine lv_icmp_eq (tgt := 1362) hx hb dL_law_1357 (by decide) (fun _ => ?_) (fun c9 => absurd t1 c9)
  refine lv_iload hx hb dL_law_1362 (lv_at hl 1 rfl) ?_
  refine lv_if_ne (tgt := 1379) hx hb dL_law_1364 (by decide) (fun c9 => ?_) (fun c9 => ?_)
  · refine lv_goto (tgt := 1621) hx hb dL_law_1379 (by decide) ?_
    refine W.widen (k := cells + 312) (n := slots + 1872) (by omega) (by omega) ?_
    exact K _ _ _ _ _ _ _ ⟨r_misses_ok hO (lgv a1 a2), hXX, hMM, hL, lv_sub hl [2, 3, 4, 5, 6] rfl⟩
  · have hz : (q_misses o (lgv a1 a2)).1 = 0 := (nI_n0 (xg_le hXr)).mp c9
    refine lv_aload_n hx hb dL_law_1367 rfl (lv_at hl 5 rfl) ?_
    refine lv_iconst (v := 0) hx hb dL_law_1368 (by decide) ?_
    refine va_lald hx hb hK.2.1 hL.O 0 0 rfl rfl (i := 0) (by unfold vp_in; decide) dL_law_1369 ?_
    refine lv_iload hx hb dL_law_1370 (lv_at hl 0 rfl) ?_
    refine lv_i2l hx hb dL_law_1372 rfl ?_
    refine W.lcmp hx hb dL_law_1373 ?_
    refine lv_if_eq (tgt := 1379) hx hb dL_law_1374 (by decide) (fun _ => ?_) (fun c8 => absurd ((lq_eq _ _).mpr (by rw [t2 hz]; exact hv hz)) c8)
    refine lv_goto (tgt := 1621) hx hb dL_law_1379 (by decide) ?_
    refine W.widen (k := cells + 312) (n := slots + 1872) (by omega) (by omega) ?_
    exact K _ _ _ _ _ _ _ ⟨r_misses_ok hO (lgv a1 a2), hXX, hMM, hL, lv_sub hl [2, 3, 4, 5, 6] rfl⟩

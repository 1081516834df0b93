set_option maxHeartbeats 4000000 in
set_option maxRecDepth 100000 in
theorem law_c0 {p : Program} {l : Launch} {e : Env} {s : State} {m : MethodId} {below : List Frame} {meth : Method} {c : Code} {b L : Nat} {xs : Nat → Int32} (hst : l.stackTraces = false) (C0 : lw_At p s m meth c b L xs) {D : va_G} {cy : cyT} {cL : ClassId} (hK : LK D cy cL s) {x h qo : Nat} {T : Nat → TR} {sa bu sc jo z sv bf rs : Nat} {x4 : Int32} (hi : vp_in (x4 + 1) L ∧ vp_in (x4 + 2) L ∧ vp_in (x4 + 3) L ∧ vp_in (x4 + 4) L) {cells slots : Nat} (hc : cells + 312 ≤ 779852) (hs : slots + 1872 ≤ 6756547) (K : LN p l e s m below meth c D cy cL b x h qo T sa bu sc jo z sv bf rs x4 (cells + 312) (slots + 1872) 1621) : LN p l e s m below meth c D cy cL b x h qo T sa bu sc jo z sv bf rs x4 cells slots 156 := by
  intro o SX SM f H locs ls V
  obtain ⟨hO, hXX, hMM, hL, hl⟩ := V
  obtain ⟨hx, hb, hr, hml, hown, hts0, hX, hbl, hlocks, hgv⟩ := C0
  have hts : ∀ w ∈ wsL_law, w.before #[Value.ref b] s = true := fun w h => hts0 w (wsL_law_in w h)
  have hown : s.vm.findClass RL = some m.cls := hown
  have hb : c.code = cL_law := hb
  have F : CallFix p m c cL_law 9 s #[Value.ref b] wsL_law RL := ⟨hx, hb, hml, hown, hts⟩
  have hbA : ¬ (LL s) b := Nat.not_le.mpr hbl
  have v_x : vd SX x 4 := hXX.1.1
  have v_h : vd SM h 5 := hMM.1.1
  obtain ⟨a1, ea1⟩ : ∃ y9 : Int32, xs (x4 + 1).toNatClampNeg = y9 := ⟨_, rfl⟩
  obtain ⟨a2, ea2⟩ : ∃ y9 : Int32, xs (x4 + 2).toNatClampNeg = y9 := ⟨_, rfl⟩
  obtain ⟨a3, ea3⟩ : ∃ y9 : Int32, xs (x4 + 3).toNatClampNeg = y9 := ⟨_, rfl⟩
  refine lv_aload_n hx hb dL_law_156 rfl (lv_at hl 1 rfl) ?_
  refine l_ld hx hb hX hbl hbA hL.S (lv_at hl 0 rfl) (lv_at hl 4 rfl) dL_law_157 dL_law_158 dL_law_160 dL_law_161 dL_law_162 (by decide) hi.1 ea1 ?_
  refine l_ld hx hb hX hbl hbA hL.S (lv_at hl 0 rfl) (lv_at hl 4 rfl) dL_law_163 dL_law_164 dL_law_166 dL_law_167 dL_law_168 (by decide) hi.2.1 ea2 ?_
  refine l_ld hx hb hX hbl hbA hL.S (lv_at hl 0 rfl) (lv_at hl 4 rfl) dL_law_169 dL_law_170 dL_law_172 dL_law_173 dL_law_174 (by decide) hi.2.2.1 ea3 ?_
  refine lv_aload_n hx hb dL_law_175 rfl (lv_at hl 3 rfl) ?_
  have hXr := x_add hXX hO (wl_frn hL.1 rfl) a1 a2 a3
  refine l_wrap (hr := vx_runSW (As := [.ref x, .int a1, .int a2, .int a3, .ref qo]) (rest := []) F (c_L_add l hst D cy cL v_x hXr) (vx_cwSW 5 hts gL_law_L_add rfl rfl rfl ⟨by decide, by decide, by decide +kernel⟩ ⟨Nat.le_of_ble_eq_true rfl, Nat.le_of_ble_eq_true rfl⟩) ⟨PcL.bl, PcL.in hK hL⟩ rfl rfl hl.1 rfl (lv_room (Nat.le_of_ble_eq_true rfl)) dL_law_176 ⟨by show _ ≤ 779852; omega, by show _ ≤ 6756547; omega⟩) hL (fun r u H locs hp hL => ?_)
  obtain ⟨er, hXX, hv⟩ := hp
  subst er
  refine lv_istore (lv' := [(5, .int (nI (o_add o a1 a2 a3).1)), (0, .ref b), (1, .ref x), (2, .ref h), (3, .ref qo), (4, .int x4)]) hx hb dL_law_179 hl (by decide) rfl (fun ls hl => ?_)
  refine lv_aload_n hx hb dL_law_181 rfl (lv_at hl 3 rfl) ?_
  refine l_ld hx hb hX hbl hbA hL.S (lv_at hl 1 rfl) (lv_at hl 5 rfl) dL_law_182 dL_law_183 dL_law_185 dL_law_186 dL_law_187 (by decide) hi.1 ea1 ?_
  refine l_ld hx hb hX hbl hbA hL.S (lv_at hl 1 rfl) (lv_at hl 5 rfl) dL_law_188 dL_law_189 dL_law_191 dL_law_192 dL_law_193 (by decide) hi.2.1 ea2 ?_
  refine l_ld hx hb hX hbl hbA hL.S (lv_at hl 1 rfl) (lv_at hl 5 rfl) dL_law_194 dL_law_195 dL_law_197 dL_law_198 dL_law_199 (by decide) hi.2.2.1 ea3 ?_
  obtain ⟨M1, v1, ef, -, t1, t2, hMM⟩ := m_add hMM hO a1 a2 a3
  refine l_rfi (v := v1) (S1 := M1) (hr := va_runV (As := [.int a1, .int a2, .int a3]) (rest := []) F (c_X5_add l D cy v_h ef) (cwV 3 hts gL_law_X5_add rfl rfl rfl ⟨rfl, ph_X5_add.1, ph_X5_add.2, pd_X5_add⟩ ⟨Nat.le_of_ble_eq_true rfl, Nat.le_of_ble_eq_true rfl⟩) ⟨PcW.bl, (q_rcv hK.1 hL.2.1 v_h.1 (pF_5 (S := SM) v_h.2) rfl), PcW.in hK.1 hL.hwM (fun _ h9 => h9) (fun z9 => z9.elim)⟩ rfl rfl hl.1 rfl (lv_room (Nat.le_of_ble_eq_true rfl)) dL_law_200 ⟨by show _ ≤ 779852; omega, by show _ ≤ 6756547; omega⟩) hL (fun H locs hL => ?_)
  have v_h : vd M1 h 5 := hMM.1.1
  refine lv_istore (lv' := [(6, .int v1), (5, .int (nI (o_add o a1 a2 a3).1)), (0, .ref b), (1, .ref x), (2, .ref h), (3, .ref qo), (4, .int x4)]) hx hb dL_law_203 hl (by decide) rfl (fun ls hl => ?_)
  refine lv_aload_n hx hb dL_law_205 rfl (lv_at hl 4 rfl) ?_
  refine vp_callSi (va_runV (As := []) (rest := []) F (c_X5_thrown l D cy (H := H) (S := M1) hL.2.1 v_h (res := fI M1 80 h) rfl) (cwV 0 hts gL_law_X5_thrown rfl rfl rfl ⟨rfl, ph_X5_thrown.1, ph_X5_thrown.2, pd_X5_thrown⟩ ⟨Nat.le_of_ble_eq_true rfl, Nat.le_of_ble_eq_true rfl⟩) ⟨PcR.bl, (q_rcv hK.1 hL.2.1 v_h.1 (pF_5 (S := M1) v_h.2) rfl), PcR.in hK.1⟩ rfl rfl hl.1 rfl (lv_room (Nat.le_of_ble_eq_true rfl)) dL_law_206 ⟨by show _ ≤ 779852; omega, by show _ ≤ 6756547; omega⟩).run (fun r9 er9 => ?_)
  subst er9
  refine lv_iload hx hb dL_law_209 (lv_at hl 1 rfl) ?_
  refine lv_icmp_eq (tgt := 216) hx hb dL_law_211 (by decide) (fun _ => ?_) (fun c9 => absurd t1 c9)
  refine lv_iload hx hb dL_law_216 (lv_at hl 1 rfl) ?_
  refine lv_if_ne (tgt := 233) hx hb dL_law_218 (by decide) (fun c9 => ?_) (fun c9 => ?_)
  · refine lv_goto (tgt := 1621) hx hb dL_law_233 (by decide) ?_
    refine W.widen (k := cells + 312) (n := slots + 1872) (by omega) (by omega) ?_
    exact K _ _ _ _ _ _ _ ⟨o_add_ok hO a1 a2 a3, hXX, hMM, hL, lv_sub hl [2, 3, 4, 5, 6] rfl⟩
  · have hz : (o_add o a1 a2 a3).1 = 0 := (nI_n0 (xn_le hXr)).mp c9
    refine lv_aload_n hx hb dL_law_221 rfl (lv_at hl 5 rfl) ?_
    refine lv_iconst (v := 0) hx hb dL_law_222 (by decide) ?_
    refine va_lald hx hb hK.2.1 hL.O 0 0 rfl rfl (i := 0) (by unfold vp_in; decide) dL_law_223 ?_
    refine lv_iload hx hb dL_law_224 (lv_at hl 0 rfl) ?_
    refine lv_i2l hx hb dL_law_226 rfl ?_
    refine W.lcmp hx hb dL_law_227 ?_
    refine lv_if_eq (tgt := 233) hx hb dL_law_228 (by decide) (fun _ => ?_) (fun c8 => absurd ((lq_eq _ _).mpr (by rw [t2 hz]; exact hv hz)) c8)
    refine lv_goto (tgt := 1621) hx hb dL_law_233 (by decide) ?_
    refine W.widen (k := cells + 312) (n := slots + 1872) (by omega) (by omega) ?_
    exact K _ _ _ _ _ _ _ ⟨o_add_ok hO a1 a2 a3, hXX, hMM, hL, lv_sub hl [2, 3, 4, 5, 6] rfl⟩

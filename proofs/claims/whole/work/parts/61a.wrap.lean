set_option maxHeartbeats 4000000 in
set_option maxRecDepth 100000 in
theorem c_L_add (l : Launch) (hst : l.stackTraces = false) (D : va_G) (cy : cyT) (cL : ClassId) {S : PS} {n : Nat} {y0 : Nat} {y1 : Int32} {y2 : Int32} {y3 : Int32} {qo : Nat} {f : Nat → Int64} (v_y0 : vd S y0 4) {T : Nat → TR} {sa bu sc jo : Nat} {w : Nat × Int32 × OS} (hX : XN 0 1 y0 T sa bu sc jo (f_X4_add S n y0 y1 y2 y3) w) : Met l yL_add wsL_add ({ frames := 7, cells := 2, slots := 11, locals := 143 } : Room) (PcL D cy cL S n qo f [.ref y0, .int y1, .int y2, .int y3, .ref qo]) (va_Qi (fun (r : Int32) (u : PS × (Nat → Int64)) => r = nI w.1 ∧ XX u.1 y0 T sa bu sc jo w.2.2 ∧ (w.1 = 0 → u.2 z0 = w.2.1.toInt64)) (BL D cy cL S n qo) (AQ cy S n qo)) 2 11 (AQ cy S n qo) := by
  refine vx_toMet (XC := fun _ _ _ => False) (vx_ofWH (cc := cL_add) (maxL := 6) (ret := some .int) (hh := [(0, 12, 15, 13), (0, 12, 19, 15)]) (by decide) rfl ?_) (fun _ _ _ h => h)
  intro p e s m args below meth c s₁ B hml hv
  refine vx_ret ?_
  obtain ⟨hav, hsz, hP0, hD0, hO, hqo, hK, hKL, hNC, hZ⟩ := hv
  have hx := B.exec
  have hb := B.bytes
  have hr := B.returns
  have hts := atoms_spec (ws := wsL_add) B.pre
  have htab : c.exceptionTable.toList = tableOf [(0, 12, 15, 13), (0, 12, 19, 15)] := vx_table (x := yL_add) B (hts _ List.mem_cons_self)
  have hown : s.vm.findClass RL = some m.cls := findClass_of_methodNamed B.named
  have hlocks := B.notSynchronized
  subst hav
  have hw : Hw D cy (AA cy S n) s.heap S n s.heap [] := Hw.start hsz hP0 hD0
  have hA : ∀ q, s.heap.size ≤ q → AA cy S n q := fun q h => Or.inr (hsz ▸ h)
  have hS : va_S (AQ cy S n qo) s.heap s.heap [] := va_S.rf
  have hql : qo < s.heap.size := (hO 0 _ rfl).lt
  have F : CallFix p m c cL_add 6 s _ wsL_add RL := ⟨hx, hb, hml, hown, hts⟩
  have hl := lv_entry ([.ref y0, .int y1, .int y2, .int y3, .ref qo]) (n := 6) (Nat.le_of_ble_eq_true rfl)
  rw [lg_entry_eq]
  generalize (lg_sl ([.ref y0, .int y1, .int y2, .int y3, .ref qo]) ++ List.replicate (6 - (lg_sl ([.ref y0, .int y1, .int y2, .int y3, .ref qo])).length) Slot.unset).toArray = ls at hl ⊢
  have hl : lv_has ls 6 [(0, .ref y0), (1, .int y1), (2, .int y2), (3, .int y3), (4, .ref qo)] := hl
  obtain ⟨S1, r0, n1, hf, h1, h2, h3, h4, hXX, hfr⟩ := hX
  refine lv_aload hx hb dL_add_0 (lv_at hl 4 rfl) ?_
  refine lv_iconst (v := 0) hx hb dL_add_2 (by decide) ?_
  refine lv_aload_n hx hb dL_add_3 rfl (lv_at hl 0 rfl) ?_
  refine lv_iload_n hx hb dL_add_4 rfl (lv_at hl 1 rfl) ?_
  refine lv_iload_n hx hb dL_add_5 rfl (lv_at hl 2 rfl) ?_
  refine lv_iload_n hx hb dL_add_6 rfl (lv_at hl 3 rfl) ?_
  have hrun := vx_runV (mc := 2) (ms := 11) (As := [.int y1, .int y2, .int y3]) (rest := [.int 0, .ref qo]) (R := (headSpec wsL_add ({ frames := 7, cells := 2, slots := 11, locals := 143 } : Room)).room) (l := l) (e := e) (below := below) (meth := meth) (locs := []) (cells := 0) (slots := 0) (g := F0 m 7 ls ([.int y1, .int y2, .int y3].reverse ++ .ref y0 :: [.int 0, .ref qo])) F (c_X4_add l hst D cy v_y0 hf) (cwV 3 hts gL_add_X4_add rfl rfl rfl ⟨rfl, ph_X4_add.1, ph_X4_add.2, pd_X4_add⟩ ⟨Nat.le_of_ble_eq_true rfl, Nat.le_of_ble_eq_true rfl⟩) ⟨PcW.bl, (q_rcv hK hw.1 v_y0.1 (pF_4 (S := S) v_y0.2) rfl), PcW.in hK hw hA (fun _ => hZ.narrow (fun q h => Or.inr h))⟩ rfl rfl hl.1 rfl (lv_room (Nat.le_of_ble_eq_true rfl)) dL_add_7 ⟨Nat.le_of_ble_eq_true rfl, Nat.le_of_ble_eq_true rfl⟩
  refine vx_calli hrun hS (fun q _ h => Or.inr h) (fun q h => Or.inr h) (fun q _ h => Or.inr h) (fun E ce q9 k t H1 locs1 ht hvm hpx hBX hz1 hk1 hS1 hce hcv hcl => ?_) (fun r u t H1 locs1 ht hvm hw2 hB hz1 hk1 hS1 => ?_)
  · obtain ⟨hE, b1, b2, b4⟩ := hBX
    rw [ht] at b1
    have hO1 := o_stay hO hqo hsz hk1
    rcases xw_ex h1 h2 h3 h4 hpx with ⟨e1, rfl⟩ | ⟨e1, rfl⟩
    · have hE : E = "java/lang/IllegalArgumentException" := hE
      subst hE
      refine vx_catch (name := "java/lang/IllegalArgumentException") hown [] ⟨0, 12, 15, 13⟩ [⟨0, 12, 19, 15⟩] (by rw [htab]; rfl) (fun z hz => nomatch hz) (by decide) (by decide) (hts (.classLink RL 13 "java/lang/IllegalArgumentException") (List.mem_of_getElem? (i := 1) rfl)) (va_Nw.use rfl hK.2.2.2.2.2.1) hce hcv hcl ?_
      refine W.eq (g2 := F0 m 15 ls [.ref q9]) rfl ?_
      refine lv_astore (lv' := [(5, .ref q9), (0, .ref y0), (1, .int y1), (2, .int y2), (3, .int y3), (4, .ref qo)]) hx hb dL_add_15 hl (by decide) rfl (fun ls hl => ?_)
      refine lv_iconst (v := 1) hx hb dL_add_17 (by decide) ?_
      refine W.widen (k := 2) (n := 11) (by omega) (by omega) ?_
      exact W.iret (v := 1) hx hb hr (fun t9 ht9 hW => ⟨⟨1, (S1, f), rfl, ⟨by rw [e1]; rfl, hXX, fun z => by rw [e1] at z; cases z⟩, by rw [ht9]; exact b1, b2, by rw [ht9]; exact hO1⟩, hS1.F ht9⟩) hS1.2.2 dL_add_18
    · have hE : E = "java/lang/IllegalStateException" := hE
      subst hE
      refine vx_catch (name := "java/lang/IllegalStateException") hown [⟨0, 12, 15, 13⟩] ⟨0, 12, 19, 15⟩ [] (by rw [htab]; rfl) (fun z hz => by cases List.mem_singleton.mp hz; exact Or.inr ⟨by decide, "java/lang/IllegalArgumentException", hts (.classLink RL 13 "java/lang/IllegalArgumentException") (List.mem_of_getElem? (i := 1) rfl), hNC.1⟩) (by decide) (by decide) (hts (.classLink RL 15 "java/lang/IllegalStateException") (List.mem_of_getElem? (i := 2) rfl)) (va_Nw.use rfl hK.2.2.2.2.2.2.1) hce hcv hcl ?_
      refine W.eq (g2 := F0 m 19 ls [.ref q9]) rfl ?_
      refine lv_astore (lv' := [(5, .ref q9), (0, .ref y0), (1, .int y1), (2, .int y2), (3, .int y3), (4, .ref qo)]) hx hb dL_add_19 hl (by decide) rfl (fun ls hl => ?_)
      refine lv_iconst (v := 2) hx hb dL_add_21 (by decide) ?_
      refine W.widen (k := 2) (n := 11) (by omega) (by omega) ?_
      exact W.iret (v := 2) hx hb hr (fun t9 ht9 hW => ⟨⟨2, (S1, f), rfl, ⟨by rw [e1]; rfl, hXX, fun z => by rw [e1] at z; cases z⟩, by rw [ht9]; exact b1, b2, by rw [ht9]; exact hO1⟩, hS1.F ht9⟩) hS1.2.2 dL_add_22
  · obtain ⟨g1, g2⟩ := hw2
    obtain ⟨b1, b2, b3, b4⟩ := hB
    rw [ht] at b1 b3
    subst g2
    obtain ⟨e1, e2⟩ := xw_ok h1 h2 h3 h4 g1
    have hO1 := o_stay hO hqo hsz hk1
    refine lv_i2l hx hb dL_add_10 rfl ?_
    refine o_last hx hb hKL hO1 dL_add_11 (fun H2 o1 o2 o3 => ?_)
    have hS2 := hS1.put (k := z0) o2 o3 (show AQ cy S n qo qo from Or.inl rfl)
    have p2 := wl_stay b1 (H1 := H2) (fun q hq => o3 q (fun h9 => by subst h9; rcases wl_dAA b2 hq with h9 | h9; exact hqo h9; omega))
    refine lv_goto (tgt := 23) hx hb dL_add_12 (by decide) ?_
    refine lv_iconst (v := 0) hx hb dL_add_23 (by decide) ?_
    refine W.widen (k := 2) (n := 11) (by omega) (by omega) ?_
    exact W.iret (v := 0) hx hb hr (fun t9 ht9 hW => ⟨⟨0, (S1, vp_updL f z0 r.toInt64), rfl, ⟨by rw [e1]; rfl, hXX, fun _ => by rw [← e2]; exact o_self (f := f) (x := r.toInt64)⟩, by rw [ht9]; exact p2, b2, by rw [ht9]; exact o1⟩, hS2.F ht9⟩) hS2.2.2 dL_add_24

set_option maxHeartbeats 4000000 in
set_option maxRecDepth 100000 in
theorem c_L_read (l : Launch) (hst : l.stackTraces = false) (D : va_G) (cy : cyT) (cL : ClassId) {S : PS} {n : Nat} {y0 : Nat} {qo : Nat} {f : Nat → Int64} (v_y0 : vd S y0 4) {T : Nat → TR} {sa bu sc jo : Nat} {k2 : Nat} {w : Nat × Int32 × OS} (hX : XN 0 k2 y0 T sa bu sc jo (f_X4_read S n y0) w) (hw1 : w.1 ≤ 1) : Met l yL_read wsL_read ({ frames := 7, cells := 62, slots := 310, locals := 163 } : Room) (PcL D cy cL S n qo f [.ref y0, .ref qo]) (va_Qi (fun (r : Int32) (u : PS × (Nat → Int64)) => r = nI w.1 ∧ XX u.1 y0 T sa bu sc jo w.2.2 ∧ (w.1 = 0 → u.2 z0 = w.2.1.toInt64)) (BL D cy cL S n qo) (AQ cy S n qo)) 62 310 (AQ cy S n qo) := by
  refine vx_toMet (XC := fun _ _ _ => False) (vx_ofWH (cc := cL_read) (maxL := 3) (ret := some .int) (hh := [(0, 8, 11, 13)]) (by decide) rfl ?_) (fun _ _ _ h => h)
  intro p e s m args below meth c s₁ B hml hv
  refine vx_ret ?_
  obtain ⟨hav, hsz, hP0, hD0, hO, hqo, hK, hKL, hNC, hZ⟩ := hv
  have hx := B.exec
  have hb := B.bytes
  have hr := B.returns
  have hts := atoms_spec (ws := wsL_read) B.pre
  have htab : c.exceptionTable.toList = tableOf [(0, 8, 11, 13)] := vx_table (x := yL_read) B (hts _ List.mem_cons_self)
  have hown : s.vm.findClass RL = some m.cls := findClass_of_methodNamed B.named
  have hlocks := B.notSynchronized
  subst hav
  have hw : Hw D cy (AA cy S n) s.heap S n s.heap [] := Hw.start hsz hP0 hD0
  have hA : ∀ q, s.heap.size ≤ q → AA cy S n q := fun q h => Or.inr (hsz ▸ h)
  have hS : va_S (AQ cy S n qo) s.heap s.heap [] := va_S.rf
  have hql : qo < s.heap.size := (hO 0 _ rfl).lt
  have F : CallFix p m c cL_read 3 s _ wsL_read RL := ⟨hx, hb, hml, hown, hts⟩
  have hl := lv_entry ([.ref y0, .ref qo]) (n := 3) (Nat.le_of_ble_eq_true rfl)
  rw [lg_entry_eq]
  generalize (lg_sl ([.ref y0, .ref qo]) ++ List.replicate (3 - (lg_sl ([.ref y0, .ref qo])).length) Slot.unset).toArray = ls at hl ⊢
  have hl : lv_has ls 3 [(0, .ref y0), (1, .ref qo)] := hl
  obtain ⟨S1, r0, n1, hf, h1, h2, h3, h4, hXX, hfr⟩ := hX
  refine lv_aload_n hx hb dL_read_0 rfl (lv_at hl 1 rfl) ?_
  refine lv_iconst (v := 0) hx hb dL_read_1 (by decide) ?_
  refine lv_aload_n hx hb dL_read_2 rfl (lv_at hl 0 rfl) ?_
  have hrun := vx_runV (mc := 62) (ms := 310) (As := []) (rest := [.int 0, .ref qo]) (R := (headSpec wsL_read ({ frames := 7, cells := 62, slots := 310, locals := 163 } : Room)).room) (l := l) (e := e) (below := below) (meth := meth) (locs := []) (cells := 0) (slots := 0) (g := F0 m 3 ls ([].reverse ++ .ref y0 :: [.int 0, .ref qo])) F (c_X4_read l hst D cy v_y0 hf) (cwV 0 hts gL_read_X4_read rfl rfl rfl ⟨rfl, ph_X4_read.1, ph_X4_read.2, pd_X4_read⟩ ⟨Nat.le_of_ble_eq_true rfl, Nat.le_of_ble_eq_true rfl⟩) ⟨PcW.bl, (q_rcv hK hw.1 v_y0.1 (pF_4 (S := S) v_y0.2) rfl), PcW.in hK hw hA (fun _ => hZ.narrow (fun q h => Or.inr h))⟩ rfl rfl hl.1 rfl (lv_room (Nat.le_of_ble_eq_true rfl)) dL_read_3 ⟨Nat.le_of_ble_eq_true rfl, Nat.le_of_ble_eq_true rfl⟩
  refine vx_calli hrun hS (fun q _ h => Or.inr h) (fun q h => Or.inr h) (fun q _ h => Or.inr h) (fun E ce q9 k t H1 locs1 ht hvm hpx hBX hz1 hk1 hS1 hce hcv hcl => ?_) (fun r u t H1 locs1 ht hvm hw2 hB hz1 hk1 hS1 => ?_)
  · obtain ⟨hE, b1, b2, b4⟩ := hBX
    rw [ht] at b1
    have hO1 := o_stay hO hqo hsz hk1
    rcases xw_ex h1 h2 h3 h4 hpx with ⟨e1, rfl⟩ | ⟨e1, -⟩
    · have hE : E = "java/lang/IllegalArgumentException" := hE
      subst hE
      refine vx_catch (name := "java/lang/IllegalArgumentException") hown [] ⟨0, 8, 11, 13⟩ [] (by rw [htab]; rfl) (fun z hz => nomatch hz) (by decide) (by decide) (hts (.classLink RL 13 "java/lang/IllegalArgumentException") (List.mem_of_getElem? (i := 1) rfl)) (va_Nw.use rfl hK.2.2.2.2.2.1) hce hcv hcl ?_
      refine W.eq (g2 := F0 m 11 ls [.ref q9]) rfl ?_
      refine lv_astore_n (lv' := [(2, .ref q9), (0, .ref y0), (1, .ref qo)]) hx hb dL_read_11 rfl hl (by decide) rfl (fun ls hl => ?_)
      refine lv_iconst (v := 1) hx hb dL_read_12 (by decide) ?_
      refine W.widen (k := 62) (n := 310) (by omega) (by omega) ?_
      exact W.iret (v := 1) hx hb hr (fun t9 ht9 hW => ⟨⟨1, (S1, f), rfl, ⟨by rw [e1]; rfl, hXX, fun z => by rw [e1] at z; cases z⟩, by rw [ht9]; exact b1, b2, by rw [ht9]; exact hO1⟩, hS1.F ht9⟩) hS1.2.2 dL_read_13
    · omega
  · obtain ⟨g1, g2⟩ := hw2
    obtain ⟨b1, b2, b3, b4⟩ := hB
    rw [ht] at b1 b3
    subst g2
    obtain ⟨e1, e2⟩ := xw_ok h1 h2 h3 h4 g1
    have hO1 := o_stay hO hqo hsz hk1
    refine lv_i2l hx hb dL_read_6 rfl ?_
    refine o_last hx hb hKL hO1 dL_read_7 (fun H2 o1 o2 o3 => ?_)
    have hS2 := hS1.put (k := z0) o2 o3 (show AQ cy S n qo qo from Or.inl rfl)
    have p2 := wl_stay b1 (H1 := H2) (fun q hq => o3 q (fun h9 => by subst h9; rcases wl_dAA b2 hq with h9 | h9; exact hqo h9; omega))
    refine lv_goto (tgt := 14) hx hb dL_read_8 (by decide) ?_
    refine lv_iconst (v := 0) hx hb dL_read_14 (by decide) ?_
    refine W.widen (k := 62) (n := 310) (by omega) (by omega) ?_
    exact W.iret (v := 0) hx hb hr (fun t9 ht9 hW => ⟨⟨0, (S1, vp_updL f z0 r.toInt64), rfl, ⟨by rw [e1]; rfl, hXX, fun _ => by rw [← e2]; exact o_self (f := f) (x := r.toInt64)⟩, by rw [ht9]; exact p2, b2, by rw [ht9]; exact o1⟩, hS2.F ht9⟩) hS2.2.2 dL_read_15
set_option maxHeartbeats 4000000 in
set_option maxRecDepth 100000 in
theorem c_L_undo (l : Launch) (hst : l.stackTraces = false) (D : va_G) (cy : cyT) (cL : ClassId) {S : PS} {n : Nat} {y0 : Nat} {qo : Nat} {f : Nat → Int64} (v_y0 : vd S y0 4) {T : Nat → TR} {sa bu sc jo : Nat} {k2 : Nat} {w : Nat × Int32 × OS} (hX : XG 1 k2 y0 T sa bu sc jo S (f_X4_undo S y0) w) (hw1 : w.1 ≤ 1) : Met l yL_undo wsL_undo ({ frames := 7, cells := 1, slots := 6, locals := 110 } : Room) (PcL D cy cL S n qo f [.ref y0, .ref qo]) (va_Qi (fun (r : Int32) (u : PS × (Nat → Int64)) => r = nI w.1 ∧ XX u.1 y0 T sa bu sc jo w.2.2 ∧ (w.1 = 0 → u.2 z0 = w.2.1.toInt64)) (BL D cy cL S n qo) (AQ cy S n qo)) 1 6 (AQ cy S n qo) := by
  refine vx_toMet (XC := fun _ _ _ => False) (vx_ofWH (cc := cL_undo) (maxL := 3) (ret := some .int) (hh := [(0, 8, 11, 15)]) (by decide) rfl ?_) (fun _ _ _ h => h)
  intro p e s m args below meth c s₁ B hml hv
  refine vx_ret ?_
  obtain ⟨hav, hsz, hP0, hD0, hO, hqo, hK, hKL, hNC, hZ⟩ := hv
  have hx := B.exec
  have hb := B.bytes
  have hr := B.returns
  have hts := atoms_spec (ws := wsL_undo) B.pre
  have htab : c.exceptionTable.toList = tableOf [(0, 8, 11, 15)] := vx_table (x := yL_undo) B (hts _ List.mem_cons_self)
  have hown : s.vm.findClass RL = some m.cls := findClass_of_methodNamed B.named
  have hlocks := B.notSynchronized
  subst hav
  have hw : Hw D cy (AA cy S n) s.heap S n s.heap [] := Hw.start hsz hP0 hD0
  have hA : ∀ q, s.heap.size ≤ q → AA cy S n q := fun q h => Or.inr (hsz ▸ h)
  have hS : va_S (AQ cy S n qo) s.heap s.heap [] := va_S.rf
  have hql : qo < s.heap.size := (hO 0 _ rfl).lt
  have F : CallFix p m c cL_undo 3 s _ wsL_undo RL := ⟨hx, hb, hml, hown, hts⟩
  have hl := lv_entry ([.ref y0, .ref qo]) (n := 3) (Nat.le_of_ble_eq_true rfl)
  rw [lg_entry_eq]
  generalize (lg_sl ([.ref y0, .ref qo]) ++ List.replicate (3 - (lg_sl ([.ref y0, .ref qo])).length) Slot.unset).toArray = ls at hl ⊢
  have hl : lv_has ls 3 [(0, .ref y0), (1, .ref qo)] := hl
  obtain ⟨S1, r0, hf, h1, h2, h3, h4, hXX, -⟩ := hX
  refine lv_aload_n hx hb dL_undo_0 rfl (lv_at hl 1 rfl) ?_
  refine lv_iconst (v := 0) hx hb dL_undo_1 (by decide) ?_
  refine lv_aload_n hx hb dL_undo_2 rfl (lv_at hl 0 rfl) ?_
  have hrun := vx_runV (mc := 1) (ms := 6) (As := []) (rest := [.int 0, .ref qo]) (R := (headSpec wsL_undo ({ frames := 7, cells := 1, slots := 6, locals := 110 } : Room)).room) (l := l) (e := e) (below := below) (meth := meth) (locs := []) (cells := 0) (slots := 0) (g := F0 m 3 ls ([].reverse ++ .ref y0 :: [.int 0, .ref qo])) F (c_X4_undo l hst D cy v_y0 hf) (cwV 0 hts gL_undo_X4_undo rfl rfl rfl ⟨rfl, ph_X4_undo.1, ph_X4_undo.2, pd_X4_undo⟩ ⟨Nat.le_of_ble_eq_true rfl, Nat.le_of_ble_eq_true rfl⟩) ⟨PcW.bl, (q_rcv hK hw.1 v_y0.1 (pF_4 (S := S) v_y0.2) rfl), PcW.in hK hw hA (fun _ => hZ.narrow (fun q h => Or.inr h))⟩ rfl rfl hl.1 rfl (lv_room (Nat.le_of_ble_eq_true rfl)) dL_undo_3 ⟨Nat.le_of_ble_eq_true rfl, Nat.le_of_ble_eq_true rfl⟩
  refine vx_calli hrun hS (fun q _ h => Or.inr h) (fun q h => Or.inr h) (fun q _ h => Or.inr h) (fun E ce q9 k t H1 locs1 ht hvm hpx hBX hz1 hk1 hS1 hce hcv hcl => ?_) (fun r u t H1 locs1 ht hvm hw2 hB hz1 hk1 hS1 => ?_)
  · obtain ⟨hE, b1, b2, b4⟩ := hBX
    rw [ht] at b1
    have hO1 := o_stay hO hqo hsz hk1
    rcases xw_ex h1 h2 h3 h4 hpx with ⟨e1, rfl⟩ | ⟨e1, -⟩
    · have hE : E = "java/lang/IllegalStateException" := hE
      subst hE
      refine vx_catch (name := "java/lang/IllegalStateException") hown [] ⟨0, 8, 11, 15⟩ [] (by rw [htab]; rfl) (fun z hz => nomatch hz) (by decide) (by decide) (hts (.classLink RL 15 "java/lang/IllegalStateException") (List.mem_of_getElem? (i := 1) rfl)) (va_Nw.use rfl hK.2.2.2.2.2.2.1) hce hcv hcl ?_
      refine W.eq (g2 := F0 m 11 ls [.ref q9]) rfl ?_
      refine lv_astore_n (lv' := [(2, .ref q9), (0, .ref y0), (1, .ref qo)]) hx hb dL_undo_11 rfl hl (by decide) rfl (fun ls hl => ?_)
      refine lv_iconst (v := 1) hx hb dL_undo_12 (by decide) ?_
      refine W.widen (k := 1) (n := 6) (by omega) (by omega) ?_
      exact W.iret (v := 1) hx hb hr (fun t9 ht9 hW => ⟨⟨1, (S1, f), rfl, ⟨by rw [e1]; rfl, hXX, fun z => by rw [e1] at z; cases z⟩, by rw [ht9]; exact b1, b2, by rw [ht9]; exact hO1⟩, hS1.F ht9⟩) hS1.2.2 dL_undo_13
    · omega
  · obtain ⟨g1, g2⟩ := hw2
    obtain ⟨b1, b2, b3, b4⟩ := hB
    rw [ht] at b1 b3
    subst g2
    obtain ⟨e1, e2⟩ := xw_ok h1 h2 h3 h4 g1
    have hO1 := o_stay hO hqo hsz hk1
    refine lv_i2l hx hb dL_undo_6 rfl ?_
    refine o_last hx hb hKL hO1 dL_undo_7 (fun H2 o1 o2 o3 => ?_)
    have hS2 := hS1.put (k := z0) o2 o3 (show AQ cy S n qo qo from Or.inl rfl)
    have p2 := wl_stay b1 (H1 := H2) (fun q hq => o3 q (fun h9 => by subst h9; rcases wl_dAA b2 hq with h9 | h9; exact hqo h9; omega))
    refine lv_goto (tgt := 14) hx hb dL_undo_8 (by decide) ?_
    refine lv_iconst (v := 0) hx hb dL_undo_14 (by decide) ?_
    refine W.widen (k := 1) (n := 6) (by omega) (by omega) ?_
    exact W.iret (v := 0) hx hb hr (fun t9 ht9 hW => ⟨⟨0, (S1, vp_updL f z0 r.toInt64), rfl, ⟨by rw [e1]; rfl, hXX, fun _ => by rw [← e2]; exact o_self (f := f) (x := r.toInt64)⟩, by rw [ht9]; exact p2, b2, by rw [ht9]; exact o1⟩, hS2.F ht9⟩) hS2.2.2 dL_undo_15
set_option maxHeartbeats 4000000 in
set_option maxRecDepth 100000 in
theorem c_L_condition (l : Launch) (hst : l.stackTraces = false) (D : va_G) (cy : cyT) (cL : ClassId) {S : PS} {n : Nat} {y0 : Nat} {y1 : Int32} {y2 : Int32} {qo : Nat} {f : Nat → Int64} (v_y0 : vd S y0 4) {T : Nat → TR} {sa bu sc jo : Nat} {w : Nat × Int32 × OS} (hX : XG 2 0 y0 T sa bu sc jo S (f_X4_condition S y0 y1 y2) w) : Met l yL_condition wsL_condition ({ frames := 7, cells := 1, slots := 6, locals := 134 } : Room) (PcL D cy cL S n qo f [.ref y0, .int y1, .int y2, .ref qo]) (va_Qi (fun (r : Int32) (u : PS × (Nat → Int64)) => r = nI w.1 ∧ XX u.1 y0 T sa bu sc jo w.2.2 ∧ (w.1 = 0 → u.2 z0 = w.2.1.toInt64)) (BL D cy cL S n qo) (AQ cy S n qo)) 1 6 (AQ cy S n qo) := by
  refine vx_toMet (XC := fun _ _ _ => False) (vx_ofWH (cc := cL_condition) (maxL := 5) (ret := some .int) (hh := [(0, 10, 13, 21), (0, 10, 17, 13)]) (by decide) rfl ?_) (fun _ _ _ h => h)
  intro p e s m args below meth c s₁ B hml hv
  refine vx_ret ?_
  obtain ⟨hav, hsz, hP0, hD0, hO, hqo, hK, hKL, hNC, hZ⟩ := hv
  have hx := B.exec
  have hb := B.bytes
  have hr := B.returns
  have hts := atoms_spec (ws := wsL_condition) B.pre
  have htab : c.exceptionTable.toList = tableOf [(0, 10, 13, 21), (0, 10, 17, 13)] := vx_table (x := yL_condition) B (hts _ List.mem_cons_self)
  have hown : s.vm.findClass RL = some m.cls := findClass_of_methodNamed B.named
  have hlocks := B.notSynchronized
  subst hav
  have hw : Hw D cy (AA cy S n) s.heap S n s.heap [] := Hw.start hsz hP0 hD0
  have hA : ∀ q, s.heap.size ≤ q → AA cy S n q := fun q h => Or.inr (hsz ▸ h)
  have hS : va_S (AQ cy S n qo) s.heap s.heap [] := va_S.rf
  have hql : qo < s.heap.size := (hO 0 _ rfl).lt
  have F : CallFix p m c cL_condition 5 s _ wsL_condition RL := ⟨hx, hb, hml, hown, hts⟩
  have hl := lv_entry ([.ref y0, .int y1, .int y2, .ref qo]) (n := 5) (Nat.le_of_ble_eq_true rfl)
  rw [lg_entry_eq]
  generalize (lg_sl ([.ref y0, .int y1, .int y2, .ref qo]) ++ List.replicate (5 - (lg_sl ([.ref y0, .int y1, .int y2, .ref qo])).length) Slot.unset).toArray = ls at hl ⊢
  have hl : lv_has ls 5 [(0, .ref y0), (1, .int y1), (2, .int y2), (3, .ref qo)] := hl
  obtain ⟨S1, r0, hf, h1, h2, h3, h4, hXX, -⟩ := hX
  refine lv_aload_n hx hb dL_condition_0 rfl (lv_at hl 3 rfl) ?_
  refine lv_iconst (v := 0) hx hb dL_condition_1 (by decide) ?_
  refine lv_aload_n hx hb dL_condition_2 rfl (lv_at hl 0 rfl) ?_
  refine lv_iload_n hx hb dL_condition_3 rfl (lv_at hl 1 rfl) ?_
  refine lv_iload_n hx hb dL_condition_4 rfl (lv_at hl 2 rfl) ?_
  have hrun := vx_runV (mc := 1) (ms := 6) (As := [.int y1, .int y2]) (rest := [.int 0, .ref qo]) (R := (headSpec wsL_condition ({ frames := 7, cells := 1, slots := 6, locals := 134 } : Room)).room) (l := l) (e := e) (below := below) (meth := meth) (locs := []) (cells := 0) (slots := 0) (g := F0 m 5 ls ([.int y1, .int y2].reverse ++ .ref y0 :: [.int 0, .ref qo])) F (c_X4_condition l hst D cy v_y0 hf) (cwV 2 hts gL_condition_X4_condition rfl rfl rfl ⟨rfl, ph_X4_condition.1, ph_X4_condition.2, pd_X4_condition⟩ ⟨Nat.le_of_ble_eq_true rfl, Nat.le_of_ble_eq_true rfl⟩) ⟨PcW.bl, (q_rcv hK hw.1 v_y0.1 (pF_4 (S := S) v_y0.2) rfl), PcW.in hK hw hA (fun _ => hZ.narrow (fun q h => Or.inr h))⟩ rfl rfl hl.1 rfl (lv_room (Nat.le_of_ble_eq_true rfl)) dL_condition_5 ⟨Nat.le_of_ble_eq_true rfl, Nat.le_of_ble_eq_true rfl⟩
  refine vx_calli hrun hS (fun q _ h => Or.inr h) (fun q h => Or.inr h) (fun q _ h => Or.inr h) (fun E ce q9 k t H1 locs1 ht hvm hpx hBX hz1 hk1 hS1 hce hcv hcl => ?_) (fun r u t H1 locs1 ht hvm hw2 hB hz1 hk1 hS1 => ?_)
  · obtain ⟨hE, b1, b2, b4⟩ := hBX
    rw [ht] at b1
    have hO1 := o_stay hO hqo hsz hk1
    rcases xw_ex h1 h2 h3 h4 hpx with ⟨e1, rfl⟩ | ⟨e1, rfl⟩
    · have hE : E = "java/lang/IndexOutOfBoundsException" := hE
      subst hE
      refine vx_catch (name := "java/lang/IndexOutOfBoundsException") hown [] ⟨0, 10, 13, 21⟩ [⟨0, 10, 17, 13⟩] (by rw [htab]; rfl) (fun z hz => nomatch hz) (by decide) (by decide) (hts (.classLink RL 21 "java/lang/IndexOutOfBoundsException") (List.mem_of_getElem? (i := 1) rfl)) (va_Nw.use rfl hK.2.2.2.2.2.2.2.1) hce hcv hcl ?_
      refine W.eq (g2 := F0 m 13 ls [.ref q9]) rfl ?_
      refine lv_astore (lv' := [(4, .ref q9), (0, .ref y0), (1, .int y1), (2, .int y2), (3, .ref qo)]) hx hb dL_condition_13 hl (by decide) rfl (fun ls hl => ?_)
      refine lv_iconst (v := 1) hx hb dL_condition_15 (by decide) ?_
      refine W.widen (k := 1) (n := 6) (by omega) (by omega) ?_
      exact W.iret (v := 1) hx hb hr (fun t9 ht9 hW => ⟨⟨1, (S1, f), rfl, ⟨by rw [e1]; rfl, hXX, fun z => by rw [e1] at z; cases z⟩, by rw [ht9]; exact b1, b2, by rw [ht9]; exact hO1⟩, hS1.F ht9⟩) hS1.2.2 dL_condition_16
    · have hE : E = "java/lang/IllegalArgumentException" := hE
      subst hE
      refine vx_catch (name := "java/lang/IllegalArgumentException") hown [⟨0, 10, 13, 21⟩] ⟨0, 10, 17, 13⟩ [] (by rw [htab]; rfl) (fun z hz => by cases List.mem_singleton.mp hz; exact Or.inr ⟨by decide, "java/lang/IndexOutOfBoundsException", hts (.classLink RL 21 "java/lang/IndexOutOfBoundsException") (List.mem_of_getElem? (i := 1) rfl), hNC.2.2⟩) (by decide) (by decide) (hts (.classLink RL 13 "java/lang/IllegalArgumentException") (List.mem_of_getElem? (i := 2) rfl)) (va_Nw.use rfl hK.2.2.2.2.2.1) hce hcv hcl ?_
      refine W.eq (g2 := F0 m 17 ls [.ref q9]) rfl ?_
      refine lv_astore (lv' := [(4, .ref q9), (0, .ref y0), (1, .int y1), (2, .int y2), (3, .ref qo)]) hx hb dL_condition_17 hl (by decide) rfl (fun ls hl => ?_)
      refine lv_iconst (v := 2) hx hb dL_condition_19 (by decide) ?_
      refine W.widen (k := 1) (n := 6) (by omega) (by omega) ?_
      exact W.iret (v := 2) hx hb hr (fun t9 ht9 hW => ⟨⟨2, (S1, f), rfl, ⟨by rw [e1]; rfl, hXX, fun z => by rw [e1] at z; cases z⟩, by rw [ht9]; exact b1, b2, by rw [ht9]; exact hO1⟩, hS1.F ht9⟩) hS1.2.2 dL_condition_20
  · obtain ⟨g1, g2⟩ := hw2
    obtain ⟨b1, b2, b3, b4⟩ := hB
    rw [ht] at b1 b3
    subst g2
    obtain ⟨e1, e2⟩ := xw_ok h1 h2 h3 h4 g1
    have hO1 := o_stay hO hqo hsz hk1
    refine lv_i2l hx hb dL_condition_8 rfl ?_
    refine o_last hx hb hKL hO1 dL_condition_9 (fun H2 o1 o2 o3 => ?_)
    have hS2 := hS1.put (k := z0) o2 o3 (show AQ cy S n qo qo from Or.inl rfl)
    have p2 := wl_stay b1 (H1 := H2) (fun q hq => o3 q (fun h9 => by subst h9; rcases wl_dAA b2 hq with h9 | h9; exact hqo h9; omega))
    refine lv_goto (tgt := 21) hx hb dL_condition_10 (by decide) ?_
    refine lv_iconst (v := 0) hx hb dL_condition_21 (by decide) ?_
    refine W.widen (k := 1) (n := 6) (by omega) (by omega) ?_
    exact W.iret (v := 0) hx hb hr (fun t9 ht9 hW => ⟨⟨0, (S1, vp_updL f z0 r.toInt64), rfl, ⟨by rw [e1]; rfl, hXX, fun _ => by rw [← e2]; exact o_self (f := f) (x := r.toInt64)⟩, by rw [ht9]; exact p2, b2, by rw [ht9]; exact o1⟩, hS2.F ht9⟩) hS2.2.2 dL_condition_22
set_option maxHeartbeats 4000000 in
set_option maxRecDepth 100000 in
theorem c_L_agrees (l : Launch) (hst : l.stackTraces = false) (D : va_G) (cy : cyT) (cL : ClassId) {S : PS} {n : Nat} {y0 : Nat} {y1 : Int32} {y2 : Int32} {qo : Nat} {f : Nat → Int64} (v_y0 : vd S y0 4) {T : Nat → TR} {sa bu sc jo : Nat} {k2 : Nat} {w : Nat × Int32 × OS} (hX : XG 2 k2 y0 T sa bu sc jo S (f_X4_agrees S y0 y1 y2) w) (hw1 : w.1 ≤ 1) : Met l yL_agrees wsL_agrees ({ frames := 7, cells := 1, slots := 6, locals := 112 } : Room) (PcL D cy cL S n qo f [.ref y0, .int y1, .int y2, .ref qo]) (va_Qi (fun (r : Int32) (u : PS × (Nat → Int64)) => r = nI w.1 ∧ XX u.1 y0 T sa bu sc jo w.2.2 ∧ (w.1 = 0 → u.2 z0 = w.2.1.toInt64)) (BL D cy cL S n qo) (AQ cy S n qo)) 1 6 (AQ cy S n qo) := by
  refine vx_toMet (XC := fun _ _ _ => False) (vx_ofWH (cc := cL_agrees) (maxL := 5) (ret := some .int) (hh := [(0, 10, 13, 21)]) (by decide) rfl ?_) (fun _ _ _ h => h)
  intro p e s m args below meth c s₁ B hml hv
  refine vx_ret ?_
  obtain ⟨hav, hsz, hP0, hD0, hO, hqo, hK, hKL, hNC, hZ⟩ := hv
  have hx := B.exec
  have hb := B.bytes
  have hr := B.returns
  have hts := atoms_spec (ws := wsL_agrees) B.pre
  have htab : c.exceptionTable.toList = tableOf [(0, 10, 13, 21)] := vx_table (x := yL_agrees) B (hts _ List.mem_cons_self)
  have hown : s.vm.findClass RL = some m.cls := findClass_of_methodNamed B.named
  have hlocks := B.notSynchronized
  subst hav
  have hw : Hw D cy (AA cy S n) s.heap S n s.heap [] := Hw.start hsz hP0 hD0
  have hA : ∀ q, s.heap.size ≤ q → AA cy S n q := fun q h => Or.inr (hsz ▸ h)
  have hS : va_S (AQ cy S n qo) s.heap s.heap [] := va_S.rf
  have hql : qo < s.heap.size := (hO 0 _ rfl).lt
  have F : CallFix p m c cL_agrees 5 s _ wsL_agrees RL := ⟨hx, hb, hml, hown, hts⟩
  have hl := lv_entry ([.ref y0, .int y1, .int y2, .ref qo]) (n := 5) (Nat.le_of_ble_eq_true rfl)
  rw [lg_entry_eq]
  generalize (lg_sl ([.ref y0, .int y1, .int y2, .ref qo]) ++ List.replicate (5 - (lg_sl ([.ref y0, .int y1, .int y2, .ref qo])).length) Slot.unset).toArray = ls at hl ⊢
  have hl : lv_has ls 5 [(0, .ref y0), (1, .int y1), (2, .int y2), (3, .ref qo)] := hl
  obtain ⟨S1, r0, hf, h1, h2, h3, h4, hXX, -⟩ := hX
  refine lv_aload_n hx hb dL_agrees_0 rfl (lv_at hl 3 rfl) ?_
  refine lv_iconst (v := 0) hx hb dL_agrees_1 (by decide) ?_
  refine lv_aload_n hx hb dL_agrees_2 rfl (lv_at hl 0 rfl) ?_
  refine lv_iload_n hx hb dL_agrees_3 rfl (lv_at hl 1 rfl) ?_
  refine lv_iload_n hx hb dL_agrees_4 rfl (lv_at hl 2 rfl) ?_
  have hrun := vx_runV (mc := 1) (ms := 6) (As := [.int y1, .int y2]) (rest := [.int 0, .ref qo]) (R := (headSpec wsL_agrees ({ frames := 7, cells := 1, slots := 6, locals := 112 } : Room)).room) (l := l) (e := e) (below := below) (meth := meth) (locs := []) (cells := 0) (slots := 0) (g := F0 m 5 ls ([.int y1, .int y2].reverse ++ .ref y0 :: [.int 0, .ref qo])) F (c_X4_agrees l hst D cy v_y0 hf) (cwV 2 hts gL_agrees_X4_agrees rfl rfl rfl ⟨rfl, ph_X4_agrees.1, ph_X4_agrees.2, pd_X4_agrees⟩ ⟨Nat.le_of_ble_eq_true rfl, Nat.le_of_ble_eq_true rfl⟩) ⟨PcW.bl, (q_rcv hK hw.1 v_y0.1 (pF_4 (S := S) v_y0.2) rfl), PcW.in hK hw hA (fun _ => hZ.narrow (fun q h => Or.inr h))⟩ rfl rfl hl.1 rfl (lv_room (Nat.le_of_ble_eq_true rfl)) dL_agrees_5 ⟨Nat.le_of_ble_eq_true rfl, Nat.le_of_ble_eq_true rfl⟩
  refine vx_calli hrun hS (fun q _ h => Or.inr h) (fun q h => Or.inr h) (fun q _ h => Or.inr h) (fun E ce q9 k t H1 locs1 ht hvm hpx hBX hz1 hk1 hS1 hce hcv hcl => ?_) (fun r u t H1 locs1 ht hvm hw2 hB hz1 hk1 hS1 => ?_)
  · obtain ⟨hE, b1, b2, b4⟩ := hBX
    rw [ht] at b1
    have hO1 := o_stay hO hqo hsz hk1
    rcases xw_ex h1 h2 h3 h4 hpx with ⟨e1, rfl⟩ | ⟨e1, -⟩
    · have hE : E = "java/lang/IndexOutOfBoundsException" := hE
      subst hE
      refine vx_catch (name := "java/lang/IndexOutOfBoundsException") hown [] ⟨0, 10, 13, 21⟩ [] (by rw [htab]; rfl) (fun z hz => nomatch hz) (by decide) (by decide) (hts (.classLink RL 21 "java/lang/IndexOutOfBoundsException") (List.mem_of_getElem? (i := 1) rfl)) (va_Nw.use rfl hK.2.2.2.2.2.2.2.1) hce hcv hcl ?_
      refine W.eq (g2 := F0 m 13 ls [.ref q9]) rfl ?_
      refine lv_astore (lv' := [(4, .ref q9), (0, .ref y0), (1, .int y1), (2, .int y2), (3, .ref qo)]) hx hb dL_agrees_13 hl (by decide) rfl (fun ls hl => ?_)
      refine lv_iconst (v := 1) hx hb dL_agrees_15 (by decide) ?_
      refine W.widen (k := 1) (n := 6) (by omega) (by omega) ?_
      exact W.iret (v := 1) hx hb hr (fun t9 ht9 hW => ⟨⟨1, (S1, f), rfl, ⟨by rw [e1]; rfl, hXX, fun z => by rw [e1] at z; cases z⟩, by rw [ht9]; exact b1, b2, by rw [ht9]; exact hO1⟩, hS1.F ht9⟩) hS1.2.2 dL_agrees_16
    · omega
  · obtain ⟨g1, g2⟩ := hw2
    obtain ⟨b1, b2, b3, b4⟩ := hB
    rw [ht] at b1 b3
    subst g2
    obtain ⟨e1, e2⟩ := xw_ok h1 h2 h3 h4 g1
    have hO1 := o_stay hO hqo hsz hk1
    refine lv_i2l hx hb dL_agrees_8 rfl ?_
    refine o_last hx hb hKL hO1 dL_agrees_9 (fun H2 o1 o2 o3 => ?_)
    have hS2 := hS1.put (k := z0) o2 o3 (show AQ cy S n qo qo from Or.inl rfl)
    have p2 := wl_stay b1 (H1 := H2) (fun q hq => o3 q (fun h9 => by subst h9; rcases wl_dAA b2 hq with h9 | h9; exact hqo h9; omega))
    refine lv_goto (tgt := 17) hx hb dL_agrees_10 (by decide) ?_
    refine lv_iconst (v := 0) hx hb dL_agrees_17 (by decide) ?_
    refine W.widen (k := 1) (n := 6) (by omega) (by omega) ?_
    exact W.iret (v := 0) hx hb hr (fun t9 ht9 hW => ⟨⟨0, (S1, vp_updL f z0 r.toInt64), rfl, ⟨by rw [e1]; rfl, hXX, fun _ => by rw [← e2]; exact o_self (f := f) (x := r.toInt64)⟩, by rw [ht9]; exact p2, b2, by rw [ht9]; exact o1⟩, hS2.F ht9⟩) hS2.2.2 dL_agrees_18
set_option maxHeartbeats 4000000 in
set_option maxRecDepth 100000 in
theorem c_L_joined (l : Launch) (hst : l.stackTraces = false) (D : va_G) (cy : cyT) (cL : ClassId) {S : PS} {n : Nat} {y0 : Nat} {y1 : Int32} {qo : Nat} {f : Nat → Int64} (v_y0 : vd S y0 4) {T : Nat → TR} {sa bu sc jo : Nat} {k2 : Nat} {w : Nat × Int64 × OS} (hX : XG 0 k2 y0 T sa bu sc jo S (f_X4_joined S y0 y1) w) (hw1 : w.1 ≤ 1) : Met l yL_joined wsL_joined ({ frames := 7, cells := 1, slots := 6, locals := 133 } : Room) (PcL D cy cL S n qo f [.ref y0, .int y1, .ref qo]) (va_Qi (fun (r : Int32) (u : PS × (Nat → Int64)) => r = nI w.1 ∧ XX u.1 y0 T sa bu sc jo w.2.2 ∧ (w.1 = 0 → u.2 z0 = w.2.1)) (BL D cy cL S n qo) (AQ cy S n qo)) 1 6 (AQ cy S n qo) := by
  refine vx_toMet (XC := fun _ _ _ => False) (vx_ofWH (cc := cL_joined) (maxL := 4) (ret := some .int) (hh := [(0, 8, 11, 13)]) (by decide) rfl ?_) (fun _ _ _ h => h)
  intro p e s m args below meth c s₁ B hml hv
  refine vx_ret ?_
  obtain ⟨hav, hsz, hP0, hD0, hO, hqo, hK, hKL, hNC, hZ⟩ := hv
  have hx := B.exec
  have hb := B.bytes
  have hr := B.returns
  have hts := atoms_spec (ws := wsL_joined) B.pre
  have htab : c.exceptionTable.toList = tableOf [(0, 8, 11, 13)] := vx_table (x := yL_joined) B (hts _ List.mem_cons_self)
  have hown : s.vm.findClass RL = some m.cls := findClass_of_methodNamed B.named
  have hlocks := B.notSynchronized
  subst hav
  have hw : Hw D cy (AA cy S n) s.heap S n s.heap [] := Hw.start hsz hP0 hD0
  have hA : ∀ q, s.heap.size ≤ q → AA cy S n q := fun q h => Or.inr (hsz ▸ h)
  have hS : va_S (AQ cy S n qo) s.heap s.heap [] := va_S.rf
  have hql : qo < s.heap.size := (hO 0 _ rfl).lt
  have F : CallFix p m c cL_joined 4 s _ wsL_joined RL := ⟨hx, hb, hml, hown, hts⟩
  have hl := lv_entry ([.ref y0, .int y1, .ref qo]) (n := 4) (Nat.le_of_ble_eq_true rfl)
  rw [lg_entry_eq]
  generalize (lg_sl ([.ref y0, .int y1, .ref qo]) ++ List.replicate (4 - (lg_sl ([.ref y0, .int y1, .ref qo])).length) Slot.unset).toArray = ls at hl ⊢
  have hl : lv_has ls 4 [(0, .ref y0), (1, .int y1), (2, .ref qo)] := hl
  obtain ⟨S1, r0, hf, h1, h2, h3, h4, hXX, -⟩ := hX
  refine lv_aload_n hx hb dL_joined_0 rfl (lv_at hl 2 rfl) ?_
  refine lv_iconst (v := 0) hx hb dL_joined_1 (by decide) ?_
  refine lv_aload_n hx hb dL_joined_2 rfl (lv_at hl 0 rfl) ?_
  refine lv_iload_n hx hb dL_joined_3 rfl (lv_at hl 1 rfl) ?_
  have hrun := vx_runV (mc := 1) (ms := 6) (As := [.int y1]) (rest := [.int 0, .ref qo]) (R := (headSpec wsL_joined ({ frames := 7, cells := 1, slots := 6, locals := 133 } : Room)).room) (l := l) (e := e) (below := below) (meth := meth) (locs := []) (cells := 0) (slots := 0) (g := F0 m 4 ls ([.int y1].reverse ++ .ref y0 :: [.int 0, .ref qo])) F (c_X4_joined l hst D cy v_y0 hf) (cwV 1 hts gL_joined_X4_joined rfl rfl rfl ⟨rfl, ph_X4_joined.1, ph_X4_joined.2, pd_X4_joined⟩ ⟨Nat.le_of_ble_eq_true rfl, Nat.le_of_ble_eq_true rfl⟩) ⟨PcW.bl, (q_rcv hK hw.1 v_y0.1 (pF_4 (S := S) v_y0.2) rfl), PcW.in hK hw hA (fun _ => hZ.narrow (fun q h => Or.inr h))⟩ rfl rfl hl.1 rfl (lv_room (Nat.le_of_ble_eq_true rfl)) dL_joined_4 ⟨Nat.le_of_ble_eq_true rfl, Nat.le_of_ble_eq_true rfl⟩
  refine vx_calll hrun hS (fun q _ h => Or.inr h) (fun q h => Or.inr h) (fun q _ h => Or.inr h) (fun E ce q9 k t H1 locs1 ht hvm hpx hBX hz1 hk1 hS1 hce hcv hcl => ?_) (fun r u t H1 locs1 ht hvm hw2 hB hz1 hk1 hS1 => ?_)
  · obtain ⟨hE, b1, b2, b4⟩ := hBX
    rw [ht] at b1
    have hO1 := o_stay hO hqo hsz hk1
    rcases xw_ex h1 h2 h3 h4 hpx with ⟨e1, rfl⟩ | ⟨e1, -⟩
    · have hE : E = "java/lang/IllegalArgumentException" := hE
      subst hE
      refine vx_catch (name := "java/lang/IllegalArgumentException") hown [] ⟨0, 8, 11, 13⟩ [] (by rw [htab]; rfl) (fun z hz => nomatch hz) (by decide) (by decide) (hts (.classLink RL 13 "java/lang/IllegalArgumentException") (List.mem_of_getElem? (i := 1) rfl)) (va_Nw.use rfl hK.2.2.2.2.2.1) hce hcv hcl ?_
      refine W.eq (g2 := F0 m 11 ls [.ref q9]) rfl ?_
      refine lv_astore_n (lv' := [(3, .ref q9), (0, .ref y0), (1, .int y1), (2, .ref qo)]) hx hb dL_joined_11 rfl hl (by decide) rfl (fun ls hl => ?_)
      refine lv_iconst (v := 1) hx hb dL_joined_12 (by decide) ?_
      refine W.widen (k := 1) (n := 6) (by omega) (by omega) ?_
      exact W.iret (v := 1) hx hb hr (fun t9 ht9 hW => ⟨⟨1, (S1, f), rfl, ⟨by rw [e1]; rfl, hXX, fun z => by rw [e1] at z; cases z⟩, by rw [ht9]; exact b1, b2, by rw [ht9]; exact hO1⟩, hS1.F ht9⟩) hS1.2.2 dL_joined_13
    · omega
  · obtain ⟨g1, g2⟩ := hw2
    obtain ⟨b1, b2, b3, b4⟩ := hB
    rw [ht] at b1 b3
    subst g2
    obtain ⟨e1, e2⟩ := xw_ok h1 h2 h3 h4 g1
    have hO1 := o_stay hO hqo hsz hk1
    refine o_last hx hb hKL hO1 dL_joined_7 (fun H2 o1 o2 o3 => ?_)
    have hS2 := hS1.put (k := z0) o2 o3 (show AQ cy S n qo qo from Or.inl rfl)
    have p2 := wl_stay b1 (H1 := H2) (fun q hq => o3 q (fun h9 => by subst h9; rcases wl_dAA b2 hq with h9 | h9; exact hqo h9; omega))
    refine lv_goto (tgt := 14) hx hb dL_joined_8 (by decide) ?_
    refine lv_iconst (v := 0) hx hb dL_joined_14 (by decide) ?_
    refine W.widen (k := 1) (n := 6) (by omega) (by omega) ?_
    exact W.iret (v := 0) hx hb hr (fun t9 ht9 hW => ⟨⟨0, (S1, vp_updL f z0 r), rfl, ⟨by rw [e1]; rfl, hXX, fun _ => by rw [← e2]; exact o_self (f := f) (x := r)⟩, by rw [ht9]; exact p2, b2, by rw [ht9]; exact o1⟩, hS2.F ht9⟩) hS2.2.2 dL_joined_15
set_option maxHeartbeats 4000000 in
set_option maxRecDepth 100000 in
theorem c_L_count (l : Launch) (hst : l.stackTraces = false) (D : va_G) (cy : cyT) (cL : ClassId) {S : PS} {n : Nat} {y0 : Nat} {y1 : Int32} {qo : Nat} {f : Nat → Int64} (v_y0 : vd S y0 4) {T : Nat → TR} {sa bu sc jo : Nat} {k2 : Nat} {w : Nat × Int32 × OS} (hX : XG 0 k2 y0 T sa bu sc jo S (f_X4_count S y0 y1) w) (hw1 : w.1 ≤ 1) : Met l yL_count wsL_count ({ frames := 7, cells := 1, slots := 6, locals := 154 } : Room) (PcL D cy cL S n qo f [.ref y0, .int y1, .ref qo]) (va_Qi (fun (r : Int32) (u : PS × (Nat → Int64)) => r = nI w.1 ∧ XX u.1 y0 T sa bu sc jo w.2.2 ∧ (w.1 = 0 → u.2 z0 = w.2.1.toInt64)) (BL D cy cL S n qo) (AQ cy S n qo)) 1 6 (AQ cy S n qo) := by
  refine vx_toMet (XC := fun _ _ _ => False) (vx_ofWH (cc := cL_count) (maxL := 4) (ret := some .int) (hh := [(0, 9, 12, 13)]) (by decide) rfl ?_) (fun _ _ _ h => h)
  intro p e s m args below meth c s₁ B hml hv
  refine vx_ret ?_
  obtain ⟨hav, hsz, hP0, hD0, hO, hqo, hK, hKL, hNC, hZ⟩ := hv
  have hx := B.exec
  have hb := B.bytes
  have hr := B.returns
  have hts := atoms_spec (ws := wsL_count) B.pre
  have htab : c.exceptionTable.toList = tableOf [(0, 9, 12, 13)] := vx_table (x := yL_count) B (hts _ List.mem_cons_self)
  have hown : s.vm.findClass RL = some m.cls := findClass_of_methodNamed B.named
  have hlocks := B.notSynchronized
  subst hav
  have hw : Hw D cy (AA cy S n) s.heap S n s.heap [] := Hw.start hsz hP0 hD0
  have hA : ∀ q, s.heap.size ≤ q → AA cy S n q := fun q h => Or.inr (hsz ▸ h)
  have hS : va_S (AQ cy S n qo) s.heap s.heap [] := va_S.rf
  have hql : qo < s.heap.size := (hO 0 _ rfl).lt
  have F : CallFix p m c cL_count 4 s _ wsL_count RL := ⟨hx, hb, hml, hown, hts⟩
  have hl := lv_entry ([.ref y0, .int y1, .ref qo]) (n := 4) (Nat.le_of_ble_eq_true rfl)
  rw [lg_entry_eq]
  generalize (lg_sl ([.ref y0, .int y1, .ref qo]) ++ List.replicate (4 - (lg_sl ([.ref y0, .int y1, .ref qo])).length) Slot.unset).toArray = ls at hl ⊢
  have hl : lv_has ls 4 [(0, .ref y0), (1, .int y1), (2, .ref qo)] := hl
  obtain ⟨S1, r0, hf, h1, h2, h3, h4, hXX, -⟩ := hX
  refine lv_aload_n hx hb dL_count_0 rfl (lv_at hl 2 rfl) ?_
  refine lv_iconst (v := 0) hx hb dL_count_1 (by decide) ?_
  refine lv_aload_n hx hb dL_count_2 rfl (lv_at hl 0 rfl) ?_
  refine lv_iload_n hx hb dL_count_3 rfl (lv_at hl 1 rfl) ?_
  have hrun := vx_runV (mc := 1) (ms := 6) (As := [.int y1]) (rest := [.int 0, .ref qo]) (R := (headSpec wsL_count ({ frames := 7, cells := 1, slots := 6, locals := 154 } : Room)).room) (l := l) (e := e) (below := below) (meth := meth) (locs := []) (cells := 0) (slots := 0) (g := F0 m 4 ls ([.int y1].reverse ++ .ref y0 :: [.int 0, .ref qo])) F (c_X4_count l hst D cy v_y0 hf) (cwV 1 hts gL_count_X4_count rfl rfl rfl ⟨rfl, ph_X4_count.1, ph_X4_count.2, pd_X4_count⟩ ⟨Nat.le_of_ble_eq_true rfl, Nat.le_of_ble_eq_true rfl⟩) ⟨PcW.bl, (q_rcv hK hw.1 v_y0.1 (pF_4 (S := S) v_y0.2) rfl), PcW.in hK hw hA (fun _ => hZ.narrow (fun q h => Or.inr h))⟩ rfl rfl hl.1 rfl (lv_room (Nat.le_of_ble_eq_true rfl)) dL_count_4 ⟨Nat.le_of_ble_eq_true rfl, Nat.le_of_ble_eq_true rfl⟩
  refine vx_calli hrun hS (fun q _ h => Or.inr h) (fun q h => Or.inr h) (fun q _ h => Or.inr h) (fun E ce q9 k t H1 locs1 ht hvm hpx hBX hz1 hk1 hS1 hce hcv hcl => ?_) (fun r u t H1 locs1 ht hvm hw2 hB hz1 hk1 hS1 => ?_)
  · obtain ⟨hE, b1, b2, b4⟩ := hBX
    rw [ht] at b1
    have hO1 := o_stay hO hqo hsz hk1
    rcases xw_ex h1 h2 h3 h4 hpx with ⟨e1, rfl⟩ | ⟨e1, -⟩
    · have hE : E = "java/lang/IllegalArgumentException" := hE
      subst hE
      refine vx_catch (name := "java/lang/IllegalArgumentException") hown [] ⟨0, 9, 12, 13⟩ [] (by rw [htab]; rfl) (fun z hz => nomatch hz) (by decide) (by decide) (hts (.classLink RL 13 "java/lang/IllegalArgumentException") (List.mem_of_getElem? (i := 1) rfl)) (va_Nw.use rfl hK.2.2.2.2.2.1) hce hcv hcl ?_
      refine W.eq (g2 := F0 m 12 ls [.ref q9]) rfl ?_
      refine lv_astore_n (lv' := [(3, .ref q9), (0, .ref y0), (1, .int y1), (2, .ref qo)]) hx hb dL_count_12 rfl hl (by decide) rfl (fun ls hl => ?_)
      refine lv_iconst (v := 1) hx hb dL_count_13 (by decide) ?_
      refine W.widen (k := 1) (n := 6) (by omega) (by omega) ?_
      exact W.iret (v := 1) hx hb hr (fun t9 ht9 hW => ⟨⟨1, (S1, f), rfl, ⟨by rw [e1]; rfl, hXX, fun z => by rw [e1] at z; cases z⟩, by rw [ht9]; exact b1, b2, by rw [ht9]; exact hO1⟩, hS1.F ht9⟩) hS1.2.2 dL_count_14
    · omega
  · obtain ⟨g1, g2⟩ := hw2
    obtain ⟨b1, b2, b3, b4⟩ := hB
    rw [ht] at b1 b3
    subst g2
    obtain ⟨e1, e2⟩ := xw_ok h1 h2 h3 h4 g1
    have hO1 := o_stay hO hqo hsz hk1
    refine lv_i2l hx hb dL_count_7 rfl ?_
    refine o_last hx hb hKL hO1 dL_count_8 (fun H2 o1 o2 o3 => ?_)
    have hS2 := hS1.put (k := z0) o2 o3 (show AQ cy S n qo qo from Or.inl rfl)
    have p2 := wl_stay b1 (H1 := H2) (fun q hq => o3 q (fun h9 => by subst h9; rcases wl_dAA b2 hq with h9 | h9; exact hqo h9; omega))
    refine lv_goto (tgt := 15) hx hb dL_count_9 (by decide) ?_
    refine lv_iconst (v := 0) hx hb dL_count_15 (by decide) ?_
    refine W.widen (k := 1) (n := 6) (by omega) (by omega) ?_
    exact W.iret (v := 0) hx hb hr (fun t9 ht9 hW => ⟨⟨0, (S1, vp_updL f z0 r.toInt64), rfl, ⟨by rw [e1]; rfl, hXX, fun _ => by rw [← e2]; exact o_self (f := f) (x := r.toInt64)⟩, by rw [ht9]; exact p2, b2, by rw [ht9]; exact o1⟩, hS2.F ht9⟩) hS2.2.2 dL_count_16
set_option maxHeartbeats 4000000 in
set_option maxRecDepth 100000 in
theorem c_L_prime (l : Launch) (hst : l.stackTraces = false) (D : va_G) (cy : cyT) (cL : ClassId) {S : PS} {n : Nat} {y0 : Nat} {y1 : Int32} {y2 : Int32} {qo : Nat} {f : Nat → Int64} (v_y0 : vd S y0 4) {T : Nat → TR} {sa bu sc jo : Nat} {k2 : Nat} {w : Nat × Int32 × OS} (hX : XG 0 k2 y0 T sa bu sc jo S (f_X4_prime S y0 y1 y2) w) (hw1 : w.1 ≤ 1) : Met l yL_prime wsL_prime ({ frames := 7, cells := 1, slots := 6, locals := 116 } : Room) (PcL D cy cL S n qo f [.ref y0, .int y1, .int y2, .ref qo]) (va_Qi (fun (r : Int32) (u : PS × (Nat → Int64)) => r = nI w.1 ∧ XX u.1 y0 T sa bu sc jo w.2.2 ∧ (w.1 = 0 → u.2 z0 = w.2.1.toInt64)) (BL D cy cL S n qo) (AQ cy S n qo)) 1 6 (AQ cy S n qo) := by
  refine vx_toMet (XC := fun _ _ _ => False) (vx_ofWH (cc := cL_prime) (maxL := 5) (ret := some .int) (hh := [(0, 10, 13, 13)]) (by decide) rfl ?_) (fun _ _ _ h => h)
  intro p e s m args below meth c s₁ B hml hv
  refine vx_ret ?_
  obtain ⟨hav, hsz, hP0, hD0, hO, hqo, hK, hKL, hNC, hZ⟩ := hv
  have hx := B.exec
  have hb := B.bytes
  have hr := B.returns
  have hts := atoms_spec (ws := wsL_prime) B.pre
  have htab : c.exceptionTable.toList = tableOf [(0, 10, 13, 13)] := vx_table (x := yL_prime) B (hts _ List.mem_cons_self)
  have hown : s.vm.findClass RL = some m.cls := findClass_of_methodNamed B.named
  have hlocks := B.notSynchronized
  subst hav
  have hw : Hw D cy (AA cy S n) s.heap S n s.heap [] := Hw.start hsz hP0 hD0
  have hA : ∀ q, s.heap.size ≤ q → AA cy S n q := fun q h => Or.inr (hsz ▸ h)
  have hS : va_S (AQ cy S n qo) s.heap s.heap [] := va_S.rf
  have hql : qo < s.heap.size := (hO 0 _ rfl).lt
  have F : CallFix p m c cL_prime 5 s _ wsL_prime RL := ⟨hx, hb, hml, hown, hts⟩
  have hl := lv_entry ([.ref y0, .int y1, .int y2, .ref qo]) (n := 5) (Nat.le_of_ble_eq_true rfl)
  rw [lg_entry_eq]
  generalize (lg_sl ([.ref y0, .int y1, .int y2, .ref qo]) ++ List.replicate (5 - (lg_sl ([.ref y0, .int y1, .int y2, .ref qo])).length) Slot.unset).toArray = ls at hl ⊢
  have hl : lv_has ls 5 [(0, .ref y0), (1, .int y1), (2, .int y2), (3, .ref qo)] := hl
  obtain ⟨S1, r0, hf, h1, h2, h3, h4, hXX, -⟩ := hX
  refine lv_aload_n hx hb dL_prime_0 rfl (lv_at hl 3 rfl) ?_
  refine lv_iconst (v := 0) hx hb dL_prime_1 (by decide) ?_
  refine lv_aload_n hx hb dL_prime_2 rfl (lv_at hl 0 rfl) ?_
  refine lv_iload_n hx hb dL_prime_3 rfl (lv_at hl 1 rfl) ?_
  refine lv_iload_n hx hb dL_prime_4 rfl (lv_at hl 2 rfl) ?_
  have hrun := vx_runV (mc := 1) (ms := 6) (As := [.int y1, .int y2]) (rest := [.int 0, .ref qo]) (R := (headSpec wsL_prime ({ frames := 7, cells := 1, slots := 6, locals := 116 } : Room)).room) (l := l) (e := e) (below := below) (meth := meth) (locs := []) (cells := 0) (slots := 0) (g := F0 m 5 ls ([.int y1, .int y2].reverse ++ .ref y0 :: [.int 0, .ref qo])) F (c_X4_prime l hst D cy v_y0 hf) (cwV 2 hts gL_prime_X4_prime rfl rfl rfl ⟨rfl, ph_X4_prime.1, ph_X4_prime.2, pd_X4_prime⟩ ⟨Nat.le_of_ble_eq_true rfl, Nat.le_of_ble_eq_true rfl⟩) ⟨PcW.bl, (q_rcv hK hw.1 v_y0.1 (pF_4 (S := S) v_y0.2) rfl), PcW.in hK hw hA (fun _ => hZ.narrow (fun q h => Or.inr h))⟩ rfl rfl hl.1 rfl (lv_room (Nat.le_of_ble_eq_true rfl)) dL_prime_5 ⟨Nat.le_of_ble_eq_true rfl, Nat.le_of_ble_eq_true rfl⟩
  refine vx_calli hrun hS (fun q _ h => Or.inr h) (fun q h => Or.inr h) (fun q _ h => Or.inr h) (fun E ce q9 k t H1 locs1 ht hvm hpx hBX hz1 hk1 hS1 hce hcv hcl => ?_) (fun r u t H1 locs1 ht hvm hw2 hB hz1 hk1 hS1 => ?_)
  · obtain ⟨hE, b1, b2, b4⟩ := hBX
    rw [ht] at b1
    have hO1 := o_stay hO hqo hsz hk1
    rcases xw_ex h1 h2 h3 h4 hpx with ⟨e1, rfl⟩ | ⟨e1, -⟩
    · have hE : E = "java/lang/IllegalArgumentException" := hE
      subst hE
      refine vx_catch (name := "java/lang/IllegalArgumentException") hown [] ⟨0, 10, 13, 13⟩ [] (by rw [htab]; rfl) (fun z hz => nomatch hz) (by decide) (by decide) (hts (.classLink RL 13 "java/lang/IllegalArgumentException") (List.mem_of_getElem? (i := 1) rfl)) (va_Nw.use rfl hK.2.2.2.2.2.1) hce hcv hcl ?_
      refine W.eq (g2 := F0 m 13 ls [.ref q9]) rfl ?_
      refine lv_astore (lv' := [(4, .ref q9), (0, .ref y0), (1, .int y1), (2, .int y2), (3, .ref qo)]) hx hb dL_prime_13 hl (by decide) rfl (fun ls hl => ?_)
      refine lv_iconst (v := 1) hx hb dL_prime_15 (by decide) ?_
      refine W.widen (k := 1) (n := 6) (by omega) (by omega) ?_
      exact W.iret (v := 1) hx hb hr (fun t9 ht9 hW => ⟨⟨1, (S1, f), rfl, ⟨by rw [e1]; rfl, hXX, fun z => by rw [e1] at z; cases z⟩, by rw [ht9]; exact b1, b2, by rw [ht9]; exact hO1⟩, hS1.F ht9⟩) hS1.2.2 dL_prime_16
    · omega
  · obtain ⟨g1, g2⟩ := hw2
    obtain ⟨b1, b2, b3, b4⟩ := hB
    rw [ht] at b1 b3
    subst g2
    obtain ⟨e1, e2⟩ := xw_ok h1 h2 h3 h4 g1
    have hO1 := o_stay hO hqo hsz hk1
    refine lv_i2l hx hb dL_prime_8 rfl ?_
    refine o_last hx hb hKL hO1 dL_prime_9 (fun H2 o1 o2 o3 => ?_)
    have hS2 := hS1.put (k := z0) o2 o3 (show AQ cy S n qo qo from Or.inl rfl)
    have p2 := wl_stay b1 (H1 := H2) (fun q hq => o3 q (fun h9 => by subst h9; rcases wl_dAA b2 hq with h9 | h9; exact hqo h9; omega))
    refine lv_goto (tgt := 17) hx hb dL_prime_10 (by decide) ?_
    refine lv_iconst (v := 0) hx hb dL_prime_17 (by decide) ?_
    refine W.widen (k := 1) (n := 6) (by omega) (by omega) ?_
    exact W.iret (v := 0) hx hb hr (fun t9 ht9 hW => ⟨⟨0, (S1, vp_updL f z0 r.toInt64), rfl, ⟨by rw [e1]; rfl, hXX, fun _ => by rw [← e2]; exact o_self (f := f) (x := r.toInt64)⟩, by rw [ht9]; exact p2, b2, by rw [ht9]; exact o1⟩, hS2.F ht9⟩) hS2.2.2 dL_prime_18

set_option maxHeartbeats 4000000 in
set_option maxRecDepth 100000 in
theorem c_L_remove (l : Launch) (hst : l.stackTraces = false) (D : va_G) (cy : cyT) (cL : ClassId) {S : PS} {n : Nat} {y0 : Nat} {y1 : Int32} {qo : Nat} {f : Nat → Int64} (v_y0 : vd S y0 4) {T : Nat → TR} {sa bu sc jo : Nat} {k2 : Nat} {w : Nat × Int32 × OS} (hX : XG 2 k2 y0 T sa bu sc jo S (f_X4_remove S y0 y1) w) (hw1 : w.1 ≤ 1) : Met l yL_remove wsL_remove ({ frames := 7, cells := 1, slots := 6, locals := 140 } : Room) (PcL D cy cL S n qo f [.ref y0, .int y1, .ref qo]) (va_Qi (fun (r : Int32) (u : PS × (Nat → Int64)) => r = nI w.1 ∧ XX u.1 y0 T sa bu sc jo w.2.2 ∧ (w.1 = 0 → u.2 z0 = w.2.1.toInt64)) (BL D cy cL S n qo) (AQ cy S n qo)) 1 6 (AQ cy S n qo) := by
  refine vx_toMet (XC := fun _ _ _ => False) (vx_ofWH (cc := cL_remove) (maxL := 4) (ret := some .int) (hh := [(0, 9, 12, 21)]) (by decide) rfl ?_) (fun _ _ _ h => h)
  intro p e s m args below meth c s₁ B hml hv
  refine vx_ret ?_
  obtain ⟨hav, hsz, hP0, hD0, hO, hqo, hK, hKL, hNC, hZ⟩ := hv
  have hx := B.exec
  have hb := B.bytes
  have hr := B.returns
  have hts := atoms_spec (ws := wsL_remove) B.pre
  have htab : c.exceptionTable.toList = tableOf [(0, 9, 12, 21)] := vx_table (x := yL_remove) B (hts _ List.mem_cons_self)
  have hown : s.vm.findClass RL = some m.cls := findClass_of_methodNamed B.named
  have hlocks := B.notSynchronized
  subst hav
  have hw : Hw D cy (AA cy S n) s.heap S n s.heap [] := Hw.start hsz hP0 hD0
  have hA : ∀ q, s.heap.size ≤ q → AA cy S n q := fun q h => Or.inr (hsz ▸ h)
  have hS : va_S (AQ cy S n qo) s.heap s.heap [] := va_S.rf
  have hql : qo < s.heap.size := (hO 0 _ rfl).lt
  have F : CallFix p m c cL_remove 4 s _ wsL_remove RL := ⟨hx, hb, hml, hown, hts⟩
  have hl := lv_entry ([.ref y0, .int y1, .ref qo]) (n := 4) (Nat.le_of_ble_eq_true rfl)
  rw [lg_entry_eq]
  generalize (lg_sl ([.ref y0, .int y1, .ref qo]) ++ List.replicate (4 - (lg_sl ([.ref y0, .int y1, .ref qo])).length) Slot.unset).toArray = ls at hl ⊢
  have hl : lv_has ls 4 [(0, .ref y0), (1, .int y1), (2, .ref qo)] := hl
  obtain ⟨S1, r0, hf, h1, h2, h3, h4, hXX, -⟩ := hX
  refine lv_aload_n hx hb dL_remove_0 rfl (lv_at hl 2 rfl) ?_
  refine lv_iconst (v := 0) hx hb dL_remove_1 (by decide) ?_
  refine lv_aload_n hx hb dL_remove_2 rfl (lv_at hl 0 rfl) ?_
  refine lv_iload_n hx hb dL_remove_3 rfl (lv_at hl 1 rfl) ?_
  have hrun := vx_runV (mc := 1) (ms := 6) (As := [.int y1]) (rest := [.int 0, .ref qo]) (R := (headSpec wsL_remove ({ frames := 7, cells := 1, slots := 6, locals := 140 } : Room)).room) (l := l) (e := e) (below := below) (meth := meth) (locs := []) (cells := 0) (slots := 0) (g := F0 m 4 ls ([.int y1].reverse ++ .ref y0 :: [.int 0, .ref qo])) F (c_X4_remove l hst D cy v_y0 hf) (cwV 1 hts gL_remove_X4_remove rfl rfl rfl ⟨rfl, ph_X4_remove.1, ph_X4_remove.2, pd_X4_remove⟩ ⟨Nat.le_of_ble_eq_true rfl, Nat.le_of_ble_eq_true rfl⟩) ⟨PcW.bl, (q_rcv hK hw.1 v_y0.1 (pF_4 (S := S) v_y0.2) rfl), PcW.in hK hw hA (fun _ => hZ.narrow (fun q h => Or.inr h))⟩ rfl rfl hl.1 rfl (lv_room (Nat.le_of_ble_eq_true rfl)) dL_remove_4 ⟨Nat.le_of_ble_eq_true rfl, Nat.le_of_ble_eq_true rfl⟩
  refine vx_calli hrun hS (fun q _ h => Or.inr h) (fun q h => Or.inr h) (fun q _ h => Or.inr h) (fun E ce q9 k t H1 locs1 ht hvm hpx hBX hz1 hk1 hS1 hce hcv hcl => ?_) (fun r u t H1 locs1 ht hvm hw2 hB hz1 hk1 hS1 => ?_)
  · obtain ⟨hE, b1, b2, b4⟩ := hBX
    rw [ht] at b1
    have hO1 := o_stay hO hqo hsz hk1
    rcases xw_ex h1 h2 h3 h4 hpx with ⟨e1, rfl⟩ | ⟨e1, -⟩
    · have hE : E = "java/lang/IndexOutOfBoundsException" := hE
      subst hE
      refine vx_catch (name := "java/lang/IndexOutOfBoundsException") hown [] ⟨0, 9, 12, 21⟩ [] (by rw [htab]; rfl) (fun z hz => nomatch hz) (by decide) (by decide) (hts (.classLink RL 21 "java/lang/IndexOutOfBoundsException") (List.mem_of_getElem? (i := 1) rfl)) (va_Nw.use rfl hK.2.2.2.2.2.2.2.1) hce hcv hcl ?_
      refine W.eq (g2 := F0 m 12 ls [.ref q9]) rfl ?_
      refine lv_astore_n (lv' := [(3, .ref q9), (0, .ref y0), (1, .int y1), (2, .ref qo)]) hx hb dL_remove_12 rfl hl (by decide) rfl (fun ls hl => ?_)
      refine lv_iconst (v := 1) hx hb dL_remove_13 (by decide) ?_
      refine W.widen (k := 1) (n := 6) (by omega) (by omega) ?_
      exact W.iret (v := 1) hx hb hr (fun t9 ht9 hW => ⟨⟨1, (S1, f), rfl, ⟨by rw [e1]; rfl, hXX, fun z => by rw [e1] at z; cases z⟩, by rw [ht9]; exact b1, b2, by rw [ht9]; exact hO1⟩, hS1.F ht9⟩) hS1.2.2 dL_remove_14
    · omega
  · obtain ⟨g1, g2⟩ := hw2
    obtain ⟨b1, b2, b3, b4⟩ := hB
    rw [ht] at b1 b3
    subst g2
    obtain ⟨e1, e2⟩ := xw_ok h1 h2 h3 h4 g1
    have hO1 := o_stay hO hqo hsz hk1
    refine lv_i2l hx hb dL_remove_7 rfl ?_
    refine o_last hx hb hKL hO1 dL_remove_8 (fun H2 o1 o2 o3 => ?_)
    have hS2 := hS1.put (k := z0) o2 o3 (show AQ cy S n qo qo from Or.inl rfl)
    have p2 := wl_stay b1 (H1 := H2) (fun q hq => o3 q (fun h9 => by subst h9; rcases wl_dAA b2 hq with h9 | h9; exact hqo h9; omega))
    refine lv_goto (tgt := 15) hx hb dL_remove_9 (by decide) ?_
    refine lv_iconst (v := 0) hx hb dL_remove_15 (by decide) ?_
    refine W.widen (k := 1) (n := 6) (by omega) (by omega) ?_
    exact W.iret (v := 0) hx hb hr (fun t9 ht9 hW => ⟨⟨0, (S1, vp_updL f z0 r.toInt64), rfl, ⟨by rw [e1]; rfl, hXX, fun _ => by rw [← e2]; exact o_self (f := f) (x := r.toInt64)⟩, by rw [ht9]; exact p2, b2, by rw [ht9]; exact o1⟩, hS2.F ht9⟩) hS2.2.2 dL_remove_16
set_option maxHeartbeats 4000000 in
set_option maxRecDepth 100000 in
theorem c_L_toggle (l : Launch) (hst : l.stackTraces = false) (D : va_G) (cy : cyT) (cL : ClassId) {S : PS} {n : Nat} {y0 : Nat} {y1 : Int32} {qo : Nat} {f : Nat → Int64} (v_y0 : vd S y0 4) {T : Nat → TR} {sa bu sc jo : Nat} {w : Nat × Int32 × OS} (hX : XG 2 1 y0 T sa bu sc jo S (f_X4_toggle S y0 y1) w) : Met l yL_toggle wsL_toggle ({ frames := 7, cells := 1, slots := 6, locals := 112 } : Room) (PcL D cy cL S n qo f [.ref y0, .int y1, .ref qo]) (va_Qi (fun (r : Int32) (u : PS × (Nat → Int64)) => r = nI w.1 ∧ XX u.1 y0 T sa bu sc jo w.2.2 ∧ (w.1 = 0 → u.2 z0 = w.2.1.toInt64)) (BL D cy cL S n qo) (AQ cy S n qo)) 1 6 (AQ cy S n qo) := by
  refine vx_toMet (XC := fun _ _ _ => False) (vx_ofWH (cc := cL_toggle) (maxL := 4) (ret := some .int) (hh := [(0, 9, 12, 21), (0, 9, 15, 15)]) (by decide) rfl ?_) (fun _ _ _ h => h)
  intro p e s m args below meth c s₁ B hml hv
  refine vx_ret ?_
  obtain ⟨hav, hsz, hP0, hD0, hO, hqo, hK, hKL, hNC, hZ⟩ := hv
  have hx := B.exec
  have hb := B.bytes
  have hr := B.returns
  have hts := atoms_spec (ws := wsL_toggle) B.pre
  have htab : c.exceptionTable.toList = tableOf [(0, 9, 12, 21), (0, 9, 15, 15)] := vx_table (x := yL_toggle) B (hts _ List.mem_cons_self)
  have hown : s.vm.findClass RL = some m.cls := findClass_of_methodNamed B.named
  have hlocks := B.notSynchronized
  subst hav
  have hw : Hw D cy (AA cy S n) s.heap S n s.heap [] := Hw.start hsz hP0 hD0
  have hA : ∀ q, s.heap.size ≤ q → AA cy S n q := fun q h => Or.inr (hsz ▸ h)
  have hS : va_S (AQ cy S n qo) s.heap s.heap [] := va_S.rf
  have hql : qo < s.heap.size := (hO 0 _ rfl).lt
  have F : CallFix p m c cL_toggle 4 s _ wsL_toggle RL := ⟨hx, hb, hml, hown, hts⟩
  have hl := lv_entry ([.ref y0, .int y1, .ref qo]) (n := 4) (Nat.le_of_ble_eq_true rfl)
  rw [lg_entry_eq]
  generalize (lg_sl ([.ref y0, .int y1, .ref qo]) ++ List.replicate (4 - (lg_sl ([.ref y0, .int y1, .ref qo])).length) Slot.unset).toArray = ls at hl ⊢
  have hl : lv_has ls 4 [(0, .ref y0), (1, .int y1), (2, .ref qo)] := hl
  obtain ⟨S1, r0, hf, h1, h2, h3, h4, hXX, -⟩ := hX
  refine lv_aload_n hx hb dL_toggle_0 rfl (lv_at hl 2 rfl) ?_
  refine lv_iconst (v := 0) hx hb dL_toggle_1 (by decide) ?_
  refine lv_aload_n hx hb dL_toggle_2 rfl (lv_at hl 0 rfl) ?_
  refine lv_iload_n hx hb dL_toggle_3 rfl (lv_at hl 1 rfl) ?_
  have hrun := vx_runV (mc := 1) (ms := 6) (As := [.int y1]) (rest := [.int 0, .ref qo]) (R := (headSpec wsL_toggle ({ frames := 7, cells := 1, slots := 6, locals := 112 } : Room)).room) (l := l) (e := e) (below := below) (meth := meth) (locs := []) (cells := 0) (slots := 0) (g := F0 m 4 ls ([.int y1].reverse ++ .ref y0 :: [.int 0, .ref qo])) F (c_X4_toggle l hst D cy v_y0 hf) (cwV 1 hts gL_toggle_X4_toggle rfl rfl rfl ⟨rfl, ph_X4_toggle.1, ph_X4_toggle.2, pd_X4_toggle⟩ ⟨Nat.le_of_ble_eq_true rfl, Nat.le_of_ble_eq_true rfl⟩) ⟨PcW.bl, (q_rcv hK hw.1 v_y0.1 (pF_4 (S := S) v_y0.2) rfl), PcW.in hK hw hA (fun _ => hZ.narrow (fun q h => Or.inr h))⟩ rfl rfl hl.1 rfl (lv_room (Nat.le_of_ble_eq_true rfl)) dL_toggle_4 ⟨Nat.le_of_ble_eq_true rfl, Nat.le_of_ble_eq_true rfl⟩
  refine vx_calli hrun hS (fun q _ h => Or.inr h) (fun q h => Or.inr h) (fun q _ h => Or.inr h) (fun E ce q9 k t H1 locs1 ht hvm hpx hBX hz1 hk1 hS1 hce hcv hcl => ?_) (fun r u t H1 locs1 ht hvm hw2 hB hz1 hk1 hS1 => ?_)
  · obtain ⟨hE, b1, b2, b4⟩ := hBX
    rw [ht] at b1
    have hO1 := o_stay hO hqo hsz hk1
    rcases xw_ex h1 h2 h3 h4 hpx with ⟨e1, rfl⟩ | ⟨e1, rfl⟩
    · have hE : E = "java/lang/IndexOutOfBoundsException" := hE
      subst hE
      refine vx_catch (name := "java/lang/IndexOutOfBoundsException") hown [] ⟨0, 9, 12, 21⟩ [⟨0, 9, 15, 15⟩] (by rw [htab]; rfl) (fun z hz => nomatch hz) (by decide) (by decide) (hts (.classLink RL 21 "java/lang/IndexOutOfBoundsException") (List.mem_of_getElem? (i := 1) rfl)) (va_Nw.use rfl hK.2.2.2.2.2.2.2.1) hce hcv hcl ?_
      refine W.eq (g2 := F0 m 12 ls [.ref q9]) rfl ?_
      refine lv_astore_n (lv' := [(3, .ref q9), (0, .ref y0), (1, .int y1), (2, .ref qo)]) hx hb dL_toggle_12 rfl hl (by decide) rfl (fun ls hl => ?_)
      refine lv_iconst (v := 1) hx hb dL_toggle_13 (by decide) ?_
      refine W.widen (k := 1) (n := 6) (by omega) (by omega) ?_
      exact W.iret (v := 1) hx hb hr (fun t9 ht9 hW => ⟨⟨1, (S1, f), rfl, ⟨by rw [e1]; rfl, hXX, fun z => by rw [e1] at z; cases z⟩, by rw [ht9]; exact b1, b2, by rw [ht9]; exact hO1⟩, hS1.F ht9⟩) hS1.2.2 dL_toggle_14
    · have hE : E = "java/lang/IllegalStateException" := hE
      subst hE
      refine vx_catch (name := "java/lang/IllegalStateException") hown [⟨0, 9, 12, 21⟩] ⟨0, 9, 15, 15⟩ [] (by rw [htab]; rfl) (fun z hz => by cases List.mem_singleton.mp hz; exact Or.inr ⟨by decide, "java/lang/IndexOutOfBoundsException", hts (.classLink RL 21 "java/lang/IndexOutOfBoundsException") (List.mem_of_getElem? (i := 1) rfl), hNC.2.1⟩) (by decide) (by decide) (hts (.classLink RL 15 "java/lang/IllegalStateException") (List.mem_of_getElem? (i := 2) rfl)) (va_Nw.use rfl hK.2.2.2.2.2.2.1) hce hcv hcl ?_
      refine W.eq (g2 := F0 m 15 ls [.ref q9]) rfl ?_
      refine lv_astore_n (lv' := [(3, .ref q9), (0, .ref y0), (1, .int y1), (2, .ref qo)]) hx hb dL_toggle_15 rfl hl (by decide) rfl (fun ls hl => ?_)
      refine lv_iconst (v := 2) hx hb dL_toggle_16 (by decide) ?_
      refine W.widen (k := 1) (n := 6) (by omega) (by omega) ?_
      exact W.iret (v := 2) hx hb hr (fun t9 ht9 hW => ⟨⟨2, (S1, f), rfl, ⟨by rw [e1]; rfl, hXX, fun z => by rw [e1] at z; cases z⟩, by rw [ht9]; exact b1, b2, by rw [ht9]; exact hO1⟩, hS1.F ht9⟩) hS1.2.2 dL_toggle_17
  · obtain ⟨g1, g2⟩ := hw2
    obtain ⟨b1, b2, b3, b4⟩ := hB
    rw [ht] at b1 b3
    subst g2
    obtain ⟨e1, e2⟩ := xw_ok h1 h2 h3 h4 g1
    have hO1 := o_stay hO hqo hsz hk1
    refine lv_i2l hx hb dL_toggle_7 rfl ?_
    refine o_last hx hb hKL hO1 dL_toggle_8 (fun H2 o1 o2 o3 => ?_)
    have hS2 := hS1.put (k := z0) o2 o3 (show AQ cy S n qo qo from Or.inl rfl)
    have p2 := wl_stay b1 (H1 := H2) (fun q hq => o3 q (fun h9 => by subst h9; rcases wl_dAA b2 hq with h9 | h9; exact hqo h9; omega))
    refine lv_goto (tgt := 18) hx hb dL_toggle_9 (by decide) ?_
    refine lv_iconst (v := 0) hx hb dL_toggle_18 (by decide) ?_
    refine W.widen (k := 1) (n := 6) (by omega) (by omega) ?_
    exact W.iret (v := 0) hx hb hr (fun t9 ht9 hW => ⟨⟨0, (S1, vp_updL f z0 r.toInt64), rfl, ⟨by rw [e1]; rfl, hXX, fun _ => by rw [← e2]; exact o_self (f := f) (x := r.toInt64)⟩, by rw [ht9]; exact p2, b2, by rw [ht9]; exact o1⟩, hS2.F ht9⟩) hS2.2.2 dL_toggle_19
set_option maxHeartbeats 4000000 in
set_option maxRecDepth 100000 in
theorem c_L_bare (l : Launch) (hst : l.stackTraces = false) (D : va_G) (cy : cyT) (cL : ClassId) {S : PS} {n : Nat} {y0 : Nat} {y1 : Int32} {qo : Nat} {f : Nat → Int64} (v_y0 : vd S y0 4) {T : Nat → TR} {sa bu sc jo : Nat} {w : Nat × Int32 × OS} (hX : XN 2 1 y0 T sa bu sc jo (f_X4_bare S n y0 y1) w) : Met l yL_bare wsL_bare ({ frames := 7, cells := 1, slots := 6, locals := 112 } : Room) (PcL D cy cL S n qo f [.ref y0, .int y1, .ref qo]) (va_Qi (fun (r : Int32) (u : PS × (Nat → Int64)) => r = nI w.1 ∧ XX u.1 y0 T sa bu sc jo w.2.2 ∧ (w.1 = 0 → u.2 z0 = w.2.1.toInt64)) (BL D cy cL S n qo) (AQ cy S n qo)) 1 6 (AQ cy S n qo) := by
  refine vx_toMet (XC := fun _ _ _ => False) (vx_ofWH (cc := cL_bare) (maxL := 4) (ret := some .int) (hh := [(0, 9, 12, 21), (0, 9, 15, 15)]) (by decide) rfl ?_) (fun _ _ _ h => h)
  intro p e s m args below meth c s₁ B hml hv
  refine vx_ret ?_
  obtain ⟨hav, hsz, hP0, hD0, hO, hqo, hK, hKL, hNC, hZ⟩ := hv
  have hx := B.exec
  have hb := B.bytes
  have hr := B.returns
  have hts := atoms_spec (ws := wsL_bare) B.pre
  have htab : c.exceptionTable.toList = tableOf [(0, 9, 12, 21), (0, 9, 15, 15)] := vx_table (x := yL_bare) B (hts _ List.mem_cons_self)
  have hown : s.vm.findClass RL = some m.cls := findClass_of_methodNamed B.named
  have hlocks := B.notSynchronized
  subst hav
  have hw : Hw D cy (AA cy S n) s.heap S n s.heap [] := Hw.start hsz hP0 hD0
  have hA : ∀ q, s.heap.size ≤ q → AA cy S n q := fun q h => Or.inr (hsz ▸ h)
  have hS : va_S (AQ cy S n qo) s.heap s.heap [] := va_S.rf
  have hql : qo < s.heap.size := (hO 0 _ rfl).lt
  have F : CallFix p m c cL_bare 4 s _ wsL_bare RL := ⟨hx, hb, hml, hown, hts⟩
  have hl := lv_entry ([.ref y0, .int y1, .ref qo]) (n := 4) (Nat.le_of_ble_eq_true rfl)
  rw [lg_entry_eq]
  generalize (lg_sl ([.ref y0, .int y1, .ref qo]) ++ List.replicate (4 - (lg_sl ([.ref y0, .int y1, .ref qo])).length) Slot.unset).toArray = ls at hl ⊢
  have hl : lv_has ls 4 [(0, .ref y0), (1, .int y1), (2, .ref qo)] := hl
  obtain ⟨S1, r0, n1, hf, h1, h2, h3, h4, hXX, hfr⟩ := hX
  refine lv_aload_n hx hb dL_bare_0 rfl (lv_at hl 2 rfl) ?_
  refine lv_iconst (v := 0) hx hb dL_bare_1 (by decide) ?_
  refine lv_aload_n hx hb dL_bare_2 rfl (lv_at hl 0 rfl) ?_
  refine lv_iload_n hx hb dL_bare_3 rfl (lv_at hl 1 rfl) ?_
  have hrun := vx_runV (mc := 1) (ms := 6) (As := [.int y1]) (rest := [.int 0, .ref qo]) (R := (headSpec wsL_bare ({ frames := 7, cells := 1, slots := 6, locals := 112 } : Room)).room) (l := l) (e := e) (below := below) (meth := meth) (locs := []) (cells := 0) (slots := 0) (g := F0 m 4 ls ([.int y1].reverse ++ .ref y0 :: [.int 0, .ref qo])) F (c_X4_bare l hst D cy v_y0 hf) (cwV 1 hts gL_bare_X4_bare rfl rfl rfl ⟨rfl, ph_X4_bare.1, ph_X4_bare.2, pd_X4_bare⟩ ⟨Nat.le_of_ble_eq_true rfl, Nat.le_of_ble_eq_true rfl⟩) ⟨PcW.bl, (q_rcv hK hw.1 v_y0.1 (pF_4 (S := S) v_y0.2) rfl), PcW.in hK hw hA (fun _ => hZ.narrow (fun q h => Or.inr h))⟩ rfl rfl hl.1 rfl (lv_room (Nat.le_of_ble_eq_true rfl)) dL_bare_4 ⟨Nat.le_of_ble_eq_true rfl, Nat.le_of_ble_eq_true rfl⟩
  refine vx_calli hrun hS (fun q _ h => Or.inr h) (fun q h => Or.inr h) (fun q _ h => Or.inr h) (fun E ce q9 k t H1 locs1 ht hvm hpx hBX hz1 hk1 hS1 hce hcv hcl => ?_) (fun r u t H1 locs1 ht hvm hw2 hB hz1 hk1 hS1 => ?_)
  · obtain ⟨hE, b1, b2, b4⟩ := hBX
    rw [ht] at b1
    have hO1 := o_stay hO hqo hsz hk1
    rcases xw_ex h1 h2 h3 h4 hpx with ⟨e1, rfl⟩ | ⟨e1, rfl⟩
    · have hE : E = "java/lang/IndexOutOfBoundsException" := hE
      subst hE
      refine vx_catch (name := "java/lang/IndexOutOfBoundsException") hown [] ⟨0, 9, 12, 21⟩ [⟨0, 9, 15, 15⟩] (by rw [htab]; rfl) (fun z hz => nomatch hz) (by decide) (by decide) (hts (.classLink RL 21 "java/lang/IndexOutOfBoundsException") (List.mem_of_getElem? (i := 1) rfl)) (va_Nw.use rfl hK.2.2.2.2.2.2.2.1) hce hcv hcl ?_
      refine W.eq (g2 := F0 m 12 ls [.ref q9]) rfl ?_
      refine lv_astore_n (lv' := [(3, .ref q9), (0, .ref y0), (1, .int y1), (2, .ref qo)]) hx hb dL_bare_12 rfl hl (by decide) rfl (fun ls hl => ?_)
      refine lv_iconst (v := 1) hx hb dL_bare_13 (by decide) ?_
      refine W.widen (k := 1) (n := 6) (by omega) (by omega) ?_
      exact W.iret (v := 1) hx hb hr (fun t9 ht9 hW => ⟨⟨1, (S1, f), rfl, ⟨by rw [e1]; rfl, hXX, fun z => by rw [e1] at z; cases z⟩, by rw [ht9]; exact b1, b2, by rw [ht9]; exact hO1⟩, hS1.F ht9⟩) hS1.2.2 dL_bare_14
    · have hE : E = "java/lang/IllegalStateException" := hE
      subst hE
      refine vx_catch (name := "java/lang/IllegalStateException") hown [⟨0, 9, 12, 21⟩] ⟨0, 9, 15, 15⟩ [] (by rw [htab]; rfl) (fun z hz => by cases List.mem_singleton.mp hz; exact Or.inr ⟨by decide, "java/lang/IndexOutOfBoundsException", hts (.classLink RL 21 "java/lang/IndexOutOfBoundsException") (List.mem_of_getElem? (i := 1) rfl), hNC.2.1⟩) (by decide) (by decide) (hts (.classLink RL 15 "java/lang/IllegalStateException") (List.mem_of_getElem? (i := 2) rfl)) (va_Nw.use rfl hK.2.2.2.2.2.2.1) hce hcv hcl ?_
      refine W.eq (g2 := F0 m 15 ls [.ref q9]) rfl ?_
      refine lv_astore_n (lv' := [(3, .ref q9), (0, .ref y0), (1, .int y1), (2, .ref qo)]) hx hb dL_bare_15 rfl hl (by decide) rfl (fun ls hl => ?_)
      refine lv_iconst (v := 2) hx hb dL_bare_16 (by decide) ?_
      refine W.widen (k := 1) (n := 6) (by omega) (by omega) ?_
      exact W.iret (v := 2) hx hb hr (fun t9 ht9 hW => ⟨⟨2, (S1, f), rfl, ⟨by rw [e1]; rfl, hXX, fun z => by rw [e1] at z; cases z⟩, by rw [ht9]; exact b1, b2, by rw [ht9]; exact hO1⟩, hS1.F ht9⟩) hS1.2.2 dL_bare_17
  · obtain ⟨g1, g2⟩ := hw2
    obtain ⟨b1, b2, b3, b4⟩ := hB
    rw [ht] at b1 b3
    subst g2
    obtain ⟨e1, e2⟩ := xw_ok h1 h2 h3 h4 g1
    have hO1 := o_stay hO hqo hsz hk1
    refine lv_i2l hx hb dL_bare_7 rfl ?_
    refine o_last hx hb hKL hO1 dL_bare_8 (fun H2 o1 o2 o3 => ?_)
    have hS2 := hS1.put (k := z0) o2 o3 (show AQ cy S n qo qo from Or.inl rfl)
    have p2 := wl_stay b1 (H1 := H2) (fun q hq => o3 q (fun h9 => by subst h9; rcases wl_dAA b2 hq with h9 | h9; exact hqo h9; omega))
    refine lv_goto (tgt := 18) hx hb dL_bare_9 (by decide) ?_
    refine lv_iconst (v := 0) hx hb dL_bare_18 (by decide) ?_
    refine W.widen (k := 1) (n := 6) (by omega) (by omega) ?_
    exact W.iret (v := 0) hx hb hr (fun t9 ht9 hW => ⟨⟨0, (S1, vp_updL f z0 r.toInt64), rfl, ⟨by rw [e1]; rfl, hXX, fun _ => by rw [← e2]; exact o_self (f := f) (x := r.toInt64)⟩, by rw [ht9]; exact p2, b2, by rw [ht9]; exact o1⟩, hS2.F ht9⟩) hS2.2.2 dL_bare_19
set_option maxHeartbeats 4000000 in
set_option maxRecDepth 100000 in
theorem c_L_thin (l : Launch) (hst : l.stackTraces = false) (D : va_G) (cy : cyT) (cL : ClassId) {S : PS} {n : Nat} {y0 : Nat} {qo : Nat} {f : Nat → Int64} (v_y0 : vd S y0 4) {T : Nat → TR} {sa bu sc jo : Nat} {k2 : Nat} {w : Nat × Int32 × OS} (hX : XG 1 k2 y0 T sa bu sc jo S (f_X4_thin S y0) w) (hw1 : w.1 ≤ 1) : Met l yL_thin wsL_thin ({ frames := 7, cells := 1, slots := 6, locals := 133 } : Room) (PcL D cy cL S n qo f [.ref y0, .ref qo]) (va_Qi (fun (r : Int32) (u : PS × (Nat → Int64)) => r = nI w.1 ∧ XX u.1 y0 T sa bu sc jo w.2.2 ∧ (w.1 = 0 → u.2 z0 = w.2.1.toInt64)) (BL D cy cL S n qo) (AQ cy S n qo)) 1 6 (AQ cy S n qo) := by
  refine vx_toMet (XC := fun _ _ _ => False) (vx_ofWH (cc := cL_thin) (maxL := 3) (ret := some .int) (hh := [(0, 8, 11, 15)]) (by decide) rfl ?_) (fun _ _ _ h => h)
  intro p e s m args below meth c s₁ B hml hv
  refine vx_ret ?_
  obtain ⟨hav, hsz, hP0, hD0, hO, hqo, hK, hKL, hNC, hZ⟩ := hv
  have hx := B.exec
  have hb := B.bytes
  have hr := B.returns
  have hts := atoms_spec (ws := wsL_thin) B.pre
  have htab : c.exceptionTable.toList = tableOf [(0, 8, 11, 15)] := vx_table (x := yL_thin) B (hts _ List.mem_cons_self)
  have hown : s.vm.findClass RL = some m.cls := findClass_of_methodNamed B.named
  have hlocks := B.notSynchronized
  subst hav
  have hw : Hw D cy (AA cy S n) s.heap S n s.heap [] := Hw.start hsz hP0 hD0
  have hA : ∀ q, s.heap.size ≤ q → AA cy S n q := fun q h => Or.inr (hsz ▸ h)
  have hS : va_S (AQ cy S n qo) s.heap s.heap [] := va_S.rf
  have hql : qo < s.heap.size := (hO 0 _ rfl).lt
  have F : CallFix p m c cL_thin 3 s _ wsL_thin RL := ⟨hx, hb, hml, hown, hts⟩
  have hl := lv_entry ([.ref y0, .ref qo]) (n := 3) (Nat.le_of_ble_eq_true rfl)
  rw [lg_entry_eq]
  generalize (lg_sl ([.ref y0, .ref qo]) ++ List.replicate (3 - (lg_sl ([.ref y0, .ref qo])).length) Slot.unset).toArray = ls at hl ⊢
  have hl : lv_has ls 3 [(0, .ref y0), (1, .ref qo)] := hl
  obtain ⟨S1, r0, hf, h1, h2, h3, h4, hXX, -⟩ := hX
  refine lv_aload_n hx hb dL_thin_0 rfl (lv_at hl 1 rfl) ?_
  refine lv_iconst (v := 0) hx hb dL_thin_1 (by decide) ?_
  refine lv_aload_n hx hb dL_thin_2 rfl (lv_at hl 0 rfl) ?_
  have hrun := vx_runV (mc := 1) (ms := 6) (As := []) (rest := [.int 0, .ref qo]) (R := (headSpec wsL_thin ({ frames := 7, cells := 1, slots := 6, locals := 133 } : Room)).room) (l := l) (e := e) (below := below) (meth := meth) (locs := []) (cells := 0) (slots := 0) (g := F0 m 3 ls ([].reverse ++ .ref y0 :: [.int 0, .ref qo])) F (c_X4_thin l hst D cy v_y0 hf) (cwV 0 hts gL_thin_X4_thin rfl rfl rfl ⟨rfl, ph_X4_thin.1, ph_X4_thin.2, pd_X4_thin⟩ ⟨Nat.le_of_ble_eq_true rfl, Nat.le_of_ble_eq_true rfl⟩) ⟨PcW.bl, (q_rcv hK hw.1 v_y0.1 (pF_4 (S := S) v_y0.2) rfl), PcW.in hK hw hA (fun _ => hZ.narrow (fun q h => Or.inr h))⟩ rfl rfl hl.1 rfl (lv_room (Nat.le_of_ble_eq_true rfl)) dL_thin_3 ⟨Nat.le_of_ble_eq_true rfl, Nat.le_of_ble_eq_true rfl⟩
  refine vx_calli hrun hS (fun q _ h => Or.inr h) (fun q h => Or.inr h) (fun q _ h => Or.inr h) (fun E ce q9 k t H1 locs1 ht hvm hpx hBX hz1 hk1 hS1 hce hcv hcl => ?_) (fun r u t H1 locs1 ht hvm hw2 hB hz1 hk1 hS1 => ?_)
  · obtain ⟨hE, b1, b2, b4⟩ := hBX
    rw [ht] at b1
    have hO1 := o_stay hO hqo hsz hk1
    rcases xw_ex h1 h2 h3 h4 hpx with ⟨e1, rfl⟩ | ⟨e1, -⟩
    · have hE : E = "java/lang/IllegalStateException" := hE
      subst hE
      refine vx_catch (name := "java/lang/IllegalStateException") hown [] ⟨0, 8, 11, 15⟩ [] (by rw [htab]; rfl) (fun z hz => nomatch hz) (by decide) (by decide) (hts (.classLink RL 15 "java/lang/IllegalStateException") (List.mem_of_getElem? (i := 1) rfl)) (va_Nw.use rfl hK.2.2.2.2.2.2.1) hce hcv hcl ?_
      refine W.eq (g2 := F0 m 11 ls [.ref q9]) rfl ?_
      refine lv_astore_n (lv' := [(2, .ref q9), (0, .ref y0), (1, .ref qo)]) hx hb dL_thin_11 rfl hl (by decide) rfl (fun ls hl => ?_)
      refine lv_iconst (v := 1) hx hb dL_thin_12 (by decide) ?_
      refine W.widen (k := 1) (n := 6) (by omega) (by omega) ?_
      exact W.iret (v := 1) hx hb hr (fun t9 ht9 hW => ⟨⟨1, (S1, f), rfl, ⟨by rw [e1]; rfl, hXX, fun z => by rw [e1] at z; cases z⟩, by rw [ht9]; exact b1, b2, by rw [ht9]; exact hO1⟩, hS1.F ht9⟩) hS1.2.2 dL_thin_13
    · omega
  · obtain ⟨g1, g2⟩ := hw2
    obtain ⟨b1, b2, b3, b4⟩ := hB
    rw [ht] at b1 b3
    subst g2
    obtain ⟨e1, e2⟩ := xw_ok h1 h2 h3 h4 g1
    have hO1 := o_stay hO hqo hsz hk1
    refine lv_i2l hx hb dL_thin_6 rfl ?_
    refine o_last hx hb hKL hO1 dL_thin_7 (fun H2 o1 o2 o3 => ?_)
    have hS2 := hS1.put (k := z0) o2 o3 (show AQ cy S n qo qo from Or.inl rfl)
    have p2 := wl_stay b1 (H1 := H2) (fun q hq => o3 q (fun h9 => by subst h9; rcases wl_dAA b2 hq with h9 | h9; exact hqo h9; omega))
    refine lv_goto (tgt := 14) hx hb dL_thin_8 (by decide) ?_
    refine lv_iconst (v := 0) hx hb dL_thin_14 (by decide) ?_
    refine W.widen (k := 1) (n := 6) (by omega) (by omega) ?_
    exact W.iret (v := 0) hx hb hr (fun t9 ht9 hW => ⟨⟨0, (S1, vp_updL f z0 r.toInt64), rfl, ⟨by rw [e1]; rfl, hXX, fun _ => by rw [← e2]; exact o_self (f := f) (x := r.toInt64)⟩, by rw [ht9]; exact p2, b2, by rw [ht9]; exact o1⟩, hS2.F ht9⟩) hS2.2.2 dL_thin_15
set_option maxHeartbeats 4000000 in
set_option maxRecDepth 100000 in
theorem c_L_agree (l : Launch) (hst : l.stackTraces = false) (D : va_G) (cy : cyT) (cL : ClassId) {S : PS} {n : Nat} {y0 : Nat} {qo : Nat} {f : Nat → Int64} (v_y0 : vd S y0 4) {T : Nat → TR} {sa bu sc jo : Nat} {k2 : Nat} {w : Nat × Int32 × OS} (hX : XG 1 k2 y0 T sa bu sc jo S (f_X4_agree S y0) w) (hw1 : w.1 ≤ 1) : Met l yL_agree wsL_agree ({ frames := 7, cells := 1, slots := 6, locals := 111 } : Room) (PcL D cy cL S n qo f [.ref y0, .ref qo]) (va_Qi (fun (r : Int32) (u : PS × (Nat → Int64)) => r = nI w.1 ∧ XX u.1 y0 T sa bu sc jo w.2.2 ∧ (w.1 = 0 → u.2 z0 = w.2.1.toInt64)) (BL D cy cL S n qo) (AQ cy S n qo)) 1 6 (AQ cy S n qo) := by
  refine vx_toMet (XC := fun _ _ _ => False) (vx_ofWH (cc := cL_agree) (maxL := 3) (ret := some .int) (hh := [(0, 8, 11, 15)]) (by decide) rfl ?_) (fun _ _ _ h => h)
  intro p e s m args below meth c s₁ B hml hv
  refine vx_ret ?_
  obtain ⟨hav, hsz, hP0, hD0, hO, hqo, hK, hKL, hNC, hZ⟩ := hv
  have hx := B.exec
  have hb := B.bytes
  have hr := B.returns
  have hts := atoms_spec (ws := wsL_agree) B.pre
  have htab : c.exceptionTable.toList = tableOf [(0, 8, 11, 15)] := vx_table (x := yL_agree) B (hts _ List.mem_cons_self)
  have hown : s.vm.findClass RL = some m.cls := findClass_of_methodNamed B.named
  have hlocks := B.notSynchronized
  subst hav
  have hw : Hw D cy (AA cy S n) s.heap S n s.heap [] := Hw.start hsz hP0 hD0
  have hA : ∀ q, s.heap.size ≤ q → AA cy S n q := fun q h => Or.inr (hsz ▸ h)
  have hS : va_S (AQ cy S n qo) s.heap s.heap [] := va_S.rf
  have hql : qo < s.heap.size := (hO 0 _ rfl).lt
  have F : CallFix p m c cL_agree 3 s _ wsL_agree RL := ⟨hx, hb, hml, hown, hts⟩
  have hl := lv_entry ([.ref y0, .ref qo]) (n := 3) (Nat.le_of_ble_eq_true rfl)
  rw [lg_entry_eq]
  generalize (lg_sl ([.ref y0, .ref qo]) ++ List.replicate (3 - (lg_sl ([.ref y0, .ref qo])).length) Slot.unset).toArray = ls at hl ⊢
  have hl : lv_has ls 3 [(0, .ref y0), (1, .ref qo)] := hl
  obtain ⟨S1, r0, hf, h1, h2, h3, h4, hXX, -⟩ := hX
  refine lv_aload_n hx hb dL_agree_0 rfl (lv_at hl 1 rfl) ?_
  refine lv_iconst (v := 0) hx hb dL_agree_1 (by decide) ?_
  refine lv_aload_n hx hb dL_agree_2 rfl (lv_at hl 0 rfl) ?_
  have hrun := vx_runV (mc := 1) (ms := 6) (As := []) (rest := [.int 0, .ref qo]) (R := (headSpec wsL_agree ({ frames := 7, cells := 1, slots := 6, locals := 111 } : Room)).room) (l := l) (e := e) (below := below) (meth := meth) (locs := []) (cells := 0) (slots := 0) (g := F0 m 3 ls ([].reverse ++ .ref y0 :: [.int 0, .ref qo])) F (c_X4_agree l hst D cy v_y0 hf) (cwV 0 hts gL_agree_X4_agree rfl rfl rfl ⟨rfl, ph_X4_agree.1, ph_X4_agree.2, pd_X4_agree⟩ ⟨Nat.le_of_ble_eq_true rfl, Nat.le_of_ble_eq_true rfl⟩) ⟨PcW.bl, (q_rcv hK hw.1 v_y0.1 (pF_4 (S := S) v_y0.2) rfl), PcW.in hK hw hA (fun _ => hZ.narrow (fun q h => Or.inr h))⟩ rfl rfl hl.1 rfl (lv_room (Nat.le_of_ble_eq_true rfl)) dL_agree_3 ⟨Nat.le_of_ble_eq_true rfl, Nat.le_of_ble_eq_true rfl⟩
  refine vx_calli hrun hS (fun q _ h => Or.inr h) (fun q h => Or.inr h) (fun q _ h => Or.inr h) (fun E ce q9 k t H1 locs1 ht hvm hpx hBX hz1 hk1 hS1 hce hcv hcl => ?_) (fun r u t H1 locs1 ht hvm hw2 hB hz1 hk1 hS1 => ?_)
  · obtain ⟨hE, b1, b2, b4⟩ := hBX
    rw [ht] at b1
    have hO1 := o_stay hO hqo hsz hk1
    rcases xw_ex h1 h2 h3 h4 hpx with ⟨e1, rfl⟩ | ⟨e1, -⟩
    · have hE : E = "java/lang/IllegalStateException" := hE
      subst hE
      refine vx_catch (name := "java/lang/IllegalStateException") hown [] ⟨0, 8, 11, 15⟩ [] (by rw [htab]; rfl) (fun z hz => nomatch hz) (by decide) (by decide) (hts (.classLink RL 15 "java/lang/IllegalStateException") (List.mem_of_getElem? (i := 1) rfl)) (va_Nw.use rfl hK.2.2.2.2.2.2.1) hce hcv hcl ?_
      refine W.eq (g2 := F0 m 11 ls [.ref q9]) rfl ?_
      refine lv_astore_n (lv' := [(2, .ref q9), (0, .ref y0), (1, .ref qo)]) hx hb dL_agree_11 rfl hl (by decide) rfl (fun ls hl => ?_)
      refine lv_iconst (v := 1) hx hb dL_agree_12 (by decide) ?_
      refine W.widen (k := 1) (n := 6) (by omega) (by omega) ?_
      exact W.iret (v := 1) hx hb hr (fun t9 ht9 hW => ⟨⟨1, (S1, f), rfl, ⟨by rw [e1]; rfl, hXX, fun z => by rw [e1] at z; cases z⟩, by rw [ht9]; exact b1, b2, by rw [ht9]; exact hO1⟩, hS1.F ht9⟩) hS1.2.2 dL_agree_13
    · omega
  · obtain ⟨g1, g2⟩ := hw2
    obtain ⟨b1, b2, b3, b4⟩ := hB
    rw [ht] at b1 b3
    subst g2
    obtain ⟨e1, e2⟩ := xw_ok h1 h2 h3 h4 g1
    have hO1 := o_stay hO hqo hsz hk1
    refine lv_i2l hx hb dL_agree_6 rfl ?_
    refine o_last hx hb hKL hO1 dL_agree_7 (fun H2 o1 o2 o3 => ?_)
    have hS2 := hS1.put (k := z0) o2 o3 (show AQ cy S n qo qo from Or.inl rfl)
    have p2 := wl_stay b1 (H1 := H2) (fun q hq => o3 q (fun h9 => by subst h9; rcases wl_dAA b2 hq with h9 | h9; exact hqo h9; omega))
    refine lv_goto (tgt := 14) hx hb dL_agree_8 (by decide) ?_
    refine lv_iconst (v := 0) hx hb dL_agree_14 (by decide) ?_
    refine W.widen (k := 1) (n := 6) (by omega) (by omega) ?_
    exact W.iret (v := 0) hx hb hr (fun t9 ht9 hW => ⟨⟨0, (S1, vp_updL f z0 r.toInt64), rfl, ⟨by rw [e1]; rfl, hXX, fun _ => by rw [← e2]; exact o_self (f := f) (x := r.toInt64)⟩, by rw [ht9]; exact p2, b2, by rw [ht9]; exact o1⟩, hS2.F ht9⟩) hS2.2.2 dL_agree_15
set_option maxHeartbeats 4000000 in
set_option maxRecDepth 100000 in
theorem c_L_append (l : Launch) (hst : l.stackTraces = false) (D : va_G) (cy : cyT) (cL : ClassId) {S : PS} {n : Nat} {y0 : Nat} {y1 : Int32} {qo : Nat} {f : Nat → Int64} (v_y0 : vd S y0 4) {T : Nat → TR} {sa bu sc jo : Nat} {w : Nat × Int32 × OS} (hX : XG 0 1 y0 T sa bu sc jo S (f_X4_append S y0 y1) w) : Met l yL_append wsL_append ({ frames := 7, cells := 1, slots := 6, locals := 111 } : Room) (PcL D cy cL S n qo f [.ref y0, .int y1, .ref qo]) (va_Qi (fun (r : Int32) (u : PS × (Nat → Int64)) => r = nI w.1 ∧ XX u.1 y0 T sa bu sc jo w.2.2 ∧ (w.1 = 0 → u.2 z0 = w.2.1.toInt64)) (BL D cy cL S n qo) (AQ cy S n qo)) 1 6 (AQ cy S n qo) := by
  refine vx_toMet (XC := fun _ _ _ => False) (vx_ofWH (cc := cL_append) (maxL := 4) (ret := some .int) (hh := [(0, 9, 12, 13), (0, 9, 15, 15)]) (by decide) rfl ?_) (fun _ _ _ h => h)
  intro p e s m args below meth c s₁ B hml hv
  refine vx_ret ?_
  obtain ⟨hav, hsz, hP0, hD0, hO, hqo, hK, hKL, hNC, hZ⟩ := hv
  have hx := B.exec
  have hb := B.bytes
  have hr := B.returns
  have hts := atoms_spec (ws := wsL_append) B.pre
  have htab : c.exceptionTable.toList = tableOf [(0, 9, 12, 13), (0, 9, 15, 15)] := vx_table (x := yL_append) B (hts _ List.mem_cons_self)
  have hown : s.vm.findClass RL = some m.cls := findClass_of_methodNamed B.named
  have hlocks := B.notSynchronized
  subst hav
  have hw : Hw D cy (AA cy S n) s.heap S n s.heap [] := Hw.start hsz hP0 hD0
  have hA : ∀ q, s.heap.size ≤ q → AA cy S n q := fun q h => Or.inr (hsz ▸ h)
  have hS : va_S (AQ cy S n qo) s.heap s.heap [] := va_S.rf
  have hql : qo < s.heap.size := (hO 0 _ rfl).lt
  have F : CallFix p m c cL_append 4 s _ wsL_append RL := ⟨hx, hb, hml, hown, hts⟩
  have hl := lv_entry ([.ref y0, .int y1, .ref qo]) (n := 4) (Nat.le_of_ble_eq_true rfl)
  rw [lg_entry_eq]
  generalize (lg_sl ([.ref y0, .int y1, .ref qo]) ++ List.replicate (4 - (lg_sl ([.ref y0, .int y1, .ref qo])).length) Slot.unset).toArray = ls at hl ⊢
  have hl : lv_has ls 4 [(0, .ref y0), (1, .int y1), (2, .ref qo)] := hl
  obtain ⟨S1, r0, hf, h1, h2, h3, h4, hXX, -⟩ := hX
  refine lv_aload_n hx hb dL_append_0 rfl (lv_at hl 2 rfl) ?_
  refine lv_iconst (v := 0) hx hb dL_append_1 (by decide) ?_
  refine lv_aload_n hx hb dL_append_2 rfl (lv_at hl 0 rfl) ?_
  refine lv_iload_n hx hb dL_append_3 rfl (lv_at hl 1 rfl) ?_
  have hrun := vx_runV (mc := 1) (ms := 6) (As := [.int y1]) (rest := [.int 0, .ref qo]) (R := (headSpec wsL_append ({ frames := 7, cells := 1, slots := 6, locals := 111 } : Room)).room) (l := l) (e := e) (below := below) (meth := meth) (locs := []) (cells := 0) (slots := 0) (g := F0 m 4 ls ([.int y1].reverse ++ .ref y0 :: [.int 0, .ref qo])) F (c_X4_append l hst D cy v_y0 hf) (cwV 1 hts gL_append_X4_append rfl rfl rfl ⟨rfl, ph_X4_append.1, ph_X4_append.2, pd_X4_append⟩ ⟨Nat.le_of_ble_eq_true rfl, Nat.le_of_ble_eq_true rfl⟩) ⟨PcW.bl, (q_rcv hK hw.1 v_y0.1 (pF_4 (S := S) v_y0.2) rfl), PcW.in hK hw hA (fun _ => hZ.narrow (fun q h => Or.inr h))⟩ rfl rfl hl.1 rfl (lv_room (Nat.le_of_ble_eq_true rfl)) dL_append_4 ⟨Nat.le_of_ble_eq_true rfl, Nat.le_of_ble_eq_true rfl⟩
  refine vx_calli hrun hS (fun q _ h => Or.inr h) (fun q h => Or.inr h) (fun q _ h => Or.inr h) (fun E ce q9 k t H1 locs1 ht hvm hpx hBX hz1 hk1 hS1 hce hcv hcl => ?_) (fun r u t H1 locs1 ht hvm hw2 hB hz1 hk1 hS1 => ?_)
  · obtain ⟨hE, b1, b2, b4⟩ := hBX
    rw [ht] at b1
    have hO1 := o_stay hO hqo hsz hk1
    rcases xw_ex h1 h2 h3 h4 hpx with ⟨e1, rfl⟩ | ⟨e1, rfl⟩
    · have hE : E = "java/lang/IllegalArgumentException" := hE
      subst hE
      refine vx_catch (name := "java/lang/IllegalArgumentException") hown [] ⟨0, 9, 12, 13⟩ [⟨0, 9, 15, 15⟩] (by rw [htab]; rfl) (fun z hz => nomatch hz) (by decide) (by decide) (hts (.classLink RL 13 "java/lang/IllegalArgumentException") (List.mem_of_getElem? (i := 1) rfl)) (va_Nw.use rfl hK.2.2.2.2.2.1) hce hcv hcl ?_
      refine W.eq (g2 := F0 m 12 ls [.ref q9]) rfl ?_
      refine lv_astore_n (lv' := [(3, .ref q9), (0, .ref y0), (1, .int y1), (2, .ref qo)]) hx hb dL_append_12 rfl hl (by decide) rfl (fun ls hl => ?_)
      refine lv_iconst (v := 1) hx hb dL_append_13 (by decide) ?_
      refine W.widen (k := 1) (n := 6) (by omega) (by omega) ?_
      exact W.iret (v := 1) hx hb hr (fun t9 ht9 hW => ⟨⟨1, (S1, f), rfl, ⟨by rw [e1]; rfl, hXX, fun z => by rw [e1] at z; cases z⟩, by rw [ht9]; exact b1, b2, by rw [ht9]; exact hO1⟩, hS1.F ht9⟩) hS1.2.2 dL_append_14
    · have hE : E = "java/lang/IllegalStateException" := hE
      subst hE
      refine vx_catch (name := "java/lang/IllegalStateException") hown [⟨0, 9, 12, 13⟩] ⟨0, 9, 15, 15⟩ [] (by rw [htab]; rfl) (fun z hz => by cases List.mem_singleton.mp hz; exact Or.inr ⟨by decide, "java/lang/IllegalArgumentException", hts (.classLink RL 13 "java/lang/IllegalArgumentException") (List.mem_of_getElem? (i := 1) rfl), hNC.1⟩) (by decide) (by decide) (hts (.classLink RL 15 "java/lang/IllegalStateException") (List.mem_of_getElem? (i := 2) rfl)) (va_Nw.use rfl hK.2.2.2.2.2.2.1) hce hcv hcl ?_
      refine W.eq (g2 := F0 m 15 ls [.ref q9]) rfl ?_
      refine lv_astore_n (lv' := [(3, .ref q9), (0, .ref y0), (1, .int y1), (2, .ref qo)]) hx hb dL_append_15 rfl hl (by decide) rfl (fun ls hl => ?_)
      refine lv_iconst (v := 2) hx hb dL_append_16 (by decide) ?_
      refine W.widen (k := 1) (n := 6) (by omega) (by omega) ?_
      exact W.iret (v := 2) hx hb hr (fun t9 ht9 hW => ⟨⟨2, (S1, f), rfl, ⟨by rw [e1]; rfl, hXX, fun z => by rw [e1] at z; cases z⟩, by rw [ht9]; exact b1, b2, by rw [ht9]; exact hO1⟩, hS1.F ht9⟩) hS1.2.2 dL_append_17
  · obtain ⟨g1, g2⟩ := hw2
    obtain ⟨b1, b2, b3, b4⟩ := hB
    rw [ht] at b1 b3
    subst g2
    obtain ⟨e1, e2⟩ := xw_ok h1 h2 h3 h4 g1
    have hO1 := o_stay hO hqo hsz hk1
    refine lv_i2l hx hb dL_append_7 rfl ?_
    refine o_last hx hb hKL hO1 dL_append_8 (fun H2 o1 o2 o3 => ?_)
    have hS2 := hS1.put (k := z0) o2 o3 (show AQ cy S n qo qo from Or.inl rfl)
    have p2 := wl_stay b1 (H1 := H2) (fun q hq => o3 q (fun h9 => by subst h9; rcases wl_dAA b2 hq with h9 | h9; exact hqo h9; omega))
    refine lv_goto (tgt := 18) hx hb dL_append_9 (by decide) ?_
    refine lv_iconst (v := 0) hx hb dL_append_18 (by decide) ?_
    refine W.widen (k := 1) (n := 6) (by omega) (by omega) ?_
    exact W.iret (v := 0) hx hb hr (fun t9 ht9 hW => ⟨⟨0, (S1, vp_updL f z0 r.toInt64), rfl, ⟨by rw [e1]; rfl, hXX, fun _ => by rw [← e2]; exact o_self (f := f) (x := r.toInt64)⟩, by rw [ht9]; exact p2, b2, by rw [ht9]; exact o1⟩, hS2.F ht9⟩) hS2.2.2 dL_append_19

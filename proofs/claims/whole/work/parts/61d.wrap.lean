set_option maxHeartbeats 4000000 in
set_option maxRecDepth 100000 in
theorem c_L_answer (l : Launch) (hst : l.stackTraces = false) (D : va_G) (cy : cyT) (cL : ClassId) {S : PS} {n : Nat} {y0 : Nat} {y1 : Int64} {y3 : Int32} {qo : Nat} {f : Nat → Int64} (v_y0 : vd S y0 4) {T : Nat → TR} {sa bu sc jo : Nat} {k2 : Nat} {w : Nat × Int64 × OS} (hX : XG 0 k2 y0 T sa bu sc jo S (f_X4_answer S y0 y1 y3) w) (hw1 : w.1 ≤ 1) : Met l yL_answer wsL_answer ({ frames := 7, cells := 1, slots := 6, locals := 114 } : Room) (PcL D cy cL S n qo f [.ref y0, .long y1, .int y3, .ref qo]) (va_Qi (fun (r : Int32) (u : PS × (Nat → Int64)) => r = nI w.1 ∧ XX u.1 y0 T sa bu sc jo w.2.2 ∧ (w.1 = 0 → u.2 z0 = w.2.1)) (BL D cy cL S n qo) (AQ cy S n qo)) 1 6 (AQ cy S n qo) := by
  refine vx_toMet (XC := fun _ _ _ => False) (vx_ofWH (cc := cL_answer) (maxL := 6) (ret := some .int) (hh := [(0, 10, 13, 13)]) (by decide) rfl ?_) (fun _ _ _ h => h)
  intro p e s m args below meth c s₁ B hml hv
  refine vx_ret ?_
  obtain ⟨hav, hsz, hP0, hD0, hO, hqo, hK, hKL, hNC, hZ⟩ := hv
  have hx := B.exec
  have hb := B.bytes
  have hr := B.returns
  have hts := atoms_spec (ws := wsL_answer) B.pre
  have htab : c.exceptionTable.toList = tableOf [(0, 10, 13, 13)] := vx_table (x := yL_answer) B (hts _ List.mem_cons_self)
  have hown : s.vm.findClass RL = some m.cls := findClass_of_methodNamed B.named
  have hlocks := B.notSynchronized
  subst hav
  have hw : Hw D cy (AA cy S n) s.heap S n s.heap [] := Hw.start hsz hP0 hD0
  have hA : ∀ q, s.heap.size ≤ q → AA cy S n q := fun q h => Or.inr (hsz ▸ h)
  have hS : va_S (AQ cy S n qo) s.heap s.heap [] := va_S.rf
  have hql : qo < s.heap.size := (hO 0 _ rfl).lt
  have F : CallFix p m c cL_answer 6 s _ wsL_answer RL := ⟨hx, hb, hml, hown, hts⟩
  have hl := lv_entry ([.ref y0, .long y1, .int y3, .ref qo]) (n := 6) (Nat.le_of_ble_eq_true rfl)
  rw [lg_entry_eq]
  generalize (lg_sl ([.ref y0, .long y1, .int y3, .ref qo]) ++ List.replicate (6 - (lg_sl ([.ref y0, .long y1, .int y3, .ref qo])).length) Slot.unset).toArray = ls at hl ⊢
  have hl : lv_has ls 6 [(0, .ref y0), (1, .long y1), (3, .int y3), (4, .ref qo)] := hl
  obtain ⟨S1, r0, hf, h1, h2, h3, h4, hXX, -⟩ := hX
  refine lv_aload hx hb dL_answer_0 (lv_at hl 3 rfl) ?_
  refine lv_iconst (v := 0) hx hb dL_answer_2 (by decide) ?_
  refine lv_aload_n hx hb dL_answer_3 rfl (lv_at hl 0 rfl) ?_
  refine lv_lload_n hx hb dL_answer_4 rfl (lv_at hl 1 rfl) ?_
  refine lv_iload_n hx hb dL_answer_5 rfl (lv_at hl 2 rfl) ?_
  have hrun := vx_runV (mc := 1) (ms := 6) (As := [.long y1, .int y3]) (rest := [.int 0, .ref qo]) (R := (headSpec wsL_answer ({ frames := 7, cells := 1, slots := 6, locals := 114 } : Room)).room) (l := l) (e := e) (below := below) (meth := meth) (locs := []) (cells := 0) (slots := 0) (g := F0 m 6 ls ([.long y1, .int y3].reverse ++ .ref y0 :: [.int 0, .ref qo])) F (c_X4_answer l hst D cy v_y0 hf) (cwV 2 hts gL_answer_X4_answer rfl rfl rfl ⟨rfl, ph_X4_answer.1, ph_X4_answer.2, pd_X4_answer⟩ ⟨Nat.le_of_ble_eq_true rfl, Nat.le_of_ble_eq_true rfl⟩) ⟨PcW.bl, (q_rcv hK hw.1 v_y0.1 (pF_4 (S := S) v_y0.2) rfl), PcW.in hK hw hA (fun _ => hZ.narrow (fun q h => Or.inr h))⟩ rfl rfl hl.1 rfl (lv_room (Nat.le_of_ble_eq_true rfl)) dL_answer_6 ⟨Nat.le_of_ble_eq_true rfl, Nat.le_of_ble_eq_true rfl⟩
  refine vx_calll hrun hS (fun q _ h => Or.inr h) (fun q h => Or.inr h) (fun q _ h => Or.inr h) (fun E ce q9 k t H1 locs1 ht hvm hpx hBX hz1 hk1 hS1 hce hcv hcl => ?_) (fun r u t H1 locs1 ht hvm hw2 hB hz1 hk1 hS1 => ?_)
  · obtain ⟨hE, b1, b2, b4⟩ := hBX
    rw [ht] at b1
    have hO1 := o_stay hO hqo hsz hk1
    rcases xw_ex h1 h2 h3 h4 hpx with ⟨e1, rfl⟩ | ⟨e1, -⟩
    · have hE : E = "java/lang/IllegalArgumentException" := hE
      subst hE
      refine vx_catch (name := "java/lang/IllegalArgumentException") hown [] ⟨0, 10, 13, 13⟩ [] (by rw [htab]; rfl) (fun z hz => nomatch hz) (by decide) (by decide) (hts (.classLink RL 13 "java/lang/IllegalArgumentException") (List.mem_of_getElem? (i := 1) rfl)) (va_Nw.use rfl hK.2.2.2.2.2.1) hce hcv hcl ?_
      refine W.eq (g2 := F0 m 13 ls [.ref q9]) rfl ?_
      refine lv_astore (lv' := [(5, .ref q9), (0, .ref y0), (1, .long y1), (3, .int y3), (4, .ref qo)]) hx hb dL_answer_13 hl (by decide) rfl (fun ls hl => ?_)
      refine lv_iconst (v := 1) hx hb dL_answer_15 (by decide) ?_
      refine W.widen (k := 1) (n := 6) (by omega) (by omega) ?_
      exact W.iret (v := 1) hx hb hr (fun t9 ht9 hW => ⟨⟨1, (S1, f), rfl, ⟨by rw [e1]; rfl, hXX, fun z => by rw [e1] at z; cases z⟩, by rw [ht9]; exact b1, b2, by rw [ht9]; exact hO1⟩, hS1.F ht9⟩) hS1.2.2 dL_answer_16
    · omega
  · obtain ⟨g1, g2⟩ := hw2
    obtain ⟨b1, b2, b3, b4⟩ := hB
    rw [ht] at b1 b3
    subst g2
    obtain ⟨e1, e2⟩ := xw_ok h1 h2 h3 h4 g1
    have hO1 := o_stay hO hqo hsz hk1
    refine o_last hx hb hKL hO1 dL_answer_9 (fun H2 o1 o2 o3 => ?_)
    have hS2 := hS1.put (k := z0) o2 o3 (show AQ cy S n qo qo from Or.inl rfl)
    have p2 := wl_stay b1 (H1 := H2) (fun q hq => o3 q (fun h9 => by subst h9; rcases wl_dAA b2 hq with h9 | h9; exact hqo h9; omega))
    refine lv_goto (tgt := 17) hx hb dL_answer_10 (by decide) ?_
    refine lv_iconst (v := 0) hx hb dL_answer_17 (by decide) ?_
    refine W.widen (k := 1) (n := 6) (by omega) (by omega) ?_
    exact W.iret (v := 0) hx hb hr (fun t9 ht9 hW => ⟨⟨0, (S1, vp_updL f z0 r), rfl, ⟨by rw [e1]; rfl, hXX, fun _ => by rw [← e2]; exact o_self (f := f) (x := r)⟩, by rw [ht9]; exact p2, b2, by rw [ht9]; exact o1⟩, hS2.F ht9⟩) hS2.2.2 dL_answer_18
set_option maxHeartbeats 4000000 in
set_option maxRecDepth 100000 in
theorem c_L_nearest (l : Launch) (hst : l.stackTraces = false) (D : va_G) (cy : cyT) (cL : ClassId) {S : PS} {n : Nat} {y0 : Nat} {y1 : Int64} {qo : Nat} {f : Nat → Int64} (v_y0 : vd S y0 4) {T : Nat → TR} {sa bu sc jo : Nat} {k2 : Nat} {w : Nat × Int64 × OS} (hX : XG 0 k2 y0 T sa bu sc jo S (f_X4_nearest S y0 y1) w) (hw1 : w.1 ≤ 1) : Met l yL_nearest wsL_nearest ({ frames := 7, cells := 1, slots := 6, locals := 117 } : Room) (PcL D cy cL S n qo f [.ref y0, .long y1, .ref qo]) (va_Qi (fun (r : Int32) (u : PS × (Nat → Int64)) => r = nI w.1 ∧ XX u.1 y0 T sa bu sc jo w.2.2 ∧ (w.1 = 0 → u.2 z0 = w.2.1)) (BL D cy cL S n qo) (AQ cy S n qo)) 1 6 (AQ cy S n qo) := by
  refine vx_toMet (XC := fun _ _ _ => False) (vx_ofWH (cc := cL_nearest) (maxL := 5) (ret := some .int) (hh := [(0, 8, 11, 13)]) (by decide) rfl ?_) (fun _ _ _ h => h)
  intro p e s m args below meth c s₁ B hml hv
  refine vx_ret ?_
  obtain ⟨hav, hsz, hP0, hD0, hO, hqo, hK, hKL, hNC, hZ⟩ := hv
  have hx := B.exec
  have hb := B.bytes
  have hr := B.returns
  have hts := atoms_spec (ws := wsL_nearest) B.pre
  have htab : c.exceptionTable.toList = tableOf [(0, 8, 11, 13)] := vx_table (x := yL_nearest) B (hts _ List.mem_cons_self)
  have hown : s.vm.findClass RL = some m.cls := findClass_of_methodNamed B.named
  have hlocks := B.notSynchronized
  subst hav
  have hw : Hw D cy (AA cy S n) s.heap S n s.heap [] := Hw.start hsz hP0 hD0
  have hA : ∀ q, s.heap.size ≤ q → AA cy S n q := fun q h => Or.inr (hsz ▸ h)
  have hS : va_S (AQ cy S n qo) s.heap s.heap [] := va_S.rf
  have hql : qo < s.heap.size := (hO 0 _ rfl).lt
  have F : CallFix p m c cL_nearest 5 s _ wsL_nearest RL := ⟨hx, hb, hml, hown, hts⟩
  have hl := lv_entry ([.ref y0, .long y1, .ref qo]) (n := 5) (Nat.le_of_ble_eq_true rfl)
  rw [lg_entry_eq]
  generalize (lg_sl ([.ref y0, .long y1, .ref qo]) ++ List.replicate (5 - (lg_sl ([.ref y0, .long y1, .ref qo])).length) Slot.unset).toArray = ls at hl ⊢
  have hl : lv_has ls 5 [(0, .ref y0), (1, .long y1), (3, .ref qo)] := hl
  obtain ⟨S1, r0, hf, h1, h2, h3, h4, hXX, -⟩ := hX
  refine lv_aload_n hx hb dL_nearest_0 rfl (lv_at hl 2 rfl) ?_
  refine lv_iconst (v := 0) hx hb dL_nearest_1 (by decide) ?_
  refine lv_aload_n hx hb dL_nearest_2 rfl (lv_at hl 0 rfl) ?_
  refine lv_lload_n hx hb dL_nearest_3 rfl (lv_at hl 1 rfl) ?_
  have hrun := vx_runV (mc := 1) (ms := 6) (As := [.long y1]) (rest := [.int 0, .ref qo]) (R := (headSpec wsL_nearest ({ frames := 7, cells := 1, slots := 6, locals := 117 } : Room)).room) (l := l) (e := e) (below := below) (meth := meth) (locs := []) (cells := 0) (slots := 0) (g := F0 m 4 ls ([.long y1].reverse ++ .ref y0 :: [.int 0, .ref qo])) F (c_X4_nearest l hst D cy v_y0 hf) (cwV 1 hts gL_nearest_X4_nearest rfl rfl rfl ⟨rfl, ph_X4_nearest.1, ph_X4_nearest.2, pd_X4_nearest⟩ ⟨Nat.le_of_ble_eq_true rfl, Nat.le_of_ble_eq_true rfl⟩) ⟨PcW.bl, (q_rcv hK hw.1 v_y0.1 (pF_4 (S := S) v_y0.2) rfl), PcW.in hK hw hA (fun _ => hZ.narrow (fun q h => Or.inr h))⟩ rfl rfl hl.1 rfl (lv_room (Nat.le_of_ble_eq_true rfl)) dL_nearest_4 ⟨Nat.le_of_ble_eq_true rfl, Nat.le_of_ble_eq_true rfl⟩
  refine vx_calll hrun hS (fun q _ h => Or.inr h) (fun q h => Or.inr h) (fun q _ h => Or.inr h) (fun E ce q9 k t H1 locs1 ht hvm hpx hBX hz1 hk1 hS1 hce hcv hcl => ?_) (fun r u t H1 locs1 ht hvm hw2 hB hz1 hk1 hS1 => ?_)
  · obtain ⟨hE, b1, b2, b4⟩ := hBX
    rw [ht] at b1
    have hO1 := o_stay hO hqo hsz hk1
    rcases xw_ex h1 h2 h3 h4 hpx with ⟨e1, rfl⟩ | ⟨e1, -⟩
    · have hE : E = "java/lang/IllegalArgumentException" := hE
      subst hE
      refine vx_catch (name := "java/lang/IllegalArgumentException") hown [] ⟨0, 8, 11, 13⟩ [] (by rw [htab]; rfl) (fun z hz => nomatch hz) (by decide) (by decide) (hts (.classLink RL 13 "java/lang/IllegalArgumentException") (List.mem_of_getElem? (i := 1) rfl)) (va_Nw.use rfl hK.2.2.2.2.2.1) hce hcv hcl ?_
      refine W.eq (g2 := F0 m 11 ls [.ref q9]) rfl ?_
      refine lv_astore (lv' := [(4, .ref q9), (0, .ref y0), (1, .long y1), (3, .ref qo)]) hx hb dL_nearest_11 hl (by decide) rfl (fun ls hl => ?_)
      refine lv_iconst (v := 1) hx hb dL_nearest_13 (by decide) ?_
      refine W.widen (k := 1) (n := 6) (by omega) (by omega) ?_
      exact W.iret (v := 1) hx hb hr (fun t9 ht9 hW => ⟨⟨1, (S1, f), rfl, ⟨by rw [e1]; rfl, hXX, fun z => by rw [e1] at z; cases z⟩, by rw [ht9]; exact b1, b2, by rw [ht9]; exact hO1⟩, hS1.F ht9⟩) hS1.2.2 dL_nearest_14
    · omega
  · obtain ⟨g1, g2⟩ := hw2
    obtain ⟨b1, b2, b3, b4⟩ := hB
    rw [ht] at b1 b3
    subst g2
    obtain ⟨e1, e2⟩ := xw_ok h1 h2 h3 h4 g1
    have hO1 := o_stay hO hqo hsz hk1
    refine o_last hx hb hKL hO1 dL_nearest_7 (fun H2 o1 o2 o3 => ?_)
    have hS2 := hS1.put (k := z0) o2 o3 (show AQ cy S n qo qo from Or.inl rfl)
    have p2 := wl_stay b1 (H1 := H2) (fun q hq => o3 q (fun h9 => by subst h9; rcases wl_dAA b2 hq with h9 | h9; exact hqo h9; omega))
    refine lv_goto (tgt := 15) hx hb dL_nearest_8 (by decide) ?_
    refine lv_iconst (v := 0) hx hb dL_nearest_15 (by decide) ?_
    refine W.widen (k := 1) (n := 6) (by omega) (by omega) ?_
    exact W.iret (v := 0) hx hb hr (fun t9 ht9 hW => ⟨⟨0, (S1, vp_updL f z0 r), rfl, ⟨by rw [e1]; rfl, hXX, fun _ => by rw [← e2]; exact o_self (f := f) (x := r)⟩, by rw [ht9]; exact p2, b2, by rw [ht9]; exact o1⟩, hS2.F ht9⟩) hS2.2.2 dL_nearest_16
set_option maxHeartbeats 4000000 in
set_option maxRecDepth 100000 in
theorem c_L_between (l : Launch) (hst : l.stackTraces = false) (D : va_G) (cy : cyT) (cL : ClassId) {S : PS} {n : Nat} {y0 : Nat} {y1 : Int64} {y3 : Int64} {qo : Nat} {f : Nat → Int64} (v_y0 : vd S y0 4) {T : Nat → TR} {sa bu sc jo : Nat} {k2 : Nat} {w : Nat × Int64 × OS} (hX : XG 0 k2 y0 T sa bu sc jo S (f_X4_between S y0 y1 y3) w) (hw1 : w.1 ≤ 1) : Met l yL_between wsL_between ({ frames := 7, cells := 1, slots := 6, locals := 115 } : Room) (PcL D cy cL S n qo f [.ref y0, .long y1, .long y3, .ref qo]) (va_Qi (fun (r : Int32) (u : PS × (Nat → Int64)) => r = nI w.1 ∧ XX u.1 y0 T sa bu sc jo w.2.2 ∧ (w.1 = 0 → u.2 z0 = w.2.1)) (BL D cy cL S n qo) (AQ cy S n qo)) 1 6 (AQ cy S n qo) := by
  refine vx_toMet (XC := fun _ _ _ => False) (vx_ofWH (cc := cL_between) (maxL := 7) (ret := some .int) (hh := [(0, 10, 13, 13)]) (by decide) rfl ?_) (fun _ _ _ h => h)
  intro p e s m args below meth c s₁ B hml hv
  refine vx_ret ?_
  obtain ⟨hav, hsz, hP0, hD0, hO, hqo, hK, hKL, hNC, hZ⟩ := hv
  have hx := B.exec
  have hb := B.bytes
  have hr := B.returns
  have hts := atoms_spec (ws := wsL_between) B.pre
  have htab : c.exceptionTable.toList = tableOf [(0, 10, 13, 13)] := vx_table (x := yL_between) B (hts _ List.mem_cons_self)
  have hown : s.vm.findClass RL = some m.cls := findClass_of_methodNamed B.named
  have hlocks := B.notSynchronized
  subst hav
  have hw : Hw D cy (AA cy S n) s.heap S n s.heap [] := Hw.start hsz hP0 hD0
  have hA : ∀ q, s.heap.size ≤ q → AA cy S n q := fun q h => Or.inr (hsz ▸ h)
  have hS : va_S (AQ cy S n qo) s.heap s.heap [] := va_S.rf
  have hql : qo < s.heap.size := (hO 0 _ rfl).lt
  have F : CallFix p m c cL_between 7 s _ wsL_between RL := ⟨hx, hb, hml, hown, hts⟩
  have hl := lv_entry ([.ref y0, .long y1, .long y3, .ref qo]) (n := 7) (Nat.le_of_ble_eq_true rfl)
  rw [lg_entry_eq]
  generalize (lg_sl ([.ref y0, .long y1, .long y3, .ref qo]) ++ List.replicate (7 - (lg_sl ([.ref y0, .long y1, .long y3, .ref qo])).length) Slot.unset).toArray = ls at hl ⊢
  have hl : lv_has ls 7 [(0, .ref y0), (1, .long y1), (3, .long y3), (5, .ref qo)] := hl
  obtain ⟨S1, r0, hf, h1, h2, h3, h4, hXX, -⟩ := hX
  refine lv_aload hx hb dL_between_0 (lv_at hl 3 rfl) ?_
  refine lv_iconst (v := 0) hx hb dL_between_2 (by decide) ?_
  refine lv_aload_n hx hb dL_between_3 rfl (lv_at hl 0 rfl) ?_
  refine lv_lload_n hx hb dL_between_4 rfl (lv_at hl 1 rfl) ?_
  refine lv_lload_n hx hb dL_between_5 rfl (lv_at hl 2 rfl) ?_
  have hrun := vx_runV (mc := 1) (ms := 6) (As := [.long y1, .long y3]) (rest := [.int 0, .ref qo]) (R := (headSpec wsL_between ({ frames := 7, cells := 1, slots := 6, locals := 115 } : Room)).room) (l := l) (e := e) (below := below) (meth := meth) (locs := []) (cells := 0) (slots := 0) (g := F0 m 6 ls ([.long y1, .long y3].reverse ++ .ref y0 :: [.int 0, .ref qo])) F (c_X4_between l hst D cy v_y0 hf) (cwV 2 hts gL_between_X4_between rfl rfl rfl ⟨rfl, ph_X4_between.1, ph_X4_between.2, pd_X4_between⟩ ⟨Nat.le_of_ble_eq_true rfl, Nat.le_of_ble_eq_true rfl⟩) ⟨PcW.bl, (q_rcv hK hw.1 v_y0.1 (pF_4 (S := S) v_y0.2) rfl), PcW.in hK hw hA (fun _ => hZ.narrow (fun q h => Or.inr h))⟩ rfl rfl hl.1 rfl (lv_room (Nat.le_of_ble_eq_true rfl)) dL_between_6 ⟨Nat.le_of_ble_eq_true rfl, Nat.le_of_ble_eq_true rfl⟩
  refine vx_calll hrun hS (fun q _ h => Or.inr h) (fun q h => Or.inr h) (fun q _ h => Or.inr h) (fun E ce q9 k t H1 locs1 ht hvm hpx hBX hz1 hk1 hS1 hce hcv hcl => ?_) (fun r u t H1 locs1 ht hvm hw2 hB hz1 hk1 hS1 => ?_)
  · obtain ⟨hE, b1, b2, b4⟩ := hBX
    rw [ht] at b1
    have hO1 := o_stay hO hqo hsz hk1
    rcases xw_ex h1 h2 h3 h4 hpx with ⟨e1, rfl⟩ | ⟨e1, -⟩
    · have hE : E = "java/lang/IllegalArgumentException" := hE
      subst hE
      refine vx_catch (name := "java/lang/IllegalArgumentException") hown [] ⟨0, 10, 13, 13⟩ [] (by rw [htab]; rfl) (fun z hz => nomatch hz) (by decide) (by decide) (hts (.classLink RL 13 "java/lang/IllegalArgumentException") (List.mem_of_getElem? (i := 1) rfl)) (va_Nw.use rfl hK.2.2.2.2.2.1) hce hcv hcl ?_
      refine W.eq (g2 := F0 m 13 ls [.ref q9]) rfl ?_
      refine lv_astore (lv' := [(6, .ref q9), (0, .ref y0), (1, .long y1), (3, .long y3), (5, .ref qo)]) hx hb dL_between_13 hl (by decide) rfl (fun ls hl => ?_)
      refine lv_iconst (v := 1) hx hb dL_between_15 (by decide) ?_
      refine W.widen (k := 1) (n := 6) (by omega) (by omega) ?_
      exact W.iret (v := 1) hx hb hr (fun t9 ht9 hW => ⟨⟨1, (S1, f), rfl, ⟨by rw [e1]; rfl, hXX, fun z => by rw [e1] at z; cases z⟩, by rw [ht9]; exact b1, b2, by rw [ht9]; exact hO1⟩, hS1.F ht9⟩) hS1.2.2 dL_between_16
    · omega
  · obtain ⟨g1, g2⟩ := hw2
    obtain ⟨b1, b2, b3, b4⟩ := hB
    rw [ht] at b1 b3
    subst g2
    obtain ⟨e1, e2⟩ := xw_ok h1 h2 h3 h4 g1
    have hO1 := o_stay hO hqo hsz hk1
    refine o_last hx hb hKL hO1 dL_between_9 (fun H2 o1 o2 o3 => ?_)
    have hS2 := hS1.put (k := z0) o2 o3 (show AQ cy S n qo qo from Or.inl rfl)
    have p2 := wl_stay b1 (H1 := H2) (fun q hq => o3 q (fun h9 => by subst h9; rcases wl_dAA b2 hq with h9 | h9; exact hqo h9; omega))
    refine lv_goto (tgt := 17) hx hb dL_between_10 (by decide) ?_
    refine lv_iconst (v := 0) hx hb dL_between_17 (by decide) ?_
    refine W.widen (k := 1) (n := 6) (by omega) (by omega) ?_
    exact W.iret (v := 0) hx hb hr (fun t9 ht9 hW => ⟨⟨0, (S1, vp_updL f z0 r), rfl, ⟨by rw [e1]; rfl, hXX, fun _ => by rw [← e2]; exact o_self (f := f) (x := r)⟩, by rw [ht9]; exact p2, b2, by rw [ht9]; exact o1⟩, hS2.F ht9⟩) hS2.2.2 dL_between_18
set_option maxHeartbeats 4000000 in
set_option maxRecDepth 100000 in
theorem c_L_misses (l : Launch) (hst : l.stackTraces = false) (D : va_G) (cy : cyT) (cL : ClassId) {S : PS} {n : Nat} {y0 : Nat} {y1 : Int64} {qo : Nat} {f : Nat → Int64} (v_y0 : vd S y0 4) {T : Nat → TR} {sa bu sc jo : Nat} {k2 : Nat} {w : Nat × Int32 × OS} (hX : XG 0 k2 y0 T sa bu sc jo S (f_X4_misses S y0 y1) w) (hw1 : w.1 ≤ 1) : Met l yL_misses wsL_misses ({ frames := 7, cells := 1, slots := 6, locals := 114 } : Room) (PcL D cy cL S n qo f [.ref y0, .long y1, .ref qo]) (va_Qi (fun (r : Int32) (u : PS × (Nat → Int64)) => r = nI w.1 ∧ XX u.1 y0 T sa bu sc jo w.2.2 ∧ (w.1 = 0 → u.2 z0 = w.2.1.toInt64)) (BL D cy cL S n qo) (AQ cy S n qo)) 1 6 (AQ cy S n qo) := by
  refine vx_toMet (XC := fun _ _ _ => False) (vx_ofWH (cc := cL_misses) (maxL := 5) (ret := some .int) (hh := [(0, 9, 12, 13)]) (by decide) rfl ?_) (fun _ _ _ h => h)
  intro p e s m args below meth c s₁ B hml hv
  refine vx_ret ?_
  obtain ⟨hav, hsz, hP0, hD0, hO, hqo, hK, hKL, hNC, hZ⟩ := hv
  have hx := B.exec
  have hb := B.bytes
  have hr := B.returns
  have hts := atoms_spec (ws := wsL_misses) B.pre
  have htab : c.exceptionTable.toList = tableOf [(0, 9, 12, 13)] := vx_table (x := yL_misses) B (hts _ List.mem_cons_self)
  have hown : s.vm.findClass RL = some m.cls := findClass_of_methodNamed B.named
  have hlocks := B.notSynchronized
  subst hav
  have hw : Hw D cy (AA cy S n) s.heap S n s.heap [] := Hw.start hsz hP0 hD0
  have hA : ∀ q, s.heap.size ≤ q → AA cy S n q := fun q h => Or.inr (hsz ▸ h)
  have hS : va_S (AQ cy S n qo) s.heap s.heap [] := va_S.rf
  have hql : qo < s.heap.size := (hO 0 _ rfl).lt
  have F : CallFix p m c cL_misses 5 s _ wsL_misses RL := ⟨hx, hb, hml, hown, hts⟩
  have hl := lv_entry ([.ref y0, .long y1, .ref qo]) (n := 5) (Nat.le_of_ble_eq_true rfl)
  rw [lg_entry_eq]
  generalize (lg_sl ([.ref y0, .long y1, .ref qo]) ++ List.replicate (5 - (lg_sl ([.ref y0, .long y1, .ref qo])).length) Slot.unset).toArray = ls at hl ⊢
  have hl : lv_has ls 5 [(0, .ref y0), (1, .long y1), (3, .ref qo)] := hl
  obtain ⟨S1, r0, hf, h1, h2, h3, h4, hXX, -⟩ := hX
  refine lv_aload_n hx hb dL_misses_0 rfl (lv_at hl 2 rfl) ?_
  refine lv_iconst (v := 0) hx hb dL_misses_1 (by decide) ?_
  refine lv_aload_n hx hb dL_misses_2 rfl (lv_at hl 0 rfl) ?_
  refine lv_lload_n hx hb dL_misses_3 rfl (lv_at hl 1 rfl) ?_
  have hrun := vx_runV (mc := 1) (ms := 6) (As := [.long y1]) (rest := [.int 0, .ref qo]) (R := (headSpec wsL_misses ({ frames := 7, cells := 1, slots := 6, locals := 114 } : Room)).room) (l := l) (e := e) (below := below) (meth := meth) (locs := []) (cells := 0) (slots := 0) (g := F0 m 4 ls ([.long y1].reverse ++ .ref y0 :: [.int 0, .ref qo])) F (c_X4_misses l hst D cy v_y0 hf) (cwV 1 hts gL_misses_X4_misses rfl rfl rfl ⟨rfl, ph_X4_misses.1, ph_X4_misses.2, pd_X4_misses⟩ ⟨Nat.le_of_ble_eq_true rfl, Nat.le_of_ble_eq_true rfl⟩) ⟨PcW.bl, (q_rcv hK hw.1 v_y0.1 (pF_4 (S := S) v_y0.2) rfl), PcW.in hK hw hA (fun _ => hZ.narrow (fun q h => Or.inr h))⟩ rfl rfl hl.1 rfl (lv_room (Nat.le_of_ble_eq_true rfl)) dL_misses_4 ⟨Nat.le_of_ble_eq_true rfl, Nat.le_of_ble_eq_true rfl⟩
  refine vx_calli hrun hS (fun q _ h => Or.inr h) (fun q h => Or.inr h) (fun q _ h => Or.inr h) (fun E ce q9 k t H1 locs1 ht hvm hpx hBX hz1 hk1 hS1 hce hcv hcl => ?_) (fun r u t H1 locs1 ht hvm hw2 hB hz1 hk1 hS1 => ?_)
  · obtain ⟨hE, b1, b2, b4⟩ := hBX
    rw [ht] at b1
    have hO1 := o_stay hO hqo hsz hk1
    rcases xw_ex h1 h2 h3 h4 hpx with ⟨e1, rfl⟩ | ⟨e1, -⟩
    · have hE : E = "java/lang/IllegalArgumentException" := hE
      subst hE
      refine vx_catch (name := "java/lang/IllegalArgumentException") hown [] ⟨0, 9, 12, 13⟩ [] (by rw [htab]; rfl) (fun z hz => nomatch hz) (by decide) (by decide) (hts (.classLink RL 13 "java/lang/IllegalArgumentException") (List.mem_of_getElem? (i := 1) rfl)) (va_Nw.use rfl hK.2.2.2.2.2.1) hce hcv hcl ?_
      refine W.eq (g2 := F0 m 12 ls [.ref q9]) rfl ?_
      refine lv_astore (lv' := [(4, .ref q9), (0, .ref y0), (1, .long y1), (3, .ref qo)]) hx hb dL_misses_12 hl (by decide) rfl (fun ls hl => ?_)
      refine lv_iconst (v := 1) hx hb dL_misses_14 (by decide) ?_
      refine W.widen (k := 1) (n := 6) (by omega) (by omega) ?_
      exact W.iret (v := 1) hx hb hr (fun t9 ht9 hW => ⟨⟨1, (S1, f), rfl, ⟨by rw [e1]; rfl, hXX, fun z => by rw [e1] at z; cases z⟩, by rw [ht9]; exact b1, b2, by rw [ht9]; exact hO1⟩, hS1.F ht9⟩) hS1.2.2 dL_misses_15
    · omega
  · obtain ⟨g1, g2⟩ := hw2
    obtain ⟨b1, b2, b3, b4⟩ := hB
    rw [ht] at b1 b3
    subst g2
    obtain ⟨e1, e2⟩ := xw_ok h1 h2 h3 h4 g1
    have hO1 := o_stay hO hqo hsz hk1
    refine lv_i2l hx hb dL_misses_7 rfl ?_
    refine o_last hx hb hKL hO1 dL_misses_8 (fun H2 o1 o2 o3 => ?_)
    have hS2 := hS1.put (k := z0) o2 o3 (show AQ cy S n qo qo from Or.inl rfl)
    have p2 := wl_stay b1 (H1 := H2) (fun q hq => o3 q (fun h9 => by subst h9; rcases wl_dAA b2 hq with h9 | h9; exact hqo h9; omega))
    refine lv_goto (tgt := 16) hx hb dL_misses_9 (by decide) ?_
    refine lv_iconst (v := 0) hx hb dL_misses_16 (by decide) ?_
    refine W.widen (k := 1) (n := 6) (by omega) (by omega) ?_
    exact W.iret (v := 0) hx hb hr (fun t9 ht9 hW => ⟨⟨0, (S1, vp_updL f z0 r.toInt64), rfl, ⟨by rw [e1]; rfl, hXX, fun _ => by rw [← e2]; exact o_self (f := f) (x := r.toInt64)⟩, by rw [ht9]; exact p2, b2, by rw [ht9]; exact o1⟩, hS2.F ht9⟩) hS2.2.2 dL_misses_17
set_option maxHeartbeats 4000000 in
set_option maxRecDepth 100000 in
theorem c_L_ifAdded (l : Launch) (hst : l.stackTraces = false) (D : va_G) (cy : cyT) (cL : ClassId) {S : PS} {n : Nat} {y0 : Nat} {y1 : Int32} {y2 : Int32} {y3 : Int32} {y4 : Int32} {qo : Nat} {f : Nat → Int64} (v_y0 : vd S y0 4) {T : Nat → TR} {sa bu sc jo : Nat} {k2 : Nat} {w : Nat × Int64 × OS} (hX : XN 0 k2 y0 T sa bu sc jo (f_X4_ifAdded S n y0 y1 y2 y3 y4) w) (hw1 : w.1 ≤ 1) : Met l yL_ifAdded wsL_ifAdded ({ frames := 7, cells := 1, slots := 6, locals := 125 } : Room) (PcL D cy cL S n qo f [.ref y0, .int y1, .int y2, .int y3, .int y4, .ref qo]) (va_Qi (fun (r : Int32) (u : PS × (Nat → Int64)) => r = nI w.1 ∧ XX u.1 y0 T sa bu sc jo w.2.2 ∧ (w.1 = 0 → u.2 z0 = w.2.1)) (BL D cy cL S n qo) (AQ cy S n qo)) 1 6 (AQ cy S n qo) := by
  refine vx_toMet (XC := fun _ _ _ => False) (vx_ofWH (cc := cL_ifAdded) (maxL := 7) (ret := some .int) (hh := [(0, 13, 16, 13)]) (by decide) rfl ?_) (fun _ _ _ h => h)
  intro p e s m args below meth c s₁ B hml hv
  refine vx_ret ?_
  obtain ⟨hav, hsz, hP0, hD0, hO, hqo, hK, hKL, hNC, hZ⟩ := hv
  have hx := B.exec
  have hb := B.bytes
  have hr := B.returns
  have hts := atoms_spec (ws := wsL_ifAdded) B.pre
  have htab : c.exceptionTable.toList = tableOf [(0, 13, 16, 13)] := vx_table (x := yL_ifAdded) B (hts _ List.mem_cons_self)
  have hown : s.vm.findClass RL = some m.cls := findClass_of_methodNamed B.named
  have hlocks := B.notSynchronized
  subst hav
  have hw : Hw D cy (AA cy S n) s.heap S n s.heap [] := Hw.start hsz hP0 hD0
  have hA : ∀ q, s.heap.size ≤ q → AA cy S n q := fun q h => Or.inr (hsz ▸ h)
  have hS : va_S (AQ cy S n qo) s.heap s.heap [] := va_S.rf
  have hql : qo < s.heap.size := (hO 0 _ rfl).lt
  have F : CallFix p m c cL_ifAdded 7 s _ wsL_ifAdded RL := ⟨hx, hb, hml, hown, hts⟩
  have hl := lv_entry ([.ref y0, .int y1, .int y2, .int y3, .int y4, .ref qo]) (n := 7) (Nat.le_of_ble_eq_true rfl)
  rw [lg_entry_eq]
  generalize (lg_sl ([.ref y0, .int y1, .int y2, .int y3, .int y4, .ref qo]) ++ List.replicate (7 - (lg_sl ([.ref y0, .int y1, .int y2, .int y3, .int y4, .ref qo])).length) Slot.unset).toArray = ls at hl ⊢
  have hl : lv_has ls 7 [(0, .ref y0), (1, .int y1), (2, .int y2), (3, .int y3), (4, .int y4), (5, .ref qo)] := hl
  obtain ⟨S1, r0, n1, hf, h1, h2, h3, h4, hXX, hfr⟩ := hX
  refine lv_aload hx hb dL_ifAdded_0 (lv_at hl 5 rfl) ?_
  refine lv_iconst (v := 0) hx hb dL_ifAdded_2 (by decide) ?_
  refine lv_aload_n hx hb dL_ifAdded_3 rfl (lv_at hl 0 rfl) ?_
  refine lv_iload_n hx hb dL_ifAdded_4 rfl (lv_at hl 1 rfl) ?_
  refine lv_iload_n hx hb dL_ifAdded_5 rfl (lv_at hl 2 rfl) ?_
  refine lv_iload_n hx hb dL_ifAdded_6 rfl (lv_at hl 3 rfl) ?_
  refine lv_iload hx hb dL_ifAdded_7 (lv_at hl 4 rfl) ?_
  have hrun := vx_runV (mc := 1) (ms := 6) (As := [.int y1, .int y2, .int y3, .int y4]) (rest := [.int 0, .ref qo]) (R := (headSpec wsL_ifAdded ({ frames := 7, cells := 1, slots := 6, locals := 125 } : Room)).room) (l := l) (e := e) (below := below) (meth := meth) (locs := []) (cells := 0) (slots := 0) (g := F0 m 9 ls ([.int y1, .int y2, .int y3, .int y4].reverse ++ .ref y0 :: [.int 0, .ref qo])) F (c_X4_ifAdded l hst D cy v_y0 hf) (cwV 4 hts gL_ifAdded_X4_ifAdded rfl rfl rfl ⟨rfl, ph_X4_ifAdded.1, ph_X4_ifAdded.2, pd_X4_ifAdded⟩ ⟨Nat.le_of_ble_eq_true rfl, Nat.le_of_ble_eq_true rfl⟩) ⟨PcW.bl, (q_rcv hK hw.1 v_y0.1 (pF_4 (S := S) v_y0.2) rfl), PcW.in hK hw hA (fun _ => hZ.narrow (fun q h => Or.inr h))⟩ rfl rfl hl.1 rfl (lv_room (Nat.le_of_ble_eq_true rfl)) dL_ifAdded_9 ⟨Nat.le_of_ble_eq_true rfl, Nat.le_of_ble_eq_true rfl⟩
  refine vx_calll hrun hS (fun q _ h => Or.inr h) (fun q h => Or.inr h) (fun q _ h => Or.inr h) (fun E ce q9 k t H1 locs1 ht hvm hpx hBX hz1 hk1 hS1 hce hcv hcl => ?_) (fun r u t H1 locs1 ht hvm hw2 hB hz1 hk1 hS1 => ?_)
  · obtain ⟨hE, b1, b2, b4⟩ := hBX
    rw [ht] at b1
    have hO1 := o_stay hO hqo hsz hk1
    rcases xw_ex h1 h2 h3 h4 hpx with ⟨e1, rfl⟩ | ⟨e1, -⟩
    · have hE : E = "java/lang/IllegalArgumentException" := hE
      subst hE
      refine vx_catch (name := "java/lang/IllegalArgumentException") hown [] ⟨0, 13, 16, 13⟩ [] (by rw [htab]; rfl) (fun z hz => nomatch hz) (by decide) (by decide) (hts (.classLink RL 13 "java/lang/IllegalArgumentException") (List.mem_of_getElem? (i := 1) rfl)) (va_Nw.use rfl hK.2.2.2.2.2.1) hce hcv hcl ?_
      refine W.eq (g2 := F0 m 16 ls [.ref q9]) rfl ?_
      refine lv_astore (lv' := [(6, .ref q9), (0, .ref y0), (1, .int y1), (2, .int y2), (3, .int y3), (4, .int y4), (5, .ref qo)]) hx hb dL_ifAdded_16 hl (by decide) rfl (fun ls hl => ?_)
      refine lv_iconst (v := 1) hx hb dL_ifAdded_18 (by decide) ?_
      refine W.widen (k := 1) (n := 6) (by omega) (by omega) ?_
      exact W.iret (v := 1) hx hb hr (fun t9 ht9 hW => ⟨⟨1, (S1, f), rfl, ⟨by rw [e1]; rfl, hXX, fun z => by rw [e1] at z; cases z⟩, by rw [ht9]; exact b1, b2, by rw [ht9]; exact hO1⟩, hS1.F ht9⟩) hS1.2.2 dL_ifAdded_19
    · omega
  · obtain ⟨g1, g2⟩ := hw2
    obtain ⟨b1, b2, b3, b4⟩ := hB
    rw [ht] at b1 b3
    subst g2
    obtain ⟨e1, e2⟩ := xw_ok h1 h2 h3 h4 g1
    have hO1 := o_stay hO hqo hsz hk1
    refine o_last hx hb hKL hO1 dL_ifAdded_12 (fun H2 o1 o2 o3 => ?_)
    have hS2 := hS1.put (k := z0) o2 o3 (show AQ cy S n qo qo from Or.inl rfl)
    have p2 := wl_stay b1 (H1 := H2) (fun q hq => o3 q (fun h9 => by subst h9; rcases wl_dAA b2 hq with h9 | h9; exact hqo h9; omega))
    refine lv_goto (tgt := 20) hx hb dL_ifAdded_13 (by decide) ?_
    refine lv_iconst (v := 0) hx hb dL_ifAdded_20 (by decide) ?_
    refine W.widen (k := 1) (n := 6) (by omega) (by omega) ?_
    exact W.iret (v := 0) hx hb hr (fun t9 ht9 hW => ⟨⟨0, (S1, vp_updL f z0 r), rfl, ⟨by rw [e1]; rfl, hXX, fun _ => by rw [← e2]; exact o_self (f := f) (x := r)⟩, by rw [ht9]; exact p2, b2, by rw [ht9]; exact o1⟩, hS2.F ht9⟩) hS2.2.2 dL_ifAdded_21
set_option maxHeartbeats 4000000 in
set_option maxRecDepth 100000 in
theorem c_L_without (l : Launch) (hst : l.stackTraces = false) (D : va_G) (cy : cyT) (cL : ClassId) {S : PS} {n : Nat} {y0 : Nat} {y1 : Int32} {y2 : Int32} {qo : Nat} {f : Nat → Int64} (v_y0 : vd S y0 4) {T : Nat → TR} {sa bu sc jo : Nat} {w : Nat × Int64 × OS} (hX : XG 2 0 y0 T sa bu sc jo S (f_X4_without S y0 y1 y2) w) : Met l yL_without wsL_without ({ frames := 7, cells := 1, slots := 6, locals := 134 } : Room) (PcL D cy cL S n qo f [.ref y0, .int y1, .int y2, .ref qo]) (va_Qi (fun (r : Int32) (u : PS × (Nat → Int64)) => r = nI w.1 ∧ XX u.1 y0 T sa bu sc jo w.2.2 ∧ (w.1 = 0 → u.2 z0 = w.2.1)) (BL D cy cL S n qo) (AQ cy S n qo)) 1 6 (AQ cy S n qo) := by
  refine vx_toMet (XC := fun _ _ _ => False) (vx_ofWH (cc := cL_without) (maxL := 5) (ret := some .int) (hh := [(0, 9, 12, 21), (0, 9, 16, 13)]) (by decide) rfl ?_) (fun _ _ _ h => h)
  intro p e s m args below meth c s₁ B hml hv
  refine vx_ret ?_
  obtain ⟨hav, hsz, hP0, hD0, hO, hqo, hK, hKL, hNC, hZ⟩ := hv
  have hx := B.exec
  have hb := B.bytes
  have hr := B.returns
  have hts := atoms_spec (ws := wsL_without) B.pre
  have htab : c.exceptionTable.toList = tableOf [(0, 9, 12, 21), (0, 9, 16, 13)] := vx_table (x := yL_without) B (hts _ List.mem_cons_self)
  have hown : s.vm.findClass RL = some m.cls := findClass_of_methodNamed B.named
  have hlocks := B.notSynchronized
  subst hav
  have hw : Hw D cy (AA cy S n) s.heap S n s.heap [] := Hw.start hsz hP0 hD0
  have hA : ∀ q, s.heap.size ≤ q → AA cy S n q := fun q h => Or.inr (hsz ▸ h)
  have hS : va_S (AQ cy S n qo) s.heap s.heap [] := va_S.rf
  have hql : qo < s.heap.size := (hO 0 _ rfl).lt
  have F : CallFix p m c cL_without 5 s _ wsL_without RL := ⟨hx, hb, hml, hown, hts⟩
  have hl := lv_entry ([.ref y0, .int y1, .int y2, .ref qo]) (n := 5) (Nat.le_of_ble_eq_true rfl)
  rw [lg_entry_eq]
  generalize (lg_sl ([.ref y0, .int y1, .int y2, .ref qo]) ++ List.replicate (5 - (lg_sl ([.ref y0, .int y1, .int y2, .ref qo])).length) Slot.unset).toArray = ls at hl ⊢
  have hl : lv_has ls 5 [(0, .ref y0), (1, .int y1), (2, .int y2), (3, .ref qo)] := hl
  obtain ⟨S1, r0, hf, h1, h2, h3, h4, hXX, -⟩ := hX
  refine lv_aload_n hx hb dL_without_0 rfl (lv_at hl 3 rfl) ?_
  refine lv_iconst (v := 0) hx hb dL_without_1 (by decide) ?_
  refine lv_aload_n hx hb dL_without_2 rfl (lv_at hl 0 rfl) ?_
  refine lv_iload_n hx hb dL_without_3 rfl (lv_at hl 1 rfl) ?_
  refine lv_iload_n hx hb dL_without_4 rfl (lv_at hl 2 rfl) ?_
  have hrun := vx_runV (mc := 1) (ms := 6) (As := [.int y1, .int y2]) (rest := [.int 0, .ref qo]) (R := (headSpec wsL_without ({ frames := 7, cells := 1, slots := 6, locals := 134 } : Room)).room) (l := l) (e := e) (below := below) (meth := meth) (locs := []) (cells := 0) (slots := 0) (g := F0 m 5 ls ([.int y1, .int y2].reverse ++ .ref y0 :: [.int 0, .ref qo])) F (c_X4_without l hst D cy v_y0 hf) (cwV 2 hts gL_without_X4_without rfl rfl rfl ⟨rfl, ph_X4_without.1, ph_X4_without.2, pd_X4_without⟩ ⟨Nat.le_of_ble_eq_true rfl, Nat.le_of_ble_eq_true rfl⟩) ⟨PcW.bl, (q_rcv hK hw.1 v_y0.1 (pF_4 (S := S) v_y0.2) rfl), PcW.in hK hw hA (fun _ => hZ.narrow (fun q h => Or.inr h))⟩ rfl rfl hl.1 rfl (lv_room (Nat.le_of_ble_eq_true rfl)) dL_without_5 ⟨Nat.le_of_ble_eq_true rfl, Nat.le_of_ble_eq_true rfl⟩
  refine vx_calll hrun hS (fun q _ h => Or.inr h) (fun q h => Or.inr h) (fun q _ h => Or.inr h) (fun E ce q9 k t H1 locs1 ht hvm hpx hBX hz1 hk1 hS1 hce hcv hcl => ?_) (fun r u t H1 locs1 ht hvm hw2 hB hz1 hk1 hS1 => ?_)
  · obtain ⟨hE, b1, b2, b4⟩ := hBX
    rw [ht] at b1
    have hO1 := o_stay hO hqo hsz hk1
    rcases xw_ex h1 h2 h3 h4 hpx with ⟨e1, rfl⟩ | ⟨e1, rfl⟩
    · have hE : E = "java/lang/IndexOutOfBoundsException" := hE
      subst hE
      refine vx_catch (name := "java/lang/IndexOutOfBoundsException") hown [] ⟨0, 9, 12, 21⟩ [⟨0, 9, 16, 13⟩] (by rw [htab]; rfl) (fun z hz => nomatch hz) (by decide) (by decide) (hts (.classLink RL 21 "java/lang/IndexOutOfBoundsException") (List.mem_of_getElem? (i := 1) rfl)) (va_Nw.use rfl hK.2.2.2.2.2.2.2.1) hce hcv hcl ?_
      refine W.eq (g2 := F0 m 12 ls [.ref q9]) rfl ?_
      refine lv_astore (lv' := [(4, .ref q9), (0, .ref y0), (1, .int y1), (2, .int y2), (3, .ref qo)]) hx hb dL_without_12 hl (by decide) rfl (fun ls hl => ?_)
      refine lv_iconst (v := 1) hx hb dL_without_14 (by decide) ?_
      refine W.widen (k := 1) (n := 6) (by omega) (by omega) ?_
      exact W.iret (v := 1) hx hb hr (fun t9 ht9 hW => ⟨⟨1, (S1, f), rfl, ⟨by rw [e1]; rfl, hXX, fun z => by rw [e1] at z; cases z⟩, by rw [ht9]; exact b1, b2, by rw [ht9]; exact hO1⟩, hS1.F ht9⟩) hS1.2.2 dL_without_15
    · have hE : E = "java/lang/IllegalArgumentException" := hE
      subst hE
      refine vx_catch (name := "java/lang/IllegalArgumentException") hown [⟨0, 9, 12, 21⟩] ⟨0, 9, 16, 13⟩ [] (by rw [htab]; rfl) (fun z hz => by cases List.mem_singleton.mp hz; exact Or.inr ⟨by decide, "java/lang/IndexOutOfBoundsException", hts (.classLink RL 21 "java/lang/IndexOutOfBoundsException") (List.mem_of_getElem? (i := 1) rfl), hNC.2.2⟩) (by decide) (by decide) (hts (.classLink RL 13 "java/lang/IllegalArgumentException") (List.mem_of_getElem? (i := 2) rfl)) (va_Nw.use rfl hK.2.2.2.2.2.1) hce hcv hcl ?_
      refine W.eq (g2 := F0 m 16 ls [.ref q9]) rfl ?_
      refine lv_astore (lv' := [(4, .ref q9), (0, .ref y0), (1, .int y1), (2, .int y2), (3, .ref qo)]) hx hb dL_without_16 hl (by decide) rfl (fun ls hl => ?_)
      refine lv_iconst (v := 2) hx hb dL_without_18 (by decide) ?_
      refine W.widen (k := 1) (n := 6) (by omega) (by omega) ?_
      exact W.iret (v := 2) hx hb hr (fun t9 ht9 hW => ⟨⟨2, (S1, f), rfl, ⟨by rw [e1]; rfl, hXX, fun z => by rw [e1] at z; cases z⟩, by rw [ht9]; exact b1, b2, by rw [ht9]; exact hO1⟩, hS1.F ht9⟩) hS1.2.2 dL_without_19
  · obtain ⟨g1, g2⟩ := hw2
    obtain ⟨b1, b2, b3, b4⟩ := hB
    rw [ht] at b1 b3
    subst g2
    obtain ⟨e1, e2⟩ := xw_ok h1 h2 h3 h4 g1
    have hO1 := o_stay hO hqo hsz hk1
    refine o_last hx hb hKL hO1 dL_without_8 (fun H2 o1 o2 o3 => ?_)
    have hS2 := hS1.put (k := z0) o2 o3 (show AQ cy S n qo qo from Or.inl rfl)
    have p2 := wl_stay b1 (H1 := H2) (fun q hq => o3 q (fun h9 => by subst h9; rcases wl_dAA b2 hq with h9 | h9; exact hqo h9; omega))
    refine lv_goto (tgt := 20) hx hb dL_without_9 (by decide) ?_
    refine lv_iconst (v := 0) hx hb dL_without_20 (by decide) ?_
    refine W.widen (k := 1) (n := 6) (by omega) (by omega) ?_
    exact W.iret (v := 0) hx hb hr (fun t9 ht9 hW => ⟨⟨0, (S1, vp_updL f z0 r), rfl, ⟨by rw [e1]; rfl, hXX, fun _ => by rw [← e2]; exact o_self (f := f) (x := r)⟩, by rw [ht9]; exact p2, b2, by rw [ht9]; exact o1⟩, hS2.F ht9⟩) hS2.2.2 dL_without_21

def f_X5_told_B49 (S : PS) (s0 : Int32) : Option (Int32 × PS) :=
  some (s0, S)
def f_X5_told_B67 (S : PS) (s0 : Int32) : Option (Int32 × PS) :=
  some (s0, S)
def f_X5_told_B85 (S : PS) (s0 : Int32) : Option (Int32 × PS) :=
  some (s0, S)
def f_X5_told_B105 (S : PS) (s0 : Int32) : Option (Int32 × PS) :=
  some (s0, S)
def f_X5_told (S : PS) (x0 : Nat) (x1 : Int32) (x2 : Int32) : Option (Int32 × PS) :=
  if x2 = 4 then (bd (f_X5_isVoid S x0 x1) fun t2 =>
  if t2 = 0 then (f_X5_told_B49 S 0) else
  f_X5_told_B49 S 1) else
  if x2 = 5 then (bd (f_X5_isVoid S x0 x1) fun t6 =>
  if t6 = 0 then (bd (f_X5_modulus S x0 x1) fun t10 =>
  f_X5_told_B67 S t10) else
  f_X5_told_B67 S ((-1))) else
  if x2 = 6 then (bd (f_X5_isVoid S x0 x1) fun t13 =>
  if t13 = 0 then (bd (f_X5_rest S x0 x1) fun t17 =>
  f_X5_told_B85 S t17) else
  f_X5_told_B85 S ((-1))) else
  if x2 = 7 then (bd (f_X5_against S x0 x1) fun t20 =>
  some (t20, S)) else
  if x2 = 8 then (bd (f_X5_isTold S x0 x1) fun t23 =>
  if t23.1 = 0 then (f_X5_told_B105 t23.2 0) else
  f_X5_told_B105 t23.2 1) else
  bd (f_X5_of S x0 x1 x2) fun t26 =>
  some (t26, S)
set_option maxHeartbeats 4000000 in
set_option maxRecDepth 100000 in
theorem c_X5_told (l : Launch) (D : va_G) (cy : cyT) {S : PS} {n : Nat} {y0 : Nat} {y1 : Int32} {y2 : Int32} (v_y0 : vd S y0 5) {res : Int32 × PS} (hf : f_X5_told S y0 y1 y2 = some res) : Met l yX5_told wsX5_told ({ frames := 7, cells := 0, slots := 0, locals := 158 } : Room) (PcW False D cy S n [.ref y0, .int y1, .int y2]) (va_Qi (fun (r : Int32) (u : PS × Nat) => r = res.1 ∧ u = (res.2, n)) (BW D cy S n) (AA cy S n)) 0 0 (AA cy S n) := by
  refine Met.ofW (cc := cX5_told) (maxL := 3) (ret := (some .int)) (by decide) rfl ?_
  intro p e s m args below meth c s₁ B hml hv
  obtain ⟨hav, hsz, hP0, hD0, hK, hZ0⟩ := hv
  have hx := B.exec
  have hb := B.bytes
  have hr := B.returns
  have hts := atoms_spec (ws := wsX5_told) B.pre
  have hown : s.vm.findClass RX5 = some m.cls := findClass_of_methodNamed B.named
  have hlocks := B.notSynchronized
  subst hav
  have hw : Hw D cy (AA cy S n) s.heap S n s.heap [] := Hw.start hsz hP0 hD0
  have hA : ∀ q, s.heap.size ≤ q → AA cy S n q := fun q h => Or.inr (hsz ▸ h)
  have hE : EX S S := EX.rf
  have F : CallFix p m c cX5_told 3 s _ wsX5_told RX5 := ⟨hx, hb, hml, hown, hts⟩
  have hB49 : ∀ (Sb : PS) (H1 : Heap) (lo1 : List Loc) (s0 : Int32) (ls : Array Slot), lv_has ls 3 [] → Hw D cy (AA cy S n) s.heap Sb n H1 lo1 → EX S Sb → f_X5_told_B49 Sb s0 = some res → W p l e (headSpec wsX5_told ({ frames := 7, cells := 0, slots := 0, locals := 158 } : Room)).room s m ([.ref y0, .int y1, .int y2] : List Value).toArray below meth c H1 lo1 0 0 (MQ below (va_Qi (fun (r : Int32) (u : PS × Nat) => r = res.1 ∧ u = (res.2, n)) (BW D cy S n) (AA cy S n)) ([.ref y0, .int y1, .int y2] : List Value).toArray s 0 0 (AA cy S n)) (F0 m 49 ls [.int s0]) := by
    intro Sb H1 lo1 s0 ls hl hw hE hf
    unfold f_X5_told_B49 at hf
    exact W.iret (v := s0) hx hb hr (fun t ht hW => ⟨⟨_, (Sb, n), rfl, po2 hf, BW.of hw hE ht⟩, hw.2.2.1.F ht⟩) hw.2.2.1.2.2 dX5_told_49
  have hB67 : ∀ (Sb : PS) (H1 : Heap) (lo1 : List Loc) (s0 : Int32) (ls : Array Slot), lv_has ls 3 [] → Hw D cy (AA cy S n) s.heap Sb n H1 lo1 → EX S Sb → f_X5_told_B67 Sb s0 = some res → W p l e (headSpec wsX5_told ({ frames := 7, cells := 0, slots := 0, locals := 158 } : Room)).room s m ([.ref y0, .int y1, .int y2] : List Value).toArray below meth c H1 lo1 0 0 (MQ below (va_Qi (fun (r : Int32) (u : PS × Nat) => r = res.1 ∧ u = (res.2, n)) (BW D cy S n) (AA cy S n)) ([.ref y0, .int y1, .int y2] : List Value).toArray s 0 0 (AA cy S n)) (F0 m 67 ls [.int s0]) := by
    intro Sb H1 lo1 s0 ls hl hw hE hf
    unfold f_X5_told_B67 at hf
    exact W.iret (v := s0) hx hb hr (fun t ht hW => ⟨⟨_, (Sb, n), rfl, po2 hf, BW.of hw hE ht⟩, hw.2.2.1.F ht⟩) hw.2.2.1.2.2 dX5_told_67
  have hB85 : ∀ (Sb : PS) (H1 : Heap) (lo1 : List Loc) (s0 : Int32) (ls : Array Slot), lv_has ls 3 [] → Hw D cy (AA cy S n) s.heap Sb n H1 lo1 → EX S Sb → f_X5_told_B85 Sb s0 = some res → W p l e (headSpec wsX5_told ({ frames := 7, cells := 0, slots := 0, locals := 158 } : Room)).room s m ([.ref y0, .int y1, .int y2] : List Value).toArray below meth c H1 lo1 0 0 (MQ below (va_Qi (fun (r : Int32) (u : PS × Nat) => r = res.1 ∧ u = (res.2, n)) (BW D cy S n) (AA cy S n)) ([.ref y0, .int y1, .int y2] : List Value).toArray s 0 0 (AA cy S n)) (F0 m 85 ls [.int s0]) := by
    intro Sb H1 lo1 s0 ls hl hw hE hf
    unfold f_X5_told_B85 at hf
    exact W.iret (v := s0) hx hb hr (fun t ht hW => ⟨⟨_, (Sb, n), rfl, po2 hf, BW.of hw hE ht⟩, hw.2.2.1.F ht⟩) hw.2.2.1.2.2 dX5_told_85
  have hB105 : ∀ (Sb : PS) (H1 : Heap) (lo1 : List Loc) (s0 : Int32) (ls : Array Slot), lv_has ls 3 [] → Hw D cy (AA cy S n) s.heap Sb n H1 lo1 → EX S Sb → f_X5_told_B105 Sb s0 = some res → W p l e (headSpec wsX5_told ({ frames := 7, cells := 0, slots := 0, locals := 158 } : Room)).room s m ([.ref y0, .int y1, .int y2] : List Value).toArray below meth c H1 lo1 0 0 (MQ below (va_Qi (fun (r : Int32) (u : PS × Nat) => r = res.1 ∧ u = (res.2, n)) (BW D cy S n) (AA cy S n)) ([.ref y0, .int y1, .int y2] : List Value).toArray s 0 0 (AA cy S n)) (F0 m 105 ls [.int s0]) := by
    intro Sb H1 lo1 s0 ls hl hw hE hf
    unfold f_X5_told_B105 at hf
    exact W.iret (v := s0) hx hb hr (fun t ht hW => ⟨⟨_, (Sb, n), rfl, po2 hf, BW.of hw hE ht⟩, hw.2.2.1.F ht⟩) hw.2.2.1.2.2 dX5_told_105
  have hl := lv_entry ([.ref y0, .int y1, .int y2]) (n := 3) (Nat.le_of_ble_eq_true rfl)
  rw [lg_entry_eq]
  generalize (lg_sl ([.ref y0, .int y1, .int y2]) ++ List.replicate (3 - (lg_sl ([.ref y0, .int y1, .int y2])).length) Slot.unset).toArray = ls at hl ⊢
  have hl : lv_has ls 3 [(0, .ref y0), (1, .int y1), (2, .int y2)] := hl
  unfold f_X5_told at hf
  refine lv_iload_n hx hb dX5_told_0 rfl (lv_at hl 2 rfl) ?_
  by_cases c29_0 : y2 = 4
  · have hf := it_t c29_0 hf
    refine lv_tableIn (off := 35) (tgt := 36) hx hb dX5_told_1 (by rw [c29_0]; decide) (by rw [c29_0]; decide) (by rw [c29_0]; rfl) (by decide) ?_
    refine lv_aload_n hx hb dX5_told_36 rfl (lv_at hl 0 rfl) ?_
    refine lv_iload_n hx hb dX5_told_37 rfl (lv_at hl 1 rfl) ?_
    obtain ⟨t30, h31, hf⟩ := bd_some hf
    refine vp_callSi (va_runV (As := [.int y1]) (rest := []) F (c_X5_isVoid l D cy (H := _) hw.1 v_y0 h31) (cwV 1 hts gX5_told_X5_isVoid rfl rfl rfl ⟨rfl, ph_X5_isVoid.1, ph_X5_isVoid.2, pd_X5_isVoid⟩ ⟨Nat.le_of_ble_eq_true rfl, Nat.le_of_ble_eq_true rfl⟩) ⟨PcR.bl, (q_rcv hK hw.1 v_y0.1 (pF_5 (S := S) v_y0.2) rfl), PcR.in hK⟩ rfl rfl hl.1 rfl (lv_room (Nat.le_of_ble_eq_true rfl)) dX5_told_38 ⟨Nat.zero_le _, Nat.zero_le _⟩).run (fun r32 er32 => ?_)
    subst r32
    refine lv_if_eq (tgt := 48) hx hb dX5_told_41 (by decide) (fun c33 => ?_) (fun c33 => ?_)
    · have hf := it_t c33 hf
      refine lv_iconst (v := 0) hx hb dX5_told_48 (by decide) ?_
      exact hB49 S _ _ 0 _ (lv_sub hl [] rfl) hw hE  hf
    · have hf := it_f c33 hf
      refine lv_iconst (v := 1) hx hb dX5_told_44 (by decide) ?_
      refine lv_goto (tgt := 49) hx hb dX5_told_45 (by decide) ?_
      exact hB49 S _ _ 1 _ (lv_sub hl [] rfl) hw hE  hf
  have hf := it_f c29_0 hf
  by_cases c29_1 : y2 = 5
  · have hf := it_t c29_1 hf
    refine lv_tableIn (off := 49) (tgt := 50) hx hb dX5_told_1 (by rw [c29_1]; decide) (by rw [c29_1]; decide) (by rw [c29_1]; rfl) (by decide) ?_
    refine lv_aload_n hx hb dX5_told_50 rfl (lv_at hl 0 rfl) ?_
    refine lv_iload_n hx hb dX5_told_51 rfl (lv_at hl 1 rfl) ?_
    obtain ⟨t34, h35, hf⟩ := bd_some hf
    refine vp_callSi (va_runV (As := [.int y1]) (rest := []) F (c_X5_isVoid l D cy (H := _) hw.1 v_y0 h35) (cwV 1 hts gX5_told_X5_isVoid rfl rfl rfl ⟨rfl, ph_X5_isVoid.1, ph_X5_isVoid.2, pd_X5_isVoid⟩ ⟨Nat.le_of_ble_eq_true rfl, Nat.le_of_ble_eq_true rfl⟩) ⟨PcR.bl, (q_rcv hK hw.1 v_y0.1 (pF_5 (S := S) v_y0.2) rfl), PcR.in hK⟩ rfl rfl hl.1 rfl (lv_room (Nat.le_of_ble_eq_true rfl)) dX5_told_52 ⟨Nat.zero_le _, Nat.zero_le _⟩).run (fun r36 er36 => ?_)
    subst r36
    refine lv_if_eq (tgt := 62) hx hb dX5_told_55 (by decide) (fun c37 => ?_) (fun c37 => ?_)
    · have hf := it_t c37 hf
      refine lv_aload_n hx hb dX5_told_62 rfl (lv_at hl 0 rfl) ?_
      refine lv_iload_n hx hb dX5_told_63 rfl (lv_at hl 1 rfl) ?_
      obtain ⟨t38, h39, hf⟩ := bd_some hf
      refine vp_callSi (va_runV (As := [.int y1]) (rest := []) F (c_X5_modulus l D cy (H := _) hw.1 v_y0 h39) (cwV 1 hts gX5_told_X5_modulus rfl rfl rfl ⟨rfl, ph_X5_modulus.1, ph_X5_modulus.2, pd_X5_modulus⟩ ⟨Nat.le_of_ble_eq_true rfl, Nat.le_of_ble_eq_true rfl⟩) ⟨PcR.bl, (q_rcv hK hw.1 v_y0.1 (pF_5 (S := S) v_y0.2) rfl), PcR.in hK⟩ rfl rfl hl.1 rfl (lv_room (Nat.le_of_ble_eq_true rfl)) dX5_told_64 ⟨Nat.zero_le _, Nat.zero_le _⟩).run (fun r40 er40 => ?_)
      subst r40
      exact hB67 S _ _ t38 _ (lv_sub hl [] rfl) hw hE  hf
    · have hf := it_f c37 hf
      refine lv_iconst (v := (-1)) hx hb dX5_told_58 (by decide) ?_
      refine lv_goto (tgt := 67) hx hb dX5_told_59 (by decide) ?_
      exact hB67 S _ _ ((-1)) _ (lv_sub hl [] rfl) hw hE  hf
  have hf := it_f c29_1 hf
  by_cases c29_2 : y2 = 6
  · have hf := it_t c29_2 hf
    refine lv_tableIn (off := 67) (tgt := 68) hx hb dX5_told_1 (by rw [c29_2]; decide) (by rw [c29_2]; decide) (by rw [c29_2]; rfl) (by decide) ?_
    refine lv_aload_n hx hb dX5_told_68 rfl (lv_at hl 0 rfl) ?_
    refine lv_iload_n hx hb dX5_told_69 rfl (lv_at hl 1 rfl) ?_
    obtain ⟨t41, h42, hf⟩ := bd_some hf
    refine vp_callSi (va_runV (As := [.int y1]) (rest := []) F (c_X5_isVoid l D cy (H := _) hw.1 v_y0 h42) (cwV 1 hts gX5_told_X5_isVoid rfl rfl rfl ⟨rfl, ph_X5_isVoid.1, ph_X5_isVoid.2, pd_X5_isVoid⟩ ⟨Nat.le_of_ble_eq_true rfl, Nat.le_of_ble_eq_true rfl⟩) ⟨PcR.bl, (q_rcv hK hw.1 v_y0.1 (pF_5 (S := S) v_y0.2) rfl), PcR.in hK⟩ rfl rfl hl.1 rfl (lv_room (Nat.le_of_ble_eq_true rfl)) dX5_told_70 ⟨Nat.zero_le _, Nat.zero_le _⟩).run (fun r43 er43 => ?_)
    subst r43
    refine lv_if_eq (tgt := 80) hx hb dX5_told_73 (by decide) (fun c44 => ?_) (fun c44 => ?_)
    · have hf := it_t c44 hf
      refine lv_aload_n hx hb dX5_told_80 rfl (lv_at hl 0 rfl) ?_
      refine lv_iload_n hx hb dX5_told_81 rfl (lv_at hl 1 rfl) ?_
      obtain ⟨t45, h46, hf⟩ := bd_some hf
      refine vp_callSi (va_runV (As := [.int y1]) (rest := []) F (c_X5_rest l D cy (H := _) hw.1 v_y0 h46) (cwV 1 hts gX5_told_X5_rest rfl rfl rfl ⟨rfl, ph_X5_rest.1, ph_X5_rest.2, pd_X5_rest⟩ ⟨Nat.le_of_ble_eq_true rfl, Nat.le_of_ble_eq_true rfl⟩) ⟨PcR.bl, (q_rcv hK hw.1 v_y0.1 (pF_5 (S := S) v_y0.2) rfl), PcR.in hK⟩ rfl rfl hl.1 rfl (lv_room (Nat.le_of_ble_eq_true rfl)) dX5_told_82 ⟨Nat.zero_le _, Nat.zero_le _⟩).run (fun r47 er47 => ?_)
      subst r47
      exact hB85 S _ _ t45 _ (lv_sub hl [] rfl) hw hE  hf
    · have hf := it_f c44 hf
      refine lv_iconst (v := (-1)) hx hb dX5_told_76 (by decide) ?_
      refine lv_goto (tgt := 85) hx hb dX5_told_77 (by decide) ?_
      exact hB85 S _ _ ((-1)) _ (lv_sub hl [] rfl) hw hE  hf
  have hf := it_f c29_2 hf
  by_cases c29_3 : y2 = 7
  · have hf := it_t c29_3 hf
    refine lv_tableIn (off := 85) (tgt := 86) hx hb dX5_told_1 (by rw [c29_3]; decide) (by rw [c29_3]; decide) (by rw [c29_3]; rfl) (by decide) ?_
    refine lv_aload_n hx hb dX5_told_86 rfl (lv_at hl 0 rfl) ?_
    refine lv_iload_n hx hb dX5_told_87 rfl (lv_at hl 1 rfl) ?_
    obtain ⟨t48, h49, hf⟩ := bd_some hf
    refine vp_callSi (va_runV (As := [.int y1]) (rest := []) F (c_X5_against l D cy (H := _) hw.1 v_y0 h49) (cwV 1 hts gX5_told_X5_against rfl rfl rfl ⟨rfl, ph_X5_against.1, ph_X5_against.2, pd_X5_against⟩ ⟨Nat.le_of_ble_eq_true rfl, Nat.le_of_ble_eq_true rfl⟩) ⟨PcR.bl, (q_rcv hK hw.1 v_y0.1 (pF_5 (S := S) v_y0.2) rfl), PcR.in hK⟩ rfl rfl hl.1 rfl (lv_room (Nat.le_of_ble_eq_true rfl)) dX5_told_88 ⟨Nat.zero_le _, Nat.zero_le _⟩).run (fun r50 er50 => ?_)
    subst r50
    exact W.iret (v := t48) hx hb hr (fun t ht hW => ⟨⟨_, (S, n), rfl, po2 hf, BW.of hw hE ht⟩, hw.2.2.1.F ht⟩) hw.2.2.1.2.2 dX5_told_91
  have hf := it_f c29_3 hf
  by_cases c29_4 : y2 = 8
  · have hf := it_t c29_4 hf
    refine lv_tableIn (off := 91) (tgt := 92) hx hb dX5_told_1 (by rw [c29_4]; decide) (by rw [c29_4]; decide) (by rw [c29_4]; rfl) (by decide) ?_
    refine lv_aload_n hx hb dX5_told_92 rfl (lv_at hl 0 rfl) ?_
    refine lv_iload_n hx hb dX5_told_93 rfl (lv_at hl 1 rfl) ?_
    obtain ⟨t51, h52, hf⟩ := bd_some hf
    refine q_calli (va_runV (As := [.int y1]) (rest := []) F (c_X5_isTold l D cy (S := S) v_y0 h52) (cwV 1 hts gX5_told_X5_isTold rfl rfl rfl ⟨rfl, ph_X5_isTold.1, ph_X5_isTold.2, pd_X5_isTold⟩ ⟨Nat.le_of_ble_eq_true rfl, Nat.le_of_ble_eq_true rfl⟩) ⟨PcW.bl, (q_rcv hK hw.1 v_y0.1 (pF_5 (S := S) v_y0.2) rfl), PcW.in hK hw hA (fun z => z.elim)⟩ rfl rfl hl.1 rfl (lv_room (Nat.le_of_ble_eq_true rfl)) dX5_told_94 ⟨Nat.zero_le _, Nat.zero_le _⟩) hw hA (fun H locs hw hX => ?_)
    have hE := hE.tr hX
    have v_y0 := hX _ _ v_y0
    refine lv_if_eq (tgt := 104) hx hb dX5_told_97 (by decide) (fun c53 => ?_) (fun c53 => ?_)
    · have hf := it_t c53 hf
      refine lv_iconst (v := 0) hx hb dX5_told_104 (by decide) ?_
      exact hB105 t51.2 _ _ 0 _ (lv_sub hl [] rfl) hw hE  hf
    · have hf := it_f c53 hf
      refine lv_iconst (v := 1) hx hb dX5_told_100 (by decide) ?_
      refine lv_goto (tgt := 105) hx hb dX5_told_101 (by decide) ?_
      exact hB105 t51.2 _ _ 1 _ (lv_sub hl [] rfl) hw hE  hf
  have hf := it_f c29_4 hf
  have c29n_0 := i32_ne (n := 4) (by decide) c29_0
  have c29n_1 := i32_ne (n := 5) (by decide) c29_1
  have c29n_2 := i32_ne (n := 6) (by decide) c29_2
  have c29n_3 := i32_ne (n := 7) (by decide) c29_3
  have c29n_4 := i32_ne (n := 8) (by decide) c29_4
  refine lv_tableOut (tgt := 106) hx hb dX5_told_1 (by omega) (by decide) ?_
  refine lv_aload_n hx hb dX5_told_106 rfl (lv_at hl 0 rfl) ?_
  refine lv_iload_n hx hb dX5_told_107 rfl (lv_at hl 1 rfl) ?_
  refine lv_iload_n hx hb dX5_told_108 rfl (lv_at hl 2 rfl) ?_
  obtain ⟨t54, h55, hf⟩ := bd_some hf
  refine vp_callSi (va_runV (As := [.int y1, .int y2]) (rest := []) F (c_X5_of l D cy (H := _) hw.1 v_y0 h55) (cwV 2 hts gX5_told_X5_of rfl rfl rfl ⟨rfl, ph_X5_of.1, ph_X5_of.2, pd_X5_of⟩ ⟨Nat.le_of_ble_eq_true rfl, Nat.le_of_ble_eq_true rfl⟩) ⟨PcR.bl, (q_rcv hK hw.1 v_y0.1 (pF_5 (S := S) v_y0.2) rfl), PcR.in hK⟩ rfl rfl hl.1 rfl (lv_room (Nat.le_of_ble_eq_true rfl)) dX5_told_109 ⟨Nat.zero_le _, Nat.zero_le _⟩).run (fun r56 er56 => ?_)
  subst r56
  exact W.iret (v := t54) hx hb hr (fun t ht hW => ⟨⟨_, (S, n), rfl, po2 hf, BW.of hw hE ht⟩, hw.2.2.1.F ht⟩) hw.2.2.1.2.2 dX5_told_112
def f_X5_condition_B48 (S : PS) (s0 : Int32) : Option (Int32 × PS) :=
  some (s0, S)
def f_X5_condition_B28 (S : PS) (x0 : Nat) (x1 : Int32) (x2 : Int32) (s0 : Nat) (s1 : Int32) : Option (Int32 × PS) :=
  if (fI (sI S 80 s0 s1) 80 x0) ≤ 0 then (bd (f_X5_told (sI S 80 s0 s1) x0 x1 x2) fun t2 =>
  f_X5_condition_B48 t2.2 t2.1) else
  f_X5_condition_B48 (sI S 80 s0 s1) 0
def f_X5_condition (S : PS) (x0 : Nat) (x1 : Int32) (x2 : Int32) : Option (Int32 × PS) :=
  bd (f_X5_isThere S x0 x1) fun t4 =>
  if t4 = 0 then (f_X5_condition_B28 S x0 x1 x2 x0 1) else
  bd (f_X5_in x2 0 8) fun t8 =>
  if t8 = 0 then (f_X5_condition_B28 S x0 x1 x2 x0 2) else
  f_X5_condition_B28 S x0 x1 x2 x0 0
set_option maxHeartbeats 4000000 in
set_option maxRecDepth 100000 in
theorem c_X5_condition (l : Launch) (D : va_G) (cy : cyT) {S : PS} {n : Nat} {y0 : Nat} {y1 : Int32} {y2 : Int32} (v_y0 : vd S y0 5) {res : Int32 × PS} (hf : f_X5_condition S y0 y1 y2 = some res) : Met l yX5_condition wsX5_condition ({ frames := 8, cells := 0, slots := 0, locals := 180 } : Room) (PcW False D cy S n [.ref y0, .int y1, .int y2]) (va_Qi (fun (r : Int32) (u : PS × Nat) => r = res.1 ∧ u = (res.2, n)) (BW D cy S n) (AA cy S n)) 0 0 (AA cy S n) := by
  refine Met.ofW (cc := cX5_condition) (maxL := 3) (ret := (some .int)) (by decide) rfl ?_
  intro p e s m args below meth c s₁ B hml hv
  obtain ⟨hav, hsz, hP0, hD0, hK, hZ0⟩ := hv
  have hx := B.exec
  have hb := B.bytes
  have hr := B.returns
  have hts := atoms_spec (ws := wsX5_condition) B.pre
  have hown : s.vm.findClass RX5 = some m.cls := findClass_of_methodNamed B.named
  have hlocks := B.notSynchronized
  subst hav
  have hw : Hw D cy (AA cy S n) s.heap S n s.heap [] := Hw.start hsz hP0 hD0
  have hA : ∀ q, s.heap.size ≤ q → AA cy S n q := fun q h => Or.inr (hsz ▸ h)
  have hE : EX S S := EX.rf
  have F : CallFix p m c cX5_condition 3 s _ wsX5_condition RX5 := ⟨hx, hb, hml, hown, hts⟩
  have hB48 : ∀ (Sb : PS) (H1 : Heap) (lo1 : List Loc) (s0 : Int32) (ls : Array Slot), lv_has ls 3 [] → Hw D cy (AA cy S n) s.heap Sb n H1 lo1 → EX S Sb → f_X5_condition_B48 Sb s0 = some res → W p l e (headSpec wsX5_condition ({ frames := 8, cells := 0, slots := 0, locals := 180 } : Room)).room s m ([.ref y0, .int y1, .int y2] : List Value).toArray below meth c H1 lo1 0 0 (MQ below (va_Qi (fun (r : Int32) (u : PS × Nat) => r = res.1 ∧ u = (res.2, n)) (BW D cy S n) (AA cy S n)) ([.ref y0, .int y1, .int y2] : List Value).toArray s 0 0 (AA cy S n)) (F0 m 48 ls [.int s0]) := by
    intro Sb H1 lo1 s0 ls hl hw hE hf
    unfold f_X5_condition_B48 at hf
    exact W.iret (v := s0) hx hb hr (fun t ht hW => ⟨⟨_, (Sb, n), rfl, po2 hf, BW.of hw hE ht⟩, hw.2.2.1.F ht⟩) hw.2.2.1.2.2 dX5_condition_48
  have hB28 : ∀ (Sb : PS) (H1 : Heap) (lo1 : List Loc) (x0 : Nat) (x1 : Int32) (x2 : Int32) (s0 : Nat) (s1 : Int32) (ls : Array Slot), lv_has ls 3 [(0, .ref x0), (1, .int x1), (2, .int x2)] → Hw D cy (AA cy S n) s.heap Sb n H1 lo1 → EX S Sb → vd Sb x0 5 → vd Sb s0 5 → f_X5_condition_B28 Sb x0 x1 x2 s0 s1 = some res → W p l e (headSpec wsX5_condition ({ frames := 8, cells := 0, slots := 0, locals := 180 } : Room)).room s m ([.ref y0, .int y1, .int y2] : List Value).toArray below meth c H1 lo1 0 0 (MQ below (va_Qi (fun (r : Int32) (u : PS × Nat) => r = res.1 ∧ u = (res.2, n)) (BW D cy S n) (AA cy S n)) ([.ref y0, .int y1, .int y2] : List Value).toArray s 0 0 (AA cy S n)) (F0 m 28 ls [.int s1, .ref s0]) := by
    intro Sb H1 lo1 x0 x1 x2 s0 s1 ls hl hw hE v_x0 v_s0 hf
    unfold f_X5_condition_B28 at hf
    refine q_put F hK hw v_s0.1 (pF_5 (S := Sb) v_s0.2) (fun w h => List.mem_cons_of_mem _ (List.mem_append_right _ h)) tyX5 tyX5_ok nmX5 rfl 0 (by decide) (hts (.fieldLink RX5 22 "SharedModuliModel" "thrown" "I") (List.mem_of_getElem? (i := 1) rfl)) (Or.inl rfl) (tyX5_ok 0 (by decide)) rfl rfl (Nat.le_of_ble_eq_true rfl) (S1 := sI Sb 80 s0 s1) (st_80 (S := Sb) v_s0.2 s1) dX5_condition_28 (fun H locs hw => ?_)
    refine lv_aload_n hx hb dX5_condition_31 rfl (lv_at hl 0 rfl) ?_
    refine q_get F hK hw.1 v_x0.1 (pF_5 (S := sI Sb 80 s0 s1) v_x0.2) (fun w h => List.mem_cons_of_mem _ (List.mem_append_right _ h)) rfl 0 (by decide) (hts (.fieldLink RX5 22 "SharedModuliModel" "thrown" "I") (List.mem_of_getElem? (i := 1) rfl)) (v := .int (fI (sI Sb 80 s0 s1) 80 x0)) rfl dX5_condition_32 ?_
    refine lv_if_le (tgt := 42) hx hb dX5_condition_35 (by decide) (fun c12 => ?_) (fun c12 => ?_)
    · have hf := it_t c12 hf
      refine lv_aload_n hx hb dX5_condition_42 rfl (lv_at hl 0 rfl) ?_
      refine lv_iload_n hx hb dX5_condition_43 rfl (lv_at hl 1 rfl) ?_
      refine lv_iload_n hx hb dX5_condition_44 rfl (lv_at hl 2 rfl) ?_
      obtain ⟨t13, h14, hf⟩ := bd_some hf
      refine q_calli (va_runV (As := [.int x1, .int x2]) (rest := []) F (c_X5_told l D cy (S := sI Sb 80 s0 s1) v_x0 h14) (cwV 2 hts gX5_condition_X5_told rfl rfl rfl ⟨rfl, ph_X5_told.1, ph_X5_told.2, pd_X5_told⟩ ⟨Nat.le_of_ble_eq_true rfl, Nat.le_of_ble_eq_true rfl⟩) ⟨PcW.bl, (q_rcv hK hw.1 v_x0.1 (pF_5 (S := sI Sb 80 s0 s1) v_x0.2) rfl), PcW.in hK hw hA (fun z => z.elim)⟩ rfl rfl hl.1 rfl (lv_room (Nat.le_of_ble_eq_true rfl)) dX5_condition_45 ⟨Nat.zero_le _, Nat.zero_le _⟩) hw hA (fun H locs hw hX => ?_)
      have hE := hE.tr hX
      have v_x0 := hX _ _ v_x0
      have v_s0 := hX _ _ v_s0
      exact hB48 t13.2 _ _ t13.1 _ (lv_sub hl [] rfl) hw hE  hf
    · have hf := it_f c12 hf
      refine lv_iconst (v := 0) hx hb dX5_condition_38 (by decide) ?_
      refine lv_goto (tgt := 48) hx hb dX5_condition_39 (by decide) ?_
      exact hB48 (sI Sb 80 s0 s1) _ _ 0 _ (lv_sub hl [] rfl) hw hE  hf
  have hl := lv_entry ([.ref y0, .int y1, .int y2]) (n := 3) (Nat.le_of_ble_eq_true rfl)
  rw [lg_entry_eq]
  generalize (lg_sl ([.ref y0, .int y1, .int y2]) ++ List.replicate (3 - (lg_sl ([.ref y0, .int y1, .int y2])).length) Slot.unset).toArray = ls at hl ⊢
  have hl : lv_has ls 3 [(0, .ref y0), (1, .int y1), (2, .int y2)] := hl
  unfold f_X5_condition at hf
  refine lv_aload_n hx hb dX5_condition_0 rfl (lv_at hl 0 rfl) ?_
  refine lv_aload_n hx hb dX5_condition_1 rfl (lv_at hl 0 rfl) ?_
  refine lv_iload_n hx hb dX5_condition_2 rfl (lv_at hl 1 rfl) ?_
  obtain ⟨t15, h16, hf⟩ := bd_some hf
  refine vp_callSi (va_runV (As := [.int y1]) (rest := [.ref y0]) F (c_X5_isThere l D cy (H := _) hw.1 v_y0 h16) (cwV 1 hts gX5_condition_X5_isThere rfl rfl rfl ⟨rfl, ph_X5_isThere.1, ph_X5_isThere.2, pd_X5_isThere⟩ ⟨Nat.le_of_ble_eq_true rfl, Nat.le_of_ble_eq_true rfl⟩) ⟨PcR.bl, (q_rcv hK hw.1 v_y0.1 (pF_5 (S := S) v_y0.2) rfl), PcR.in hK⟩ rfl rfl hl.1 rfl (lv_room (Nat.le_of_ble_eq_true rfl)) dX5_condition_3 ⟨Nat.zero_le _, Nat.zero_le _⟩).run (fun r17 er17 => ?_)
  subst r17
  refine lv_if_ne (tgt := 13) hx hb dX5_condition_6 (by decide) (fun c18 => ?_) (fun c18 => ?_)
  · have hf := it_f c18 hf
    refine lv_iload_n hx hb dX5_condition_13 rfl (lv_at hl 2 rfl) ?_
    refine lv_iconst (v := 0) hx hb dX5_condition_14 (by decide) ?_
    refine lv_bipush (v := 8) hx hb dX5_condition_15 (by decide) ?_
    obtain ⟨t19, h20, hf⟩ := bd_some hf
    refine vp_callSi (va_runS (As := [.int y2, .int 0, .int 8]) (rest := [.ref y0]) F (c_X5_in l D cy (H := _)  h20) (va_cwS 3 hts gX5_condition_X5_in rfl rfl rfl ⟨ph_X5_in.1, ph_X5_in.2, pd_X5_in⟩ ⟨Nat.le_of_ble_eq_true rfl, Nat.le_of_ble_eq_true rfl⟩) ⟨PcR.bl, PcR.in hK⟩ rfl rfl hl.1 rfl (lv_room (Nat.le_of_ble_eq_true rfl)) dX5_condition_17 ⟨Nat.zero_le _, Nat.zero_le _⟩).run (fun r21 er21 => ?_)
    subst r21
    refine lv_if_eq (tgt := 27) hx hb dX5_condition_20 (by decide) (fun c22 => ?_) (fun c22 => ?_)
    · have hf := it_t c22 hf
      refine lv_iconst (v := 2) hx hb dX5_condition_27 (by decide) ?_
      exact hB28 S _ _ y0 y1 y2 y0 2 _ (lv_sub hl [0, 1, 2] rfl) hw hE v_y0 v_y0 hf
    · have hf := it_f c22 hf
      refine lv_iconst (v := 0) hx hb dX5_condition_23 (by decide) ?_
      refine lv_goto (tgt := 28) hx hb dX5_condition_24 (by decide) ?_
      exact hB28 S _ _ y0 y1 y2 y0 0 _ (lv_sub hl [0, 1, 2] rfl) hw hE v_y0 v_y0 hf
  · have hf := it_t c18 hf
    refine lv_iconst (v := 1) hx hb dX5_condition_9 (by decide) ?_
    refine lv_goto (tgt := 28) hx hb dX5_condition_10 (by decide) ?_
    exact hB28 S _ _ y0 y1 y2 y0 1 _ (lv_sub hl [0, 1, 2] rfl) hw hE v_y0 v_y0 hf
def f_X5_agrees_B50 (S : PS) (s0 : Int32) : Option (Int32 × PS) :=
  some (s0, S)
def f_X5_agrees_B22 (S : PS) (x0 : Nat) (x1 : Int32) (x2 : Int32) (s0 : Nat) (s1 : Int32) : Option (Int32 × PS) :=
  if (fI (sI S 80 s0 s1) 80 x0) ≤ 0 then (bd (f_X5_goTogether (sI S 80 s0 s1) x0 x1 x2) fun t2 =>
  if t2 = 0 then (f_X5_agrees_B50 (sI S 80 s0 s1) 0) else
  f_X5_agrees_B50 (sI S 80 s0 s1) 1) else
  f_X5_agrees_B50 (sI S 80 s0 s1) 0
def f_X5_agrees_B21 (S : PS) (x0 : Nat) (x1 : Int32) (x2 : Int32) (s0 : Nat) : Option (Int32 × PS) :=
  f_X5_agrees_B22 S x0 x1 x2 s0 1
def f_X5_agrees (S : PS) (x0 : Nat) (x1 : Int32) (x2 : Int32) : Option (Int32 × PS) :=
  bd (f_X5_isThere S x0 x1) fun t6 =>
  if t6 = 0 then (f_X5_agrees_B21 S x0 x1 x2 x0) else
  bd (f_X5_isThere S x0 x2) fun t10 =>
  if t10 = 0 then (f_X5_agrees_B21 S x0 x1 x2 x0) else
  f_X5_agrees_B22 S x0 x1 x2 x0 0
set_option maxHeartbeats 4000000 in
set_option maxRecDepth 100000 in
theorem c_X5_agrees (l : Launch) (D : va_G) (cy : cyT) {S : PS} {n : Nat} {y0 : Nat} {y1 : Int32} {y2 : Int32} (v_y0 : vd S y0 5) {res : Int32 × PS} (hf : f_X5_agrees S y0 y1 y2 = some res) : Met l yX5_agrees wsX5_agrees ({ frames := 3, cells := 0, slots := 0, locals := 68 } : Room) (PcW False D cy S n [.ref y0, .int y1, .int y2]) (va_Qi (fun (r : Int32) (u : PS × Nat) => r = res.1 ∧ u = (res.2, n)) (BW D cy S n) (AA cy S n)) 0 0 (AA cy S n) := by
  refine Met.ofW (cc := cX5_agrees) (maxL := 3) (ret := (some .int)) (by decide) rfl ?_
  intro p e s m args below meth c s₁ B hml hv
  obtain ⟨hav, hsz, hP0, hD0, hK, hZ0⟩ := hv
  have hx := B.exec
  have hb := B.bytes
  have hr := B.returns
  have hts := atoms_spec (ws := wsX5_agrees) B.pre
  have hown : s.vm.findClass RX5 = some m.cls := findClass_of_methodNamed B.named
  have hlocks := B.notSynchronized
  subst hav
  have hw : Hw D cy (AA cy S n) s.heap S n s.heap [] := Hw.start hsz hP0 hD0
  have hA : ∀ q, s.heap.size ≤ q → AA cy S n q := fun q h => Or.inr (hsz ▸ h)
  have hE : EX S S := EX.rf
  have F : CallFix p m c cX5_agrees 3 s _ wsX5_agrees RX5 := ⟨hx, hb, hml, hown, hts⟩
  have hB50 : ∀ (Sb : PS) (H1 : Heap) (lo1 : List Loc) (s0 : Int32) (ls : Array Slot), lv_has ls 3 [] → Hw D cy (AA cy S n) s.heap Sb n H1 lo1 → EX S Sb → f_X5_agrees_B50 Sb s0 = some res → W p l e (headSpec wsX5_agrees ({ frames := 3, cells := 0, slots := 0, locals := 68 } : Room)).room s m ([.ref y0, .int y1, .int y2] : List Value).toArray below meth c H1 lo1 0 0 (MQ below (va_Qi (fun (r : Int32) (u : PS × Nat) => r = res.1 ∧ u = (res.2, n)) (BW D cy S n) (AA cy S n)) ([.ref y0, .int y1, .int y2] : List Value).toArray s 0 0 (AA cy S n)) (F0 m 50 ls [.int s0]) := by
    intro Sb H1 lo1 s0 ls hl hw hE hf
    unfold f_X5_agrees_B50 at hf
    exact W.iret (v := s0) hx hb hr (fun t ht hW => ⟨⟨_, (Sb, n), rfl, po2 hf, BW.of hw hE ht⟩, hw.2.2.1.F ht⟩) hw.2.2.1.2.2 dX5_agrees_50
  have hB22 : ∀ (Sb : PS) (H1 : Heap) (lo1 : List Loc) (x0 : Nat) (x1 : Int32) (x2 : Int32) (s0 : Nat) (s1 : Int32) (ls : Array Slot), lv_has ls 3 [(0, .ref x0), (1, .int x1), (2, .int x2)] → Hw D cy (AA cy S n) s.heap Sb n H1 lo1 → EX S Sb → vd Sb x0 5 → vd Sb s0 5 → f_X5_agrees_B22 Sb x0 x1 x2 s0 s1 = some res → W p l e (headSpec wsX5_agrees ({ frames := 3, cells := 0, slots := 0, locals := 68 } : Room)).room s m ([.ref y0, .int y1, .int y2] : List Value).toArray below meth c H1 lo1 0 0 (MQ below (va_Qi (fun (r : Int32) (u : PS × Nat) => r = res.1 ∧ u = (res.2, n)) (BW D cy S n) (AA cy S n)) ([.ref y0, .int y1, .int y2] : List Value).toArray s 0 0 (AA cy S n)) (F0 m 22 ls [.int s1, .ref s0]) := by
    intro Sb H1 lo1 x0 x1 x2 s0 s1 ls hl hw hE v_x0 v_s0 hf
    unfold f_X5_agrees_B22 at hf
    refine q_put F hK hw v_s0.1 (pF_5 (S := Sb) v_s0.2) (fun w h => List.mem_cons_of_mem _ (List.mem_append_right _ h)) tyX5 tyX5_ok nmX5 rfl 0 (by decide) (hts (.fieldLink RX5 22 "SharedModuliModel" "thrown" "I") (List.mem_of_getElem? (i := 1) rfl)) (Or.inl rfl) (tyX5_ok 0 (by decide)) rfl rfl (Nat.le_of_ble_eq_true rfl) (S1 := sI Sb 80 s0 s1) (st_80 (S := Sb) v_s0.2 s1) dX5_agrees_22 (fun H locs hw => ?_)
    refine lv_aload_n hx hb dX5_agrees_25 rfl (lv_at hl 0 rfl) ?_
    refine q_get F hK hw.1 v_x0.1 (pF_5 (S := sI Sb 80 s0 s1) v_x0.2) (fun w h => List.mem_cons_of_mem _ (List.mem_append_right _ h)) rfl 0 (by decide) (hts (.fieldLink RX5 22 "SharedModuliModel" "thrown" "I") (List.mem_of_getElem? (i := 1) rfl)) (v := .int (fI (sI Sb 80 s0 s1) 80 x0)) rfl dX5_agrees_26 ?_
    refine lv_if_le (tgt := 36) hx hb dX5_agrees_29 (by decide) (fun c14 => ?_) (fun c14 => ?_)
    · have hf := it_t c14 hf
      refine lv_aload_n hx hb dX5_agrees_36 rfl (lv_at hl 0 rfl) ?_
      refine lv_iload_n hx hb dX5_agrees_37 rfl (lv_at hl 1 rfl) ?_
      refine lv_iload_n hx hb dX5_agrees_38 rfl (lv_at hl 2 rfl) ?_
      obtain ⟨t15, h16, hf⟩ := bd_some hf
      refine vp_callSi (va_runV (As := [.int x1, .int x2]) (rest := []) F (c_X5_goTogether l D cy (H := _) hw.1 v_x0 h16) (cwV 2 hts gX5_agrees_X5_goTogether rfl rfl rfl ⟨rfl, ph_X5_goTogether.1, ph_X5_goTogether.2, pd_X5_goTogether⟩ ⟨Nat.le_of_ble_eq_true rfl, Nat.le_of_ble_eq_true rfl⟩) ⟨PcR.bl, (q_rcv hK hw.1 v_x0.1 (pF_5 (S := sI Sb 80 s0 s1) v_x0.2) rfl), PcR.in hK⟩ rfl rfl hl.1 rfl (lv_room (Nat.le_of_ble_eq_true rfl)) dX5_agrees_39 ⟨Nat.zero_le _, Nat.zero_le _⟩).run (fun r17 er17 => ?_)
      subst r17
      refine lv_if_eq (tgt := 49) hx hb dX5_agrees_42 (by decide) (fun c18 => ?_) (fun c18 => ?_)
      · have hf := it_t c18 hf
        refine lv_iconst (v := 0) hx hb dX5_agrees_49 (by decide) ?_
        exact hB50 (sI Sb 80 s0 s1) _ _ 0 _ (lv_sub hl [] rfl) hw hE  hf
      · have hf := it_f c18 hf
        refine lv_iconst (v := 1) hx hb dX5_agrees_45 (by decide) ?_
        refine lv_goto (tgt := 50) hx hb dX5_agrees_46 (by decide) ?_
        exact hB50 (sI Sb 80 s0 s1) _ _ 1 _ (lv_sub hl [] rfl) hw hE  hf
    · have hf := it_f c14 hf
      refine lv_iconst (v := 0) hx hb dX5_agrees_32 (by decide) ?_
      refine lv_goto (tgt := 50) hx hb dX5_agrees_33 (by decide) ?_
      exact hB50 (sI Sb 80 s0 s1) _ _ 0 _ (lv_sub hl [] rfl) hw hE  hf
  have hB21 : ∀ (Sb : PS) (H1 : Heap) (lo1 : List Loc) (x0 : Nat) (x1 : Int32) (x2 : Int32) (s0 : Nat) (ls : Array Slot), lv_has ls 3 [(0, .ref x0), (1, .int x1), (2, .int x2)] → Hw D cy (AA cy S n) s.heap Sb n H1 lo1 → EX S Sb → vd Sb x0 5 → vd Sb s0 5 → f_X5_agrees_B21 Sb x0 x1 x2 s0 = some res → W p l e (headSpec wsX5_agrees ({ frames := 3, cells := 0, slots := 0, locals := 68 } : Room)).room s m ([.ref y0, .int y1, .int y2] : List Value).toArray below meth c H1 lo1 0 0 (MQ below (va_Qi (fun (r : Int32) (u : PS × Nat) => r = res.1 ∧ u = (res.2, n)) (BW D cy S n) (AA cy S n)) ([.ref y0, .int y1, .int y2] : List Value).toArray s 0 0 (AA cy S n)) (F0 m 21 ls [.ref s0]) := by
    intro Sb H1 lo1 x0 x1 x2 s0 ls hl hw hE v_x0 v_s0 hf
    unfold f_X5_agrees_B21 at hf
    refine lv_iconst (v := 1) hx hb dX5_agrees_21 (by decide) ?_
    exact hB22 Sb _ _ x0 x1 x2 s0 1 _ (lv_sub hl [0, 1, 2] rfl) hw hE v_x0 v_s0 hf
  have hl := lv_entry ([.ref y0, .int y1, .int y2]) (n := 3) (Nat.le_of_ble_eq_true rfl)
  rw [lg_entry_eq]
  generalize (lg_sl ([.ref y0, .int y1, .int y2]) ++ List.replicate (3 - (lg_sl ([.ref y0, .int y1, .int y2])).length) Slot.unset).toArray = ls at hl ⊢
  have hl : lv_has ls 3 [(0, .ref y0), (1, .int y1), (2, .int y2)] := hl
  unfold f_X5_agrees at hf
  refine lv_aload_n hx hb dX5_agrees_0 rfl (lv_at hl 0 rfl) ?_
  refine lv_aload_n hx hb dX5_agrees_1 rfl (lv_at hl 0 rfl) ?_
  refine lv_iload_n hx hb dX5_agrees_2 rfl (lv_at hl 1 rfl) ?_
  obtain ⟨t19, h20, hf⟩ := bd_some hf
  refine vp_callSi (va_runV (As := [.int y1]) (rest := [.ref y0]) F (c_X5_isThere l D cy (H := _) hw.1 v_y0 h20) (cwV 1 hts gX5_agrees_X5_isThere rfl rfl rfl ⟨rfl, ph_X5_isThere.1, ph_X5_isThere.2, pd_X5_isThere⟩ ⟨Nat.le_of_ble_eq_true rfl, Nat.le_of_ble_eq_true rfl⟩) ⟨PcR.bl, (q_rcv hK hw.1 v_y0.1 (pF_5 (S := S) v_y0.2) rfl), PcR.in hK⟩ rfl rfl hl.1 rfl (lv_room (Nat.le_of_ble_eq_true rfl)) dX5_agrees_3 ⟨Nat.zero_le _, Nat.zero_le _⟩).run (fun r21 er21 => ?_)
  subst r21
  refine lv_if_eq (tgt := 21) hx hb dX5_agrees_6 (by decide) (fun c22 => ?_) (fun c22 => ?_)
  · have hf := it_t c22 hf
    exact hB21 S _ _ y0 y1 y2 y0 _ (lv_sub hl [0, 1, 2] rfl) hw hE v_y0 v_y0 hf
  · have hf := it_f c22 hf
    refine lv_aload_n hx hb dX5_agrees_9 rfl (lv_at hl 0 rfl) ?_
    refine lv_iload_n hx hb dX5_agrees_10 rfl (lv_at hl 2 rfl) ?_
    obtain ⟨t23, h24, hf⟩ := bd_some hf
    refine vp_callSi (va_runV (As := [.int y2]) (rest := [.ref y0]) F (c_X5_isThere l D cy (H := _) hw.1 v_y0 h24) (cwV 1 hts gX5_agrees_X5_isThere rfl rfl rfl ⟨rfl, ph_X5_isThere.1, ph_X5_isThere.2, pd_X5_isThere⟩ ⟨Nat.le_of_ble_eq_true rfl, Nat.le_of_ble_eq_true rfl⟩) ⟨PcR.bl, (q_rcv hK hw.1 v_y0.1 (pF_5 (S := S) v_y0.2) rfl), PcR.in hK⟩ rfl rfl hl.1 rfl (lv_room (Nat.le_of_ble_eq_true rfl)) dX5_agrees_11 ⟨Nat.zero_le _, Nat.zero_le _⟩).run (fun r25 er25 => ?_)
    subst r25
    refine lv_if_eq (tgt := 21) hx hb dX5_agrees_14 (by decide) (fun c26 => ?_) (fun c26 => ?_)
    · have hf := it_t c26 hf
      exact hB21 S _ _ y0 y1 y2 y0 _ (lv_sub hl [0, 1, 2] rfl) hw hE v_y0 v_y0 hf
    · have hf := it_f c26 hf
      refine lv_iconst (v := 0) hx hb dX5_agrees_17 (by decide) ?_
      refine lv_goto (tgt := 22) hx hb dX5_agrees_18 (by decide) ?_
      exact hB22 S _ _ y0 y1 y2 y0 0 _ (lv_sub hl [0, 1, 2] rfl) hw hE v_y0 v_y0 hf
def f_X5_joinedBy_B29 (S : PS) (s0 : Int64) : Option (Int64 × PS) :=
  some (s0, S)
def f_X5_joinedBy (S : PS) (x0 : Nat) (x1 : Int32) (x2 : Int32) : Option (Int64 × PS) :=
  bd (f_X5_join S x0 x1) fun t1 =>
  if t1.1 = 0 then (f_X5_joinedBy_B29 t1.2 ((-1))) else
  if x2 = 0 then (f_X5_joinedBy_B29 t1.2 (fL t1.2 86 x0)) else
  f_X5_joinedBy_B29 t1.2 (fL t1.2 87 x0)
set_option maxHeartbeats 4000000 in
set_option maxRecDepth 100000 in
theorem c_X5_joinedBy (l : Launch) (D : va_G) (cy : cyT) {S : PS} {n : Nat} {y0 : Nat} {y1 : Int32} {y2 : Int32} (v_y0 : vd S y0 5) {res : Int64 × PS} (hf : f_X5_joinedBy S y0 y1 y2 = some res) : Met l yX5_joinedBy wsX5_joinedBy ({ frames := 5, cells := 0, slots := 0, locals := 115 } : Room) (PcW False D cy S n [.ref y0, .int y1, .int y2]) (va_Ql (fun (r : Int64) (u : PS × Nat) => r = res.1 ∧ u = (res.2, n)) (BW D cy S n) (AA cy S n)) 0 0 (AA cy S n) := by
  refine Met.ofW (cc := cX5_joinedBy) (maxL := 3) (ret := (some .long)) (by decide) rfl ?_
  intro p e s m args below meth c s₁ B hml hv
  obtain ⟨hav, hsz, hP0, hD0, hK, hZ0⟩ := hv
  have hx := B.exec
  have hb := B.bytes
  have hr := B.returns
  have hts := atoms_spec (ws := wsX5_joinedBy) B.pre
  have hown : s.vm.findClass RX5 = some m.cls := findClass_of_methodNamed B.named
  have hlocks := B.notSynchronized
  subst hav
  have hw : Hw D cy (AA cy S n) s.heap S n s.heap [] := Hw.start hsz hP0 hD0
  have hA : ∀ q, s.heap.size ≤ q → AA cy S n q := fun q h => Or.inr (hsz ▸ h)
  have hE : EX S S := EX.rf
  have F : CallFix p m c cX5_joinedBy 3 s _ wsX5_joinedBy RX5 := ⟨hx, hb, hml, hown, hts⟩
  have hB29 : ∀ (Sb : PS) (H1 : Heap) (lo1 : List Loc) (s0 : Int64) (ls : Array Slot), lv_has ls 3 [] → Hw D cy (AA cy S n) s.heap Sb n H1 lo1 → EX S Sb → f_X5_joinedBy_B29 Sb s0 = some res → W p l e (headSpec wsX5_joinedBy ({ frames := 5, cells := 0, slots := 0, locals := 115 } : Room)).room s m ([.ref y0, .int y1, .int y2] : List Value).toArray below meth c H1 lo1 0 0 (MQ below (va_Ql (fun (r : Int64) (u : PS × Nat) => r = res.1 ∧ u = (res.2, n)) (BW D cy S n) (AA cy S n)) ([.ref y0, .int y1, .int y2] : List Value).toArray s 0 0 (AA cy S n)) (F0 m 29 ls [.long s0]) := by
    intro Sb H1 lo1 s0 ls hl hw hE hf
    unfold f_X5_joinedBy_B29 at hf
    exact W.lret (v := s0) hx hb hr (fun t ht hW => ⟨⟨_, (Sb, n), rfl, po2 hf, BW.of hw hE ht⟩, hw.2.2.1.F ht⟩) hw.2.2.1.2.2 dX5_joinedBy_29
  have hl := lv_entry ([.ref y0, .int y1, .int y2]) (n := 3) (Nat.le_of_ble_eq_true rfl)
  rw [lg_entry_eq]
  generalize (lg_sl ([.ref y0, .int y1, .int y2]) ++ List.replicate (3 - (lg_sl ([.ref y0, .int y1, .int y2])).length) Slot.unset).toArray = ls at hl ⊢
  have hl : lv_has ls 3 [(0, .ref y0), (1, .int y1), (2, .int y2)] := hl
  unfold f_X5_joinedBy at hf
  refine lv_aload_n hx hb dX5_joinedBy_0 rfl (lv_at hl 0 rfl) ?_
  refine lv_iload_n hx hb dX5_joinedBy_1 rfl (lv_at hl 1 rfl) ?_
  obtain ⟨t5, h6, hf⟩ := bd_some hf
  refine q_calli (va_runV (As := [.int y1]) (rest := []) F (c_X5_join l D cy (S := S) v_y0 h6) (cwV 1 hts gX5_joinedBy_X5_join rfl rfl rfl ⟨rfl, ph_X5_join.1, ph_X5_join.2, pd_X5_join⟩ ⟨Nat.le_of_ble_eq_true rfl, Nat.le_of_ble_eq_true rfl⟩) ⟨PcW.bl, (q_rcv hK hw.1 v_y0.1 (pF_5 (S := S) v_y0.2) rfl), PcW.in hK hw hA (fun z => z.elim)⟩ rfl rfl hl.1 rfl (lv_room (Nat.le_of_ble_eq_true rfl)) dX5_joinedBy_2 ⟨Nat.zero_le _, Nat.zero_le _⟩) hw hA (fun H locs hw hX => ?_)
  have hE := hE.tr hX
  have v_y0 := hX _ _ v_y0
  refine lv_if_ne (tgt := 14) hx hb dX5_joinedBy_5 (by decide) (fun c7 => ?_) (fun c7 => ?_)
  · have hf := it_f c7 hf
    refine lv_iload_n hx hb dX5_joinedBy_14 rfl (lv_at hl 2 rfl) ?_
    refine lv_if_ne (tgt := 25) hx hb dX5_joinedBy_15 (by decide) (fun c8 => ?_) (fun c8 => ?_)
    · have hf := it_f c8 hf
      refine lv_aload_n hx hb dX5_joinedBy_25 rfl (lv_at hl 0 rfl) ?_
      refine q_get F hK hw.1 v_y0.1 (pF_5 (S := t5.2) v_y0.2) (fun w h => List.mem_cons_of_mem _ (List.mem_append_right _ h)) rfl 7 (by decide) (hts (.fieldLink RX5 64 "SharedModuliModel" "\x72" "J") (List.mem_of_getElem? (i := 3) rfl)) (v := .long (fL t5.2 87 y0)) rfl dX5_joinedBy_26 ?_
      exact hB29 t5.2 _ _ (fL t5.2 87 y0) _ (lv_sub hl [] rfl) hw hE  hf
    · have hf := it_t c8 hf
      refine lv_aload_n hx hb dX5_joinedBy_18 rfl (lv_at hl 0 rfl) ?_
      refine q_get F hK hw.1 v_y0.1 (pF_5 (S := t5.2) v_y0.2) (fun w h => List.mem_cons_of_mem _ (List.mem_append_right _ h)) rfl 6 (by decide) (hts (.fieldLink RX5 56 "SharedModuliModel" "n" "J") (List.mem_of_getElem? (i := 2) rfl)) (v := .long (fL t5.2 86 y0)) rfl dX5_joinedBy_19 ?_
      refine lv_goto (tgt := 29) hx hb dX5_joinedBy_22 (by decide) ?_
      exact hB29 t5.2 _ _ (fL t5.2 86 y0) _ (lv_sub hl [] rfl) hw hE  hf
  · have hf := it_t c7 hf
    refine lv_ldc2 hx hb hown (hts (.constantLong RX5 153 (-1)) (List.mem_of_getElem? (i := 1) rfl)) dX5_joinedBy_8 ?_
    refine lv_goto (tgt := 29) hx hb dX5_joinedBy_11 (by decide) ?_
    exact hB29 t5.2 _ _ ((-1)) _ (lv_sub hl [] rfl) hw hE  hf
def f_X5_joined_B38 (S : PS) (s0 : Int64) : Option (Int64 × PS) :=
  some (s0, S)
def f_X5_joined_B15 (S : PS) (x0 : Nat) (x1 : Int32) (s0 : Nat) (s1 : Int32) : Option (Int64 × PS) :=
  if (fI (sI S 80 s0 s1) 80 x0) ≤ 0 then (bd (f_X5_onSet (sI S 80 s0 s1) x0) fun t2 =>
  bd (f_X5_joinedBy (sI S 80 s0 s1) x0 t2 x1) fun t5 =>
  f_X5_joined_B38 t5.2 t5.1) else
  f_X5_joined_B38 (sI S 80 s0 s1) 0
def f_X5_joined (S : PS) (x0 : Nat) (x1 : Int32) : Option (Int64 × PS) :=
  bd (f_X5_in x1 0 1) fun t7 =>
  if t7 = 0 then (f_X5_joined_B15 S x0 x1 x0 1) else
  f_X5_joined_B15 S x0 x1 x0 0
set_option maxHeartbeats 4000000 in
set_option maxRecDepth 100000 in
theorem c_X5_joined (l : Launch) (D : va_G) (cy : cyT) {S : PS} {n : Nat} {y0 : Nat} {y1 : Int32} (v_y0 : vd S y0 5) {res : Int64 × PS} (hf : f_X5_joined S y0 y1 = some res) : Met l yX5_joined wsX5_joined ({ frames := 6, cells := 0, slots := 0, locals := 137 } : Room) (PcW False D cy S n [.ref y0, .int y1]) (va_Ql (fun (r : Int64) (u : PS × Nat) => r = res.1 ∧ u = (res.2, n)) (BW D cy S n) (AA cy S n)) 0 0 (AA cy S n) := by
  refine Met.ofW (cc := cX5_joined) (maxL := 2) (ret := (some .long)) (by decide) rfl ?_
  intro p e s m args below meth c s₁ B hml hv
  obtain ⟨hav, hsz, hP0, hD0, hK, hZ0⟩ := hv
  have hx := B.exec
  have hb := B.bytes
  have hr := B.returns
  have hts := atoms_spec (ws := wsX5_joined) B.pre
  have hown : s.vm.findClass RX5 = some m.cls := findClass_of_methodNamed B.named
  have hlocks := B.notSynchronized
  subst hav
  have hw : Hw D cy (AA cy S n) s.heap S n s.heap [] := Hw.start hsz hP0 hD0
  have hA : ∀ q, s.heap.size ≤ q → AA cy S n q := fun q h => Or.inr (hsz ▸ h)
  have hE : EX S S := EX.rf
  have F : CallFix p m c cX5_joined 2 s _ wsX5_joined RX5 := ⟨hx, hb, hml, hown, hts⟩
  have hB38 : ∀ (Sb : PS) (H1 : Heap) (lo1 : List Loc) (s0 : Int64) (ls : Array Slot), lv_has ls 2 [] → Hw D cy (AA cy S n) s.heap Sb n H1 lo1 → EX S Sb → f_X5_joined_B38 Sb s0 = some res → W p l e (headSpec wsX5_joined ({ frames := 6, cells := 0, slots := 0, locals := 137 } : Room)).room s m ([.ref y0, .int y1] : List Value).toArray below meth c H1 lo1 0 0 (MQ below (va_Ql (fun (r : Int64) (u : PS × Nat) => r = res.1 ∧ u = (res.2, n)) (BW D cy S n) (AA cy S n)) ([.ref y0, .int y1] : List Value).toArray s 0 0 (AA cy S n)) (F0 m 38 ls [.long s0]) := by
    intro Sb H1 lo1 s0 ls hl hw hE hf
    unfold f_X5_joined_B38 at hf
    exact W.lret (v := s0) hx hb hr (fun t ht hW => ⟨⟨_, (Sb, n), rfl, po2 hf, BW.of hw hE ht⟩, hw.2.2.1.F ht⟩) hw.2.2.1.2.2 dX5_joined_38
  have hB15 : ∀ (Sb : PS) (H1 : Heap) (lo1 : List Loc) (x0 : Nat) (x1 : Int32) (s0 : Nat) (s1 : Int32) (ls : Array Slot), lv_has ls 2 [(0, .ref x0), (1, .int x1)] → Hw D cy (AA cy S n) s.heap Sb n H1 lo1 → EX S Sb → vd Sb x0 5 → vd Sb s0 5 → f_X5_joined_B15 Sb x0 x1 s0 s1 = some res → W p l e (headSpec wsX5_joined ({ frames := 6, cells := 0, slots := 0, locals := 137 } : Room)).room s m ([.ref y0, .int y1] : List Value).toArray below meth c H1 lo1 0 0 (MQ below (va_Ql (fun (r : Int64) (u : PS × Nat) => r = res.1 ∧ u = (res.2, n)) (BW D cy S n) (AA cy S n)) ([.ref y0, .int y1] : List Value).toArray s 0 0 (AA cy S n)) (F0 m 15 ls [.int s1, .ref s0]) := by
    intro Sb H1 lo1 x0 x1 s0 s1 ls hl hw hE v_x0 v_s0 hf
    unfold f_X5_joined_B15 at hf
    refine q_put F hK hw v_s0.1 (pF_5 (S := Sb) v_s0.2) (fun w h => List.mem_cons_of_mem _ (List.mem_append_right _ h)) tyX5 tyX5_ok nmX5 rfl 0 (by decide) (hts (.fieldLink RX5 22 "SharedModuliModel" "thrown" "I") (List.mem_of_getElem? (i := 1) rfl)) (Or.inl rfl) (tyX5_ok 0 (by decide)) rfl rfl (Nat.le_of_ble_eq_true rfl) (S1 := sI Sb 80 s0 s1) (st_80 (S := Sb) v_s0.2 s1) dX5_joined_15 (fun H locs hw => ?_)
    refine lv_aload_n hx hb dX5_joined_18 rfl (lv_at hl 0 rfl) ?_
    refine q_get F hK hw.1 v_x0.1 (pF_5 (S := sI Sb 80 s0 s1) v_x0.2) (fun w h => List.mem_cons_of_mem _ (List.mem_append_right _ h)) rfl 0 (by decide) (hts (.fieldLink RX5 22 "SharedModuliModel" "thrown" "I") (List.mem_of_getElem? (i := 1) rfl)) (v := .int (fI (sI Sb 80 s0 s1) 80 x0)) rfl dX5_joined_19 ?_
    refine lv_if_le (tgt := 29) hx hb dX5_joined_22 (by decide) (fun c11 => ?_) (fun c11 => ?_)
    · have hf := it_t c11 hf
      refine lv_aload_n hx hb dX5_joined_29 rfl (lv_at hl 0 rfl) ?_
      refine lv_aload_n hx hb dX5_joined_30 rfl (lv_at hl 0 rfl) ?_
      obtain ⟨t12, h13, hf⟩ := bd_some hf
      refine vp_callSi (va_runV (As := []) (rest := [.ref x0]) F (c_X5_onSet l D cy (H := _) hw.1 v_x0 h13) (cwV 0 hts gX5_joined_X5_onSet rfl rfl rfl ⟨rfl, ph_X5_onSet.1, ph_X5_onSet.2, pd_X5_onSet⟩ ⟨Nat.le_of_ble_eq_true rfl, Nat.le_of_ble_eq_true rfl⟩) ⟨PcR.bl, (q_rcv hK hw.1 v_x0.1 (pF_5 (S := sI Sb 80 s0 s1) v_x0.2) rfl), PcR.in hK⟩ rfl rfl hl.1 rfl (lv_room (Nat.le_of_ble_eq_true rfl)) dX5_joined_31 ⟨Nat.zero_le _, Nat.zero_le _⟩).run (fun r14 er14 => ?_)
      subst r14
      refine lv_iload_n hx hb dX5_joined_34 rfl (lv_at hl 1 rfl) ?_
      obtain ⟨t15, h16, hf⟩ := bd_some hf
      refine q_calll (va_runV (As := [.int t12, .int x1]) (rest := []) F (c_X5_joinedBy l D cy (S := sI Sb 80 s0 s1) v_x0 h16) (cwV 2 hts gX5_joined_X5_joinedBy rfl rfl rfl ⟨rfl, ph_X5_joinedBy.1, ph_X5_joinedBy.2, pd_X5_joinedBy⟩ ⟨Nat.le_of_ble_eq_true rfl, Nat.le_of_ble_eq_true rfl⟩) ⟨PcW.bl, (q_rcv hK hw.1 v_x0.1 (pF_5 (S := sI Sb 80 s0 s1) v_x0.2) rfl), PcW.in hK hw hA (fun z => z.elim)⟩ rfl rfl hl.1 rfl (lv_room (Nat.le_of_ble_eq_true rfl)) dX5_joined_35 ⟨Nat.zero_le _, Nat.zero_le _⟩) hw hA (fun H locs hw hX => ?_)
      have hE := hE.tr hX
      have v_x0 := hX _ _ v_x0
      have v_s0 := hX _ _ v_s0
      exact hB38 t15.2 _ _ t15.1 _ (lv_sub hl [] rfl) hw hE  hf
    · have hf := it_f c11 hf
      refine lv_lconst (v := 0) hx hb dX5_joined_25 (by decide) ?_
      refine lv_goto (tgt := 38) hx hb dX5_joined_26 (by decide) ?_
      exact hB38 (sI Sb 80 s0 s1) _ _ 0 _ (lv_sub hl [] rfl) hw hE  hf
  have hl := lv_entry ([.ref y0, .int y1]) (n := 2) (Nat.le_of_ble_eq_true rfl)
  rw [lg_entry_eq]
  generalize (lg_sl ([.ref y0, .int y1]) ++ List.replicate (2 - (lg_sl ([.ref y0, .int y1])).length) Slot.unset).toArray = ls at hl ⊢
  have hl : lv_has ls 2 [(0, .ref y0), (1, .int y1)] := hl
  unfold f_X5_joined at hf
  refine lv_aload_n hx hb dX5_joined_0 rfl (lv_at hl 0 rfl) ?_
  refine lv_iload_n hx hb dX5_joined_1 rfl (lv_at hl 1 rfl) ?_
  refine lv_iconst (v := 0) hx hb dX5_joined_2 (by decide) ?_
  refine lv_iconst (v := 1) hx hb dX5_joined_3 (by decide) ?_
  obtain ⟨t17, h18, hf⟩ := bd_some hf
  refine vp_callSi (va_runS (As := [.int y1, .int 0, .int 1]) (rest := [.ref y0]) F (c_X5_in l D cy (H := _)  h18) (va_cwS 3 hts gX5_joined_X5_in rfl rfl rfl ⟨ph_X5_in.1, ph_X5_in.2, pd_X5_in⟩ ⟨Nat.le_of_ble_eq_true rfl, Nat.le_of_ble_eq_true rfl⟩) ⟨PcR.bl, PcR.in hK⟩ rfl rfl hl.1 rfl (lv_room (Nat.le_of_ble_eq_true rfl)) dX5_joined_4 ⟨Nat.zero_le _, Nat.zero_le _⟩).run (fun r19 er19 => ?_)
  subst r19
  refine lv_if_eq (tgt := 14) hx hb dX5_joined_7 (by decide) (fun c20 => ?_) (fun c20 => ?_)
  · have hf := it_t c20 hf
    refine lv_iconst (v := 1) hx hb dX5_joined_14 (by decide) ?_
    exact hB15 S _ _ y0 y1 y0 1 _ (lv_sub hl [0, 1] rfl) hw hE v_y0 v_y0 hf
  · have hf := it_f c20 hf
    refine lv_iconst (v := 0) hx hb dX5_joined_10 (by decide) ?_
    refine lv_goto (tgt := 15) hx hb dX5_joined_11 (by decide) ?_
    exact hB15 S _ _ y0 y1 y0 0 _ (lv_sub hl [0, 1] rfl) hw hE v_y0 v_y0 hf
def f_X5_voids_B36 (S : PS) (x1 : Int32) : Option Int32 :=
  some x1
def f_X5_voids_B28 (S : PS) (kL4 : Nat → Int32 → Int32 → Option Int32) (ke36 : Int32 → Option Int32) (x0 : Nat) (x2 : Int32) (s0 : Int32) (s1 : Int32) : Option Int32 :=
  kL4 x0 (s0 + s1) (x2 + 1)
def f_X5_voids_L4s (S : PS) (kL4 : Nat → Int32 → Int32 → Option Int32) (ke36 : Int32 → Option Int32) (x0 : Nat) (x1 : Int32) (x2 : Int32) : Option Int32 :=
  rq (fR S 81 x0) S 6 fun b1 =>
  ck (decide (¬ ((0 : Int32) < 0 ∨ aN S b1 ≤ (0 : Int32).toNatClampNeg))) (
  if (aI S b1 (0 : Int32).toNatClampNeg) ≤ x2 then (ke36 x1) else
  bd (f_X5_isVoid S x0 x2) fun t5 =>
  if t5 = 0 then (f_X5_voids_B28 S kL4 ke36 x0 x2 x1 0) else
  f_X5_voids_B28 S kL4 ke36 x0 x2 x1 1)
def f_X5_voids_L4 (S : PS) (ke36 : Int32 → Option Int32) (fu : Nat) : Nat → Int32 → Int32 → Option Int32 := fx (fun kL => f_X5_voids_L4s S kL ke36) (fun _ _ _ => none) fu
def f_X5_voids (S : PS) (x0 : Nat) : Option Int32 :=
  f_X5_voids_L4 S (f_X5_voids_B36 S) FU x0 0 0
set_option maxHeartbeats 4000000 in
set_option maxRecDepth 100000 in
theorem c_X5_voids (l : Launch) (D : va_G) (cy : cyT) {H : Heap} {S : PS} (hP : va_P D vwCl (wl cy S) H) {y0 : Nat} (v_y0 : vd S y0 5) {res : Int32} (hf : f_X5_voids S y0 = some res) : Met l yX5_voids wsX5_voids ({ frames := 2, cells := 0, slots := 0, locals := 45 } : Room) (PcR D cy H [.ref y0]) (vp_Si (fun r => r = res)) 0 0 (fun _ => False) := by
  refine Met.ofW (cc := cX5_voids) (maxL := 3) (ret := (some .int)) (by decide) rfl ?_
  intro p e s m args below meth c s₁ B hml hv
  obtain ⟨hav, hH, hK⟩ := hv
  have hx := B.exec
  have hb := B.bytes
  have hr := B.returns
  have hts := atoms_spec (ws := wsX5_voids) B.pre
  have hown : s.vm.findClass RX5 = some m.cls := findClass_of_methodNamed B.named
  have hlocks := B.notSynchronized
  subst hav
  subst hH
  have F : CallFix p m c cX5_voids 3 s _ wsX5_voids RX5 := ⟨hx, hb, hml, hown, hts⟩
  have hB36 : ∀ (x1 : Int32) (ls : Array Slot), lv_has ls 3 [(1, .int x1)] → f_X5_voids_B36 S x1 = some res → W p l e (headSpec wsX5_voids ({ frames := 2, cells := 0, slots := 0, locals := 45 } : Room)).room s m ([.ref y0] : List Value).toArray below meth c s.heap [] 0 0 (MQ below (vp_Si (fun r => r = res)) ([.ref y0] : List Value).toArray s 0 0 (fun _ => False)) (F0 m 36 ls []) := by
    intro x1 ls hl hf
    unfold f_X5_voids_B36 at hf
    refine lv_iload_n hx hb dX5_voids_36 rfl (lv_at hl 0 rfl) ?_
    exact W.iret (v := x1) hx hb hr (fun t ht hW => ⟨_, rfl, Option.some.inj hf, ht⟩) (fun _ h => by cases h) dX5_voids_37
  have hL4 : ∀ (fu4 : Nat), ∀ (x0 : Nat) (x1 : Int32) (x2 : Int32) (ls : Array Slot), lv_has ls 3 [(0, .ref x0), (1, .int x1), (2, .int x2)] → vd S x0 5 → f_X5_voids_L4 S (f_X5_voids_B36 S) fu4 x0 x1 x2 = some res → W p l e (headSpec wsX5_voids ({ frames := 2, cells := 0, slots := 0, locals := 45 } : Room)).room s m ([.ref y0] : List Value).toArray below meth c s.heap [] 0 0 (MQ below (vp_Si (fun r => r = res)) ([.ref y0] : List Value).toArray s 0 0 (fun _ => False)) (F0 m 4 ls []) := by
    intro fu4
    induction fu4 with
    | zero =>
      intro x0 x1 x2 ls hl v_x0 hf
      have hf : (none : Option Int32) = some res := hf
      cases hf
    | succ fu4 ih4 =>
      have hB28 : ∀ (x0 : Nat) (x2 : Int32) (s0 : Int32) (s1 : Int32) (ls : Array Slot), lv_has ls 3 [(0, .ref x0), (2, .int x2)] → vd S x0 5 → f_X5_voids_B28 S (f_X5_voids_L4 S (f_X5_voids_B36 S) fu4) (f_X5_voids_B36 S) x0 x2 s0 s1 = some res → W p l e (headSpec wsX5_voids ({ frames := 2, cells := 0, slots := 0, locals := 45 } : Room)).room s m ([.ref y0] : List Value).toArray below meth c s.heap [] 0 0 (MQ below (vp_Si (fun r => r = res)) ([.ref y0] : List Value).toArray s 0 0 (fun _ => False)) (F0 m 28 ls [.int s1, .int s0]) := by
        intro x0 x2 s0 s1 ls hl v_x0 hf
        unfold f_X5_voids_B28 at hf
        refine lv_iadd hx hb dX5_voids_28 ?_
        refine lv_istore_n (lv' := [(1, .int (s0 + s1)), (0, .ref x0), (2, .int x2)]) hx hb dX5_voids_29 rfl hl (by decide) rfl (fun ls hl => ?_)
        refine lv_iinc (v := x2 + 1) (lv' := [(2, .int (x2 + 1)), (1, .int (s0 + s1)), (0, .ref x0)]) hx hb dX5_voids_30 hl (k := 2) rfl (by rfl) (by decide) rfl (fun ls hl => ?_)
        refine lv_goto (tgt := 4) hx hb dX5_voids_33 (by decide) ?_
        exact ih4 x0 (s0 + s1) (x2 + 1) _ (lv_sub hl [2, 1, 0] rfl) v_x0 hf
      intro x0 x1 x2 ls hl v_x0 hf
      have hf : f_X5_voids_L4s S (f_X5_voids_L4 S (f_X5_voids_B36 S) fu4) (f_X5_voids_B36 S) x0 x1 x2 = some res := hf
      unfold f_X5_voids_L4s at hf
      refine lv_iload_n hx hb dX5_voids_4 rfl (lv_at hl 2 rfl) ?_
      refine lv_aload_n hx hb dX5_voids_5 rfl (lv_at hl 0 rfl) ?_
      obtain ⟨b9, e10, v_b9, hf⟩ := rq_some hf
      refine q_get F hK hP v_x0.1 (pF_5 (S := S) v_x0.2) (fun w h => List.mem_cons_of_mem _ (List.mem_append_right _ h)) rfl 1 (by decide) (hts (.fieldLink RX5 7 "SharedModuliModel" "z" "[I") (List.mem_of_getElem? (i := 1) rfl)) (v := .ref b9) (congrArg (fun z => some (va_rf z)) e10) dX5_voids_6 ?_
      refine lv_iconst (v := 0) hx hb dX5_voids_9 (by decide) ?_
      obtain ⟨c11, hf⟩ := ckd_some hf
      refine q_iald F hK hP v_b9 c11 dX5_voids_10 ?_
      refine lv_icmp_ge (tgt := 36) hx hb dX5_voids_11 (by decide) (fun c12 => ?_) (fun c12 => ?_)
      · have hf := it_t c12 hf
        exact hB36 x1 _ (lv_sub hl [1] rfl)  hf
      · have hf := it_f c12 hf
        refine lv_iload_n hx hb dX5_voids_14 rfl (lv_at hl 1 rfl) ?_
        refine lv_aload_n hx hb dX5_voids_15 rfl (lv_at hl 0 rfl) ?_
        refine lv_iload_n hx hb dX5_voids_16 rfl (lv_at hl 2 rfl) ?_
        obtain ⟨t13, h14, hf⟩ := bd_some hf
        refine vp_callSi (va_runV (As := [.int x2]) (rest := [.int x1]) F (c_X5_isVoid l D cy (H := _) hP v_x0 h14) (cwV 1 hts gX5_voids_X5_isVoid rfl rfl rfl ⟨rfl, ph_X5_isVoid.1, ph_X5_isVoid.2, pd_X5_isVoid⟩ ⟨Nat.le_of_ble_eq_true rfl, Nat.le_of_ble_eq_true rfl⟩) ⟨PcR.bl, (q_rcv hK hP v_x0.1 (pF_5 (S := S) v_x0.2) rfl), PcR.in hK⟩ rfl rfl hl.1 rfl (lv_room (Nat.le_of_ble_eq_true rfl)) dX5_voids_17 ⟨Nat.zero_le _, Nat.zero_le _⟩).run (fun r15 er15 => ?_)
        subst r15
        refine lv_if_eq (tgt := 27) hx hb dX5_voids_20 (by decide) (fun c16 => ?_) (fun c16 => ?_)
        · have hf := it_t c16 hf
          refine lv_iconst (v := 0) hx hb dX5_voids_27 (by decide) ?_
          exact hB28 x0 x2 x1 0 _ (lv_sub hl [0, 2] rfl) v_x0 hf
        · have hf := it_f c16 hf
          refine lv_iconst (v := 1) hx hb dX5_voids_23 (by decide) ?_
          refine lv_goto (tgt := 28) hx hb dX5_voids_24 (by decide) ?_
          exact hB28 x0 x2 x1 1 _ (lv_sub hl [0, 2] rfl) v_x0 hf
  have hl := lv_entry ([.ref y0]) (n := 3) (Nat.le_of_ble_eq_true rfl)
  rw [lg_entry_eq]
  generalize (lg_sl ([.ref y0]) ++ List.replicate (3 - (lg_sl ([.ref y0])).length) Slot.unset).toArray = ls at hl ⊢
  have hl : lv_has ls 3 [(0, .ref y0)] := hl
  unfold f_X5_voids at hf
  refine lv_iconst (v := 0) hx hb dX5_voids_0 (by decide) ?_
  refine lv_istore_n (lv' := [(1, .int 0), (0, .ref y0)]) hx hb dX5_voids_1 rfl hl (by decide) rfl (fun ls hl => ?_)
  refine lv_iconst (v := 0) hx hb dX5_voids_2 (by decide) ?_
  refine lv_istore_n (lv' := [(2, .int 0), (1, .int 0), (0, .ref y0)]) hx hb dX5_voids_3 rfl hl (by decide) rfl (fun ls hl => ?_)
  exact hL4 FU y0 0 0 _ (lv_sub hl [2, 1, 0] rfl) v_y0 hf
def f_X5_quarrels_B40 (S : PS) (x1 : Int32) : Option Int32 :=
  some (x1 / 2)
def f_X5_quarrels_B32 (S : PS) (kL4 : Nat → Int32 → Int32 → Option Int32) (ke40 : Int32 → Option Int32) (x0 : Nat) (x2 : Int32) (s0 : Int32) (s1 : Int32) : Option Int32 :=
  kL4 x0 (s0 + s1) (x2 + 1)
def f_X5_quarrels_L4s (S : PS) (kL4 : Nat → Int32 → Int32 → Option Int32) (ke40 : Int32 → Option Int32) (x0 : Nat) (x1 : Int32) (x2 : Int32) : Option Int32 :=
  rq (fR S 81 x0) S 6 fun b1 =>
  ck (decide (¬ ((0 : Int32) < 0 ∨ aN S b1 ≤ (0 : Int32).toNatClampNeg))) (
  if (aI S b1 (0 : Int32).toNatClampNeg) ≤ x2 then (ke40 x1) else
  bd (f_X5_isOn S x0 x2) fun t5 =>
  if t5 = 0 then (f_X5_quarrels_B32 S kL4 ke40 x0 x2 x1 0) else
  bd (f_X5_against S x0 x2) fun t9 =>
  f_X5_quarrels_B32 S kL4 ke40 x0 x2 x1 t9)
def f_X5_quarrels_L4 (S : PS) (ke40 : Int32 → Option Int32) (fu : Nat) : Nat → Int32 → Int32 → Option Int32 := fx (fun kL => f_X5_quarrels_L4s S kL ke40) (fun _ _ _ => none) fu
def f_X5_quarrels (S : PS) (x0 : Nat) : Option Int32 :=
  f_X5_quarrels_L4 S (f_X5_quarrels_B40 S) FU x0 0 0
set_option maxHeartbeats 4000000 in
set_option maxRecDepth 100000 in
theorem c_X5_quarrels (l : Launch) (D : va_G) (cy : cyT) {H : Heap} {S : PS} (hP : va_P D vwCl (wl cy S) H) {y0 : Nat} (v_y0 : vd S y0 5) {res : Int32} (hf : f_X5_quarrels S y0 = some res) : Met l yX5_quarrels wsX5_quarrels ({ frames := 4, cells := 0, slots := 0, locals := 91 } : Room) (PcR D cy H [.ref y0]) (vp_Si (fun r => r = res)) 0 0 (fun _ => False) := by
  refine Met.ofW (cc := cX5_quarrels) (maxL := 3) (ret := (some .int)) (by decide) rfl ?_
  intro p e s m args below meth c s₁ B hml hv
  obtain ⟨hav, hH, hK⟩ := hv
  have hx := B.exec
  have hb := B.bytes
  have hr := B.returns
  have hts := atoms_spec (ws := wsX5_quarrels) B.pre
  have hown : s.vm.findClass RX5 = some m.cls := findClass_of_methodNamed B.named
  have hlocks := B.notSynchronized
  subst hav
  subst hH
  have F : CallFix p m c cX5_quarrels 3 s _ wsX5_quarrels RX5 := ⟨hx, hb, hml, hown, hts⟩
  have hB40 : ∀ (x1 : Int32) (ls : Array Slot), lv_has ls 3 [(1, .int x1)] → f_X5_quarrels_B40 S x1 = some res → W p l e (headSpec wsX5_quarrels ({ frames := 4, cells := 0, slots := 0, locals := 91 } : Room)).room s m ([.ref y0] : List Value).toArray below meth c s.heap [] 0 0 (MQ below (vp_Si (fun r => r = res)) ([.ref y0] : List Value).toArray s 0 0 (fun _ => False)) (F0 m 40 ls []) := by
    intro x1 ls hl hf
    unfold f_X5_quarrels_B40 at hf
    refine lv_iload_n hx hb dX5_quarrels_40 rfl (lv_at hl 0 rfl) ?_
    refine lv_iconst (v := 2) hx hb dX5_quarrels_41 (by decide) ?_
    refine lv_idiv hx hb dX5_quarrels_42 (by decide) ?_
    exact W.iret (v := (x1 / 2)) hx hb hr (fun t ht hW => ⟨_, rfl, Option.some.inj hf, ht⟩) (fun _ h => by cases h) dX5_quarrels_43
  have hL4 : ∀ (fu4 : Nat), ∀ (x0 : Nat) (x1 : Int32) (x2 : Int32) (ls : Array Slot), lv_has ls 3 [(0, .ref x0), (1, .int x1), (2, .int x2)] → vd S x0 5 → f_X5_quarrels_L4 S (f_X5_quarrels_B40 S) fu4 x0 x1 x2 = some res → W p l e (headSpec wsX5_quarrels ({ frames := 4, cells := 0, slots := 0, locals := 91 } : Room)).room s m ([.ref y0] : List Value).toArray below meth c s.heap [] 0 0 (MQ below (vp_Si (fun r => r = res)) ([.ref y0] : List Value).toArray s 0 0 (fun _ => False)) (F0 m 4 ls []) := by
    intro fu4
    induction fu4 with
    | zero =>
      intro x0 x1 x2 ls hl v_x0 hf
      have hf : (none : Option Int32) = some res := hf
      cases hf
    | succ fu4 ih4 =>
      have hB32 : ∀ (x0 : Nat) (x2 : Int32) (s0 : Int32) (s1 : Int32) (ls : Array Slot), lv_has ls 3 [(0, .ref x0), (2, .int x2)] → vd S x0 5 → f_X5_quarrels_B32 S (f_X5_quarrels_L4 S (f_X5_quarrels_B40 S) fu4) (f_X5_quarrels_B40 S) x0 x2 s0 s1 = some res → W p l e (headSpec wsX5_quarrels ({ frames := 4, cells := 0, slots := 0, locals := 91 } : Room)).room s m ([.ref y0] : List Value).toArray below meth c s.heap [] 0 0 (MQ below (vp_Si (fun r => r = res)) ([.ref y0] : List Value).toArray s 0 0 (fun _ => False)) (F0 m 32 ls [.int s1, .int s0]) := by
        intro x0 x2 s0 s1 ls hl v_x0 hf
        unfold f_X5_quarrels_B32 at hf
        refine lv_iadd hx hb dX5_quarrels_32 ?_
        refine lv_istore_n (lv' := [(1, .int (s0 + s1)), (0, .ref x0), (2, .int x2)]) hx hb dX5_quarrels_33 rfl hl (by decide) rfl (fun ls hl => ?_)
        refine lv_iinc (v := x2 + 1) (lv' := [(2, .int (x2 + 1)), (1, .int (s0 + s1)), (0, .ref x0)]) hx hb dX5_quarrels_34 hl (k := 2) rfl (by rfl) (by decide) rfl (fun ls hl => ?_)
        refine lv_goto (tgt := 4) hx hb dX5_quarrels_37 (by decide) ?_
        exact ih4 x0 (s0 + s1) (x2 + 1) _ (lv_sub hl [2, 1, 0] rfl) v_x0 hf
      intro x0 x1 x2 ls hl v_x0 hf
      have hf : f_X5_quarrels_L4s S (f_X5_quarrels_L4 S (f_X5_quarrels_B40 S) fu4) (f_X5_quarrels_B40 S) x0 x1 x2 = some res := hf
      unfold f_X5_quarrels_L4s at hf
      refine lv_iload_n hx hb dX5_quarrels_4 rfl (lv_at hl 2 rfl) ?_
      refine lv_aload_n hx hb dX5_quarrels_5 rfl (lv_at hl 0 rfl) ?_
      obtain ⟨b12, e13, v_b12, hf⟩ := rq_some hf
      refine q_get F hK hP v_x0.1 (pF_5 (S := S) v_x0.2) (fun w h => List.mem_cons_of_mem _ (List.mem_append_right _ h)) rfl 1 (by decide) (hts (.fieldLink RX5 7 "SharedModuliModel" "z" "[I") (List.mem_of_getElem? (i := 1) rfl)) (v := .ref b12) (congrArg (fun z => some (va_rf z)) e13) dX5_quarrels_6 ?_
      refine lv_iconst (v := 0) hx hb dX5_quarrels_9 (by decide) ?_
      obtain ⟨c14, hf⟩ := ckd_some hf
      refine q_iald F hK hP v_b12 c14 dX5_quarrels_10 ?_
      refine lv_icmp_ge (tgt := 40) hx hb dX5_quarrels_11 (by decide) (fun c15 => ?_) (fun c15 => ?_)
      · have hf := it_t c15 hf
        exact hB40 x1 _ (lv_sub hl [1] rfl)  hf
      · have hf := it_f c15 hf
        refine lv_iload_n hx hb dX5_quarrels_14 rfl (lv_at hl 1 rfl) ?_
        refine lv_aload_n hx hb dX5_quarrels_15 rfl (lv_at hl 0 rfl) ?_
        refine lv_iload_n hx hb dX5_quarrels_16 rfl (lv_at hl 2 rfl) ?_
        obtain ⟨t16, h17, hf⟩ := bd_some hf
        refine vp_callSi (va_runV (As := [.int x2]) (rest := [.int x1]) F (c_X5_isOn l D cy (H := _) hP v_x0 h17) (cwV 1 hts gX5_quarrels_X5_isOn rfl rfl rfl ⟨rfl, ph_X5_isOn.1, ph_X5_isOn.2, pd_X5_isOn⟩ ⟨Nat.le_of_ble_eq_true rfl, Nat.le_of_ble_eq_true rfl⟩) ⟨PcR.bl, (q_rcv hK hP v_x0.1 (pF_5 (S := S) v_x0.2) rfl), PcR.in hK⟩ rfl rfl hl.1 rfl (lv_room (Nat.le_of_ble_eq_true rfl)) dX5_quarrels_17 ⟨Nat.zero_le _, Nat.zero_le _⟩).run (fun r18 er18 => ?_)
        subst r18
        refine lv_if_eq (tgt := 31) hx hb dX5_quarrels_20 (by decide) (fun c19 => ?_) (fun c19 => ?_)
        · have hf := it_t c19 hf
          refine lv_iconst (v := 0) hx hb dX5_quarrels_31 (by decide) ?_
          exact hB32 x0 x2 x1 0 _ (lv_sub hl [0, 2] rfl) v_x0 hf
        · have hf := it_f c19 hf
          refine lv_aload_n hx hb dX5_quarrels_23 rfl (lv_at hl 0 rfl) ?_
          refine lv_iload_n hx hb dX5_quarrels_24 rfl (lv_at hl 2 rfl) ?_
          obtain ⟨t20, h21, hf⟩ := bd_some hf
          refine vp_callSi (va_runV (As := [.int x2]) (rest := [.int x1]) F (c_X5_against l D cy (H := _) hP v_x0 h21) (cwV 1 hts gX5_quarrels_X5_against rfl rfl rfl ⟨rfl, ph_X5_against.1, ph_X5_against.2, pd_X5_against⟩ ⟨Nat.le_of_ble_eq_true rfl, Nat.le_of_ble_eq_true rfl⟩) ⟨PcR.bl, (q_rcv hK hP v_x0.1 (pF_5 (S := S) v_x0.2) rfl), PcR.in hK⟩ rfl rfl hl.1 rfl (lv_room (Nat.le_of_ble_eq_true rfl)) dX5_quarrels_25 ⟨Nat.zero_le _, Nat.zero_le _⟩).run (fun r22 er22 => ?_)
          subst r22
          refine lv_goto (tgt := 32) hx hb dX5_quarrels_28 (by decide) ?_
          exact hB32 x0 x2 x1 t20 _ (lv_sub hl [0, 2] rfl) v_x0 hf
  have hl := lv_entry ([.ref y0]) (n := 3) (Nat.le_of_ble_eq_true rfl)
  rw [lg_entry_eq]
  generalize (lg_sl ([.ref y0]) ++ List.replicate (3 - (lg_sl ([.ref y0])).length) Slot.unset).toArray = ls at hl ⊢
  have hl : lv_has ls 3 [(0, .ref y0)] := hl
  unfold f_X5_quarrels at hf
  refine lv_iconst (v := 0) hx hb dX5_quarrels_0 (by decide) ?_
  refine lv_istore_n (lv' := [(1, .int 0), (0, .ref y0)]) hx hb dX5_quarrels_1 rfl hl (by decide) rfl (fun ls hl => ?_)
  refine lv_iconst (v := 0) hx hb dX5_quarrels_2 (by decide) ?_
  refine lv_istore_n (lv' := [(2, .int 0), (1, .int 0), (0, .ref y0)]) hx hb dX5_quarrels_3 rfl hl (by decide) rfl (fun ls hl => ?_)
  exact hL4 FU y0 0 0 _ (lv_sub hl [2, 1, 0] rfl) v_y0 hf
def f_X5_toldMany_B36 (S : PS) (x1 : Int32) : Option (Int32 × PS) :=
  some (x1, S)
def f_X5_toldMany_B28 (kL4 : PS → Nat → Int32 → Int32 → Option (Int32 × PS)) (ke36 : PS → Int32 → Option (Int32 × PS)) (S : PS) (x0 : Nat) (x2 : Int32) (s0 : Int32) (s1 : Int32) : Option (Int32 × PS) :=
  kL4 S x0 (s0 + s1) (x2 + 1)
def f_X5_toldMany_L4s (kL4 : PS → Nat → Int32 → Int32 → Option (Int32 × PS)) (ke36 : PS → Int32 → Option (Int32 × PS)) (S : PS) (x0 : Nat) (x1 : Int32) (x2 : Int32) : Option (Int32 × PS) :=
  rq (fR S 81 x0) S 6 fun b1 =>
  ck (decide (¬ ((0 : Int32) < 0 ∨ aN S b1 ≤ (0 : Int32).toNatClampNeg))) (
  if (aI S b1 (0 : Int32).toNatClampNeg) ≤ x2 then (ke36 S x1) else
  bd (f_X5_isTold S x0 x2) fun t5 =>
  if t5.1 = 0 then (f_X5_toldMany_B28 kL4 ke36 t5.2 x0 x2 x1 0) else
  f_X5_toldMany_B28 kL4 ke36 t5.2 x0 x2 x1 1)
def f_X5_toldMany_L4 (ke36 : PS → Int32 → Option (Int32 × PS)) (fu : Nat) : PS → Nat → Int32 → Int32 → Option (Int32 × PS) := fx (fun kL => f_X5_toldMany_L4s kL ke36) (fun _ _ _ _ => none) fu
def f_X5_toldMany (S : PS) (x0 : Nat) : Option (Int32 × PS) :=
  f_X5_toldMany_L4 f_X5_toldMany_B36 FU S x0 0 0
set_option maxHeartbeats 4000000 in
set_option maxRecDepth 100000 in
theorem c_X5_toldMany (l : Launch) (D : va_G) (cy : cyT) {S : PS} {n : Nat} {y0 : Nat} (v_y0 : vd S y0 5) {res : Int32 × PS} (hf : f_X5_toldMany S y0 = some res) : Met l yX5_toldMany wsX5_toldMany ({ frames := 7, cells := 0, slots := 0, locals := 158 } : Room) (PcW False D cy S n [.ref y0]) (va_Qi (fun (r : Int32) (u : PS × Nat) => r = res.1 ∧ u = (res.2, n)) (BW D cy S n) (AA cy S n)) 0 0 (AA cy S n) := by
  refine Met.ofW (cc := cX5_toldMany) (maxL := 3) (ret := (some .int)) (by decide) rfl ?_
  intro p e s m args below meth c s₁ B hml hv
  obtain ⟨hav, hsz, hP0, hD0, hK, hZ0⟩ := hv
  have hx := B.exec
  have hb := B.bytes
  have hr := B.returns
  have hts := atoms_spec (ws := wsX5_toldMany) B.pre
  have hown : s.vm.findClass RX5 = some m.cls := findClass_of_methodNamed B.named
  have hlocks := B.notSynchronized
  subst hav
  have hw : Hw D cy (AA cy S n) s.heap S n s.heap [] := Hw.start hsz hP0 hD0
  have hA : ∀ q, s.heap.size ≤ q → AA cy S n q := fun q h => Or.inr (hsz ▸ h)
  have hE : EX S S := EX.rf
  have F : CallFix p m c cX5_toldMany 3 s _ wsX5_toldMany RX5 := ⟨hx, hb, hml, hown, hts⟩
  have hB36 : ∀ (Sb : PS) (H1 : Heap) (lo1 : List Loc) (x1 : Int32) (ls : Array Slot), lv_has ls 3 [(1, .int x1)] → Hw D cy (AA cy S n) s.heap Sb n H1 lo1 → EX S Sb → f_X5_toldMany_B36 Sb x1 = some res → W p l e (headSpec wsX5_toldMany ({ frames := 7, cells := 0, slots := 0, locals := 158 } : Room)).room s m ([.ref y0] : List Value).toArray below meth c H1 lo1 0 0 (MQ below (va_Qi (fun (r : Int32) (u : PS × Nat) => r = res.1 ∧ u = (res.2, n)) (BW D cy S n) (AA cy S n)) ([.ref y0] : List Value).toArray s 0 0 (AA cy S n)) (F0 m 36 ls []) := by
    intro Sb H1 lo1 x1 ls hl hw hE hf
    unfold f_X5_toldMany_B36 at hf
    refine lv_iload_n hx hb dX5_toldMany_36 rfl (lv_at hl 0 rfl) ?_
    exact W.iret (v := x1) hx hb hr (fun t ht hW => ⟨⟨_, (Sb, n), rfl, po2 hf, BW.of hw hE ht⟩, hw.2.2.1.F ht⟩) hw.2.2.1.2.2 dX5_toldMany_37
  have hL4 : ∀ (fu4 : Nat), ∀ (Sb : PS) (H1 : Heap) (lo1 : List Loc) (x0 : Nat) (x1 : Int32) (x2 : Int32) (ls : Array Slot), lv_has ls 3 [(0, .ref x0), (1, .int x1), (2, .int x2)] → Hw D cy (AA cy S n) s.heap Sb n H1 lo1 → EX S Sb → vd Sb x0 5 → f_X5_toldMany_L4 f_X5_toldMany_B36 fu4 Sb x0 x1 x2 = some res → W p l e (headSpec wsX5_toldMany ({ frames := 7, cells := 0, slots := 0, locals := 158 } : Room)).room s m ([.ref y0] : List Value).toArray below meth c H1 lo1 0 0 (MQ below (va_Qi (fun (r : Int32) (u : PS × Nat) => r = res.1 ∧ u = (res.2, n)) (BW D cy S n) (AA cy S n)) ([.ref y0] : List Value).toArray s 0 0 (AA cy S n)) (F0 m 4 ls []) := by
    intro fu4
    induction fu4 with
    | zero =>
      intro Sb H1 lo1 x0 x1 x2 ls hl hw hE v_x0 hf
      have hf : (none : Option (Int32 × PS)) = some res := hf
      cases hf
    | succ fu4 ih4 =>
      have hB28 : ∀ (Sb : PS) (H1 : Heap) (lo1 : List Loc) (x0 : Nat) (x2 : Int32) (s0 : Int32) (s1 : Int32) (ls : Array Slot), lv_has ls 3 [(0, .ref x0), (2, .int x2)] → Hw D cy (AA cy S n) s.heap Sb n H1 lo1 → EX S Sb → vd Sb x0 5 → f_X5_toldMany_B28 (f_X5_toldMany_L4 f_X5_toldMany_B36 fu4) f_X5_toldMany_B36 Sb x0 x2 s0 s1 = some res → W p l e (headSpec wsX5_toldMany ({ frames := 7, cells := 0, slots := 0, locals := 158 } : Room)).room s m ([.ref y0] : List Value).toArray below meth c H1 lo1 0 0 (MQ below (va_Qi (fun (r : Int32) (u : PS × Nat) => r = res.1 ∧ u = (res.2, n)) (BW D cy S n) (AA cy S n)) ([.ref y0] : List Value).toArray s 0 0 (AA cy S n)) (F0 m 28 ls [.int s1, .int s0]) := by
        intro Sb H1 lo1 x0 x2 s0 s1 ls hl hw hE v_x0 hf
        unfold f_X5_toldMany_B28 at hf
        refine lv_iadd hx hb dX5_toldMany_28 ?_
        refine lv_istore_n (lv' := [(1, .int (s0 + s1)), (0, .ref x0), (2, .int x2)]) hx hb dX5_toldMany_29 rfl hl (by decide) rfl (fun ls hl => ?_)
        refine lv_iinc (v := x2 + 1) (lv' := [(2, .int (x2 + 1)), (1, .int (s0 + s1)), (0, .ref x0)]) hx hb dX5_toldMany_30 hl (k := 2) rfl (by rfl) (by decide) rfl (fun ls hl => ?_)
        refine lv_goto (tgt := 4) hx hb dX5_toldMany_33 (by decide) ?_
        exact ih4 Sb _ _ x0 (s0 + s1) (x2 + 1) _ (lv_sub hl [2, 1, 0] rfl) hw hE v_x0 hf
      intro Sb H1 lo1 x0 x1 x2 ls hl hw hE v_x0 hf
      have hf : f_X5_toldMany_L4s (f_X5_toldMany_L4 f_X5_toldMany_B36 fu4) f_X5_toldMany_B36 Sb x0 x1 x2 = some res := hf
      unfold f_X5_toldMany_L4s at hf
      refine lv_iload_n hx hb dX5_toldMany_4 rfl (lv_at hl 2 rfl) ?_
      refine lv_aload_n hx hb dX5_toldMany_5 rfl (lv_at hl 0 rfl) ?_
      obtain ⟨b8, e9, v_b8, hf⟩ := rq_some hf
      refine q_get F hK hw.1 v_x0.1 (pF_5 (S := Sb) v_x0.2) (fun w h => List.mem_cons_of_mem _ (List.mem_append_right _ h)) rfl 1 (by decide) (hts (.fieldLink RX5 7 "SharedModuliModel" "z" "[I") (List.mem_of_getElem? (i := 1) rfl)) (v := .ref b8) (congrArg (fun z => some (va_rf z)) e9) dX5_toldMany_6 ?_
      refine lv_iconst (v := 0) hx hb dX5_toldMany_9 (by decide) ?_
      obtain ⟨c10, hf⟩ := ckd_some hf
      refine q_iald F hK hw.1 v_b8 c10 dX5_toldMany_10 ?_
      refine lv_icmp_ge (tgt := 36) hx hb dX5_toldMany_11 (by decide) (fun c11 => ?_) (fun c11 => ?_)
      · have hf := it_t c11 hf
        exact hB36 Sb _ _ x1 _ (lv_sub hl [1] rfl) hw hE  hf
      · have hf := it_f c11 hf
        refine lv_iload_n hx hb dX5_toldMany_14 rfl (lv_at hl 1 rfl) ?_
        refine lv_aload_n hx hb dX5_toldMany_15 rfl (lv_at hl 0 rfl) ?_
        refine lv_iload_n hx hb dX5_toldMany_16 rfl (lv_at hl 2 rfl) ?_
        obtain ⟨t12, h13, hf⟩ := bd_some hf
        refine q_calli (va_runV (As := [.int x2]) (rest := [.int x1]) F (c_X5_isTold l D cy (S := Sb) v_x0 h13) (cwV 1 hts gX5_toldMany_X5_isTold rfl rfl rfl ⟨rfl, ph_X5_isTold.1, ph_X5_isTold.2, pd_X5_isTold⟩ ⟨Nat.le_of_ble_eq_true rfl, Nat.le_of_ble_eq_true rfl⟩) ⟨PcW.bl, (q_rcv hK hw.1 v_x0.1 (pF_5 (S := Sb) v_x0.2) rfl), PcW.in hK hw hA (fun z => z.elim)⟩ rfl rfl hl.1 rfl (lv_room (Nat.le_of_ble_eq_true rfl)) dX5_toldMany_17 ⟨Nat.zero_le _, Nat.zero_le _⟩) hw hA (fun H locs hw hX => ?_)
        have hE := hE.tr hX
        have v_x0 := hX _ _ v_x0
        have v_b8 := hX _ _ v_b8
        refine lv_if_eq (tgt := 27) hx hb dX5_toldMany_20 (by decide) (fun c14 => ?_) (fun c14 => ?_)
        · have hf := it_t c14 hf
          refine lv_iconst (v := 0) hx hb dX5_toldMany_27 (by decide) ?_
          exact hB28 t12.2 _ _ x0 x2 x1 0 _ (lv_sub hl [0, 2] rfl) hw hE v_x0 hf
        · have hf := it_f c14 hf
          refine lv_iconst (v := 1) hx hb dX5_toldMany_23 (by decide) ?_
          refine lv_goto (tgt := 28) hx hb dX5_toldMany_24 (by decide) ?_
          exact hB28 t12.2 _ _ x0 x2 x1 1 _ (lv_sub hl [0, 2] rfl) hw hE v_x0 hf
  have hl := lv_entry ([.ref y0]) (n := 3) (Nat.le_of_ble_eq_true rfl)
  rw [lg_entry_eq]
  generalize (lg_sl ([.ref y0]) ++ List.replicate (3 - (lg_sl ([.ref y0])).length) Slot.unset).toArray = ls at hl ⊢
  have hl : lv_has ls 3 [(0, .ref y0)] := hl
  unfold f_X5_toldMany at hf
  refine lv_iconst (v := 0) hx hb dX5_toldMany_0 (by decide) ?_
  refine lv_istore_n (lv' := [(1, .int 0), (0, .ref y0)]) hx hb dX5_toldMany_1 rfl hl (by decide) rfl (fun ls hl => ?_)
  refine lv_iconst (v := 0) hx hb dX5_toldMany_2 (by decide) ?_
  refine lv_istore_n (lv' := [(2, .int 0), (1, .int 0), (0, .ref y0)]) hx hb dX5_toldMany_3 rfl hl (by decide) rfl (fun ls hl => ?_)
  exact hL4 FU S _ _ y0 0 0 _ (lv_sub hl [2, 1, 0] rfl) hw hE v_y0 hf
def f_X5_counted_B81 (S : PS) (s0 : Int32) : Option (Int32 × PS) :=
  some (s0, S)
def f_X5_counted (S : PS) (x0 : Nat) (x1 : Int32) : Option (Int32 × PS) :=
  if x1 = 0 then (rq (fR S 81 x0) S 6 fun b2 =>
  ck (decide (¬ ((0 : Int32) < 0 ∨ aN S b2 ≤ (0 : Int32).toNatClampNeg))) (
  some ((aI S b2 (0 : Int32).toNatClampNeg), S))) else
  if x1 = 1 then (bd (f_X5_onSet S x0) fun t5 =>
  bd (f_X5_bits t5) fun t8 =>
  some (t8, S)) else
  if x1 = 2 then (bd (f_X5_voids S x0) fun t11 =>
  some (t11, S)) else
  if x1 = 3 then (bd (f_X5_quarrels S x0) fun t14 =>
  some (t14, S)) else
  if x1 = 4 then (bd (f_X5_onSet S x0) fun t17 =>
  bd (f_X5_isPossible S x0 t17) fun t20 =>
  if t20 = 0 then (f_X5_counted_B81 S 0) else
  f_X5_counted_B81 S 1) else
  if x1 = 5 then (bd (f_X5_toldMany S x0) fun t24 =>
  some (t24.1, t24.2)) else
  some ((fI S 83 x0), S)
set_option maxHeartbeats 4000000 in
set_option maxRecDepth 100000 in
theorem c_X5_counted (l : Launch) (D : va_G) (cy : cyT) {S : PS} {n : Nat} {y0 : Nat} {y1 : Int32} (v_y0 : vd S y0 5) {res : Int32 × PS} (hf : f_X5_counted S y0 y1 = some res) : Met l yX5_counted wsX5_counted ({ frames := 8, cells := 0, slots := 0, locals := 180 } : Room) (PcW False D cy S n [.ref y0, .int y1]) (va_Qi (fun (r : Int32) (u : PS × Nat) => r = res.1 ∧ u = (res.2, n)) (BW D cy S n) (AA cy S n)) 0 0 (AA cy S n) := by
  refine Met.ofW (cc := cX5_counted) (maxL := 2) (ret := (some .int)) (by decide) rfl ?_
  intro p e s m args below meth c s₁ B hml hv
  obtain ⟨hav, hsz, hP0, hD0, hK, hZ0⟩ := hv
  have hx := B.exec
  have hb := B.bytes
  have hr := B.returns
  have hts := atoms_spec (ws := wsX5_counted) B.pre
  have hown : s.vm.findClass RX5 = some m.cls := findClass_of_methodNamed B.named
  have hlocks := B.notSynchronized
  subst hav
  have hw : Hw D cy (AA cy S n) s.heap S n s.heap [] := Hw.start hsz hP0 hD0
  have hA : ∀ q, s.heap.size ≤ q → AA cy S n q := fun q h => Or.inr (hsz ▸ h)
  have hE : EX S S := EX.rf
  have F : CallFix p m c cX5_counted 2 s _ wsX5_counted RX5 := ⟨hx, hb, hml, hown, hts⟩
  have hB81 : ∀ (Sb : PS) (H1 : Heap) (lo1 : List Loc) (s0 : Int32) (ls : Array Slot), lv_has ls 2 [] → Hw D cy (AA cy S n) s.heap Sb n H1 lo1 → EX S Sb → f_X5_counted_B81 Sb s0 = some res → W p l e (headSpec wsX5_counted ({ frames := 8, cells := 0, slots := 0, locals := 180 } : Room)).room s m ([.ref y0, .int y1] : List Value).toArray below meth c H1 lo1 0 0 (MQ below (va_Qi (fun (r : Int32) (u : PS × Nat) => r = res.1 ∧ u = (res.2, n)) (BW D cy S n) (AA cy S n)) ([.ref y0, .int y1] : List Value).toArray s 0 0 (AA cy S n)) (F0 m 81 ls [.int s0]) := by
    intro Sb H1 lo1 s0 ls hl hw hE hf
    unfold f_X5_counted_B81 at hf
    exact W.iret (v := s0) hx hb hr (fun t ht hW => ⟨⟨_, (Sb, n), rfl, po2 hf, BW.of hw hE ht⟩, hw.2.2.1.F ht⟩) hw.2.2.1.2.2 dX5_counted_81
  have hl := lv_entry ([.ref y0, .int y1]) (n := 2) (Nat.le_of_ble_eq_true rfl)
  rw [lg_entry_eq]
  generalize (lg_sl ([.ref y0, .int y1]) ++ List.replicate (2 - (lg_sl ([.ref y0, .int y1])).length) Slot.unset).toArray = ls at hl ⊢
  have hl : lv_has ls 2 [(0, .ref y0), (1, .int y1)] := hl
  unfold f_X5_counted at hf
  refine lv_iload_n hx hb dX5_counted_0 rfl (lv_at hl 1 rfl) ?_
  by_cases c26_0 : y1 = 0
  · have hf := it_t c26_0 hf
    refine lv_tableIn (off := 39) (tgt := 40) hx hb dX5_counted_1 (by rw [c26_0]; decide) (by rw [c26_0]; decide) (by rw [c26_0]; rfl) (by decide) ?_
    refine lv_aload_n hx hb dX5_counted_40 rfl (lv_at hl 0 rfl) ?_
    obtain ⟨b27, e28, v_b27, hf⟩ := rq_some hf
    refine q_get F hK hw.1 v_y0.1 (pF_5 (S := S) v_y0.2) (fun w h => List.mem_cons_of_mem _ (List.mem_append_right _ h)) rfl 1 (by decide) (hts (.fieldLink RX5 7 "SharedModuliModel" "z" "[I") (List.mem_of_getElem? (i := 1) rfl)) (v := .ref b27) (congrArg (fun z => some (va_rf z)) e28) dX5_counted_41 ?_
    refine lv_iconst (v := 0) hx hb dX5_counted_44 (by decide) ?_
    obtain ⟨c29, hf⟩ := ckd_some hf
    refine q_iald F hK hw.1 v_b27 c29 dX5_counted_45 ?_
    exact W.iret (v := (aI S b27 (0 : Int32).toNatClampNeg)) hx hb hr (fun t ht hW => ⟨⟨_, (S, n), rfl, po2 hf, BW.of hw hE ht⟩, hw.2.2.1.F ht⟩) hw.2.2.1.2.2 dX5_counted_46
  have hf := it_f c26_0 hf
  by_cases c26_1 : y1 = 1
  · have hf := it_t c26_1 hf
    refine lv_tableIn (off := 46) (tgt := 47) hx hb dX5_counted_1 (by rw [c26_1]; decide) (by rw [c26_1]; decide) (by rw [c26_1]; rfl) (by decide) ?_
    refine lv_aload_n hx hb dX5_counted_47 rfl (lv_at hl 0 rfl) ?_
    obtain ⟨t30, h31, hf⟩ := bd_some hf
    refine vp_callSi (va_runV (As := []) (rest := []) F (c_X5_onSet l D cy (H := _) hw.1 v_y0 h31) (cwV 0 hts gX5_counted_X5_onSet rfl rfl rfl ⟨rfl, ph_X5_onSet.1, ph_X5_onSet.2, pd_X5_onSet⟩ ⟨Nat.le_of_ble_eq_true rfl, Nat.le_of_ble_eq_true rfl⟩) ⟨PcR.bl, (q_rcv hK hw.1 v_y0.1 (pF_5 (S := S) v_y0.2) rfl), PcR.in hK⟩ rfl rfl hl.1 rfl (lv_room (Nat.le_of_ble_eq_true rfl)) dX5_counted_48 ⟨Nat.zero_le _, Nat.zero_le _⟩).run (fun r32 er32 => ?_)
    subst r32
    obtain ⟨t33, h34, hf⟩ := bd_some hf
    refine vp_callSi (va_runS (As := [.int t30]) (rest := []) F (c_X5_bits l D cy (H := _)  h34) (va_cwS 1 hts gX5_counted_X5_bits rfl rfl rfl ⟨ph_X5_bits.1, ph_X5_bits.2, pd_X5_bits⟩ ⟨Nat.le_of_ble_eq_true rfl, Nat.le_of_ble_eq_true rfl⟩) ⟨PcR.bl, PcR.in hK⟩ rfl rfl hl.1 rfl (lv_room (Nat.le_of_ble_eq_true rfl)) dX5_counted_51 ⟨Nat.zero_le _, Nat.zero_le _⟩).run (fun r35 er35 => ?_)
    subst r35
    exact W.iret (v := t33) hx hb hr (fun t ht hW => ⟨⟨_, (S, n), rfl, po2 hf, BW.of hw hE ht⟩, hw.2.2.1.F ht⟩) hw.2.2.1.2.2 dX5_counted_54
  have hf := it_f c26_1 hf
  by_cases c26_2 : y1 = 2
  · have hf := it_t c26_2 hf
    refine lv_tableIn (off := 54) (tgt := 55) hx hb dX5_counted_1 (by rw [c26_2]; decide) (by rw [c26_2]; decide) (by rw [c26_2]; rfl) (by decide) ?_
    refine lv_aload_n hx hb dX5_counted_55 rfl (lv_at hl 0 rfl) ?_
    obtain ⟨t36, h37, hf⟩ := bd_some hf
    refine vp_callSi (va_runV (As := []) (rest := []) F (c_X5_voids l D cy (H := _) hw.1 v_y0 h37) (cwV 0 hts gX5_counted_X5_voids rfl rfl rfl ⟨rfl, ph_X5_voids.1, ph_X5_voids.2, pd_X5_voids⟩ ⟨Nat.le_of_ble_eq_true rfl, Nat.le_of_ble_eq_true rfl⟩) ⟨PcR.bl, (q_rcv hK hw.1 v_y0.1 (pF_5 (S := S) v_y0.2) rfl), PcR.in hK⟩ rfl rfl hl.1 rfl (lv_room (Nat.le_of_ble_eq_true rfl)) dX5_counted_56 ⟨Nat.zero_le _, Nat.zero_le _⟩).run (fun r38 er38 => ?_)
    subst r38
    exact W.iret (v := t36) hx hb hr (fun t ht hW => ⟨⟨_, (S, n), rfl, po2 hf, BW.of hw hE ht⟩, hw.2.2.1.F ht⟩) hw.2.2.1.2.2 dX5_counted_59
  have hf := it_f c26_2 hf
  by_cases c26_3 : y1 = 3
  · have hf := it_t c26_3 hf
    refine lv_tableIn (off := 59) (tgt := 60) hx hb dX5_counted_1 (by rw [c26_3]; decide) (by rw [c26_3]; decide) (by rw [c26_3]; rfl) (by decide) ?_
    refine lv_aload_n hx hb dX5_counted_60 rfl (lv_at hl 0 rfl) ?_
    obtain ⟨t39, h40, hf⟩ := bd_some hf
    refine vp_callSi (va_runV (As := []) (rest := []) F (c_X5_quarrels l D cy (H := _) hw.1 v_y0 h40) (cwV 0 hts gX5_counted_X5_quarrels rfl rfl rfl ⟨rfl, ph_X5_quarrels.1, ph_X5_quarrels.2, pd_X5_quarrels⟩ ⟨Nat.le_of_ble_eq_true rfl, Nat.le_of_ble_eq_true rfl⟩) ⟨PcR.bl, (q_rcv hK hw.1 v_y0.1 (pF_5 (S := S) v_y0.2) rfl), PcR.in hK⟩ rfl rfl hl.1 rfl (lv_room (Nat.le_of_ble_eq_true rfl)) dX5_counted_61 ⟨Nat.zero_le _, Nat.zero_le _⟩).run (fun r41 er41 => ?_)
    subst r41
    exact W.iret (v := t39) hx hb hr (fun t ht hW => ⟨⟨_, (S, n), rfl, po2 hf, BW.of hw hE ht⟩, hw.2.2.1.F ht⟩) hw.2.2.1.2.2 dX5_counted_64
  have hf := it_f c26_3 hf
  by_cases c26_4 : y1 = 4
  · have hf := it_t c26_4 hf
    refine lv_tableIn (off := 64) (tgt := 65) hx hb dX5_counted_1 (by rw [c26_4]; decide) (by rw [c26_4]; decide) (by rw [c26_4]; rfl) (by decide) ?_
    refine lv_aload_n hx hb dX5_counted_65 rfl (lv_at hl 0 rfl) ?_
    refine lv_aload_n hx hb dX5_counted_66 rfl (lv_at hl 0 rfl) ?_
    obtain ⟨t42, h43, hf⟩ := bd_some hf
    refine vp_callSi (va_runV (As := []) (rest := [.ref y0]) F (c_X5_onSet l D cy (H := _) hw.1 v_y0 h43) (cwV 0 hts gX5_counted_X5_onSet rfl rfl rfl ⟨rfl, ph_X5_onSet.1, ph_X5_onSet.2, pd_X5_onSet⟩ ⟨Nat.le_of_ble_eq_true rfl, Nat.le_of_ble_eq_true rfl⟩) ⟨PcR.bl, (q_rcv hK hw.1 v_y0.1 (pF_5 (S := S) v_y0.2) rfl), PcR.in hK⟩ rfl rfl hl.1 rfl (lv_room (Nat.le_of_ble_eq_true rfl)) dX5_counted_67 ⟨Nat.zero_le _, Nat.zero_le _⟩).run (fun r44 er44 => ?_)
    subst r44
    obtain ⟨t45, h46, hf⟩ := bd_some hf
    refine vp_callSi (va_runV (As := [.int t42]) (rest := []) F (c_X5_isPossible l D cy (H := _) hw.1 v_y0 h46) (cwV 1 hts gX5_counted_X5_isPossible rfl rfl rfl ⟨rfl, ph_X5_isPossible.1, ph_X5_isPossible.2, pd_X5_isPossible⟩ ⟨Nat.le_of_ble_eq_true rfl, Nat.le_of_ble_eq_true rfl⟩) ⟨PcR.bl, (q_rcv hK hw.1 v_y0.1 (pF_5 (S := S) v_y0.2) rfl), PcR.in hK⟩ rfl rfl hl.1 rfl (lv_room (Nat.le_of_ble_eq_true rfl)) dX5_counted_70 ⟨Nat.zero_le _, Nat.zero_le _⟩).run (fun r47 er47 => ?_)
    subst r47
    refine lv_if_eq (tgt := 80) hx hb dX5_counted_73 (by decide) (fun c48 => ?_) (fun c48 => ?_)
    · have hf := it_t c48 hf
      refine lv_iconst (v := 0) hx hb dX5_counted_80 (by decide) ?_
      exact hB81 S _ _ 0 _ (lv_sub hl [] rfl) hw hE  hf
    · have hf := it_f c48 hf
      refine lv_iconst (v := 1) hx hb dX5_counted_76 (by decide) ?_
      refine lv_goto (tgt := 81) hx hb dX5_counted_77 (by decide) ?_
      exact hB81 S _ _ 1 _ (lv_sub hl [] rfl) hw hE  hf
  have hf := it_f c26_4 hf
  by_cases c26_5 : y1 = 5
  · have hf := it_t c26_5 hf
    refine lv_tableIn (off := 81) (tgt := 82) hx hb dX5_counted_1 (by rw [c26_5]; decide) (by rw [c26_5]; decide) (by rw [c26_5]; rfl) (by decide) ?_
    refine lv_aload_n hx hb dX5_counted_82 rfl (lv_at hl 0 rfl) ?_
    obtain ⟨t49, h50, hf⟩ := bd_some hf
    refine q_calli (va_runV (As := []) (rest := []) F (c_X5_toldMany l D cy (S := S) v_y0 h50) (cwV 0 hts gX5_counted_X5_toldMany rfl rfl rfl ⟨rfl, ph_X5_toldMany.1, ph_X5_toldMany.2, pd_X5_toldMany⟩ ⟨Nat.le_of_ble_eq_true rfl, Nat.le_of_ble_eq_true rfl⟩) ⟨PcW.bl, (q_rcv hK hw.1 v_y0.1 (pF_5 (S := S) v_y0.2) rfl), PcW.in hK hw hA (fun z => z.elim)⟩ rfl rfl hl.1 rfl (lv_room (Nat.le_of_ble_eq_true rfl)) dX5_counted_83 ⟨Nat.zero_le _, Nat.zero_le _⟩) hw hA (fun H locs hw hX => ?_)
    have hE := hE.tr hX
    have v_y0 := hX _ _ v_y0
    exact W.iret (v := t49.1) hx hb hr (fun t ht hW => ⟨⟨_, (t49.2, n), rfl, po2 hf, BW.of hw hE ht⟩, hw.2.2.1.F ht⟩) hw.2.2.1.2.2 dX5_counted_86
  have hf := it_f c26_5 hf
  have c26n_0 := i32_ne (n := 0) (by decide) c26_0
  have c26n_1 := i32_ne (n := 1) (by decide) c26_1
  have c26n_2 := i32_ne (n := 2) (by decide) c26_2
  have c26n_3 := i32_ne (n := 3) (by decide) c26_3
  have c26n_4 := i32_ne (n := 4) (by decide) c26_4
  have c26n_5 := i32_ne (n := 5) (by decide) c26_5
  refine lv_tableOut (tgt := 87) hx hb dX5_counted_1 (by omega) (by decide) ?_
  refine lv_aload_n hx hb dX5_counted_87 rfl (lv_at hl 0 rfl) ?_
  refine q_get F hK hw.1 v_y0.1 (pF_5 (S := S) v_y0.2) (fun w h => List.mem_cons_of_mem _ (List.mem_append_right _ h)) rfl 3 (by decide) (hts (.fieldLink RX5 32 "SharedModuliModel" "savedMany" "I") (List.mem_of_getElem? (i := 2) rfl)) (v := .int (fI S 83 y0)) rfl dX5_counted_88 ?_
  exact W.iret (v := (fI S 83 y0)) hx hb hr (fun t ht hW => ⟨⟨_, (S, n), rfl, po2 hf, BW.of hw hE ht⟩, hw.2.2.1.F ht⟩) hw.2.2.1.2.2 dX5_counted_91
def f_X5_count_B35 (S : PS) (s0 : Int32) : Option (Int32 × PS) :=
  some (s0, S)
def f_X5_count_B16 (S : PS) (x0 : Nat) (x1 : Int32) (s0 : Nat) (s1 : Int32) : Option (Int32 × PS) :=
  if (fI (sI S 80 s0 s1) 80 x0) ≤ 0 then (bd (f_X5_counted (sI S 80 s0 s1) x0 x1) fun t2 =>
  f_X5_count_B35 t2.2 t2.1) else
  f_X5_count_B35 (sI S 80 s0 s1) 0
def f_X5_count (S : PS) (x0 : Nat) (x1 : Int32) : Option (Int32 × PS) :=
  bd (f_X5_in x1 0 6) fun t4 =>
  if t4 = 0 then (f_X5_count_B16 S x0 x1 x0 1) else
  f_X5_count_B16 S x0 x1 x0 0
set_option maxHeartbeats 4000000 in
set_option maxRecDepth 100000 in
theorem c_X5_count (l : Launch) (D : va_G) (cy : cyT) {S : PS} {n : Nat} {y0 : Nat} {y1 : Int32} (v_y0 : vd S y0 5) {res : Int32 × PS} (hf : f_X5_count S y0 y1 = some res) : Met l yX5_count wsX5_count ({ frames := 9, cells := 0, slots := 0, locals := 201 } : Room) (PcW False D cy S n [.ref y0, .int y1]) (va_Qi (fun (r : Int32) (u : PS × Nat) => r = res.1 ∧ u = (res.2, n)) (BW D cy S n) (AA cy S n)) 0 0 (AA cy S n) := by
  refine Met.ofW (cc := cX5_count) (maxL := 2) (ret := (some .int)) (by decide) rfl ?_
  intro p e s m args below meth c s₁ B hml hv
  obtain ⟨hav, hsz, hP0, hD0, hK, hZ0⟩ := hv
  have hx := B.exec
  have hb := B.bytes
  have hr := B.returns
  have hts := atoms_spec (ws := wsX5_count) B.pre
  have hown : s.vm.findClass RX5 = some m.cls := findClass_of_methodNamed B.named
  have hlocks := B.notSynchronized
  subst hav
  have hw : Hw D cy (AA cy S n) s.heap S n s.heap [] := Hw.start hsz hP0 hD0
  have hA : ∀ q, s.heap.size ≤ q → AA cy S n q := fun q h => Or.inr (hsz ▸ h)
  have hE : EX S S := EX.rf
  have F : CallFix p m c cX5_count 2 s _ wsX5_count RX5 := ⟨hx, hb, hml, hown, hts⟩
  have hB35 : ∀ (Sb : PS) (H1 : Heap) (lo1 : List Loc) (s0 : Int32) (ls : Array Slot), lv_has ls 2 [] → Hw D cy (AA cy S n) s.heap Sb n H1 lo1 → EX S Sb → f_X5_count_B35 Sb s0 = some res → W p l e (headSpec wsX5_count ({ frames := 9, cells := 0, slots := 0, locals := 201 } : Room)).room s m ([.ref y0, .int y1] : List Value).toArray below meth c H1 lo1 0 0 (MQ below (va_Qi (fun (r : Int32) (u : PS × Nat) => r = res.1 ∧ u = (res.2, n)) (BW D cy S n) (AA cy S n)) ([.ref y0, .int y1] : List Value).toArray s 0 0 (AA cy S n)) (F0 m 35 ls [.int s0]) := by
    intro Sb H1 lo1 s0 ls hl hw hE hf
    unfold f_X5_count_B35 at hf
    exact W.iret (v := s0) hx hb hr (fun t ht hW => ⟨⟨_, (Sb, n), rfl, po2 hf, BW.of hw hE ht⟩, hw.2.2.1.F ht⟩) hw.2.2.1.2.2 dX5_count_35
  have hB16 : ∀ (Sb : PS) (H1 : Heap) (lo1 : List Loc) (x0 : Nat) (x1 : Int32) (s0 : Nat) (s1 : Int32) (ls : Array Slot), lv_has ls 2 [(0, .ref x0), (1, .int x1)] → Hw D cy (AA cy S n) s.heap Sb n H1 lo1 → EX S Sb → vd Sb x0 5 → vd Sb s0 5 → f_X5_count_B16 Sb x0 x1 s0 s1 = some res → W p l e (headSpec wsX5_count ({ frames := 9, cells := 0, slots := 0, locals := 201 } : Room)).room s m ([.ref y0, .int y1] : List Value).toArray below meth c H1 lo1 0 0 (MQ below (va_Qi (fun (r : Int32) (u : PS × Nat) => r = res.1 ∧ u = (res.2, n)) (BW D cy S n) (AA cy S n)) ([.ref y0, .int y1] : List Value).toArray s 0 0 (AA cy S n)) (F0 m 16 ls [.int s1, .ref s0]) := by
    intro Sb H1 lo1 x0 x1 s0 s1 ls hl hw hE v_x0 v_s0 hf
    unfold f_X5_count_B16 at hf
    refine q_put F hK hw v_s0.1 (pF_5 (S := Sb) v_s0.2) (fun w h => List.mem_cons_of_mem _ (List.mem_append_right _ h)) tyX5 tyX5_ok nmX5 rfl 0 (by decide) (hts (.fieldLink RX5 22 "SharedModuliModel" "thrown" "I") (List.mem_of_getElem? (i := 1) rfl)) (Or.inl rfl) (tyX5_ok 0 (by decide)) rfl rfl (Nat.le_of_ble_eq_true rfl) (S1 := sI Sb 80 s0 s1) (st_80 (S := Sb) v_s0.2 s1) dX5_count_16 (fun H locs hw => ?_)
    refine lv_aload_n hx hb dX5_count_19 rfl (lv_at hl 0 rfl) ?_
    refine q_get F hK hw.1 v_x0.1 (pF_5 (S := sI Sb 80 s0 s1) v_x0.2) (fun w h => List.mem_cons_of_mem _ (List.mem_append_right _ h)) rfl 0 (by decide) (hts (.fieldLink RX5 22 "SharedModuliModel" "thrown" "I") (List.mem_of_getElem? (i := 1) rfl)) (v := .int (fI (sI Sb 80 s0 s1) 80 x0)) rfl dX5_count_20 ?_
    refine lv_if_le (tgt := 30) hx hb dX5_count_23 (by decide) (fun c8 => ?_) (fun c8 => ?_)
    · have hf := it_t c8 hf
      refine lv_aload_n hx hb dX5_count_30 rfl (lv_at hl 0 rfl) ?_
      refine lv_iload_n hx hb dX5_count_31 rfl (lv_at hl 1 rfl) ?_
      obtain ⟨t9, h10, hf⟩ := bd_some hf
      refine q_calli (va_runV (As := [.int x1]) (rest := []) F (c_X5_counted l D cy (S := sI Sb 80 s0 s1) v_x0 h10) (cwV 1 hts gX5_count_X5_counted rfl rfl rfl ⟨rfl, ph_X5_counted.1, ph_X5_counted.2, pd_X5_counted⟩ ⟨Nat.le_of_ble_eq_true rfl, Nat.le_of_ble_eq_true rfl⟩) ⟨PcW.bl, (q_rcv hK hw.1 v_x0.1 (pF_5 (S := sI Sb 80 s0 s1) v_x0.2) rfl), PcW.in hK hw hA (fun z => z.elim)⟩ rfl rfl hl.1 rfl (lv_room (Nat.le_of_ble_eq_true rfl)) dX5_count_32 ⟨Nat.zero_le _, Nat.zero_le _⟩) hw hA (fun H locs hw hX => ?_)
      have hE := hE.tr hX
      have v_x0 := hX _ _ v_x0
      have v_s0 := hX _ _ v_s0
      exact hB35 t9.2 _ _ t9.1 _ (lv_sub hl [] rfl) hw hE  hf
    · have hf := it_f c8 hf
      refine lv_iconst (v := 0) hx hb dX5_count_26 (by decide) ?_
      refine lv_goto (tgt := 35) hx hb dX5_count_27 (by decide) ?_
      exact hB35 (sI Sb 80 s0 s1) _ _ 0 _ (lv_sub hl [] rfl) hw hE  hf
  have hl := lv_entry ([.ref y0, .int y1]) (n := 2) (Nat.le_of_ble_eq_true rfl)
  rw [lg_entry_eq]
  generalize (lg_sl ([.ref y0, .int y1]) ++ List.replicate (2 - (lg_sl ([.ref y0, .int y1])).length) Slot.unset).toArray = ls at hl ⊢
  have hl : lv_has ls 2 [(0, .ref y0), (1, .int y1)] := hl
  unfold f_X5_count at hf
  refine lv_aload_n hx hb dX5_count_0 rfl (lv_at hl 0 rfl) ?_
  refine lv_iload_n hx hb dX5_count_1 rfl (lv_at hl 1 rfl) ?_
  refine lv_iconst (v := 0) hx hb dX5_count_2 (by decide) ?_
  refine lv_bipush (v := 6) hx hb dX5_count_3 (by decide) ?_
  obtain ⟨t11, h12, hf⟩ := bd_some hf
  refine vp_callSi (va_runS (As := [.int y1, .int 0, .int 6]) (rest := [.ref y0]) F (c_X5_in l D cy (H := _)  h12) (va_cwS 3 hts gX5_count_X5_in rfl rfl rfl ⟨ph_X5_in.1, ph_X5_in.2, pd_X5_in⟩ ⟨Nat.le_of_ble_eq_true rfl, Nat.le_of_ble_eq_true rfl⟩) ⟨PcR.bl, PcR.in hK⟩ rfl rfl hl.1 rfl (lv_room (Nat.le_of_ble_eq_true rfl)) dX5_count_5 ⟨Nat.zero_le _, Nat.zero_le _⟩).run (fun r13 er13 => ?_)
  subst r13
  refine lv_if_eq (tgt := 15) hx hb dX5_count_8 (by decide) (fun c14 => ?_) (fun c14 => ?_)
  · have hf := it_t c14 hf
    refine lv_iconst (v := 1) hx hb dX5_count_15 (by decide) ?_
    exact hB16 S _ _ y0 y1 y0 1 _ (lv_sub hl [0, 1] rfl) hw hE v_y0 v_y0 hf
  · have hf := it_f c14 hf
    refine lv_iconst (v := 0) hx hb dX5_count_11 (by decide) ?_
    refine lv_goto (tgt := 16) hx hb dX5_count_12 (by decide) ?_
    exact hB16 S _ _ y0 y1 y0 0 _ (lv_sub hl [0, 1] rfl) hw hE v_y0 v_y0 hf
def f_X5_isPrime_B37 (x1 : Int32) : Option Int32 :=
  ck (decide (x1 &&& 1 = x1)) (
  some x1)
def f_X5_isPrime_B30 (kL10 : Int32 → Int32 → Int32 → Option Int32) (ke37 : Int32 → Option Int32) (x0 : Int32) (x2 : Int32) (s0 : Int32) : Option Int32 :=
  kL10 x0 s0 (x2 + 1)
def f_X5_isPrime_L10s (kL10 : Int32 → Int32 → Int32 → Option Int32) (ke37 : Int32 → Option Int32) (x0 : Int32) (x1 : Int32) (x2 : Int32) : Option Int32 :=
  if x0 ≤ x2 then (ke37 x1) else
  if x1 = 0 then (ke37 x1) else
  ck (decide (¬ x2 = 0)) (
  if (x0 - x0 / x2 * x2) = 0 then (f_X5_isPrime_B30 kL10 ke37 x0 x2 0) else
  f_X5_isPrime_B30 kL10 ke37 x0 x2 1)
def f_X5_isPrime_L10 (ke37 : Int32 → Option Int32) (fu : Nat) : Int32 → Int32 → Int32 → Option Int32 := fx (fun kL => f_X5_isPrime_L10s kL ke37) (fun _ _ _ => none) fu
def f_X5_isPrime (x0 : Int32) : Option Int32 :=
  bd (f_X5_in x0 2 31) fun t6 =>
  f_X5_isPrime_L10 f_X5_isPrime_B37 FU x0 t6 2
set_option maxHeartbeats 4000000 in
set_option maxRecDepth 100000 in
theorem c_X5_isPrime (l : Launch) (D : va_G) (cy : cyT) {H : Heap} {y0 : Int32}  {res : Int32} (hf : f_X5_isPrime y0 = some res) : Met l yX5_isPrime wsX5_isPrime ({ frames := 1, cells := 0, slots := 0, locals := 22 } : Room) (PcR D cy H [.int y0]) (vp_Si (fun r => r = res)) 0 0 (fun _ => False) := by
  refine Met.ofW (cc := cX5_isPrime) (maxL := 3) (ret := (some .boolean)) (by decide) rfl ?_
  intro p e s m args below meth c s₁ B hml hv
  obtain ⟨hav, hH, hK⟩ := hv
  have hx := B.exec
  have hb := B.bytes
  have hr := B.returns
  have hts := atoms_spec (ws := wsX5_isPrime) B.pre
  have hown : s.vm.findClass RX5 = some m.cls := findClass_of_methodNamed B.named
  have hlocks := B.notSynchronized
  subst hav
  subst hH
  have F : CallFix p m c cX5_isPrime 3 s _ wsX5_isPrime RX5 := ⟨hx, hb, hml, hown, hts⟩
  have hB37 : ∀ (x1 : Int32) (ls : Array Slot), lv_has ls 3 [(1, .int x1)] → f_X5_isPrime_B37 x1 = some res → W p l e (headSpec wsX5_isPrime ({ frames := 1, cells := 0, slots := 0, locals := 22 } : Room)).room s m ([.int y0] : List Value).toArray below meth c s.heap [] 0 0 (MQ below (vp_Si (fun r => r = res)) ([.int y0] : List Value).toArray s 0 0 (fun _ => False)) (F0 m 37 ls []) := by
    intro x1 ls hl hf
    unfold f_X5_isPrime_B37 at hf
    refine lv_iload_n hx hb dX5_isPrime_37 rfl (lv_at hl 0 rfl) ?_
    obtain ⟨c9, hf⟩ := ckd_some hf
    exact W.zret (v := x1) hx hb hr (nz c9) (fun t ht hW => ⟨_, rfl, Option.some.inj hf, ht⟩) (fun _ h => by cases h) dX5_isPrime_38
  have hL10 : ∀ (fu10 : Nat), ∀ (x0 : Int32) (x1 : Int32) (x2 : Int32) (ls : Array Slot), lv_has ls 3 [(0, .int x0), (1, .int x1), (2, .int x2)] → f_X5_isPrime_L10 f_X5_isPrime_B37 fu10 x0 x1 x2 = some res → W p l e (headSpec wsX5_isPrime ({ frames := 1, cells := 0, slots := 0, locals := 22 } : Room)).room s m ([.int y0] : List Value).toArray below meth c s.heap [] 0 0 (MQ below (vp_Si (fun r => r = res)) ([.int y0] : List Value).toArray s 0 0 (fun _ => False)) (F0 m 10 ls []) := by
    intro fu10
    induction fu10 with
    | zero =>
      intro x0 x1 x2 ls hl hf
      have hf : (none : Option Int32) = some res := hf
      cases hf
    | succ fu10 ih10 =>
      have hB30 : ∀ (x0 : Int32) (x2 : Int32) (s0 : Int32) (ls : Array Slot), lv_has ls 3 [(0, .int x0), (2, .int x2)] → f_X5_isPrime_B30 (f_X5_isPrime_L10 f_X5_isPrime_B37 fu10) f_X5_isPrime_B37 x0 x2 s0 = some res → W p l e (headSpec wsX5_isPrime ({ frames := 1, cells := 0, slots := 0, locals := 22 } : Room)).room s m ([.int y0] : List Value).toArray below meth c s.heap [] 0 0 (MQ below (vp_Si (fun r => r = res)) ([.int y0] : List Value).toArray s 0 0 (fun _ => False)) (F0 m 30 ls [.int s0]) := by
        intro x0 x2 s0 ls hl hf
        unfold f_X5_isPrime_B30 at hf
        refine lv_istore_n (lv' := [(1, .int s0), (0, .int x0), (2, .int x2)]) hx hb dX5_isPrime_30 rfl hl (by decide) rfl (fun ls hl => ?_)
        refine lv_iinc (v := x2 + 1) (lv' := [(2, .int (x2 + 1)), (1, .int s0), (0, .int x0)]) hx hb dX5_isPrime_31 hl (k := 2) rfl (by rfl) (by decide) rfl (fun ls hl => ?_)
        refine lv_goto (tgt := 10) hx hb dX5_isPrime_34 (by decide) ?_
        exact ih10 x0 s0 (x2 + 1) _ (lv_sub hl [2, 1, 0] rfl)  hf
      intro x0 x1 x2 ls hl hf
      have hf : f_X5_isPrime_L10s (f_X5_isPrime_L10 f_X5_isPrime_B37 fu10) f_X5_isPrime_B37 x0 x1 x2 = some res := hf
      unfold f_X5_isPrime_L10s at hf
      refine lv_iload_n hx hb dX5_isPrime_10 rfl (lv_at hl 2 rfl) ?_
      refine lv_iload_n hx hb dX5_isPrime_11 rfl (lv_at hl 0 rfl) ?_
      refine lv_icmp_ge (tgt := 37) hx hb dX5_isPrime_12 (by decide) (fun c10 => ?_) (fun c10 => ?_)
      · have hf := it_t c10 hf
        exact hB37 x1 _ (lv_sub hl [1] rfl)  hf
      · have hf := it_f c10 hf
        refine lv_iload_n hx hb dX5_isPrime_15 rfl (lv_at hl 1 rfl) ?_
        refine lv_if_eq (tgt := 37) hx hb dX5_isPrime_16 (by decide) (fun c11 => ?_) (fun c11 => ?_)
        · have hf := it_t c11 hf
          exact hB37 x1 _ (lv_sub hl [1] rfl)  hf
        · have hf := it_f c11 hf
          refine lv_iload_n hx hb dX5_isPrime_19 rfl (lv_at hl 0 rfl) ?_
          refine lv_iload_n hx hb dX5_isPrime_20 rfl (lv_at hl 2 rfl) ?_
          obtain ⟨c12, hf⟩ := ckd_some hf
          refine lv_irem hx hb dX5_isPrime_21 c12 ?_
          refine lv_if_eq (tgt := 29) hx hb dX5_isPrime_22 (by decide) (fun c13 => ?_) (fun c13 => ?_)
          · have hf := it_t c13 hf
            refine lv_iconst (v := 0) hx hb dX5_isPrime_29 (by decide) ?_
            exact hB30 x0 x2 0 _ (lv_sub hl [0, 2] rfl)  hf
          · have hf := it_f c13 hf
            refine lv_iconst (v := 1) hx hb dX5_isPrime_25 (by decide) ?_
            refine lv_goto (tgt := 30) hx hb dX5_isPrime_26 (by decide) ?_
            exact hB30 x0 x2 1 _ (lv_sub hl [0, 2] rfl)  hf
  have hl := lv_entry ([.int y0]) (n := 3) (Nat.le_of_ble_eq_true rfl)
  rw [lg_entry_eq]
  generalize (lg_sl ([.int y0]) ++ List.replicate (3 - (lg_sl ([.int y0])).length) Slot.unset).toArray = ls at hl ⊢
  have hl : lv_has ls 3 [(0, .int y0)] := hl
  unfold f_X5_isPrime at hf
  refine lv_iload_n hx hb dX5_isPrime_0 rfl (lv_at hl 0 rfl) ?_
  refine lv_iconst (v := 2) hx hb dX5_isPrime_1 (by decide) ?_
  refine lv_bipush (v := 31) hx hb dX5_isPrime_2 (by decide) ?_
  obtain ⟨t14, h15, hf⟩ := bd_some hf
  refine vp_callSi (va_runS (As := [.int y0, .int 2, .int 31]) (rest := []) F (c_X5_in l D cy (H := _)  h15) (va_cwS 3 hts gX5_isPrime_X5_in rfl rfl rfl ⟨ph_X5_in.1, ph_X5_in.2, pd_X5_in⟩ ⟨Nat.le_of_ble_eq_true rfl, Nat.le_of_ble_eq_true rfl⟩) ⟨PcR.bl, PcR.in hK⟩ rfl rfl hl.1 rfl (lv_room (Nat.le_of_ble_eq_true rfl)) dX5_isPrime_4 ⟨Nat.zero_le _, Nat.zero_le _⟩).run (fun r16 er16 => ?_)
  subst r16
  refine lv_istore_n (lv' := [(1, .int t14), (0, .int y0)]) hx hb dX5_isPrime_7 rfl hl (by decide) rfl (fun ls hl => ?_)
  refine lv_iconst (v := 2) hx hb dX5_isPrime_8 (by decide) ?_
  refine lv_istore_n (lv' := [(2, .int 2), (1, .int t14), (0, .int y0)]) hx hb dX5_isPrime_9 rfl hl (by decide) rfl (fun ls hl => ?_)
  exact hL10 FU y0 t14 2 _ (lv_sub hl [2, 1, 0] rfl)  hf
def f_X5_powerIn_B21 (S : PS) (x3 : Int32) : Option Int32 :=
  some x3
def f_X5_powerIn_L2s (S : PS) (kL2 : Nat → Int32 → Int32 → Int32 → Option Int32) (ke21 : Int32 → Option Int32) (x0 : Nat) (x1 : Int32) (x2 : Int32) (x3 : Int32) : Option Int32 :=
  bd (f_X5_modulus S x0 x1) fun t1 =>
  ck (decide (¬ (x3 * x2) = 0)) (
  if (t1 - t1 / (x3 * x2) * (x3 * x2)) = 0 then (kL2 x0 x1 x2 (x3 * x2)) else
  ke21 x3)
def f_X5_powerIn_L2 (S : PS) (ke21 : Int32 → Option Int32) (fu : Nat) : Nat → Int32 → Int32 → Int32 → Option Int32 := fx (fun kL => f_X5_powerIn_L2s S kL ke21) (fun _ _ _ _ => none) fu
def f_X5_powerIn (S : PS) (x0 : Nat) (x1 : Int32) (x2 : Int32) : Option Int32 :=
  f_X5_powerIn_L2 S (f_X5_powerIn_B21 S) FU x0 x1 x2 1
set_option maxHeartbeats 4000000 in
set_option maxRecDepth 100000 in
theorem c_X5_powerIn (l : Launch) (D : va_G) (cy : cyT) {H : Heap} {S : PS} (hP : va_P D vwCl (wl cy S) H) {y0 : Nat} {y1 : Int32} {y2 : Int32} (v_y0 : vd S y0 5) {res : Int32} (hf : f_X5_powerIn S y0 y1 y2 = some res) : Met l yX5_powerIn wsX5_powerIn ({ frames := 2, cells := 0, slots := 0, locals := 45 } : Room) (PcR D cy H [.ref y0, .int y1, .int y2]) (vp_Si (fun r => r = res)) 0 0 (fun _ => False) := by
  refine Met.ofW (cc := cX5_powerIn) (maxL := 4) (ret := (some .int)) (by decide) rfl ?_
  intro p e s m args below meth c s₁ B hml hv
  obtain ⟨hav, hH, hK⟩ := hv
  have hx := B.exec
  have hb := B.bytes
  have hr := B.returns
  have hts := atoms_spec (ws := wsX5_powerIn) B.pre
  have hown : s.vm.findClass RX5 = some m.cls := findClass_of_methodNamed B.named
  have hlocks := B.notSynchronized
  subst hav
  subst hH
  have F : CallFix p m c cX5_powerIn 4 s _ wsX5_powerIn RX5 := ⟨hx, hb, hml, hown, hts⟩
  have hB21 : ∀ (x3 : Int32) (ls : Array Slot), lv_has ls 4 [(3, .int x3)] → f_X5_powerIn_B21 S x3 = some res → W p l e (headSpec wsX5_powerIn ({ frames := 2, cells := 0, slots := 0, locals := 45 } : Room)).room s m ([.ref y0, .int y1, .int y2] : List Value).toArray below meth c s.heap [] 0 0 (MQ below (vp_Si (fun r => r = res)) ([.ref y0, .int y1, .int y2] : List Value).toArray s 0 0 (fun _ => False)) (F0 m 21 ls []) := by
    intro x3 ls hl hf
    unfold f_X5_powerIn_B21 at hf
    refine lv_iload_n hx hb dX5_powerIn_21 rfl (lv_at hl 0 rfl) ?_
    exact W.iret (v := x3) hx hb hr (fun t ht hW => ⟨_, rfl, Option.some.inj hf, ht⟩) (fun _ h => by cases h) dX5_powerIn_22
  have hL2 : ∀ (fu2 : Nat), ∀ (x0 : Nat) (x1 : Int32) (x2 : Int32) (x3 : Int32) (ls : Array Slot), lv_has ls 4 [(0, .ref x0), (1, .int x1), (2, .int x2), (3, .int x3)] → vd S x0 5 → f_X5_powerIn_L2 S (f_X5_powerIn_B21 S) fu2 x0 x1 x2 x3 = some res → W p l e (headSpec wsX5_powerIn ({ frames := 2, cells := 0, slots := 0, locals := 45 } : Room)).room s m ([.ref y0, .int y1, .int y2] : List Value).toArray below meth c s.heap [] 0 0 (MQ below (vp_Si (fun r => r = res)) ([.ref y0, .int y1, .int y2] : List Value).toArray s 0 0 (fun _ => False)) (F0 m 2 ls []) := by
    intro fu2
    induction fu2 with
    | zero =>
      intro x0 x1 x2 x3 ls hl v_x0 hf
      have hf : (none : Option Int32) = some res := hf
      cases hf
    | succ fu2 ih2 =>
      intro x0 x1 x2 x3 ls hl v_x0 hf
      have hf : f_X5_powerIn_L2s S (f_X5_powerIn_L2 S (f_X5_powerIn_B21 S) fu2) (f_X5_powerIn_B21 S) x0 x1 x2 x3 = some res := hf
      unfold f_X5_powerIn_L2s at hf
      refine lv_aload_n hx hb dX5_powerIn_2 rfl (lv_at hl 0 rfl) ?_
      refine lv_iload_n hx hb dX5_powerIn_3 rfl (lv_at hl 1 rfl) ?_
      obtain ⟨t6, h7, hf⟩ := bd_some hf
      refine vp_callSi (va_runV (As := [.int x1]) (rest := []) F (c_X5_modulus l D cy (H := _) hP v_x0 h7) (cwV 1 hts gX5_powerIn_X5_modulus rfl rfl rfl ⟨rfl, ph_X5_modulus.1, ph_X5_modulus.2, pd_X5_modulus⟩ ⟨Nat.le_of_ble_eq_true rfl, Nat.le_of_ble_eq_true rfl⟩) ⟨PcR.bl, (q_rcv hK hP v_x0.1 (pF_5 (S := S) v_x0.2) rfl), PcR.in hK⟩ rfl rfl hl.1 rfl (lv_room (Nat.le_of_ble_eq_true rfl)) dX5_powerIn_4 ⟨Nat.zero_le _, Nat.zero_le _⟩).run (fun r8 er8 => ?_)
      subst r8
      refine lv_iload_n hx hb dX5_powerIn_7 rfl (lv_at hl 3 rfl) ?_
      refine lv_iload_n hx hb dX5_powerIn_8 rfl (lv_at hl 2 rfl) ?_
      refine lv_imul hx hb dX5_powerIn_9 ?_
      obtain ⟨c9, hf⟩ := ckd_some hf
      refine lv_irem hx hb dX5_powerIn_10 c9 ?_
      refine lv_if_ne (tgt := 21) hx hb dX5_powerIn_11 (by decide) (fun c10 => ?_) (fun c10 => ?_)
      · have hf := it_f c10 hf
        exact hB21 x3 _ (lv_sub hl [3] rfl)  hf
      · have hf := it_t c10 hf
        refine lv_iload_n hx hb dX5_powerIn_14 rfl (lv_at hl 3 rfl) ?_
        refine lv_iload_n hx hb dX5_powerIn_15 rfl (lv_at hl 2 rfl) ?_
        refine lv_imul hx hb dX5_powerIn_16 ?_
        refine lv_istore_n (lv' := [(3, .int (x3 * x2)), (0, .ref x0), (1, .int x1), (2, .int x2)]) hx hb dX5_powerIn_17 rfl hl (by decide) rfl (fun ls hl => ?_)
        refine lv_goto (tgt := 2) hx hb dX5_powerIn_18 (by decide) ?_
        exact ih2 x0 x1 x2 (x3 * x2) _ (lv_sub hl [1, 2, 3, 0] rfl) v_x0 hf
  have hl := lv_entry ([.ref y0, .int y1, .int y2]) (n := 4) (Nat.le_of_ble_eq_true rfl)
  rw [lg_entry_eq]
  generalize (lg_sl ([.ref y0, .int y1, .int y2]) ++ List.replicate (4 - (lg_sl ([.ref y0, .int y1, .int y2])).length) Slot.unset).toArray = ls at hl ⊢
  have hl : lv_has ls 4 [(0, .ref y0), (1, .int y1), (2, .int y2)] := hl
  unfold f_X5_powerIn at hf
  refine lv_iconst (v := 1) hx hb dX5_powerIn_0 (by decide) ?_
  refine lv_istore_n (lv' := [(3, .int 1), (0, .ref y0), (1, .int y1), (2, .int y2)]) hx hb dX5_powerIn_1 rfl hl (by decide) rfl (fun ls hl => ?_)
  exact hL2 FU y0 y1 y2 1 _ (lv_sub hl [1, 2, 3, 0] rfl) v_y0 hf
def f_X5_strongest_B81 (S : PS) (x2 : Int32) : Option Int32 :=
  some x2
def f_X5_strongest_B74 (S : PS) (kL7 : Nat → Int32 → Int32 → Int32 → Int32 → Option Int32) (ke81 : Int32 → Option Int32) (x0 : Nat) (x1 : Int32) (x2 : Int32) (x4 : Int32) (s0 : Int32) : Option Int32 :=
  kL7 x0 x1 x2 s0 (x4 + 1)
def f_X5_strongest_B61 (S : PS) (kL7 : Nat → Int32 → Int32 → Int32 → Int32 → Option Int32) (ke81 : Int32 → Option Int32) (x0 : Nat) (x1 : Int32) (x3 : Int32) (x4 : Int32) (x5 : Int32) (s0 : Int32) : Option Int32 :=
  if x5 ≤ x3 then (f_X5_strongest_B74 S kL7 ke81 x0 x1 s0 x4 x3) else
  f_X5_strongest_B74 S kL7 ke81 x0 x1 s0 x4 x5
def f_X5_strongest_B47 (S : PS) (kL7 : Nat → Int32 → Int32 → Int32 → Int32 → Option Int32) (ke81 : Int32 → Option Int32) (x0 : Nat) (x1 : Int32) (x2 : Int32) (x3 : Int32) (x4 : Int32) (s0 : Int32) : Option Int32 :=
  if s0 ≤ x3 then (f_X5_strongest_B61 S kL7 ke81 x0 x1 x3 x4 s0 x2) else
  f_X5_strongest_B61 S kL7 ke81 x0 x1 x3 x4 s0 x4
def f_X5_strongest_B46 (S : PS) (kL7 : Nat → Int32 → Int32 → Int32 → Int32 → Option Int32) (ke81 : Int32 → Option Int32) (x0 : Nat) (x1 : Int32) (x2 : Int32) (x3 : Int32) (x4 : Int32) : Option Int32 :=
  f_X5_strongest_B47 S kL7 ke81 x0 x1 x2 x3 x4 1
def f_X5_strongest_L7s (S : PS) (kL7 : Nat → Int32 → Int32 → Int32 → Int32 → Option Int32) (ke81 : Int32 → Option Int32) (x0 : Nat) (x1 : Int32) (x2 : Int32) (x3 : Int32) (x4 : Int32) : Option Int32 :=
  rq (fR S 81 x0) S 6 fun b3 =>
  ck (decide (¬ ((0 : Int32) < 0 ∨ aN S b3 ≤ (0 : Int32).toNatClampNeg))) (
  if (aI S b3 (0 : Int32).toNatClampNeg) ≤ x4 then (ke81 x2) else
  bd (f_X5_isOn S x0 x4) fun t7 =>
  if t7 = 0 then (f_X5_strongest_B46 S kL7 ke81 x0 x1 x2 x3 x4) else
  bd (f_X5_isVoid S x0 x4) fun t11 =>
  if t11 = 0 then (bd (f_X5_powerIn S x0 x4 x1) fun t15 =>
  f_X5_strongest_B47 S kL7 ke81 x0 x1 x2 x3 x4 t15) else
  f_X5_strongest_B46 S kL7 ke81 x0 x1 x2 x3 x4)
def f_X5_strongest_L7 (S : PS) (ke81 : Int32 → Option Int32) (fu : Nat) : Nat → Int32 → Int32 → Int32 → Int32 → Option Int32 := fx (fun kL => f_X5_strongest_L7s S kL ke81) (fun _ _ _ _ _ => none) fu
def f_X5_strongest (S : PS) (x0 : Nat) (x1 : Int32) : Option Int32 :=
  f_X5_strongest_L7 S (f_X5_strongest_B81 S) FU x0 x1 ((-1)) 1 0
set_option maxHeartbeats 4000000 in
set_option maxRecDepth 100000 in
theorem c_X5_strongest (l : Launch) (D : va_G) (cy : cyT) {H : Heap} {S : PS} (hP : va_P D vwCl (wl cy S) H) {y0 : Nat} {y1 : Int32} (v_y0 : vd S y0 5) {res : Int32} (hf : f_X5_strongest S y0 y1 = some res) : Met l yX5_strongest wsX5_strongest ({ frames := 3, cells := 0, slots := 0, locals := 68 } : Room) (PcR D cy H [.ref y0, .int y1]) (vp_Si (fun r => r = res)) 0 0 (fun _ => False) := by
  refine Met.ofW (cc := cX5_strongest) (maxL := 6) (ret := (some .int)) (by decide) rfl ?_
  intro p e s m args below meth c s₁ B hml hv
  obtain ⟨hav, hH, hK⟩ := hv
  have hx := B.exec
  have hb := B.bytes
  have hr := B.returns
  have hts := atoms_spec (ws := wsX5_strongest) B.pre
  have hown : s.vm.findClass RX5 = some m.cls := findClass_of_methodNamed B.named
  have hlocks := B.notSynchronized
  subst hav
  subst hH
  have F : CallFix p m c cX5_strongest 6 s _ wsX5_strongest RX5 := ⟨hx, hb, hml, hown, hts⟩
  have hB81 : ∀ (x2 : Int32) (ls : Array Slot), lv_has ls 6 [(2, .int x2)] → f_X5_strongest_B81 S x2 = some res → W p l e (headSpec wsX5_strongest ({ frames := 3, cells := 0, slots := 0, locals := 68 } : Room)).room s m ([.ref y0, .int y1] : List Value).toArray below meth c s.heap [] 0 0 (MQ below (vp_Si (fun r => r = res)) ([.ref y0, .int y1] : List Value).toArray s 0 0 (fun _ => False)) (F0 m 81 ls []) := by
    intro x2 ls hl hf
    unfold f_X5_strongest_B81 at hf
    refine lv_iload_n hx hb dX5_strongest_81 rfl (lv_at hl 0 rfl) ?_
    exact W.iret (v := x2) hx hb hr (fun t ht hW => ⟨_, rfl, Option.some.inj hf, ht⟩) (fun _ h => by cases h) dX5_strongest_82
  have hL7 : ∀ (fu7 : Nat), ∀ (x0 : Nat) (x1 : Int32) (x2 : Int32) (x3 : Int32) (x4 : Int32) (ls : Array Slot), lv_has ls 6 [(0, .ref x0), (1, .int x1), (2, .int x2), (3, .int x3), (4, .int x4)] → vd S x0 5 → f_X5_strongest_L7 S (f_X5_strongest_B81 S) fu7 x0 x1 x2 x3 x4 = some res → W p l e (headSpec wsX5_strongest ({ frames := 3, cells := 0, slots := 0, locals := 68 } : Room)).room s m ([.ref y0, .int y1] : List Value).toArray below meth c s.heap [] 0 0 (MQ below (vp_Si (fun r => r = res)) ([.ref y0, .int y1] : List Value).toArray s 0 0 (fun _ => False)) (F0 m 7 ls []) := by
    intro fu7
    induction fu7 with
    | zero =>
      intro x0 x1 x2 x3 x4 ls hl v_x0 hf
      have hf : (none : Option Int32) = some res := hf
      cases hf
    | succ fu7 ih7 =>
      have hB74 : ∀ (x0 : Nat) (x1 : Int32) (x2 : Int32) (x4 : Int32) (s0 : Int32) (ls : Array Slot), lv_has ls 6 [(0, .ref x0), (1, .int x1), (2, .int x2), (4, .int x4)] → vd S x0 5 → f_X5_strongest_B74 S (f_X5_strongest_L7 S (f_X5_strongest_B81 S) fu7) (f_X5_strongest_B81 S) x0 x1 x2 x4 s0 = some res → W p l e (headSpec wsX5_strongest ({ frames := 3, cells := 0, slots := 0, locals := 68 } : Room)).room s m ([.ref y0, .int y1] : List Value).toArray below meth c s.heap [] 0 0 (MQ below (vp_Si (fun r => r = res)) ([.ref y0, .int y1] : List Value).toArray s 0 0 (fun _ => False)) (F0 m 74 ls [.int s0]) := by
        intro x0 x1 x2 x4 s0 ls hl v_x0 hf
        unfold f_X5_strongest_B74 at hf
        refine lv_istore_n (lv' := [(3, .int s0), (0, .ref x0), (1, .int x1), (2, .int x2), (4, .int x4)]) hx hb dX5_strongest_74 rfl hl (by decide) rfl (fun ls hl => ?_)
        refine lv_iinc (v := x4 + 1) (lv' := [(4, .int (x4 + 1)), (3, .int s0), (0, .ref x0), (1, .int x1), (2, .int x2)]) hx hb dX5_strongest_75 hl (k := 4) rfl (by rfl) (by decide) rfl (fun ls hl => ?_)
        refine lv_goto (tgt := 7) hx hb dX5_strongest_78 (by decide) ?_
        exact ih7 x0 x1 x2 s0 (x4 + 1) _ (lv_sub hl [2, 3, 4, 1, 0] rfl) v_x0 hf
      have hB61 : ∀ (x0 : Nat) (x1 : Int32) (x3 : Int32) (x4 : Int32) (x5 : Int32) (s0 : Int32) (ls : Array Slot), lv_has ls 6 [(0, .ref x0), (1, .int x1), (3, .int x3), (4, .int x4), (5, .int x5)] → vd S x0 5 → f_X5_strongest_B61 S (f_X5_strongest_L7 S (f_X5_strongest_B81 S) fu7) (f_X5_strongest_B81 S) x0 x1 x3 x4 x5 s0 = some res → W p l e (headSpec wsX5_strongest ({ frames := 3, cells := 0, slots := 0, locals := 68 } : Room)).room s m ([.ref y0, .int y1] : List Value).toArray below meth c s.heap [] 0 0 (MQ below (vp_Si (fun r => r = res)) ([.ref y0, .int y1] : List Value).toArray s 0 0 (fun _ => False)) (F0 m 61 ls [.int s0]) := by
        intro x0 x1 x3 x4 x5 s0 ls hl v_x0 hf
        unfold f_X5_strongest_B61 at hf
        refine lv_istore_n (lv' := [(2, .int s0), (0, .ref x0), (1, .int x1), (3, .int x3), (4, .int x4), (5, .int x5)]) hx hb dX5_strongest_61 rfl hl (by decide) rfl (fun ls hl => ?_)
        refine lv_iload hx hb dX5_strongest_62 (lv_at hl 5 rfl) ?_
        refine lv_iload_n hx hb dX5_strongest_64 rfl (lv_at hl 3 rfl) ?_
        refine lv_icmp_le (tgt := 73) hx hb dX5_strongest_65 (by decide) (fun c18 => ?_) (fun c18 => ?_)
        · have hf := it_t c18 hf
          refine lv_iload_n hx hb dX5_strongest_73 rfl (lv_at hl 3 rfl) ?_
          exact hB74 x0 x1 s0 x4 x3 _ (lv_sub hl [1, 2, 0, 4] rfl) v_x0 hf
        · have hf := it_f c18 hf
          refine lv_iload hx hb dX5_strongest_68 (lv_at hl 5 rfl) ?_
          refine lv_goto (tgt := 74) hx hb dX5_strongest_70 (by decide) ?_
          exact hB74 x0 x1 s0 x4 x5 _ (lv_sub hl [1, 2, 0, 4] rfl) v_x0 hf
      have hB47 : ∀ (x0 : Nat) (x1 : Int32) (x2 : Int32) (x3 : Int32) (x4 : Int32) (s0 : Int32) (ls : Array Slot), lv_has ls 6 [(0, .ref x0), (1, .int x1), (2, .int x2), (3, .int x3), (4, .int x4)] → vd S x0 5 → f_X5_strongest_B47 S (f_X5_strongest_L7 S (f_X5_strongest_B81 S) fu7) (f_X5_strongest_B81 S) x0 x1 x2 x3 x4 s0 = some res → W p l e (headSpec wsX5_strongest ({ frames := 3, cells := 0, slots := 0, locals := 68 } : Room)).room s m ([.ref y0, .int y1] : List Value).toArray below meth c s.heap [] 0 0 (MQ below (vp_Si (fun r => r = res)) ([.ref y0, .int y1] : List Value).toArray s 0 0 (fun _ => False)) (F0 m 47 ls [.int s0]) := by
        intro x0 x1 x2 x3 x4 s0 ls hl v_x0 hf
        unfold f_X5_strongest_B47 at hf
        refine lv_istore (lv' := [(5, .int s0), (0, .ref x0), (1, .int x1), (2, .int x2), (3, .int x3), (4, .int x4)]) hx hb dX5_strongest_47 hl (by decide) rfl (fun ls hl => ?_)
        refine lv_iload hx hb dX5_strongest_49 (lv_at hl 0 rfl) ?_
        refine lv_iload_n hx hb dX5_strongest_51 rfl (lv_at hl 4 rfl) ?_
        refine lv_icmp_le (tgt := 60) hx hb dX5_strongest_52 (by decide) (fun c19 => ?_) (fun c19 => ?_)
        · have hf := it_t c19 hf
          refine lv_iload_n hx hb dX5_strongest_60 rfl (lv_at hl 3 rfl) ?_
          exact hB61 x0 x1 x3 x4 s0 x2 _ (lv_sub hl [1, 2, 4, 5, 0] rfl) v_x0 hf
        · have hf := it_f c19 hf
          refine lv_iload hx hb dX5_strongest_55 (lv_at hl 5 rfl) ?_
          refine lv_goto (tgt := 61) hx hb dX5_strongest_57 (by decide) ?_
          exact hB61 x0 x1 x3 x4 s0 x4 _ (lv_sub hl [1, 2, 4, 5, 0] rfl) v_x0 hf
      have hB46 : ∀ (x0 : Nat) (x1 : Int32) (x2 : Int32) (x3 : Int32) (x4 : Int32) (ls : Array Slot), lv_has ls 6 [(0, .ref x0), (1, .int x1), (2, .int x2), (3, .int x3), (4, .int x4)] → vd S x0 5 → f_X5_strongest_B46 S (f_X5_strongest_L7 S (f_X5_strongest_B81 S) fu7) (f_X5_strongest_B81 S) x0 x1 x2 x3 x4 = some res → W p l e (headSpec wsX5_strongest ({ frames := 3, cells := 0, slots := 0, locals := 68 } : Room)).room s m ([.ref y0, .int y1] : List Value).toArray below meth c s.heap [] 0 0 (MQ below (vp_Si (fun r => r = res)) ([.ref y0, .int y1] : List Value).toArray s 0 0 (fun _ => False)) (F0 m 46 ls []) := by
        intro x0 x1 x2 x3 x4 ls hl v_x0 hf
        unfold f_X5_strongest_B46 at hf
        refine lv_iconst (v := 1) hx hb dX5_strongest_46 (by decide) ?_
        exact hB47 x0 x1 x2 x3 x4 1 _ (lv_sub hl [0, 1, 2, 3, 4] rfl) v_x0 hf
      intro x0 x1 x2 x3 x4 ls hl v_x0 hf
      have hf : f_X5_strongest_L7s S (f_X5_strongest_L7 S (f_X5_strongest_B81 S) fu7) (f_X5_strongest_B81 S) x0 x1 x2 x3 x4 = some res := hf
      unfold f_X5_strongest_L7s at hf
      refine lv_iload hx hb dX5_strongest_7 (lv_at hl 4 rfl) ?_
      refine lv_aload_n hx hb dX5_strongest_9 rfl (lv_at hl 0 rfl) ?_
      obtain ⟨b20, e21, v_b20, hf⟩ := rq_some hf
      refine q_get F hK hP v_x0.1 (pF_5 (S := S) v_x0.2) (fun w h => List.mem_cons_of_mem _ (List.mem_append_right _ h)) rfl 1 (by decide) (hts (.fieldLink RX5 7 "SharedModuliModel" "z" "[I") (List.mem_of_getElem? (i := 1) rfl)) (v := .ref b20) (congrArg (fun z => some (va_rf z)) e21) dX5_strongest_10 ?_
      refine lv_iconst (v := 0) hx hb dX5_strongest_13 (by decide) ?_
      obtain ⟨c22, hf⟩ := ckd_some hf
      refine q_iald F hK hP v_b20 c22 dX5_strongest_14 ?_
      refine lv_icmp_ge (tgt := 81) hx hb dX5_strongest_15 (by decide) (fun c23 => ?_) (fun c23 => ?_)
      · have hf := it_t c23 hf
        exact hB81 x2 _ (lv_sub hl [2] rfl)  hf
      · have hf := it_f c23 hf
        refine lv_aload_n hx hb dX5_strongest_18 rfl (lv_at hl 0 rfl) ?_
        refine lv_iload hx hb dX5_strongest_19 (lv_at hl 4 rfl) ?_
        obtain ⟨t24, h25, hf⟩ := bd_some hf
        refine vp_callSi (va_runV (As := [.int x4]) (rest := []) F (c_X5_isOn l D cy (H := _) hP v_x0 h25) (cwV 1 hts gX5_strongest_X5_isOn rfl rfl rfl ⟨rfl, ph_X5_isOn.1, ph_X5_isOn.2, pd_X5_isOn⟩ ⟨Nat.le_of_ble_eq_true rfl, Nat.le_of_ble_eq_true rfl⟩) ⟨PcR.bl, (q_rcv hK hP v_x0.1 (pF_5 (S := S) v_x0.2) rfl), PcR.in hK⟩ rfl rfl hl.1 rfl (lv_room (Nat.le_of_ble_eq_true rfl)) dX5_strongest_21 ⟨Nat.zero_le _, Nat.zero_le _⟩).run (fun r26 er26 => ?_)
        subst r26
        refine lv_if_eq (tgt := 46) hx hb dX5_strongest_24 (by decide) (fun c27 => ?_) (fun c27 => ?_)
        · have hf := it_t c27 hf
          exact hB46 x0 x1 x2 x3 x4 _ (lv_sub hl [0, 1, 2, 3, 4] rfl) v_x0 hf
        · have hf := it_f c27 hf
          refine lv_aload_n hx hb dX5_strongest_27 rfl (lv_at hl 0 rfl) ?_
          refine lv_iload hx hb dX5_strongest_28 (lv_at hl 4 rfl) ?_
          obtain ⟨t28, h29, hf⟩ := bd_some hf
          refine vp_callSi (va_runV (As := [.int x4]) (rest := []) F (c_X5_isVoid l D cy (H := _) hP v_x0 h29) (cwV 1 hts gX5_strongest_X5_isVoid rfl rfl rfl ⟨rfl, ph_X5_isVoid.1, ph_X5_isVoid.2, pd_X5_isVoid⟩ ⟨Nat.le_of_ble_eq_true rfl, Nat.le_of_ble_eq_true rfl⟩) ⟨PcR.bl, (q_rcv hK hP v_x0.1 (pF_5 (S := S) v_x0.2) rfl), PcR.in hK⟩ rfl rfl hl.1 rfl (lv_room (Nat.le_of_ble_eq_true rfl)) dX5_strongest_30 ⟨Nat.zero_le _, Nat.zero_le _⟩).run (fun r30 er30 => ?_)
          subst r30
          refine lv_if_ne (tgt := 46) hx hb dX5_strongest_33 (by decide) (fun c31 => ?_) (fun c31 => ?_)
          · have hf := it_f c31 hf
            exact hB46 x0 x1 x2 x3 x4 _ (lv_sub hl [0, 1, 2, 3, 4] rfl) v_x0 hf
          · have hf := it_t c31 hf
            refine lv_aload_n hx hb dX5_strongest_36 rfl (lv_at hl 0 rfl) ?_
            refine lv_iload hx hb dX5_strongest_37 (lv_at hl 4 rfl) ?_
            refine lv_iload_n hx hb dX5_strongest_39 rfl (lv_at hl 1 rfl) ?_
            obtain ⟨t32, h33, hf⟩ := bd_some hf
            refine vp_callSi (va_runV (As := [.int x4, .int x1]) (rest := []) F (c_X5_powerIn l D cy (H := _) hP v_x0 h33) (cwV 2 hts gX5_strongest_X5_powerIn rfl rfl rfl ⟨rfl, ph_X5_powerIn.1, ph_X5_powerIn.2, pd_X5_powerIn⟩ ⟨Nat.le_of_ble_eq_true rfl, Nat.le_of_ble_eq_true rfl⟩) ⟨PcR.bl, (q_rcv hK hP v_x0.1 (pF_5 (S := S) v_x0.2) rfl), PcR.in hK⟩ rfl rfl hl.1 rfl (lv_room (Nat.le_of_ble_eq_true rfl)) dX5_strongest_40 ⟨Nat.zero_le _, Nat.zero_le _⟩).run (fun r34 er34 => ?_)
            subst r34
            refine lv_goto (tgt := 47) hx hb dX5_strongest_43 (by decide) ?_
            exact hB47 x0 x1 x2 x3 x4 t32 _ (lv_sub hl [0, 1, 2, 3, 4] rfl) v_x0 hf
  have hl := lv_entry ([.ref y0, .int y1]) (n := 6) (Nat.le_of_ble_eq_true rfl)
  rw [lg_entry_eq]
  generalize (lg_sl ([.ref y0, .int y1]) ++ List.replicate (6 - (lg_sl ([.ref y0, .int y1])).length) Slot.unset).toArray = ls at hl ⊢
  have hl : lv_has ls 6 [(0, .ref y0), (1, .int y1)] := hl
  unfold f_X5_strongest at hf
  refine lv_iconst (v := (-1)) hx hb dX5_strongest_0 (by decide) ?_
  refine lv_istore_n (lv' := [(2, .int ((-1))), (0, .ref y0), (1, .int y1)]) hx hb dX5_strongest_1 rfl hl (by decide) rfl (fun ls hl => ?_)
  refine lv_iconst (v := 1) hx hb dX5_strongest_2 (by decide) ?_
  refine lv_istore_n (lv' := [(3, .int 1), (2, .int ((-1))), (0, .ref y0), (1, .int y1)]) hx hb dX5_strongest_3 rfl hl (by decide) rfl (fun ls hl => ?_)
  refine lv_iconst (v := 0) hx hb dX5_strongest_4 (by decide) ?_
  refine lv_istore (lv' := [(4, .int 0), (3, .int 1), (2, .int ((-1))), (0, .ref y0), (1, .int y1)]) hx hb dX5_strongest_5 hl (by decide) rfl (fun ls hl => ?_)
  exact hL7 FU y0 y1 ((-1)) 1 0 _ (lv_sub hl [3, 4, 2, 1, 0] rfl) v_y0 hf
def f_X5_toldPrime_B154 (S : PS) (s0 : Int32) : Option Int32 :=
  some s0
def f_X5_toldPrime_B118 (S : PS) (x0 : Nat) (x2 : Int32) (x3 : Int32) (x4 : Int32) (x5 : Int32) : Option Int32 :=
  if x2 = 0 then (f_X5_toldPrime_B154 S x3) else
  if x2 = 1 then (f_X5_toldPrime_B154 S x4) else
  if x2 = 2 then (bd (f_X5_rest S x0 x3) fun t4 =>
  ck (decide (¬ x4 = 0)) (
  f_X5_toldPrime_B154 S (t4 - t4 / x4 * x4))) else
  f_X5_toldPrime_B154 S x5
def f_X5_toldPrime_B112 (S : PS) (kL44 : Nat → Int32 → Int32 → Int32 → Int32 → Int32 → Int32 → Option Int32) (ke118 : Nat → Int32 → Int32 → Int32 → Int32 → Option Int32) (x0 : Nat) (x1 : Int32) (x2 : Int32) (x3 : Int32) (x4 : Int32) (x5 : Int32) (x6 : Int32) : Option Int32 :=
  kL44 x0 x1 x2 x3 x4 x5 (x6 + 1)
def f_X5_toldPrime_B109 (S : PS) (kL44 : Nat → Int32 → Int32 → Int32 → Int32 → Int32 → Int32 → Option Int32) (ke118 : Nat → Int32 → Int32 → Int32 → Int32 → Option Int32) (x0 : Nat) (x1 : Int32) (x2 : Int32) (x3 : Int32) (x4 : Int32) (x6 : Int32) (s0 : Int32) (s1 : Int32) : Option Int32 :=
  f_X5_toldPrime_B112 S kL44 ke118 x0 x1 x2 x3 x4 (s0 + s1) x6
def f_X5_toldPrime_L44s (S : PS) (kL44 : Nat → Int32 → Int32 → Int32 → Int32 → Int32 → Int32 → Option Int32) (ke118 : Nat → Int32 → Int32 → Int32 → Int32 → Option Int32) (x0 : Nat) (x1 : Int32) (x2 : Int32) (x3 : Int32) (x4 : Int32) (x5 : Int32) (x6 : Int32) : Option Int32 :=
  rq (fR S 81 x0) S 6 fun b8 =>
  ck (decide (¬ ((0 : Int32) < 0 ∨ aN S b8 ≤ (0 : Int32).toNatClampNeg))) (
  if (aI S b8 (0 : Int32).toNatClampNeg) ≤ x6 then (ke118 x0 x2 x3 x4 x5) else
  bd (f_X5_isOn S x0 x6) fun t12 =>
  if t12 = 0 then (f_X5_toldPrime_B112 S kL44 ke118 x0 x1 x2 x3 x4 x5 x6) else
  bd (f_X5_isVoid S x0 x6) fun t16 =>
  if t16 = 0 then (bd (f_X5_powerIn S x0 x6 x1) fun t20 =>
  bd (f_X5_rest S x0 x6) fun t23 =>
  ck (decide (¬ t20 = 0)) (
  bd (f_X5_rest S x0 x3) fun t27 =>
  ck (decide (¬ t20 = 0)) (
  if (t23 - t23 / t20 * t20) = (t27 - t27 / t20 * t20) then (f_X5_toldPrime_B109 S kL44 ke118 x0 x1 x2 x3 x4 x6 x5 0) else
  f_X5_toldPrime_B109 S kL44 ke118 x0 x1 x2 x3 x4 x6 x5 1))) else
  f_X5_toldPrime_B112 S kL44 ke118 x0 x1 x2 x3 x4 x5 x6)
def f_X5_toldPrime_L44 (S : PS) (ke118 : Nat → Int32 → Int32 → Int32 → Int32 → Option Int32) (fu : Nat) : Nat → Int32 → Int32 → Int32 → Int32 → Int32 → Int32 → Option Int32 := fx (fun kL => f_X5_toldPrime_L44s S kL ke118) (fun _ _ _ _ _ _ _ => none) fu
def f_X5_toldPrime_B29 (S : PS) (s0 : Int32) : Option Int32 :=
  some s0
def f_X5_toldPrime (S : PS) (x0 : Nat) (x1 : Int32) (x2 : Int32) : Option Int32 :=
  bd (f_X5_strongest S x0 x1) fun t32 =>
  if t32 = ((-1)) then (if x2 = 0 then (f_X5_toldPrime_B29 S ((-1))) else
  if x2 = 1 then (f_X5_toldPrime_B29 S 1) else
  f_X5_toldPrime_B29 S 0) else
  bd (f_X5_powerIn S x0 t32 x1) fun t36 =>
  f_X5_toldPrime_L44 S (f_X5_toldPrime_B118 S) FU x0 x1 x2 t32 t36 0 0
set_option maxHeartbeats 4000000 in
set_option maxRecDepth 100000 in
theorem c_X5_toldPrime (l : Launch) (D : va_G) (cy : cyT) {H : Heap} {S : PS} (hP : va_P D vwCl (wl cy S) H) {y0 : Nat} {y1 : Int32} {y2 : Int32} (v_y0 : vd S y0 5) {res : Int32} (hf : f_X5_toldPrime S y0 y1 y2 = some res) : Met l yX5_toldPrime wsX5_toldPrime ({ frames := 4, cells := 0, slots := 0, locals := 93 } : Room) (PcR D cy H [.ref y0, .int y1, .int y2]) (vp_Si (fun r => r = res)) 0 0 (fun _ => False) := by
  refine Met.ofW (cc := cX5_toldPrime) (maxL := 8) (ret := (some .int)) (by decide) rfl ?_
  intro p e s m args below meth c s₁ B hml hv
  obtain ⟨hav, hH, hK⟩ := hv
  have hx := B.exec
  have hb := B.bytes
  have hr := B.returns
  have hts := atoms_spec (ws := wsX5_toldPrime) B.pre
  have hown : s.vm.findClass RX5 = some m.cls := findClass_of_methodNamed B.named
  have hlocks := B.notSynchronized
  subst hav
  subst hH
  have F : CallFix p m c cX5_toldPrime 8 s _ wsX5_toldPrime RX5 := ⟨hx, hb, hml, hown, hts⟩
  have hB154 : ∀ (s0 : Int32) (ls : Array Slot), lv_has ls 8 [] → f_X5_toldPrime_B154 S s0 = some res → W p l e (headSpec wsX5_toldPrime ({ frames := 4, cells := 0, slots := 0, locals := 93 } : Room)).room s m ([.ref y0, .int y1, .int y2] : List Value).toArray below meth c s.heap [] 0 0 (MQ below (vp_Si (fun r => r = res)) ([.ref y0, .int y1, .int y2] : List Value).toArray s 0 0 (fun _ => False)) (F0 m 154 ls [.int s0]) := by
    intro s0 ls hl hf
    unfold f_X5_toldPrime_B154 at hf
    exact W.iret (v := s0) hx hb hr (fun t ht hW => ⟨_, rfl, Option.some.inj hf, ht⟩) (fun _ h => by cases h) dX5_toldPrime_154
  have hB118 : ∀ (x0 : Nat) (x2 : Int32) (x3 : Int32) (x4 : Int32) (x5 : Int32) (ls : Array Slot), lv_has ls 8 [(0, .ref x0), (2, .int x2), (3, .int x3), (4, .int x4), (5, .int x5)] → vd S x0 5 → f_X5_toldPrime_B118 S x0 x2 x3 x4 x5 = some res → W p l e (headSpec wsX5_toldPrime ({ frames := 4, cells := 0, slots := 0, locals := 93 } : Room)).room s m ([.ref y0, .int y1, .int y2] : List Value).toArray below meth c s.heap [] 0 0 (MQ below (vp_Si (fun r => r = res)) ([.ref y0, .int y1, .int y2] : List Value).toArray s 0 0 (fun _ => False)) (F0 m 118 ls []) := by
    intro x0 x2 x3 x4 x5 ls hl v_x0 hf
    unfold f_X5_toldPrime_B118 at hf
    refine lv_iload_n hx hb dX5_toldPrime_118 rfl (lv_at hl 1 rfl) ?_
    refine lv_if_ne (tgt := 126) hx hb dX5_toldPrime_119 (by decide) (fun c41 => ?_) (fun c41 => ?_)
    · have hf := it_f c41 hf
      refine lv_iload_n hx hb dX5_toldPrime_126 rfl (lv_at hl 1 rfl) ?_
      refine lv_iconst (v := 1) hx hb dX5_toldPrime_127 (by decide) ?_
      refine lv_icmp_ne (tgt := 136) hx hb dX5_toldPrime_128 (by decide) (fun c42 => ?_) (fun c42 => ?_)
      · have hf := it_f c42 hf
        refine lv_iload_n hx hb dX5_toldPrime_136 rfl (lv_at hl 1 rfl) ?_
        refine lv_iconst (v := 2) hx hb dX5_toldPrime_137 (by decide) ?_
        refine lv_icmp_ne (tgt := 152) hx hb dX5_toldPrime_138 (by decide) (fun c43 => ?_) (fun c43 => ?_)
        · have hf := it_f c43 hf
          refine lv_iload hx hb dX5_toldPrime_152 (lv_at hl 4 rfl) ?_
          exact hB154 x5 _ (lv_sub hl [] rfl)  hf
        · have hf := it_t c43 hf
          refine lv_aload_n hx hb dX5_toldPrime_141 rfl (lv_at hl 0 rfl) ?_
          refine lv_iload_n hx hb dX5_toldPrime_142 rfl (lv_at hl 2 rfl) ?_
          obtain ⟨t44, h45, hf⟩ := bd_some hf
          refine vp_callSi (va_runV (As := [.int x3]) (rest := []) F (c_X5_rest l D cy (H := _) hP v_x0 h45) (cwV 1 hts gX5_toldPrime_X5_rest rfl rfl rfl ⟨rfl, ph_X5_rest.1, ph_X5_rest.2, pd_X5_rest⟩ ⟨Nat.le_of_ble_eq_true rfl, Nat.le_of_ble_eq_true rfl⟩) ⟨PcR.bl, (q_rcv hK hP v_x0.1 (pF_5 (S := S) v_x0.2) rfl), PcR.in hK⟩ rfl rfl hl.1 rfl (lv_room (Nat.le_of_ble_eq_true rfl)) dX5_toldPrime_143 ⟨Nat.zero_le _, Nat.zero_le _⟩).run (fun r46 er46 => ?_)
          subst r46
          refine lv_iload hx hb dX5_toldPrime_146 (lv_at hl 3 rfl) ?_
          obtain ⟨c47, hf⟩ := ckd_some hf
          refine lv_irem hx hb dX5_toldPrime_148 c47 ?_
          refine lv_goto (tgt := 154) hx hb dX5_toldPrime_149 (by decide) ?_
          exact hB154 (t44 - t44 / x4 * x4) _ (lv_sub hl [] rfl)  hf
      · have hf := it_t c42 hf
        refine lv_iload hx hb dX5_toldPrime_131 (lv_at hl 3 rfl) ?_
        refine lv_goto (tgt := 154) hx hb dX5_toldPrime_133 (by decide) ?_
        exact hB154 x4 _ (lv_sub hl [] rfl)  hf
    · have hf := it_t c41 hf
      refine lv_iload_n hx hb dX5_toldPrime_122 rfl (lv_at hl 2 rfl) ?_
      refine lv_goto (tgt := 154) hx hb dX5_toldPrime_123 (by decide) ?_
      exact hB154 x3 _ (lv_sub hl [] rfl)  hf
  have hL44 : ∀ (fu44 : Nat), ∀ (x0 : Nat) (x1 : Int32) (x2 : Int32) (x3 : Int32) (x4 : Int32) (x5 : Int32) (x6 : Int32) (ls : Array Slot), lv_has ls 8 [(0, .ref x0), (1, .int x1), (2, .int x2), (3, .int x3), (4, .int x4), (5, .int x5), (6, .int x6)] → vd S x0 5 → f_X5_toldPrime_L44 S (f_X5_toldPrime_B118 S) fu44 x0 x1 x2 x3 x4 x5 x6 = some res → W p l e (headSpec wsX5_toldPrime ({ frames := 4, cells := 0, slots := 0, locals := 93 } : Room)).room s m ([.ref y0, .int y1, .int y2] : List Value).toArray below meth c s.heap [] 0 0 (MQ below (vp_Si (fun r => r = res)) ([.ref y0, .int y1, .int y2] : List Value).toArray s 0 0 (fun _ => False)) (F0 m 44 ls []) := by
    intro fu44
    induction fu44 with
    | zero =>
      intro x0 x1 x2 x3 x4 x5 x6 ls hl v_x0 hf
      have hf : (none : Option Int32) = some res := hf
      cases hf
    | succ fu44 ih44 =>
      have hB112 : ∀ (x0 : Nat) (x1 : Int32) (x2 : Int32) (x3 : Int32) (x4 : Int32) (x5 : Int32) (x6 : Int32) (ls : Array Slot), lv_has ls 8 [(0, .ref x0), (1, .int x1), (2, .int x2), (3, .int x3), (4, .int x4), (5, .int x5), (6, .int x6)] → vd S x0 5 → f_X5_toldPrime_B112 S (f_X5_toldPrime_L44 S (f_X5_toldPrime_B118 S) fu44) (f_X5_toldPrime_B118 S) x0 x1 x2 x3 x4 x5 x6 = some res → W p l e (headSpec wsX5_toldPrime ({ frames := 4, cells := 0, slots := 0, locals := 93 } : Room)).room s m ([.ref y0, .int y1, .int y2] : List Value).toArray below meth c s.heap [] 0 0 (MQ below (vp_Si (fun r => r = res)) ([.ref y0, .int y1, .int y2] : List Value).toArray s 0 0 (fun _ => False)) (F0 m 112 ls []) := by
        intro x0 x1 x2 x3 x4 x5 x6 ls hl v_x0 hf
        unfold f_X5_toldPrime_B112 at hf
        refine lv_iinc (v := x6 + 1) (lv' := [(6, .int (x6 + 1)), (0, .ref x0), (1, .int x1), (2, .int x2), (3, .int x3), (4, .int x4), (5, .int x5)]) hx hb dX5_toldPrime_112 hl (k := 6) rfl (by rfl) (by decide) rfl (fun ls hl => ?_)
        refine lv_goto (tgt := 44) hx hb dX5_toldPrime_115 (by decide) ?_
        exact ih44 x0 x1 x2 x3 x4 x5 (x6 + 1) _ (lv_sub hl [1, 2, 3, 4, 5, 6, 0] rfl) v_x0 hf
      have hB109 : ∀ (x0 : Nat) (x1 : Int32) (x2 : Int32) (x3 : Int32) (x4 : Int32) (x6 : Int32) (s0 : Int32) (s1 : Int32) (ls : Array Slot), lv_has ls 8 [(0, .ref x0), (1, .int x1), (2, .int x2), (3, .int x3), (4, .int x4), (6, .int x6)] → vd S x0 5 → f_X5_toldPrime_B109 S (f_X5_toldPrime_L44 S (f_X5_toldPrime_B118 S) fu44) (f_X5_toldPrime_B118 S) x0 x1 x2 x3 x4 x6 s0 s1 = some res → W p l e (headSpec wsX5_toldPrime ({ frames := 4, cells := 0, slots := 0, locals := 93 } : Room)).room s m ([.ref y0, .int y1, .int y2] : List Value).toArray below meth c s.heap [] 0 0 (MQ below (vp_Si (fun r => r = res)) ([.ref y0, .int y1, .int y2] : List Value).toArray s 0 0 (fun _ => False)) (F0 m 109 ls [.int s1, .int s0]) := by
        intro x0 x1 x2 x3 x4 x6 s0 s1 ls hl v_x0 hf
        unfold f_X5_toldPrime_B109 at hf
        refine lv_iadd hx hb dX5_toldPrime_109 ?_
        refine lv_istore (lv' := [(5, .int (s0 + s1)), (0, .ref x0), (1, .int x1), (2, .int x2), (3, .int x3), (4, .int x4), (6, .int x6)]) hx hb dX5_toldPrime_110 hl (by decide) rfl (fun ls hl => ?_)
        exact hB112 x0 x1 x2 x3 x4 (s0 + s1) x6 _ (lv_sub hl [1, 2, 3, 4, 5, 0, 6] rfl) v_x0 hf
      intro x0 x1 x2 x3 x4 x5 x6 ls hl v_x0 hf
      have hf : f_X5_toldPrime_L44s S (f_X5_toldPrime_L44 S (f_X5_toldPrime_B118 S) fu44) (f_X5_toldPrime_B118 S) x0 x1 x2 x3 x4 x5 x6 = some res := hf
      unfold f_X5_toldPrime_L44s at hf
      refine lv_iload hx hb dX5_toldPrime_44 (lv_at hl 6 rfl) ?_
      refine lv_aload_n hx hb dX5_toldPrime_46 rfl (lv_at hl 0 rfl) ?_
      obtain ⟨b48, e49, v_b48, hf⟩ := rq_some hf
      refine q_get F hK hP v_x0.1 (pF_5 (S := S) v_x0.2) (fun w h => List.mem_cons_of_mem _ (List.mem_append_right _ h)) rfl 1 (by decide) (hts (.fieldLink RX5 7 "SharedModuliModel" "z" "[I") (List.mem_of_getElem? (i := 1) rfl)) (v := .ref b48) (congrArg (fun z => some (va_rf z)) e49) dX5_toldPrime_47 ?_
      refine lv_iconst (v := 0) hx hb dX5_toldPrime_50 (by decide) ?_
      obtain ⟨c50, hf⟩ := ckd_some hf
      refine q_iald F hK hP v_b48 c50 dX5_toldPrime_51 ?_
      refine lv_icmp_ge (tgt := 118) hx hb dX5_toldPrime_52 (by decide) (fun c51 => ?_) (fun c51 => ?_)
      · have hf := it_t c51 hf
        exact hB118 x0 x2 x3 x4 x5 _ (lv_sub hl [0, 2, 3, 4, 5] rfl) v_x0 hf
      · have hf := it_f c51 hf
        refine lv_aload_n hx hb dX5_toldPrime_55 rfl (lv_at hl 0 rfl) ?_
        refine lv_iload hx hb dX5_toldPrime_56 (lv_at hl 6 rfl) ?_
        obtain ⟨t52, h53, hf⟩ := bd_some hf
        refine vp_callSi (va_runV (As := [.int x6]) (rest := []) F (c_X5_isOn l D cy (H := _) hP v_x0 h53) (cwV 1 hts gX5_toldPrime_X5_isOn rfl rfl rfl ⟨rfl, ph_X5_isOn.1, ph_X5_isOn.2, pd_X5_isOn⟩ ⟨Nat.le_of_ble_eq_true rfl, Nat.le_of_ble_eq_true rfl⟩) ⟨PcR.bl, (q_rcv hK hP v_x0.1 (pF_5 (S := S) v_x0.2) rfl), PcR.in hK⟩ rfl rfl hl.1 rfl (lv_room (Nat.le_of_ble_eq_true rfl)) dX5_toldPrime_58 ⟨Nat.zero_le _, Nat.zero_le _⟩).run (fun r54 er54 => ?_)
        subst r54
        refine lv_if_eq (tgt := 112) hx hb dX5_toldPrime_61 (by decide) (fun c55 => ?_) (fun c55 => ?_)
        · have hf := it_t c55 hf
          exact hB112 x0 x1 x2 x3 x4 x5 x6 _ (lv_sub hl [0, 1, 2, 3, 4, 5, 6] rfl) v_x0 hf
        · have hf := it_f c55 hf
          refine lv_aload_n hx hb dX5_toldPrime_64 rfl (lv_at hl 0 rfl) ?_
          refine lv_iload hx hb dX5_toldPrime_65 (lv_at hl 6 rfl) ?_
          obtain ⟨t56, h57, hf⟩ := bd_some hf
          refine vp_callSi (va_runV (As := [.int x6]) (rest := []) F (c_X5_isVoid l D cy (H := _) hP v_x0 h57) (cwV 1 hts gX5_toldPrime_X5_isVoid rfl rfl rfl ⟨rfl, ph_X5_isVoid.1, ph_X5_isVoid.2, pd_X5_isVoid⟩ ⟨Nat.le_of_ble_eq_true rfl, Nat.le_of_ble_eq_true rfl⟩) ⟨PcR.bl, (q_rcv hK hP v_x0.1 (pF_5 (S := S) v_x0.2) rfl), PcR.in hK⟩ rfl rfl hl.1 rfl (lv_room (Nat.le_of_ble_eq_true rfl)) dX5_toldPrime_67 ⟨Nat.zero_le _, Nat.zero_le _⟩).run (fun r58 er58 => ?_)
          subst r58
          refine lv_if_ne (tgt := 112) hx hb dX5_toldPrime_70 (by decide) (fun c59 => ?_) (fun c59 => ?_)
          · have hf := it_f c59 hf
            exact hB112 x0 x1 x2 x3 x4 x5 x6 _ (lv_sub hl [0, 1, 2, 3, 4, 5, 6] rfl) v_x0 hf
          · have hf := it_t c59 hf
            refine lv_aload_n hx hb dX5_toldPrime_73 rfl (lv_at hl 0 rfl) ?_
            refine lv_iload hx hb dX5_toldPrime_74 (lv_at hl 6 rfl) ?_
            refine lv_iload_n hx hb dX5_toldPrime_76 rfl (lv_at hl 1 rfl) ?_
            obtain ⟨t60, h61, hf⟩ := bd_some hf
            refine vp_callSi (va_runV (As := [.int x6, .int x1]) (rest := []) F (c_X5_powerIn l D cy (H := _) hP v_x0 h61) (cwV 2 hts gX5_toldPrime_X5_powerIn rfl rfl rfl ⟨rfl, ph_X5_powerIn.1, ph_X5_powerIn.2, pd_X5_powerIn⟩ ⟨Nat.le_of_ble_eq_true rfl, Nat.le_of_ble_eq_true rfl⟩) ⟨PcR.bl, (q_rcv hK hP v_x0.1 (pF_5 (S := S) v_x0.2) rfl), PcR.in hK⟩ rfl rfl hl.1 rfl (lv_room (Nat.le_of_ble_eq_true rfl)) dX5_toldPrime_77 ⟨Nat.zero_le _, Nat.zero_le _⟩).run (fun r62 er62 => ?_)
            subst r62
            refine lv_istore (lv' := [(7, .int t60), (0, .ref x0), (1, .int x1), (2, .int x2), (3, .int x3), (4, .int x4), (5, .int x5), (6, .int x6)]) hx hb dX5_toldPrime_80 hl (by decide) rfl (fun ls hl => ?_)
            refine lv_iload hx hb dX5_toldPrime_82 (lv_at hl 6 rfl) ?_
            refine lv_aload_n hx hb dX5_toldPrime_84 rfl (lv_at hl 1 rfl) ?_
            refine lv_iload hx hb dX5_toldPrime_85 (lv_at hl 7 rfl) ?_
            obtain ⟨t63, h64, hf⟩ := bd_some hf
            refine vp_callSi (va_runV (As := [.int x6]) (rest := [.int x5]) F (c_X5_rest l D cy (H := _) hP v_x0 h64) (cwV 1 hts gX5_toldPrime_X5_rest rfl rfl rfl ⟨rfl, ph_X5_rest.1, ph_X5_rest.2, pd_X5_rest⟩ ⟨Nat.le_of_ble_eq_true rfl, Nat.le_of_ble_eq_true rfl⟩) ⟨PcR.bl, (q_rcv hK hP v_x0.1 (pF_5 (S := S) v_x0.2) rfl), PcR.in hK⟩ rfl rfl hl.1 rfl (lv_room (Nat.le_of_ble_eq_true rfl)) dX5_toldPrime_87 ⟨Nat.zero_le _, Nat.zero_le _⟩).run (fun r65 er65 => ?_)
            subst r65
            refine lv_iload hx hb dX5_toldPrime_90 (lv_at hl 0 rfl) ?_
            obtain ⟨c66, hf⟩ := ckd_some hf
            refine lv_irem hx hb dX5_toldPrime_92 c66 ?_
            refine lv_aload_n hx hb dX5_toldPrime_93 rfl (lv_at hl 1 rfl) ?_
            refine lv_iload_n hx hb dX5_toldPrime_94 rfl (lv_at hl 4 rfl) ?_
            obtain ⟨t67, h68, hf⟩ := bd_some hf
            refine vp_callSi (va_runV (As := [.int x3]) (rest := [.int (t63 - t63 / t60 * t60), .int x5]) F (c_X5_rest l D cy (H := _) hP v_x0 h68) (cwV 1 hts gX5_toldPrime_X5_rest rfl rfl rfl ⟨rfl, ph_X5_rest.1, ph_X5_rest.2, pd_X5_rest⟩ ⟨Nat.le_of_ble_eq_true rfl, Nat.le_of_ble_eq_true rfl⟩) ⟨PcR.bl, (q_rcv hK hP v_x0.1 (pF_5 (S := S) v_x0.2) rfl), PcR.in hK⟩ rfl rfl hl.1 rfl (lv_room (Nat.le_of_ble_eq_true rfl)) dX5_toldPrime_95 ⟨Nat.zero_le _, Nat.zero_le _⟩).run (fun r69 er69 => ?_)
            subst r69
            refine lv_iload hx hb dX5_toldPrime_98 (lv_at hl 0 rfl) ?_
            obtain ⟨c70, hf⟩ := ckd_some hf
            refine lv_irem hx hb dX5_toldPrime_100 c70 ?_
            refine lv_icmp_ne (tgt := 108) hx hb dX5_toldPrime_101 (by decide) (fun c71 => ?_) (fun c71 => ?_)
            · have hf := it_f c71 hf
              refine lv_iconst (v := 1) hx hb dX5_toldPrime_108 (by decide) ?_
              exact hB109 x0 x1 x2 x3 x4 x6 x5 1 _ (lv_sub hl [1, 2, 3, 4, 5, 7] rfl) v_x0 hf
            · have hf := it_t c71 hf
              refine lv_iconst (v := 0) hx hb dX5_toldPrime_104 (by decide) ?_
              refine lv_goto (tgt := 109) hx hb dX5_toldPrime_105 (by decide) ?_
              exact hB109 x0 x1 x2 x3 x4 x6 x5 0 _ (lv_sub hl [1, 2, 3, 4, 5, 7] rfl) v_x0 hf
  have hB29 : ∀ (s0 : Int32) (ls : Array Slot), lv_has ls 8 [] → f_X5_toldPrime_B29 S s0 = some res → W p l e (headSpec wsX5_toldPrime ({ frames := 4, cells := 0, slots := 0, locals := 93 } : Room)).room s m ([.ref y0, .int y1, .int y2] : List Value).toArray below meth c s.heap [] 0 0 (MQ below (vp_Si (fun r => r = res)) ([.ref y0, .int y1, .int y2] : List Value).toArray s 0 0 (fun _ => False)) (F0 m 29 ls [.int s0]) := by
    intro s0 ls hl hf
    unfold f_X5_toldPrime_B29 at hf
    exact W.iret (v := s0) hx hb hr (fun t ht hW => ⟨_, rfl, Option.some.inj hf, ht⟩) (fun _ h => by cases h) dX5_toldPrime_29
  have hl := lv_entry ([.ref y0, .int y1, .int y2]) (n := 8) (Nat.le_of_ble_eq_true rfl)
  rw [lg_entry_eq]
  generalize (lg_sl ([.ref y0, .int y1, .int y2]) ++ List.replicate (8 - (lg_sl ([.ref y0, .int y1, .int y2])).length) Slot.unset).toArray = ls at hl ⊢
  have hl : lv_has ls 8 [(0, .ref y0), (1, .int y1), (2, .int y2)] := hl
  unfold f_X5_toldPrime at hf
  refine lv_aload_n hx hb dX5_toldPrime_0 rfl (lv_at hl 0 rfl) ?_
  refine lv_iload_n hx hb dX5_toldPrime_1 rfl (lv_at hl 1 rfl) ?_
  obtain ⟨t72, h73, hf⟩ := bd_some hf
  refine vp_callSi (va_runV (As := [.int y1]) (rest := []) F (c_X5_strongest l D cy (H := _) hP v_y0 h73) (cwV 1 hts gX5_toldPrime_X5_strongest rfl rfl rfl ⟨rfl, ph_X5_strongest.1, ph_X5_strongest.2, pd_X5_strongest⟩ ⟨Nat.le_of_ble_eq_true rfl, Nat.le_of_ble_eq_true rfl⟩) ⟨PcR.bl, (q_rcv hK hP v_y0.1 (pF_5 (S := S) v_y0.2) rfl), PcR.in hK⟩ rfl rfl hl.1 rfl (lv_room (Nat.le_of_ble_eq_true rfl)) dX5_toldPrime_2 ⟨Nat.zero_le _, Nat.zero_le _⟩).run (fun r74 er74 => ?_)
  subst r74
  refine lv_istore_n (lv' := [(3, .int t72), (0, .ref y0), (1, .int y1), (2, .int y2)]) hx hb dX5_toldPrime_5 rfl hl (by decide) rfl (fun ls hl => ?_)
  refine lv_iload_n hx hb dX5_toldPrime_6 rfl (lv_at hl 0 rfl) ?_
  refine lv_iconst (v := (-1)) hx hb dX5_toldPrime_7 (by decide) ?_
  refine lv_icmp_ne (tgt := 30) hx hb dX5_toldPrime_8 (by decide) (fun c75 => ?_) (fun c75 => ?_)
  · have hf := it_f c75 hf
    refine lv_aload_n hx hb dX5_toldPrime_30 rfl (lv_at hl 1 rfl) ?_
    refine lv_iload_n hx hb dX5_toldPrime_31 rfl (lv_at hl 0 rfl) ?_
    refine lv_iload_n hx hb dX5_toldPrime_32 rfl (lv_at hl 2 rfl) ?_
    obtain ⟨t76, h77, hf⟩ := bd_some hf
    refine vp_callSi (va_runV (As := [.int t72, .int y1]) (rest := []) F (c_X5_powerIn l D cy (H := _) hP v_y0 h77) (cwV 2 hts gX5_toldPrime_X5_powerIn rfl rfl rfl ⟨rfl, ph_X5_powerIn.1, ph_X5_powerIn.2, pd_X5_powerIn⟩ ⟨Nat.le_of_ble_eq_true rfl, Nat.le_of_ble_eq_true rfl⟩) ⟨PcR.bl, (q_rcv hK hP v_y0.1 (pF_5 (S := S) v_y0.2) rfl), PcR.in hK⟩ rfl rfl hl.1 rfl (lv_room (Nat.le_of_ble_eq_true rfl)) dX5_toldPrime_33 ⟨Nat.zero_le _, Nat.zero_le _⟩).run (fun r78 er78 => ?_)
    subst r78
    refine lv_istore (lv' := [(4, .int t76), (3, .int t72), (0, .ref y0), (1, .int y1), (2, .int y2)]) hx hb dX5_toldPrime_36 hl (by decide) rfl (fun ls hl => ?_)
    refine lv_iconst (v := 0) hx hb dX5_toldPrime_38 (by decide) ?_
    refine lv_istore (lv' := [(5, .int 0), (4, .int t76), (3, .int t72), (0, .ref y0), (1, .int y1), (2, .int y2)]) hx hb dX5_toldPrime_39 hl (by decide) rfl (fun ls hl => ?_)
    refine lv_iconst (v := 0) hx hb dX5_toldPrime_41 (by decide) ?_
    refine lv_istore (lv' := [(6, .int 0), (5, .int 0), (4, .int t76), (3, .int t72), (0, .ref y0), (1, .int y1), (2, .int y2)]) hx hb dX5_toldPrime_42 hl (by decide) rfl (fun ls hl => ?_)
    exact hL44 FU y0 y1 y2 t72 t76 0 0 _ (lv_sub hl [4, 5, 6, 3, 2, 1, 0] rfl) v_y0 hf
  · have hf := it_t c75 hf
    refine lv_iload_n hx hb dX5_toldPrime_11 rfl (lv_at hl 3 rfl) ?_
    refine lv_if_ne (tgt := 19) hx hb dX5_toldPrime_12 (by decide) (fun c79 => ?_) (fun c79 => ?_)
    · have hf := it_f c79 hf
      refine lv_iload_n hx hb dX5_toldPrime_19 rfl (lv_at hl 3 rfl) ?_
      refine lv_iconst (v := 1) hx hb dX5_toldPrime_20 (by decide) ?_
      refine lv_icmp_ne (tgt := 28) hx hb dX5_toldPrime_21 (by decide) (fun c80 => ?_) (fun c80 => ?_)
      · have hf := it_f c80 hf
        refine lv_iconst (v := 0) hx hb dX5_toldPrime_28 (by decide) ?_
        exact hB29 0 _ (lv_sub hl [] rfl)  hf
      · have hf := it_t c80 hf
        refine lv_iconst (v := 1) hx hb dX5_toldPrime_24 (by decide) ?_
        refine lv_goto (tgt := 29) hx hb dX5_toldPrime_25 (by decide) ?_
        exact hB29 1 _ (lv_sub hl [] rfl)  hf
    · have hf := it_t c79 hf
      refine lv_iconst (v := (-1)) hx hb dX5_toldPrime_15 (by decide) ?_
      refine lv_goto (tgt := 29) hx hb dX5_toldPrime_16 (by decide) ?_
      exact hB29 ((-1)) _ (lv_sub hl [] rfl)  hf
def f_X5_prime_B42 (S : PS) (s0 : Int32) : Option (Int32 × PS) :=
  some (s0, S)
def f_X5_prime_B22 (S : PS) (x0 : Nat) (x1 : Int32) (x2 : Int32) (s0 : Nat) (s1 : Int32) : Option (Int32 × PS) :=
  if (fI (sI S 80 s0 s1) 80 x0) ≤ 0 then (bd (f_X5_toldPrime (sI S 80 s0 s1) x0 x1 x2) fun t2 =>
  f_X5_prime_B42 (sI S 80 s0 s1) t2) else
  f_X5_prime_B42 (sI S 80 s0 s1) 0
def f_X5_prime_B21 (S : PS) (x0 : Nat) (x1 : Int32) (x2 : Int32) (s0 : Nat) : Option (Int32 × PS) :=
  f_X5_prime_B22 S x0 x1 x2 s0 1
def f_X5_prime (S : PS) (x0 : Nat) (x1 : Int32) (x2 : Int32) : Option (Int32 × PS) :=
  bd (f_X5_isPrime x1) fun t5 =>
  if t5 = 0 then (f_X5_prime_B21 S x0 x1 x2 x0) else
  bd (f_X5_in x2 0 3) fun t9 =>
  if t9 = 0 then (f_X5_prime_B21 S x0 x1 x2 x0) else
  f_X5_prime_B22 S x0 x1 x2 x0 0
set_option maxHeartbeats 4000000 in
set_option maxRecDepth 100000 in
theorem c_X5_prime (l : Launch) (D : va_G) (cy : cyT) {S : PS} {n : Nat} {y0 : Nat} {y1 : Int32} {y2 : Int32} (v_y0 : vd S y0 5) {res : Int32 × PS} (hf : f_X5_prime S y0 y1 y2 = some res) : Met l yX5_prime wsX5_prime ({ frames := 5, cells := 0, slots := 0, locals := 120 } : Room) (PcW False D cy S n [.ref y0, .int y1, .int y2]) (va_Qi (fun (r : Int32) (u : PS × Nat) => r = res.1 ∧ u = (res.2, n)) (BW D cy S n) (AA cy S n)) 0 0 (AA cy S n) := by
  refine Met.ofW (cc := cX5_prime) (maxL := 3) (ret := (some .int)) (by decide) rfl ?_
  intro p e s m args below meth c s₁ B hml hv
  obtain ⟨hav, hsz, hP0, hD0, hK, hZ0⟩ := hv
  have hx := B.exec
  have hb := B.bytes
  have hr := B.returns
  have hts := atoms_spec (ws := wsX5_prime) B.pre
  have hown : s.vm.findClass RX5 = some m.cls := findClass_of_methodNamed B.named
  have hlocks := B.notSynchronized
  subst hav
  have hw : Hw D cy (AA cy S n) s.heap S n s.heap [] := Hw.start hsz hP0 hD0
  have hA : ∀ q, s.heap.size ≤ q → AA cy S n q := fun q h => Or.inr (hsz ▸ h)
  have hE : EX S S := EX.rf
  have F : CallFix p m c cX5_prime 3 s _ wsX5_prime RX5 := ⟨hx, hb, hml, hown, hts⟩
  have hB42 : ∀ (Sb : PS) (H1 : Heap) (lo1 : List Loc) (s0 : Int32) (ls : Array Slot), lv_has ls 3 [] → Hw D cy (AA cy S n) s.heap Sb n H1 lo1 → EX S Sb → f_X5_prime_B42 Sb s0 = some res → W p l e (headSpec wsX5_prime ({ frames := 5, cells := 0, slots := 0, locals := 120 } : Room)).room s m ([.ref y0, .int y1, .int y2] : List Value).toArray below meth c H1 lo1 0 0 (MQ below (va_Qi (fun (r : Int32) (u : PS × Nat) => r = res.1 ∧ u = (res.2, n)) (BW D cy S n) (AA cy S n)) ([.ref y0, .int y1, .int y2] : List Value).toArray s 0 0 (AA cy S n)) (F0 m 42 ls [.int s0]) := by
    intro Sb H1 lo1 s0 ls hl hw hE hf
    unfold f_X5_prime_B42 at hf
    exact W.iret (v := s0) hx hb hr (fun t ht hW => ⟨⟨_, (Sb, n), rfl, po2 hf, BW.of hw hE ht⟩, hw.2.2.1.F ht⟩) hw.2.2.1.2.2 dX5_prime_42
  have hB22 : ∀ (Sb : PS) (H1 : Heap) (lo1 : List Loc) (x0 : Nat) (x1 : Int32) (x2 : Int32) (s0 : Nat) (s1 : Int32) (ls : Array Slot), lv_has ls 3 [(0, .ref x0), (1, .int x1), (2, .int x2)] → Hw D cy (AA cy S n) s.heap Sb n H1 lo1 → EX S Sb → vd Sb x0 5 → vd Sb s0 5 → f_X5_prime_B22 Sb x0 x1 x2 s0 s1 = some res → W p l e (headSpec wsX5_prime ({ frames := 5, cells := 0, slots := 0, locals := 120 } : Room)).room s m ([.ref y0, .int y1, .int y2] : List Value).toArray below meth c H1 lo1 0 0 (MQ below (va_Qi (fun (r : Int32) (u : PS × Nat) => r = res.1 ∧ u = (res.2, n)) (BW D cy S n) (AA cy S n)) ([.ref y0, .int y1, .int y2] : List Value).toArray s 0 0 (AA cy S n)) (F0 m 22 ls [.int s1, .ref s0]) := by
    intro Sb H1 lo1 x0 x1 x2 s0 s1 ls hl hw hE v_x0 v_s0 hf
    unfold f_X5_prime_B22 at hf
    refine q_put F hK hw v_s0.1 (pF_5 (S := Sb) v_s0.2) (fun w h => List.mem_cons_of_mem _ (List.mem_append_right _ h)) tyX5 tyX5_ok nmX5 rfl 0 (by decide) (hts (.fieldLink RX5 22 "SharedModuliModel" "thrown" "I") (List.mem_of_getElem? (i := 1) rfl)) (Or.inl rfl) (tyX5_ok 0 (by decide)) rfl rfl (Nat.le_of_ble_eq_true rfl) (S1 := sI Sb 80 s0 s1) (st_80 (S := Sb) v_s0.2 s1) dX5_prime_22 (fun H locs hw => ?_)
    refine lv_aload_n hx hb dX5_prime_25 rfl (lv_at hl 0 rfl) ?_
    refine q_get F hK hw.1 v_x0.1 (pF_5 (S := sI Sb 80 s0 s1) v_x0.2) (fun w h => List.mem_cons_of_mem _ (List.mem_append_right _ h)) rfl 0 (by decide) (hts (.fieldLink RX5 22 "SharedModuliModel" "thrown" "I") (List.mem_of_getElem? (i := 1) rfl)) (v := .int (fI (sI Sb 80 s0 s1) 80 x0)) rfl dX5_prime_26 ?_
    refine lv_if_le (tgt := 36) hx hb dX5_prime_29 (by decide) (fun c13 => ?_) (fun c13 => ?_)
    · have hf := it_t c13 hf
      refine lv_aload_n hx hb dX5_prime_36 rfl (lv_at hl 0 rfl) ?_
      refine lv_iload_n hx hb dX5_prime_37 rfl (lv_at hl 1 rfl) ?_
      refine lv_iload_n hx hb dX5_prime_38 rfl (lv_at hl 2 rfl) ?_
      obtain ⟨t14, h15, hf⟩ := bd_some hf
      refine vp_callSi (va_runV (As := [.int x1, .int x2]) (rest := []) F (c_X5_toldPrime l D cy (H := _) hw.1 v_x0 h15) (cwV 2 hts gX5_prime_X5_toldPrime rfl rfl rfl ⟨rfl, ph_X5_toldPrime.1, ph_X5_toldPrime.2, pd_X5_toldPrime⟩ ⟨Nat.le_of_ble_eq_true rfl, Nat.le_of_ble_eq_true rfl⟩) ⟨PcR.bl, (q_rcv hK hw.1 v_x0.1 (pF_5 (S := sI Sb 80 s0 s1) v_x0.2) rfl), PcR.in hK⟩ rfl rfl hl.1 rfl (lv_room (Nat.le_of_ble_eq_true rfl)) dX5_prime_39 ⟨Nat.zero_le _, Nat.zero_le _⟩).run (fun r16 er16 => ?_)
      subst r16
      exact hB42 (sI Sb 80 s0 s1) _ _ t14 _ (lv_sub hl [] rfl) hw hE  hf
    · have hf := it_f c13 hf
      refine lv_iconst (v := 0) hx hb dX5_prime_32 (by decide) ?_
      refine lv_goto (tgt := 42) hx hb dX5_prime_33 (by decide) ?_
      exact hB42 (sI Sb 80 s0 s1) _ _ 0 _ (lv_sub hl [] rfl) hw hE  hf
  have hB21 : ∀ (Sb : PS) (H1 : Heap) (lo1 : List Loc) (x0 : Nat) (x1 : Int32) (x2 : Int32) (s0 : Nat) (ls : Array Slot), lv_has ls 3 [(0, .ref x0), (1, .int x1), (2, .int x2)] → Hw D cy (AA cy S n) s.heap Sb n H1 lo1 → EX S Sb → vd Sb x0 5 → vd Sb s0 5 → f_X5_prime_B21 Sb x0 x1 x2 s0 = some res → W p l e (headSpec wsX5_prime ({ frames := 5, cells := 0, slots := 0, locals := 120 } : Room)).room s m ([.ref y0, .int y1, .int y2] : List Value).toArray below meth c H1 lo1 0 0 (MQ below (va_Qi (fun (r : Int32) (u : PS × Nat) => r = res.1 ∧ u = (res.2, n)) (BW D cy S n) (AA cy S n)) ([.ref y0, .int y1, .int y2] : List Value).toArray s 0 0 (AA cy S n)) (F0 m 21 ls [.ref s0]) := by
    intro Sb H1 lo1 x0 x1 x2 s0 ls hl hw hE v_x0 v_s0 hf
    unfold f_X5_prime_B21 at hf
    refine lv_iconst (v := 1) hx hb dX5_prime_21 (by decide) ?_
    exact hB22 Sb _ _ x0 x1 x2 s0 1 _ (lv_sub hl [0, 1, 2] rfl) hw hE v_x0 v_s0 hf
  have hl := lv_entry ([.ref y0, .int y1, .int y2]) (n := 3) (Nat.le_of_ble_eq_true rfl)
  rw [lg_entry_eq]
  generalize (lg_sl ([.ref y0, .int y1, .int y2]) ++ List.replicate (3 - (lg_sl ([.ref y0, .int y1, .int y2])).length) Slot.unset).toArray = ls at hl ⊢
  have hl : lv_has ls 3 [(0, .ref y0), (1, .int y1), (2, .int y2)] := hl
  unfold f_X5_prime at hf
  refine lv_aload_n hx hb dX5_prime_0 rfl (lv_at hl 0 rfl) ?_
  refine lv_iload_n hx hb dX5_prime_1 rfl (lv_at hl 1 rfl) ?_
  obtain ⟨t17, h18, hf⟩ := bd_some hf
  refine vp_callSi (va_runS (As := [.int y1]) (rest := [.ref y0]) F (c_X5_isPrime l D cy (H := _)  h18) (va_cwS 1 hts gX5_prime_X5_isPrime rfl rfl rfl ⟨ph_X5_isPrime.1, ph_X5_isPrime.2, pd_X5_isPrime⟩ ⟨Nat.le_of_ble_eq_true rfl, Nat.le_of_ble_eq_true rfl⟩) ⟨PcR.bl, PcR.in hK⟩ rfl rfl hl.1 rfl (lv_room (Nat.le_of_ble_eq_true rfl)) dX5_prime_2 ⟨Nat.zero_le _, Nat.zero_le _⟩).run (fun r19 er19 => ?_)
  subst r19
  refine lv_if_eq (tgt := 21) hx hb dX5_prime_5 (by decide) (fun c20 => ?_) (fun c20 => ?_)
  · have hf := it_t c20 hf
    exact hB21 S _ _ y0 y1 y2 y0 _ (lv_sub hl [0, 1, 2] rfl) hw hE v_y0 v_y0 hf
  · have hf := it_f c20 hf
    refine lv_iload_n hx hb dX5_prime_8 rfl (lv_at hl 2 rfl) ?_
    refine lv_iconst (v := 0) hx hb dX5_prime_9 (by decide) ?_
    refine lv_iconst (v := 3) hx hb dX5_prime_10 (by decide) ?_
    obtain ⟨t21, h22, hf⟩ := bd_some hf
    refine vp_callSi (va_runS (As := [.int y2, .int 0, .int 3]) (rest := [.ref y0]) F (c_X5_in l D cy (H := _)  h22) (va_cwS 3 hts gX5_prime_X5_in rfl rfl rfl ⟨ph_X5_in.1, ph_X5_in.2, pd_X5_in⟩ ⟨Nat.le_of_ble_eq_true rfl, Nat.le_of_ble_eq_true rfl⟩) ⟨PcR.bl, PcR.in hK⟩ rfl rfl hl.1 rfl (lv_room (Nat.le_of_ble_eq_true rfl)) dX5_prime_11 ⟨Nat.zero_le _, Nat.zero_le _⟩).run (fun r23 er23 => ?_)
    subst r23
    refine lv_if_eq (tgt := 21) hx hb dX5_prime_14 (by decide) (fun c24 => ?_) (fun c24 => ?_)
    · have hf := it_t c24 hf
      exact hB21 S _ _ y0 y1 y2 y0 _ (lv_sub hl [0, 1, 2] rfl) hw hE v_y0 v_y0 hf
    · have hf := it_f c24 hf
      refine lv_iconst (v := 0) hx hb dX5_prime_17 (by decide) ?_
      refine lv_goto (tgt := 22) hx hb dX5_prime_18 (by decide) ?_
      exact hB22 S _ _ y0 y1 y2 y0 0 _ (lv_sub hl [0, 1, 2] rfl) hw hE v_y0 v_y0 hf
def f_X5_answerFrom_B37 (S : PS) (s0 : Int64) (s1 : Int64) : Option Int64 :=
  some (s0 + s1)
def f_X5_answerFrom (S : PS) (x0 : Nat) (x1 : Int64) : Option Int64 :=
  ck (decide (¬ (fL S 86 x0) = 0)) (
  if (fL S 87 x0) < (x1 - x1 / (fL S 86 x0) * (fL S 86 x0)) then (f_X5_answerFrom_B37 S x1 (((fL S 87 x0) - (x1 - x1 / (fL S 86 x0) * (fL S 86 x0))) + (fL S 86 x0))) else
  f_X5_answerFrom_B37 S x1 ((fL S 87 x0) - (x1 - x1 / (fL S 86 x0) * (fL S 86 x0))))
set_option maxHeartbeats 4000000 in
set_option maxRecDepth 100000 in
theorem c_X5_answerFrom (l : Launch) (D : va_G) (cy : cyT) {H : Heap} {S : PS} (hP : va_P D vwCl (wl cy S) H) {y0 : Nat} {y1 : Int64} (v_y0 : vd S y0 5) {res : Int64} (hf : f_X5_answerFrom S y0 y1 = some res) : Met l yX5_answerFrom wsX5_answerFrom ({ frames := 0, cells := 0, slots := 0, locals := 0 } : Room) (PcR D cy H [.ref y0, .long y1]) (vp_Sl (fun r => r = res)) 0 0 (fun _ => False) := by
  refine Met.ofW (cc := cX5_answerFrom) (maxL := 5) (ret := (some .long)) (by decide) rfl ?_
  intro p e s m args below meth c s₁ B hml hv
  obtain ⟨hav, hH, hK⟩ := hv
  have hx := B.exec
  have hb := B.bytes
  have hr := B.returns
  have hts := atoms_spec (ws := wsX5_answerFrom) B.pre
  have hown : s.vm.findClass RX5 = some m.cls := findClass_of_methodNamed B.named
  have hlocks := B.notSynchronized
  subst hav
  subst hH
  have F : CallFix p m c cX5_answerFrom 5 s _ wsX5_answerFrom RX5 := ⟨hx, hb, hml, hown, hts⟩
  have hB37 : ∀ (s0 : Int64) (s1 : Int64) (ls : Array Slot), lv_has ls 5 [] → f_X5_answerFrom_B37 S s0 s1 = some res → W p l e (headSpec wsX5_answerFrom ({ frames := 0, cells := 0, slots := 0, locals := 0 } : Room)).room s m ([.ref y0, .long y1] : List Value).toArray below meth c s.heap [] 0 0 (MQ below (vp_Sl (fun r => r = res)) ([.ref y0, .long y1] : List Value).toArray s 0 0 (fun _ => False)) (F0 m 37 ls [.long s1, .long s0]) := by
    intro s0 s1 ls hl hf
    unfold f_X5_answerFrom_B37 at hf
    refine lv_ladd hx hb dX5_answerFrom_37 ?_
    exact W.lret (v := (s0 + s1)) hx hb hr (fun t ht hW => ⟨_, rfl, Option.some.inj hf, ht⟩) (fun _ h => by cases h) dX5_answerFrom_38
  have hl := lv_entry ([.ref y0, .long y1]) (n := 5) (Nat.le_of_ble_eq_true rfl)
  rw [lg_entry_eq]
  generalize (lg_sl ([.ref y0, .long y1]) ++ List.replicate (5 - (lg_sl ([.ref y0, .long y1])).length) Slot.unset).toArray = ls at hl ⊢
  have hl : lv_has ls 5 [(0, .ref y0), (1, .long y1)] := hl
  unfold f_X5_answerFrom at hf
  refine lv_lload_n hx hb dX5_answerFrom_0 rfl (lv_at hl 1 rfl) ?_
  refine lv_aload_n hx hb dX5_answerFrom_1 rfl (lv_at hl 0 rfl) ?_
  refine q_get F hK hP v_y0.1 (pF_5 (S := S) v_y0.2) (fun w h => List.mem_cons_of_mem _ (List.mem_append_right _ h)) rfl 6 (by decide) (hts (.fieldLink RX5 56 "SharedModuliModel" "n" "J") (List.mem_of_getElem? (i := 1) rfl)) (v := .long (fL S 86 y0)) rfl dX5_answerFrom_2 ?_
  obtain ⟨c3, hf⟩ := ckd_some hf
  refine lv_lrem hx hb dX5_answerFrom_5 c3 ?_
  refine lv_lstore_n (lv' := [(3, .long (y1 - y1 / (fL S 86 y0) * (fL S 86 y0))), (0, .ref y0), (1, .long y1)]) hx hb dX5_answerFrom_6 rfl hl (by decide) rfl (fun ls hl => ?_)
  refine lv_lload_n hx hb dX5_answerFrom_7 rfl (lv_at hl 2 rfl) ?_
  refine lv_aload_n hx hb dX5_answerFrom_8 rfl (lv_at hl 1 rfl) ?_
  refine q_get F hK hP v_y0.1 (pF_5 (S := S) v_y0.2) (fun w h => List.mem_cons_of_mem _ (List.mem_append_right _ h)) rfl 7 (by decide) (hts (.fieldLink RX5 64 "SharedModuliModel" "\x72" "J") (List.mem_of_getElem? (i := 2) rfl)) (v := .long (fL S 87 y0)) rfl dX5_answerFrom_9 ?_
  refine lv_lload_n hx hb dX5_answerFrom_12 rfl (lv_at hl 0 rfl) ?_
  refine W.lcmp hx hb dX5_answerFrom_13 ?_
  refine lv_if_lt (tgt := 26) hx hb dX5_answerFrom_14 (by decide) (fun c4 => ?_) (fun c4 => ?_)
  · have hf := it_t ((lq_lt _ _).mp c4) hf
    refine lv_aload_n hx hb dX5_answerFrom_26 rfl (lv_at hl 1 rfl) ?_
    refine q_get F hK hP v_y0.1 (pF_5 (S := S) v_y0.2) (fun w h => List.mem_cons_of_mem _ (List.mem_append_right _ h)) rfl 7 (by decide) (hts (.fieldLink RX5 64 "SharedModuliModel" "\x72" "J") (List.mem_of_getElem? (i := 2) rfl)) (v := .long (fL S 87 y0)) rfl dX5_answerFrom_27 ?_
    refine lv_lload_n hx hb dX5_answerFrom_30 rfl (lv_at hl 0 rfl) ?_
    refine lv_lsub hx hb dX5_answerFrom_31 ?_
    refine lv_aload_n hx hb dX5_answerFrom_32 rfl (lv_at hl 1 rfl) ?_
    refine q_get F hK hP v_y0.1 (pF_5 (S := S) v_y0.2) (fun w h => List.mem_cons_of_mem _ (List.mem_append_right _ h)) rfl 6 (by decide) (hts (.fieldLink RX5 56 "SharedModuliModel" "n" "J") (List.mem_of_getElem? (i := 1) rfl)) (v := .long (fL S 86 y0)) rfl dX5_answerFrom_33 ?_
    refine lv_ladd hx hb dX5_answerFrom_36 ?_
    exact hB37 y1 (((fL S 87 y0) - (y1 - y1 / (fL S 86 y0) * (fL S 86 y0))) + (fL S 86 y0)) _ (lv_sub hl [] rfl)  hf
  · have hf := it_f (fun z => c4 ((lq_lt _ _).mpr z)) hf
    refine lv_aload_n hx hb dX5_answerFrom_17 rfl (lv_at hl 1 rfl) ?_
    refine q_get F hK hP v_y0.1 (pF_5 (S := S) v_y0.2) (fun w h => List.mem_cons_of_mem _ (List.mem_append_right _ h)) rfl 7 (by decide) (hts (.fieldLink RX5 64 "SharedModuliModel" "\x72" "J") (List.mem_of_getElem? (i := 2) rfl)) (v := .long (fL S 87 y0)) rfl dX5_answerFrom_18 ?_
    refine lv_lload_n hx hb dX5_answerFrom_21 rfl (lv_at hl 0 rfl) ?_
    refine lv_lsub hx hb dX5_answerFrom_22 ?_
    refine lv_goto (tgt := 37) hx hb dX5_answerFrom_23 (by decide) ?_
    exact hB37 y1 ((fL S 87 y0) - (y1 - y1 / (fL S 86 y0) * (fL S 86 y0))) _ (lv_sub hl [] rfl)  hf
def f_X5_answered_B30 (S : PS) (s0 : Int64) : Option (Int64 × PS) :=
  some (s0, S)
def f_X5_answered (S : PS) (x0 : Nat) (x1 : Int64) (x3 : Int32) : Option (Int64 × PS) :=
  bd (f_X5_onSet S x0) fun t1 =>
  bd (f_X5_join S x0 t1) fun t4 =>
  if t4.1 = 0 then (f_X5_answered_B30 t4.2 ((-1))) else
  bd (f_X5_answerFrom t4.2 x0 x1) fun t7 =>
  f_X5_answered_B30 t4.2 (t7 + (x3.toInt64 * (fL t4.2 86 x0)))
set_option maxHeartbeats 4000000 in
set_option maxRecDepth 100000 in
theorem c_X5_answered (l : Launch) (D : va_G) (cy : cyT) {S : PS} {n : Nat} {y0 : Nat} {y1 : Int64} {y3 : Int32} (v_y0 : vd S y0 5) {res : Int64 × PS} (hf : f_X5_answered S y0 y1 y3 = some res) : Met l yX5_answered wsX5_answered ({ frames := 5, cells := 0, slots := 0, locals := 115 } : Room) (PcW False D cy S n [.ref y0, .long y1, .int y3]) (va_Ql (fun (r : Int64) (u : PS × Nat) => r = res.1 ∧ u = (res.2, n)) (BW D cy S n) (AA cy S n)) 0 0 (AA cy S n) := by
  refine Met.ofW (cc := cX5_answered) (maxL := 4) (ret := (some .long)) (by decide) rfl ?_
  intro p e s m args below meth c s₁ B hml hv
  obtain ⟨hav, hsz, hP0, hD0, hK, hZ0⟩ := hv
  have hx := B.exec
  have hb := B.bytes
  have hr := B.returns
  have hts := atoms_spec (ws := wsX5_answered) B.pre
  have hown : s.vm.findClass RX5 = some m.cls := findClass_of_methodNamed B.named
  have hlocks := B.notSynchronized
  subst hav
  have hw : Hw D cy (AA cy S n) s.heap S n s.heap [] := Hw.start hsz hP0 hD0
  have hA : ∀ q, s.heap.size ≤ q → AA cy S n q := fun q h => Or.inr (hsz ▸ h)
  have hE : EX S S := EX.rf
  have F : CallFix p m c cX5_answered 4 s _ wsX5_answered RX5 := ⟨hx, hb, hml, hown, hts⟩
  have hB30 : ∀ (Sb : PS) (H1 : Heap) (lo1 : List Loc) (s0 : Int64) (ls : Array Slot), lv_has ls 4 [] → Hw D cy (AA cy S n) s.heap Sb n H1 lo1 → EX S Sb → f_X5_answered_B30 Sb s0 = some res → W p l e (headSpec wsX5_answered ({ frames := 5, cells := 0, slots := 0, locals := 115 } : Room)).room s m ([.ref y0, .long y1, .int y3] : List Value).toArray below meth c H1 lo1 0 0 (MQ below (va_Ql (fun (r : Int64) (u : PS × Nat) => r = res.1 ∧ u = (res.2, n)) (BW D cy S n) (AA cy S n)) ([.ref y0, .long y1, .int y3] : List Value).toArray s 0 0 (AA cy S n)) (F0 m 30 ls [.long s0]) := by
    intro Sb H1 lo1 s0 ls hl hw hE hf
    unfold f_X5_answered_B30 at hf
    exact W.lret (v := s0) hx hb hr (fun t ht hW => ⟨⟨_, (Sb, n), rfl, po2 hf, BW.of hw hE ht⟩, hw.2.2.1.F ht⟩) hw.2.2.1.2.2 dX5_answered_30
  have hl := lv_entry ([.ref y0, .long y1, .int y3]) (n := 4) (Nat.le_of_ble_eq_true rfl)
  rw [lg_entry_eq]
  generalize (lg_sl ([.ref y0, .long y1, .int y3]) ++ List.replicate (4 - (lg_sl ([.ref y0, .long y1, .int y3])).length) Slot.unset).toArray = ls at hl ⊢
  have hl : lv_has ls 4 [(0, .ref y0), (1, .long y1), (3, .int y3)] := hl
  unfold f_X5_answered at hf
  refine lv_aload_n hx hb dX5_answered_0 rfl (lv_at hl 0 rfl) ?_
  refine lv_aload_n hx hb dX5_answered_1 rfl (lv_at hl 0 rfl) ?_
  obtain ⟨t10, h11, hf⟩ := bd_some hf
  refine vp_callSi (va_runV (As := []) (rest := [.ref y0]) F (c_X5_onSet l D cy (H := _) hw.1 v_y0 h11) (cwV 0 hts gX5_answered_X5_onSet rfl rfl rfl ⟨rfl, ph_X5_onSet.1, ph_X5_onSet.2, pd_X5_onSet⟩ ⟨Nat.le_of_ble_eq_true rfl, Nat.le_of_ble_eq_true rfl⟩) ⟨PcR.bl, (q_rcv hK hw.1 v_y0.1 (pF_5 (S := S) v_y0.2) rfl), PcR.in hK⟩ rfl rfl hl.1 rfl (lv_room (Nat.le_of_ble_eq_true rfl)) dX5_answered_2 ⟨Nat.zero_le _, Nat.zero_le _⟩).run (fun r12 er12 => ?_)
  subst r12
  obtain ⟨t13, h14, hf⟩ := bd_some hf
  refine q_calli (va_runV (As := [.int t10]) (rest := []) F (c_X5_join l D cy (S := S) v_y0 h14) (cwV 1 hts gX5_answered_X5_join rfl rfl rfl ⟨rfl, ph_X5_join.1, ph_X5_join.2, pd_X5_join⟩ ⟨Nat.le_of_ble_eq_true rfl, Nat.le_of_ble_eq_true rfl⟩) ⟨PcW.bl, (q_rcv hK hw.1 v_y0.1 (pF_5 (S := S) v_y0.2) rfl), PcW.in hK hw hA (fun z => z.elim)⟩ rfl rfl hl.1 rfl (lv_room (Nat.le_of_ble_eq_true rfl)) dX5_answered_5 ⟨Nat.zero_le _, Nat.zero_le _⟩) hw hA (fun H locs hw hX => ?_)
  have hE := hE.tr hX
  have v_y0 := hX _ _ v_y0
  refine lv_if_eq (tgt := 27) hx hb dX5_answered_8 (by decide) (fun c15 => ?_) (fun c15 => ?_)
  · have hf := it_t c15 hf
    refine lv_ldc2 hx hb hown (hts (.constantLong RX5 153 (-1)) (List.mem_of_getElem? (i := 2) rfl)) dX5_answered_27 ?_
    exact hB30 t13.2 _ _ ((-1)) _ (lv_sub hl [] rfl) hw hE  hf
  · have hf := it_f c15 hf
    refine lv_aload_n hx hb dX5_answered_11 rfl (lv_at hl 0 rfl) ?_
    refine lv_lload_n hx hb dX5_answered_12 rfl (lv_at hl 1 rfl) ?_
    obtain ⟨t16, h17, hf⟩ := bd_some hf
    refine vp_callSl (va_runV (As := [.long y1]) (rest := []) F (c_X5_answerFrom l D cy (H := _) hw.1 v_y0 h17) (cwV 1 hts gX5_answered_X5_answerFrom rfl rfl rfl ⟨rfl, ph_X5_answerFrom.1, ph_X5_answerFrom.2, pd_X5_answerFrom⟩ ⟨Nat.le_of_ble_eq_true rfl, Nat.le_of_ble_eq_true rfl⟩) ⟨PcR.bl, (q_rcv hK hw.1 v_y0.1 (pF_5 (S := t13.2) v_y0.2) rfl), PcR.in hK⟩ rfl rfl hl.1 rfl (lv_room (Nat.le_of_ble_eq_true rfl)) dX5_answered_13 ⟨Nat.zero_le _, Nat.zero_le _⟩).run (fun r18 er18 => ?_)
    subst r18
    refine lv_iload_n hx hb dX5_answered_16 rfl (lv_at hl 2 rfl) ?_
    refine lv_i2l hx hb dX5_answered_17 rfl ?_
    refine lv_aload_n hx hb dX5_answered_18 rfl (lv_at hl 0 rfl) ?_
    refine q_get F hK hw.1 v_y0.1 (pF_5 (S := t13.2) v_y0.2) (fun w h => List.mem_cons_of_mem _ (List.mem_append_right _ h)) rfl 6 (by decide) (hts (.fieldLink RX5 56 "SharedModuliModel" "n" "J") (List.mem_of_getElem? (i := 1) rfl)) (v := .long (fL t13.2 86 y0)) rfl dX5_answered_19 ?_
    refine lv_lmul hx hb dX5_answered_22 ?_
    refine lv_ladd hx hb dX5_answered_23 ?_
    refine lv_goto (tgt := 30) hx hb dX5_answered_24 (by decide) ?_
    exact hB30 t13.2 _ _ (t16 + (y3.toInt64 * (fL t13.2 86 y0))) _ (lv_sub hl [] rfl) hw hE  hf
def f_X5_answer_B43 (S : PS) (s0 : Int64) : Option (Int64 × PS) :=
  some (s0, S)
def f_X5_answer_B23 (S : PS) (x0 : Nat) (x1 : Int64) (x3 : Int32) (s0 : Nat) (s1 : Int32) : Option (Int64 × PS) :=
  if (fI (sI S 80 s0 s1) 80 x0) ≤ 0 then (bd (f_X5_answered (sI S 80 s0 s1) x0 x1 x3) fun t2 =>
  f_X5_answer_B43 t2.2 t2.1) else
  f_X5_answer_B43 (sI S 80 s0 s1) 0
def f_X5_answer_B22 (S : PS) (x0 : Nat) (x1 : Int64) (x3 : Int32) (s0 : Nat) : Option (Int64 × PS) :=
  f_X5_answer_B23 S x0 x1 x3 s0 1
def f_X5_answer (S : PS) (x0 : Nat) (x1 : Int64) (x3 : Int32) : Option (Int64 × PS) :=
  bd (f_X5_isNumber x1) fun t4 =>
  if t4 = 0 then (f_X5_answer_B22 S x0 x1 x3 x0) else
  bd (f_X5_in x3 0 99) fun t8 =>
  if t8 = 0 then (f_X5_answer_B22 S x0 x1 x3 x0) else
  f_X5_answer_B23 S x0 x1 x3 x0 0
set_option maxHeartbeats 4000000 in
set_option maxRecDepth 100000 in
theorem c_X5_answer (l : Launch) (D : va_G) (cy : cyT) {S : PS} {n : Nat} {y0 : Nat} {y1 : Int64} {y3 : Int32} (v_y0 : vd S y0 5) {res : Int64 × PS} (hf : f_X5_answer S y0 y1 y3 = some res) : Met l yX5_answer wsX5_answer ({ frames := 6, cells := 0, slots := 0, locals := 138 } : Room) (PcW False D cy S n [.ref y0, .long y1, .int y3]) (va_Ql (fun (r : Int64) (u : PS × Nat) => r = res.1 ∧ u = (res.2, n)) (BW D cy S n) (AA cy S n)) 0 0 (AA cy S n) := by
  refine Met.ofW (cc := cX5_answer) (maxL := 4) (ret := (some .long)) (by decide) rfl ?_
  intro p e s m args below meth c s₁ B hml hv
  obtain ⟨hav, hsz, hP0, hD0, hK, hZ0⟩ := hv
  have hx := B.exec
  have hb := B.bytes
  have hr := B.returns
  have hts := atoms_spec (ws := wsX5_answer) B.pre
  have hown : s.vm.findClass RX5 = some m.cls := findClass_of_methodNamed B.named
  have hlocks := B.notSynchronized
  subst hav
  have hw : Hw D cy (AA cy S n) s.heap S n s.heap [] := Hw.start hsz hP0 hD0
  have hA : ∀ q, s.heap.size ≤ q → AA cy S n q := fun q h => Or.inr (hsz ▸ h)
  have hE : EX S S := EX.rf
  have F : CallFix p m c cX5_answer 4 s _ wsX5_answer RX5 := ⟨hx, hb, hml, hown, hts⟩
  have hB43 : ∀ (Sb : PS) (H1 : Heap) (lo1 : List Loc) (s0 : Int64) (ls : Array Slot), lv_has ls 4 [] → Hw D cy (AA cy S n) s.heap Sb n H1 lo1 → EX S Sb → f_X5_answer_B43 Sb s0 = some res → W p l e (headSpec wsX5_answer ({ frames := 6, cells := 0, slots := 0, locals := 138 } : Room)).room s m ([.ref y0, .long y1, .int y3] : List Value).toArray below meth c H1 lo1 0 0 (MQ below (va_Ql (fun (r : Int64) (u : PS × Nat) => r = res.1 ∧ u = (res.2, n)) (BW D cy S n) (AA cy S n)) ([.ref y0, .long y1, .int y3] : List Value).toArray s 0 0 (AA cy S n)) (F0 m 43 ls [.long s0]) := by
    intro Sb H1 lo1 s0 ls hl hw hE hf
    unfold f_X5_answer_B43 at hf
    exact W.lret (v := s0) hx hb hr (fun t ht hW => ⟨⟨_, (Sb, n), rfl, po2 hf, BW.of hw hE ht⟩, hw.2.2.1.F ht⟩) hw.2.2.1.2.2 dX5_answer_43
  have hB23 : ∀ (Sb : PS) (H1 : Heap) (lo1 : List Loc) (x0 : Nat) (x1 : Int64) (x3 : Int32) (s0 : Nat) (s1 : Int32) (ls : Array Slot), lv_has ls 4 [(0, .ref x0), (1, .long x1), (3, .int x3)] → Hw D cy (AA cy S n) s.heap Sb n H1 lo1 → EX S Sb → vd Sb x0 5 → vd Sb s0 5 → f_X5_answer_B23 Sb x0 x1 x3 s0 s1 = some res → W p l e (headSpec wsX5_answer ({ frames := 6, cells := 0, slots := 0, locals := 138 } : Room)).room s m ([.ref y0, .long y1, .int y3] : List Value).toArray below meth c H1 lo1 0 0 (MQ below (va_Ql (fun (r : Int64) (u : PS × Nat) => r = res.1 ∧ u = (res.2, n)) (BW D cy S n) (AA cy S n)) ([.ref y0, .long y1, .int y3] : List Value).toArray s 0 0 (AA cy S n)) (F0 m 23 ls [.int s1, .ref s0]) := by
    intro Sb H1 lo1 x0 x1 x3 s0 s1 ls hl hw hE v_x0 v_s0 hf
    unfold f_X5_answer_B23 at hf
    refine q_put F hK hw v_s0.1 (pF_5 (S := Sb) v_s0.2) (fun w h => List.mem_cons_of_mem _ (List.mem_append_right _ h)) tyX5 tyX5_ok nmX5 rfl 0 (by decide) (hts (.fieldLink RX5 22 "SharedModuliModel" "thrown" "I") (List.mem_of_getElem? (i := 1) rfl)) (Or.inl rfl) (tyX5_ok 0 (by decide)) rfl rfl (Nat.le_of_ble_eq_true rfl) (S1 := sI Sb 80 s0 s1) (st_80 (S := Sb) v_s0.2 s1) dX5_answer_23 (fun H locs hw => ?_)
    refine lv_aload_n hx hb dX5_answer_26 rfl (lv_at hl 0 rfl) ?_
    refine q_get F hK hw.1 v_x0.1 (pF_5 (S := sI Sb 80 s0 s1) v_x0.2) (fun w h => List.mem_cons_of_mem _ (List.mem_append_right _ h)) rfl 0 (by decide) (hts (.fieldLink RX5 22 "SharedModuliModel" "thrown" "I") (List.mem_of_getElem? (i := 1) rfl)) (v := .int (fI (sI Sb 80 s0 s1) 80 x0)) rfl dX5_answer_27 ?_
    refine lv_if_le (tgt := 37) hx hb dX5_answer_30 (by decide) (fun c12 => ?_) (fun c12 => ?_)
    · have hf := it_t c12 hf
      refine lv_aload_n hx hb dX5_answer_37 rfl (lv_at hl 0 rfl) ?_
      refine lv_lload_n hx hb dX5_answer_38 rfl (lv_at hl 1 rfl) ?_
      refine lv_iload_n hx hb dX5_answer_39 rfl (lv_at hl 2 rfl) ?_
      obtain ⟨t13, h14, hf⟩ := bd_some hf
      refine q_calll (va_runV (As := [.long x1, .int x3]) (rest := []) F (c_X5_answered l D cy (S := sI Sb 80 s0 s1) v_x0 h14) (cwV 2 hts gX5_answer_X5_answered rfl rfl rfl ⟨rfl, ph_X5_answered.1, ph_X5_answered.2, pd_X5_answered⟩ ⟨Nat.le_of_ble_eq_true rfl, Nat.le_of_ble_eq_true rfl⟩) ⟨PcW.bl, (q_rcv hK hw.1 v_x0.1 (pF_5 (S := sI Sb 80 s0 s1) v_x0.2) rfl), PcW.in hK hw hA (fun z => z.elim)⟩ rfl rfl hl.1 rfl (lv_room (Nat.le_of_ble_eq_true rfl)) dX5_answer_40 ⟨Nat.zero_le _, Nat.zero_le _⟩) hw hA (fun H locs hw hX => ?_)
      have hE := hE.tr hX
      have v_x0 := hX _ _ v_x0
      have v_s0 := hX _ _ v_s0
      exact hB43 t13.2 _ _ t13.1 _ (lv_sub hl [] rfl) hw hE  hf
    · have hf := it_f c12 hf
      refine lv_lconst (v := 0) hx hb dX5_answer_33 (by decide) ?_
      refine lv_goto (tgt := 43) hx hb dX5_answer_34 (by decide) ?_
      exact hB43 (sI Sb 80 s0 s1) _ _ 0 _ (lv_sub hl [] rfl) hw hE  hf
  have hB22 : ∀ (Sb : PS) (H1 : Heap) (lo1 : List Loc) (x0 : Nat) (x1 : Int64) (x3 : Int32) (s0 : Nat) (ls : Array Slot), lv_has ls 4 [(0, .ref x0), (1, .long x1), (3, .int x3)] → Hw D cy (AA cy S n) s.heap Sb n H1 lo1 → EX S Sb → vd Sb x0 5 → vd Sb s0 5 → f_X5_answer_B22 Sb x0 x1 x3 s0 = some res → W p l e (headSpec wsX5_answer ({ frames := 6, cells := 0, slots := 0, locals := 138 } : Room)).room s m ([.ref y0, .long y1, .int y3] : List Value).toArray below meth c H1 lo1 0 0 (MQ below (va_Ql (fun (r : Int64) (u : PS × Nat) => r = res.1 ∧ u = (res.2, n)) (BW D cy S n) (AA cy S n)) ([.ref y0, .long y1, .int y3] : List Value).toArray s 0 0 (AA cy S n)) (F0 m 22 ls [.ref s0]) := by
    intro Sb H1 lo1 x0 x1 x3 s0 ls hl hw hE v_x0 v_s0 hf
    unfold f_X5_answer_B22 at hf
    refine lv_iconst (v := 1) hx hb dX5_answer_22 (by decide) ?_
    exact hB23 Sb _ _ x0 x1 x3 s0 1 _ (lv_sub hl [0, 1, 2] rfl) hw hE v_x0 v_s0 hf
  have hl := lv_entry ([.ref y0, .long y1, .int y3]) (n := 4) (Nat.le_of_ble_eq_true rfl)
  rw [lg_entry_eq]
  generalize (lg_sl ([.ref y0, .long y1, .int y3]) ++ List.replicate (4 - (lg_sl ([.ref y0, .long y1, .int y3])).length) Slot.unset).toArray = ls at hl ⊢
  have hl : lv_has ls 4 [(0, .ref y0), (1, .long y1), (3, .int y3)] := hl
  unfold f_X5_answer at hf
  refine lv_aload_n hx hb dX5_answer_0 rfl (lv_at hl 0 rfl) ?_
  refine lv_lload_n hx hb dX5_answer_1 rfl (lv_at hl 1 rfl) ?_
  obtain ⟨t15, h16, hf⟩ := bd_some hf
  refine vp_callSi (va_runS (As := [.long y1]) (rest := [.ref y0]) F (c_X5_isNumber l D cy (H := _)  h16) (va_cwS 1 hts gX5_answer_X5_isNumber rfl rfl rfl ⟨ph_X5_isNumber.1, ph_X5_isNumber.2, pd_X5_isNumber⟩ ⟨Nat.le_of_ble_eq_true rfl, Nat.le_of_ble_eq_true rfl⟩) ⟨PcR.bl, PcR.in hK⟩ rfl rfl hl.1 rfl (lv_room (Nat.le_of_ble_eq_true rfl)) dX5_answer_2 ⟨Nat.zero_le _, Nat.zero_le _⟩).run (fun r17 er17 => ?_)
  subst r17
  refine lv_if_eq (tgt := 22) hx hb dX5_answer_5 (by decide) (fun c18 => ?_) (fun c18 => ?_)
  · have hf := it_t c18 hf
    exact hB22 S _ _ y0 y1 y3 y0 _ (lv_sub hl [0, 1, 2] rfl) hw hE v_y0 v_y0 hf
  · have hf := it_f c18 hf
    refine lv_iload_n hx hb dX5_answer_8 rfl (lv_at hl 2 rfl) ?_
    refine lv_iconst (v := 0) hx hb dX5_answer_9 (by decide) ?_
    refine lv_bipush (v := 99) hx hb dX5_answer_10 (by decide) ?_
    obtain ⟨t19, h20, hf⟩ := bd_some hf
    refine vp_callSi (va_runS (As := [.int y3, .int 0, .int 99]) (rest := [.ref y0]) F (c_X5_in l D cy (H := _)  h20) (va_cwS 3 hts gX5_answer_X5_in rfl rfl rfl ⟨ph_X5_in.1, ph_X5_in.2, pd_X5_in⟩ ⟨Nat.le_of_ble_eq_true rfl, Nat.le_of_ble_eq_true rfl⟩) ⟨PcR.bl, PcR.in hK⟩ rfl rfl hl.1 rfl (lv_room (Nat.le_of_ble_eq_true rfl)) dX5_answer_12 ⟨Nat.zero_le _, Nat.zero_le _⟩).run (fun r21 er21 => ?_)
    subst r21
    refine lv_if_eq (tgt := 22) hx hb dX5_answer_15 (by decide) (fun c22 => ?_) (fun c22 => ?_)
    · have hf := it_t c22 hf
      exact hB22 S _ _ y0 y1 y3 y0 _ (lv_sub hl [0, 1, 2] rfl) hw hE v_y0 v_y0 hf
    · have hf := it_f c22 hf
      refine lv_iconst (v := 0) hx hb dX5_answer_18 (by decide) ?_
      refine lv_goto (tgt := 23) hx hb dX5_answer_19 (by decide) ?_
      exact hB23 S _ _ y0 y1 y3 y0 0 _ (lv_sub hl [0, 1, 2] rfl) hw hE v_y0 v_y0 hf
def f_X5_nearestTo_B53 (S : PS) (s0 : Int64) : Option (Int64 × PS) :=
  some (s0, S)
def f_X5_nearestTo_B52 (S : PS) (x3 : Int64) : Option (Int64 × PS) :=
  f_X5_nearestTo_B53 S x3
def f_X5_nearestTo (S : PS) (x0 : Nat) (x1 : Int64) : Option (Int64 × PS) :=
  bd (f_X5_onSet S x0) fun t1 =>
  bd (f_X5_join S x0 t1) fun t4 =>
  if t4.1 = 0 then (some (((-1)), t4.2)) else
  bd (f_X5_answerFrom t4.2 x0 x1) fun t7 =>
  if (t7 - (fL t4.2 86 x0)) < 0 then (f_X5_nearestTo_B52 t4.2 t7) else
  if (t7 - x1) < (x1 - (t7 - (fL t4.2 86 x0))) then (f_X5_nearestTo_B52 t4.2 t7) else
  f_X5_nearestTo_B53 t4.2 (t7 - (fL t4.2 86 x0))
set_option maxHeartbeats 4000000 in
set_option maxRecDepth 100000 in
theorem c_X5_nearestTo (l : Launch) (D : va_G) (cy : cyT) {S : PS} {n : Nat} {y0 : Nat} {y1 : Int64} (v_y0 : vd S y0 5) {res : Int64 × PS} (hf : f_X5_nearestTo S y0 y1 = some res) : Met l yX5_nearestTo wsX5_nearestTo ({ frames := 5, cells := 0, slots := 0, locals := 115 } : Room) (PcW False D cy S n [.ref y0, .long y1]) (va_Ql (fun (r : Int64) (u : PS × Nat) => r = res.1 ∧ u = (res.2, n)) (BW D cy S n) (AA cy S n)) 0 0 (AA cy S n) := by
  refine Met.ofW (cc := cX5_nearestTo) (maxL := 7) (ret := (some .long)) (by decide) rfl ?_
  intro p e s m args below meth c s₁ B hml hv
  obtain ⟨hav, hsz, hP0, hD0, hK, hZ0⟩ := hv
  have hx := B.exec
  have hb := B.bytes
  have hr := B.returns
  have hts := atoms_spec (ws := wsX5_nearestTo) B.pre
  have hown : s.vm.findClass RX5 = some m.cls := findClass_of_methodNamed B.named
  have hlocks := B.notSynchronized
  subst hav
  have hw : Hw D cy (AA cy S n) s.heap S n s.heap [] := Hw.start hsz hP0 hD0
  have hA : ∀ q, s.heap.size ≤ q → AA cy S n q := fun q h => Or.inr (hsz ▸ h)
  have hE : EX S S := EX.rf
  have F : CallFix p m c cX5_nearestTo 7 s _ wsX5_nearestTo RX5 := ⟨hx, hb, hml, hown, hts⟩
  have hB53 : ∀ (Sb : PS) (H1 : Heap) (lo1 : List Loc) (s0 : Int64) (ls : Array Slot), lv_has ls 7 [] → Hw D cy (AA cy S n) s.heap Sb n H1 lo1 → EX S Sb → f_X5_nearestTo_B53 Sb s0 = some res → W p l e (headSpec wsX5_nearestTo ({ frames := 5, cells := 0, slots := 0, locals := 115 } : Room)).room s m ([.ref y0, .long y1] : List Value).toArray below meth c H1 lo1 0 0 (MQ below (va_Ql (fun (r : Int64) (u : PS × Nat) => r = res.1 ∧ u = (res.2, n)) (BW D cy S n) (AA cy S n)) ([.ref y0, .long y1] : List Value).toArray s 0 0 (AA cy S n)) (F0 m 53 ls [.long s0]) := by
    intro Sb H1 lo1 s0 ls hl hw hE hf
    unfold f_X5_nearestTo_B53 at hf
    exact W.lret (v := s0) hx hb hr (fun t ht hW => ⟨⟨_, (Sb, n), rfl, po2 hf, BW.of hw hE ht⟩, hw.2.2.1.F ht⟩) hw.2.2.1.2.2 dX5_nearestTo_53
  have hB52 : ∀ (Sb : PS) (H1 : Heap) (lo1 : List Loc) (x3 : Int64) (ls : Array Slot), lv_has ls 7 [(3, .long x3)] → Hw D cy (AA cy S n) s.heap Sb n H1 lo1 → EX S Sb → f_X5_nearestTo_B52 Sb x3 = some res → W p l e (headSpec wsX5_nearestTo ({ frames := 5, cells := 0, slots := 0, locals := 115 } : Room)).room s m ([.ref y0, .long y1] : List Value).toArray below meth c H1 lo1 0 0 (MQ below (va_Ql (fun (r : Int64) (u : PS × Nat) => r = res.1 ∧ u = (res.2, n)) (BW D cy S n) (AA cy S n)) ([.ref y0, .long y1] : List Value).toArray s 0 0 (AA cy S n)) (F0 m 52 ls []) := by
    intro Sb H1 lo1 x3 ls hl hw hE hf
    unfold f_X5_nearestTo_B52 at hf
    refine lv_lload_n hx hb dX5_nearestTo_52 rfl (lv_at hl 0 rfl) ?_
    exact hB53 Sb _ _ x3 _ (lv_sub hl [] rfl) hw hE  hf
  have hl := lv_entry ([.ref y0, .long y1]) (n := 7) (Nat.le_of_ble_eq_true rfl)
  rw [lg_entry_eq]
  generalize (lg_sl ([.ref y0, .long y1]) ++ List.replicate (7 - (lg_sl ([.ref y0, .long y1])).length) Slot.unset).toArray = ls at hl ⊢
  have hl : lv_has ls 7 [(0, .ref y0), (1, .long y1)] := hl
  unfold f_X5_nearestTo at hf
  refine lv_aload_n hx hb dX5_nearestTo_0 rfl (lv_at hl 0 rfl) ?_
  refine lv_aload_n hx hb dX5_nearestTo_1 rfl (lv_at hl 0 rfl) ?_
  obtain ⟨t12, h13, hf⟩ := bd_some hf
  refine vp_callSi (va_runV (As := []) (rest := [.ref y0]) F (c_X5_onSet l D cy (H := _) hw.1 v_y0 h13) (cwV 0 hts gX5_nearestTo_X5_onSet rfl rfl rfl ⟨rfl, ph_X5_onSet.1, ph_X5_onSet.2, pd_X5_onSet⟩ ⟨Nat.le_of_ble_eq_true rfl, Nat.le_of_ble_eq_true rfl⟩) ⟨PcR.bl, (q_rcv hK hw.1 v_y0.1 (pF_5 (S := S) v_y0.2) rfl), PcR.in hK⟩ rfl rfl hl.1 rfl (lv_room (Nat.le_of_ble_eq_true rfl)) dX5_nearestTo_2 ⟨Nat.zero_le _, Nat.zero_le _⟩).run (fun r14 er14 => ?_)
  subst r14
  obtain ⟨t15, h16, hf⟩ := bd_some hf
  refine q_calli (va_runV (As := [.int t12]) (rest := []) F (c_X5_join l D cy (S := S) v_y0 h16) (cwV 1 hts gX5_nearestTo_X5_join rfl rfl rfl ⟨rfl, ph_X5_join.1, ph_X5_join.2, pd_X5_join⟩ ⟨Nat.le_of_ble_eq_true rfl, Nat.le_of_ble_eq_true rfl⟩) ⟨PcW.bl, (q_rcv hK hw.1 v_y0.1 (pF_5 (S := S) v_y0.2) rfl), PcW.in hK hw hA (fun z => z.elim)⟩ rfl rfl hl.1 rfl (lv_room (Nat.le_of_ble_eq_true rfl)) dX5_nearestTo_5 ⟨Nat.zero_le _, Nat.zero_le _⟩) hw hA (fun H locs hw hX => ?_)
  have hE := hE.tr hX
  have v_y0 := hX _ _ v_y0
  refine lv_if_ne (tgt := 15) hx hb dX5_nearestTo_8 (by decide) (fun c17 => ?_) (fun c17 => ?_)
  · have hf := it_f c17 hf
    refine lv_aload_n hx hb dX5_nearestTo_15 rfl (lv_at hl 0 rfl) ?_
    refine lv_lload_n hx hb dX5_nearestTo_16 rfl (lv_at hl 1 rfl) ?_
    obtain ⟨t18, h19, hf⟩ := bd_some hf
    refine vp_callSl (va_runV (As := [.long y1]) (rest := []) F (c_X5_answerFrom l D cy (H := _) hw.1 v_y0 h19) (cwV 1 hts gX5_nearestTo_X5_answerFrom rfl rfl rfl ⟨rfl, ph_X5_answerFrom.1, ph_X5_answerFrom.2, pd_X5_answerFrom⟩ ⟨Nat.le_of_ble_eq_true rfl, Nat.le_of_ble_eq_true rfl⟩) ⟨PcR.bl, (q_rcv hK hw.1 v_y0.1 (pF_5 (S := t15.2) v_y0.2) rfl), PcR.in hK⟩ rfl rfl hl.1 rfl (lv_room (Nat.le_of_ble_eq_true rfl)) dX5_nearestTo_17 ⟨Nat.zero_le _, Nat.zero_le _⟩).run (fun r20 er20 => ?_)
    subst r20
    refine lv_lstore_n (lv' := [(3, .long t18), (0, .ref y0), (1, .long y1)]) hx hb dX5_nearestTo_20 rfl hl (by decide) rfl (fun ls hl => ?_)
    refine lv_lload_n hx hb dX5_nearestTo_21 rfl (lv_at hl 0 rfl) ?_
    refine lv_aload_n hx hb dX5_nearestTo_22 rfl (lv_at hl 1 rfl) ?_
    refine q_get F hK hw.1 v_y0.1 (pF_5 (S := t15.2) v_y0.2) (fun w h => List.mem_cons_of_mem _ (List.mem_append_right _ h)) rfl 6 (by decide) (hts (.fieldLink RX5 56 "SharedModuliModel" "n" "J") (List.mem_of_getElem? (i := 2) rfl)) (v := .long (fL t15.2 86 y0)) rfl dX5_nearestTo_23 ?_
    refine lv_lsub hx hb dX5_nearestTo_26 ?_
    refine lv_lstore (lv' := [(5, .long (t18 - (fL t15.2 86 y0))), (3, .long t18), (0, .ref y0), (1, .long y1)]) hx hb dX5_nearestTo_27 hl (by decide) rfl (fun ls hl => ?_)
    refine lv_lload hx hb dX5_nearestTo_29 (lv_at hl 0 rfl) ?_
    refine lv_lconst (v := 0) hx hb dX5_nearestTo_31 (by decide) ?_
    refine W.lcmp hx hb dX5_nearestTo_32 ?_
    refine lv_if_lt (tgt := 52) hx hb dX5_nearestTo_33 (by decide) (fun c21 => ?_) (fun c21 => ?_)
    · have hf := it_t ((lq_lt _ _).mp c21) hf
      exact hB52 t15.2 _ _ t18 _ (lv_sub hl [1] rfl) hw hE  hf
    · have hf := it_f (fun z => c21 ((lq_lt _ _).mpr z)) hf
      refine lv_lload_n hx hb dX5_nearestTo_36 rfl (lv_at hl 3 rfl) ?_
      refine lv_lload hx hb dX5_nearestTo_37 (lv_at hl 0 rfl) ?_
      refine lv_lsub hx hb dX5_nearestTo_39 ?_
      refine lv_lload_n hx hb dX5_nearestTo_40 rfl (lv_at hl 1 rfl) ?_
      refine lv_lload_n hx hb dX5_nearestTo_41 rfl (lv_at hl 3 rfl) ?_
      refine lv_lsub hx hb dX5_nearestTo_42 ?_
      refine W.lcmp hx hb dX5_nearestTo_43 ?_
      refine lv_if_gt (tgt := 52) hx hb dX5_nearestTo_44 (by decide) (fun c22 => ?_) (fun c22 => ?_)
      · have hf := it_t ((lq_gt _ _).mp c22) hf
        exact hB52 t15.2 _ _ t18 _ (lv_sub hl [1] rfl) hw hE  hf
      · have hf := it_f (fun z => c22 ((lq_gt _ _).mpr z)) hf
        refine lv_lload hx hb dX5_nearestTo_47 (lv_at hl 0 rfl) ?_
        refine lv_goto (tgt := 53) hx hb dX5_nearestTo_49 (by decide) ?_
        exact hB53 t15.2 _ _ (t18 - (fL t15.2 86 y0)) _ (lv_sub hl [] rfl) hw hE  hf
  · have hf := it_t c17 hf
    refine lv_ldc2 hx hb hown (hts (.constantLong RX5 153 (-1)) (List.mem_of_getElem? (i := 1) rfl)) dX5_nearestTo_11 ?_
    exact W.lret (v := ((-1))) hx hb hr (fun t ht hW => ⟨⟨_, (t15.2, n), rfl, po2 hf, BW.of hw hE ht⟩, hw.2.2.1.F ht⟩) hw.2.2.1.2.2 dX5_nearestTo_14
def f_X5_nearest_B32 (S : PS) (s0 : Int64) : Option (Int64 × PS) :=
  some (s0, S)
def f_X5_nearest_B13 (S : PS) (x0 : Nat) (x1 : Int64) (s0 : Nat) (s1 : Int32) : Option (Int64 × PS) :=
  if (fI (sI S 80 s0 s1) 80 x0) ≤ 0 then (bd (f_X5_nearestTo (sI S 80 s0 s1) x0 x1) fun t2 =>
  f_X5_nearest_B32 t2.2 t2.1) else
  f_X5_nearest_B32 (sI S 80 s0 s1) 0
def f_X5_nearest (S : PS) (x0 : Nat) (x1 : Int64) : Option (Int64 × PS) :=
  bd (f_X5_isNumber x1) fun t4 =>
  if t4 = 0 then (f_X5_nearest_B13 S x0 x1 x0 1) else
  f_X5_nearest_B13 S x0 x1 x0 0
set_option maxHeartbeats 4000000 in
set_option maxRecDepth 100000 in
theorem c_X5_nearest (l : Launch) (D : va_G) (cy : cyT) {S : PS} {n : Nat} {y0 : Nat} {y1 : Int64} (v_y0 : vd S y0 5) {res : Int64 × PS} (hf : f_X5_nearest S y0 y1 = some res) : Met l yX5_nearest wsX5_nearest ({ frames := 6, cells := 0, slots := 0, locals := 141 } : Room) (PcW False D cy S n [.ref y0, .long y1]) (va_Ql (fun (r : Int64) (u : PS × Nat) => r = res.1 ∧ u = (res.2, n)) (BW D cy S n) (AA cy S n)) 0 0 (AA cy S n) := by
  refine Met.ofW (cc := cX5_nearest) (maxL := 3) (ret := (some .long)) (by decide) rfl ?_
  intro p e s m args below meth c s₁ B hml hv
  obtain ⟨hav, hsz, hP0, hD0, hK, hZ0⟩ := hv
  have hx := B.exec
  have hb := B.bytes
  have hr := B.returns
  have hts := atoms_spec (ws := wsX5_nearest) B.pre
  have hown : s.vm.findClass RX5 = some m.cls := findClass_of_methodNamed B.named
  have hlocks := B.notSynchronized
  subst hav
  have hw : Hw D cy (AA cy S n) s.heap S n s.heap [] := Hw.start hsz hP0 hD0
  have hA : ∀ q, s.heap.size ≤ q → AA cy S n q := fun q h => Or.inr (hsz ▸ h)
  have hE : EX S S := EX.rf
  have F : CallFix p m c cX5_nearest 3 s _ wsX5_nearest RX5 := ⟨hx, hb, hml, hown, hts⟩
  have hB32 : ∀ (Sb : PS) (H1 : Heap) (lo1 : List Loc) (s0 : Int64) (ls : Array Slot), lv_has ls 3 [] → Hw D cy (AA cy S n) s.heap Sb n H1 lo1 → EX S Sb → f_X5_nearest_B32 Sb s0 = some res → W p l e (headSpec wsX5_nearest ({ frames := 6, cells := 0, slots := 0, locals := 141 } : Room)).room s m ([.ref y0, .long y1] : List Value).toArray below meth c H1 lo1 0 0 (MQ below (va_Ql (fun (r : Int64) (u : PS × Nat) => r = res.1 ∧ u = (res.2, n)) (BW D cy S n) (AA cy S n)) ([.ref y0, .long y1] : List Value).toArray s 0 0 (AA cy S n)) (F0 m 32 ls [.long s0]) := by
    intro Sb H1 lo1 s0 ls hl hw hE hf
    unfold f_X5_nearest_B32 at hf
    exact W.lret (v := s0) hx hb hr (fun t ht hW => ⟨⟨_, (Sb, n), rfl, po2 hf, BW.of hw hE ht⟩, hw.2.2.1.F ht⟩) hw.2.2.1.2.2 dX5_nearest_32
  have hB13 : ∀ (Sb : PS) (H1 : Heap) (lo1 : List Loc) (x0 : Nat) (x1 : Int64) (s0 : Nat) (s1 : Int32) (ls : Array Slot), lv_has ls 3 [(0, .ref x0), (1, .long x1)] → Hw D cy (AA cy S n) s.heap Sb n H1 lo1 → EX S Sb → vd Sb x0 5 → vd Sb s0 5 → f_X5_nearest_B13 Sb x0 x1 s0 s1 = some res → W p l e (headSpec wsX5_nearest ({ frames := 6, cells := 0, slots := 0, locals := 141 } : Room)).room s m ([.ref y0, .long y1] : List Value).toArray below meth c H1 lo1 0 0 (MQ below (va_Ql (fun (r : Int64) (u : PS × Nat) => r = res.1 ∧ u = (res.2, n)) (BW D cy S n) (AA cy S n)) ([.ref y0, .long y1] : List Value).toArray s 0 0 (AA cy S n)) (F0 m 13 ls [.int s1, .ref s0]) := by
    intro Sb H1 lo1 x0 x1 s0 s1 ls hl hw hE v_x0 v_s0 hf
    unfold f_X5_nearest_B13 at hf
    refine q_put F hK hw v_s0.1 (pF_5 (S := Sb) v_s0.2) (fun w h => List.mem_cons_of_mem _ (List.mem_append_right _ h)) tyX5 tyX5_ok nmX5 rfl 0 (by decide) (hts (.fieldLink RX5 22 "SharedModuliModel" "thrown" "I") (List.mem_of_getElem? (i := 1) rfl)) (Or.inl rfl) (tyX5_ok 0 (by decide)) rfl rfl (Nat.le_of_ble_eq_true rfl) (S1 := sI Sb 80 s0 s1) (st_80 (S := Sb) v_s0.2 s1) dX5_nearest_13 (fun H locs hw => ?_)
    refine lv_aload_n hx hb dX5_nearest_16 rfl (lv_at hl 0 rfl) ?_
    refine q_get F hK hw.1 v_x0.1 (pF_5 (S := sI Sb 80 s0 s1) v_x0.2) (fun w h => List.mem_cons_of_mem _ (List.mem_append_right _ h)) rfl 0 (by decide) (hts (.fieldLink RX5 22 "SharedModuliModel" "thrown" "I") (List.mem_of_getElem? (i := 1) rfl)) (v := .int (fI (sI Sb 80 s0 s1) 80 x0)) rfl dX5_nearest_17 ?_
    refine lv_if_le (tgt := 27) hx hb dX5_nearest_20 (by decide) (fun c8 => ?_) (fun c8 => ?_)
    · have hf := it_t c8 hf
      refine lv_aload_n hx hb dX5_nearest_27 rfl (lv_at hl 0 rfl) ?_
      refine lv_lload_n hx hb dX5_nearest_28 rfl (lv_at hl 1 rfl) ?_
      obtain ⟨t9, h10, hf⟩ := bd_some hf
      refine q_calll (va_runV (As := [.long x1]) (rest := []) F (c_X5_nearestTo l D cy (S := sI Sb 80 s0 s1) v_x0 h10) (cwV 1 hts gX5_nearest_X5_nearestTo rfl rfl rfl ⟨rfl, ph_X5_nearestTo.1, ph_X5_nearestTo.2, pd_X5_nearestTo⟩ ⟨Nat.le_of_ble_eq_true rfl, Nat.le_of_ble_eq_true rfl⟩) ⟨PcW.bl, (q_rcv hK hw.1 v_x0.1 (pF_5 (S := sI Sb 80 s0 s1) v_x0.2) rfl), PcW.in hK hw hA (fun z => z.elim)⟩ rfl rfl hl.1 rfl (lv_room (Nat.le_of_ble_eq_true rfl)) dX5_nearest_29 ⟨Nat.zero_le _, Nat.zero_le _⟩) hw hA (fun H locs hw hX => ?_)
      have hE := hE.tr hX
      have v_x0 := hX _ _ v_x0
      have v_s0 := hX _ _ v_s0
      exact hB32 t9.2 _ _ t9.1 _ (lv_sub hl [] rfl) hw hE  hf
    · have hf := it_f c8 hf
      refine lv_lconst (v := 0) hx hb dX5_nearest_23 (by decide) ?_
      refine lv_goto (tgt := 32) hx hb dX5_nearest_24 (by decide) ?_
      exact hB32 (sI Sb 80 s0 s1) _ _ 0 _ (lv_sub hl [] rfl) hw hE  hf
  have hl := lv_entry ([.ref y0, .long y1]) (n := 3) (Nat.le_of_ble_eq_true rfl)
  rw [lg_entry_eq]
  generalize (lg_sl ([.ref y0, .long y1]) ++ List.replicate (3 - (lg_sl ([.ref y0, .long y1])).length) Slot.unset).toArray = ls at hl ⊢
  have hl : lv_has ls 3 [(0, .ref y0), (1, .long y1)] := hl
  unfold f_X5_nearest at hf
  refine lv_aload_n hx hb dX5_nearest_0 rfl (lv_at hl 0 rfl) ?_
  refine lv_lload_n hx hb dX5_nearest_1 rfl (lv_at hl 1 rfl) ?_
  obtain ⟨t11, h12, hf⟩ := bd_some hf
  refine vp_callSi (va_runS (As := [.long y1]) (rest := [.ref y0]) F (c_X5_isNumber l D cy (H := _)  h12) (va_cwS 1 hts gX5_nearest_X5_isNumber rfl rfl rfl ⟨ph_X5_isNumber.1, ph_X5_isNumber.2, pd_X5_isNumber⟩ ⟨Nat.le_of_ble_eq_true rfl, Nat.le_of_ble_eq_true rfl⟩) ⟨PcR.bl, PcR.in hK⟩ rfl rfl hl.1 rfl (lv_room (Nat.le_of_ble_eq_true rfl)) dX5_nearest_2 ⟨Nat.zero_le _, Nat.zero_le _⟩).run (fun r13 er13 => ?_)
  subst r13
  refine lv_if_eq (tgt := 12) hx hb dX5_nearest_5 (by decide) (fun c14 => ?_) (fun c14 => ?_)
  · have hf := it_t c14 hf
    refine lv_iconst (v := 1) hx hb dX5_nearest_12 (by decide) ?_
    exact hB13 S _ _ y0 y1 y0 1 _ (lv_sub hl [0, 1] rfl) hw hE v_y0 v_y0 hf
  · have hf := it_f c14 hf
    refine lv_iconst (v := 0) hx hb dX5_nearest_8 (by decide) ?_
    refine lv_goto (tgt := 13) hx hb dX5_nearest_9 (by decide) ?_
    exact hB13 S _ _ y0 y1 y0 0 _ (lv_sub hl [0, 1] rfl) hw hE v_y0 v_y0 hf
def f_X5_manyBetween_B17 (S : PS) : Option (Int64 × PS) :=
  some (0, S)
def f_X5_manyBetween_B48 (S : PS) (s0 : Int64) : Option (Int64 × PS) :=
  some (s0, S)
def f_X5_manyBetween (S : PS) (x0 : Nat) (x1 : Int64) (x3 : Int64) : Option (Int64 × PS) :=
  if x3 < x1 then (f_X5_manyBetween_B17 S) else
  bd (f_X5_onSet S x0) fun t2 =>
  bd (f_X5_join S x0 t2) fun t5 =>
  if t5.1 = 0 then (f_X5_manyBetween_B17 t5.2) else
  bd (f_X5_answerFrom t5.2 x0 x1) fun t8 =>
  if t8 ≤ x3 then (ck (decide (¬ (fL t5.2 86 x0) = 0)) (
  f_X5_manyBetween_B48 t5.2 (((x3 - t8) / (fL t5.2 86 x0)) + (1 : Int64)))) else
  f_X5_manyBetween_B48 t5.2 0
set_option maxHeartbeats 4000000 in
set_option maxRecDepth 100000 in
theorem c_X5_manyBetween (l : Launch) (D : va_G) (cy : cyT) {S : PS} {n : Nat} {y0 : Nat} {y1 : Int64} {y3 : Int64} (v_y0 : vd S y0 5) {res : Int64 × PS} (hf : f_X5_manyBetween S y0 y1 y3 = some res) : Met l yX5_manyBetween wsX5_manyBetween ({ frames := 5, cells := 0, slots := 0, locals := 115 } : Room) (PcW False D cy S n [.ref y0, .long y1, .long y3]) (va_Ql (fun (r : Int64) (u : PS × Nat) => r = res.1 ∧ u = (res.2, n)) (BW D cy S n) (AA cy S n)) 0 0 (AA cy S n) := by
  refine Met.ofW (cc := cX5_manyBetween) (maxL := 7) (ret := (some .long)) (by decide) rfl ?_
  intro p e s m args below meth c s₁ B hml hv
  obtain ⟨hav, hsz, hP0, hD0, hK, hZ0⟩ := hv
  have hx := B.exec
  have hb := B.bytes
  have hr := B.returns
  have hts := atoms_spec (ws := wsX5_manyBetween) B.pre
  have hown : s.vm.findClass RX5 = some m.cls := findClass_of_methodNamed B.named
  have hlocks := B.notSynchronized
  subst hav
  have hw : Hw D cy (AA cy S n) s.heap S n s.heap [] := Hw.start hsz hP0 hD0
  have hA : ∀ q, s.heap.size ≤ q → AA cy S n q := fun q h => Or.inr (hsz ▸ h)
  have hE : EX S S := EX.rf
  have F : CallFix p m c cX5_manyBetween 7 s _ wsX5_manyBetween RX5 := ⟨hx, hb, hml, hown, hts⟩
  have hB17 : ∀ (Sb : PS) (H1 : Heap) (lo1 : List Loc)  (ls : Array Slot), lv_has ls 7 [] → Hw D cy (AA cy S n) s.heap Sb n H1 lo1 → EX S Sb → f_X5_manyBetween_B17 Sb = some res → W p l e (headSpec wsX5_manyBetween ({ frames := 5, cells := 0, slots := 0, locals := 115 } : Room)).room s m ([.ref y0, .long y1, .long y3] : List Value).toArray below meth c H1 lo1 0 0 (MQ below (va_Ql (fun (r : Int64) (u : PS × Nat) => r = res.1 ∧ u = (res.2, n)) (BW D cy S n) (AA cy S n)) ([.ref y0, .long y1, .long y3] : List Value).toArray s 0 0 (AA cy S n)) (F0 m 17 ls []) := by
    intro Sb H1 lo1 ls hl hw hE hf
    unfold f_X5_manyBetween_B17 at hf
    refine lv_lconst (v := 0) hx hb dX5_manyBetween_17 (by decide) ?_
    exact W.lret (v := 0) hx hb hr (fun t ht hW => ⟨⟨_, (Sb, n), rfl, po2 hf, BW.of hw hE ht⟩, hw.2.2.1.F ht⟩) hw.2.2.1.2.2 dX5_manyBetween_18
  have hB48 : ∀ (Sb : PS) (H1 : Heap) (lo1 : List Loc) (s0 : Int64) (ls : Array Slot), lv_has ls 7 [] → Hw D cy (AA cy S n) s.heap Sb n H1 lo1 → EX S Sb → f_X5_manyBetween_B48 Sb s0 = some res → W p l e (headSpec wsX5_manyBetween ({ frames := 5, cells := 0, slots := 0, locals := 115 } : Room)).room s m ([.ref y0, .long y1, .long y3] : List Value).toArray below meth c H1 lo1 0 0 (MQ below (va_Ql (fun (r : Int64) (u : PS × Nat) => r = res.1 ∧ u = (res.2, n)) (BW D cy S n) (AA cy S n)) ([.ref y0, .long y1, .long y3] : List Value).toArray s 0 0 (AA cy S n)) (F0 m 48 ls [.long s0]) := by
    intro Sb H1 lo1 s0 ls hl hw hE hf
    unfold f_X5_manyBetween_B48 at hf
    exact W.lret (v := s0) hx hb hr (fun t ht hW => ⟨⟨_, (Sb, n), rfl, po2 hf, BW.of hw hE ht⟩, hw.2.2.1.F ht⟩) hw.2.2.1.2.2 dX5_manyBetween_48
  have hl := lv_entry ([.ref y0, .long y1, .long y3]) (n := 7) (Nat.le_of_ble_eq_true rfl)
  rw [lg_entry_eq]
  generalize (lg_sl ([.ref y0, .long y1, .long y3]) ++ List.replicate (7 - (lg_sl ([.ref y0, .long y1, .long y3])).length) Slot.unset).toArray = ls at hl ⊢
  have hl : lv_has ls 7 [(0, .ref y0), (1, .long y1), (3, .long y3)] := hl
  unfold f_X5_manyBetween at hf
  refine lv_lload_n hx hb dX5_manyBetween_0 rfl (lv_at hl 2 rfl) ?_
  refine lv_lload_n hx hb dX5_manyBetween_1 rfl (lv_at hl 1 rfl) ?_
  refine W.lcmp hx hb dX5_manyBetween_2 ?_
  refine lv_if_lt (tgt := 17) hx hb dX5_manyBetween_3 (by decide) (fun c13 => ?_) (fun c13 => ?_)
  · have hf := it_t ((lq_lt _ _).mp c13) hf
    exact hB17 S _ _ _ (lv_sub hl [] rfl) hw hE  hf
  · have hf := it_f (fun z => c13 ((lq_lt _ _).mpr z)) hf
    refine lv_aload_n hx hb dX5_manyBetween_6 rfl (lv_at hl 0 rfl) ?_
    refine lv_aload_n hx hb dX5_manyBetween_7 rfl (lv_at hl 0 rfl) ?_
    obtain ⟨t14, h15, hf⟩ := bd_some hf
    refine vp_callSi (va_runV (As := []) (rest := [.ref y0]) F (c_X5_onSet l D cy (H := _) hw.1 v_y0 h15) (cwV 0 hts gX5_manyBetween_X5_onSet rfl rfl rfl ⟨rfl, ph_X5_onSet.1, ph_X5_onSet.2, pd_X5_onSet⟩ ⟨Nat.le_of_ble_eq_true rfl, Nat.le_of_ble_eq_true rfl⟩) ⟨PcR.bl, (q_rcv hK hw.1 v_y0.1 (pF_5 (S := S) v_y0.2) rfl), PcR.in hK⟩ rfl rfl hl.1 rfl (lv_room (Nat.le_of_ble_eq_true rfl)) dX5_manyBetween_8 ⟨Nat.zero_le _, Nat.zero_le _⟩).run (fun r16 er16 => ?_)
    subst r16
    obtain ⟨t17, h18, hf⟩ := bd_some hf
    refine q_calli (va_runV (As := [.int t14]) (rest := []) F (c_X5_join l D cy (S := S) v_y0 h18) (cwV 1 hts gX5_manyBetween_X5_join rfl rfl rfl ⟨rfl, ph_X5_join.1, ph_X5_join.2, pd_X5_join⟩ ⟨Nat.le_of_ble_eq_true rfl, Nat.le_of_ble_eq_true rfl⟩) ⟨PcW.bl, (q_rcv hK hw.1 v_y0.1 (pF_5 (S := S) v_y0.2) rfl), PcW.in hK hw hA (fun z => z.elim)⟩ rfl rfl hl.1 rfl (lv_room (Nat.le_of_ble_eq_true rfl)) dX5_manyBetween_11 ⟨Nat.zero_le _, Nat.zero_le _⟩) hw hA (fun H locs hw hX => ?_)
    have hE := hE.tr hX
    have v_y0 := hX _ _ v_y0
    refine lv_if_ne (tgt := 19) hx hb dX5_manyBetween_14 (by decide) (fun c19 => ?_) (fun c19 => ?_)
    · have hf := it_f c19 hf
      refine lv_aload_n hx hb dX5_manyBetween_19 rfl (lv_at hl 0 rfl) ?_
      refine lv_lload_n hx hb dX5_manyBetween_20 rfl (lv_at hl 1 rfl) ?_
      obtain ⟨t20, h21, hf⟩ := bd_some hf
      refine vp_callSl (va_runV (As := [.long y1]) (rest := []) F (c_X5_answerFrom l D cy (H := _) hw.1 v_y0 h21) (cwV 1 hts gX5_manyBetween_X5_answerFrom rfl rfl rfl ⟨rfl, ph_X5_answerFrom.1, ph_X5_answerFrom.2, pd_X5_answerFrom⟩ ⟨Nat.le_of_ble_eq_true rfl, Nat.le_of_ble_eq_true rfl⟩) ⟨PcR.bl, (q_rcv hK hw.1 v_y0.1 (pF_5 (S := t17.2) v_y0.2) rfl), PcR.in hK⟩ rfl rfl hl.1 rfl (lv_room (Nat.le_of_ble_eq_true rfl)) dX5_manyBetween_21 ⟨Nat.zero_le _, Nat.zero_le _⟩).run (fun r22 er22 => ?_)
      subst r22
      refine lv_lstore (lv' := [(5, .long t20), (0, .ref y0), (1, .long y1), (3, .long y3)]) hx hb dX5_manyBetween_24 hl (by decide) rfl (fun ls hl => ?_)
      refine lv_lload hx hb dX5_manyBetween_26 (lv_at hl 0 rfl) ?_
      refine lv_lload_n hx hb dX5_manyBetween_28 rfl (lv_at hl 3 rfl) ?_
      refine W.lcmp hx hb dX5_manyBetween_29 ?_
      refine lv_if_le (tgt := 37) hx hb dX5_manyBetween_30 (by decide) (fun c23 => ?_) (fun c23 => ?_)
      · have hf := it_t ((lq_le _ _).mp c23) hf
        refine lv_lload_n hx hb dX5_manyBetween_37 rfl (lv_at hl 3 rfl) ?_
        refine lv_lload hx hb dX5_manyBetween_38 (lv_at hl 0 rfl) ?_
        refine lv_lsub hx hb dX5_manyBetween_40 ?_
        refine lv_aload_n hx hb dX5_manyBetween_41 rfl (lv_at hl 1 rfl) ?_
        refine q_get F hK hw.1 v_y0.1 (pF_5 (S := t17.2) v_y0.2) (fun w h => List.mem_cons_of_mem _ (List.mem_append_right _ h)) rfl 6 (by decide) (hts (.fieldLink RX5 56 "SharedModuliModel" "n" "J") (List.mem_of_getElem? (i := 1) rfl)) (v := .long (fL t17.2 86 y0)) rfl dX5_manyBetween_42 ?_
        obtain ⟨c24, hf⟩ := ckd_some hf
        refine lv_ldiv hx hb dX5_manyBetween_45 c24 ?_
        refine lv_lconst (v := 1) hx hb dX5_manyBetween_46 (by decide) ?_
        refine lv_ladd hx hb dX5_manyBetween_47 ?_
        exact hB48 t17.2 _ _ (((y3 - t20) / (fL t17.2 86 y0)) + (1 : Int64)) _ (lv_sub hl [] rfl) hw hE  hf
      · have hf := it_f (fun z => c23 ((lq_le _ _).mpr z)) hf
        refine lv_lconst (v := 0) hx hb dX5_manyBetween_33 (by decide) ?_
        refine lv_goto (tgt := 48) hx hb dX5_manyBetween_34 (by decide) ?_
        exact hB48 t17.2 _ _ 0 _ (lv_sub hl [] rfl) hw hE  hf
    · have hf := it_t c19 hf
      exact hB17 t17.2 _ _ _ (lv_sub hl [] rfl) hw hE  hf
def f_X5_between_B40 (S : PS) (s0 : Int64) : Option (Int64 × PS) :=
  some (s0, S)
def f_X5_between_B20 (S : PS) (x0 : Nat) (x1 : Int64) (x3 : Int64) (s0 : Nat) (s1 : Int32) : Option (Int64 × PS) :=
  if (fI (sI S 80 s0 s1) 80 x0) ≤ 0 then (bd (f_X5_manyBetween (sI S 80 s0 s1) x0 x1 x3) fun t2 =>
  f_X5_between_B40 t2.2 t2.1) else
  f_X5_between_B40 (sI S 80 s0 s1) 0
def f_X5_between_B19 (S : PS) (x0 : Nat) (x1 : Int64) (x3 : Int64) (s0 : Nat) : Option (Int64 × PS) :=
  f_X5_between_B20 S x0 x1 x3 s0 1
def f_X5_between (S : PS) (x0 : Nat) (x1 : Int64) (x3 : Int64) : Option (Int64 × PS) :=
  bd (f_X5_isNumber x1) fun t4 =>
  if t4 = 0 then (f_X5_between_B19 S x0 x1 x3 x0) else
  bd (f_X5_isNumber x3) fun t8 =>
  if t8 = 0 then (f_X5_between_B19 S x0 x1 x3 x0) else
  f_X5_between_B20 S x0 x1 x3 x0 0
set_option maxHeartbeats 4000000 in
set_option maxRecDepth 100000 in
theorem c_X5_between (l : Launch) (D : va_G) (cy : cyT) {S : PS} {n : Nat} {y0 : Nat} {y1 : Int64} {y3 : Int64} (v_y0 : vd S y0 5) {res : Int64 × PS} (hf : f_X5_between S y0 y1 y3 = some res) : Met l yX5_between wsX5_between ({ frames := 6, cells := 0, slots := 0, locals := 141 } : Room) (PcW False D cy S n [.ref y0, .long y1, .long y3]) (va_Ql (fun (r : Int64) (u : PS × Nat) => r = res.1 ∧ u = (res.2, n)) (BW D cy S n) (AA cy S n)) 0 0 (AA cy S n) := by
  refine Met.ofW (cc := cX5_between) (maxL := 5) (ret := (some .long)) (by decide) rfl ?_
  intro p e s m args below meth c s₁ B hml hv
  obtain ⟨hav, hsz, hP0, hD0, hK, hZ0⟩ := hv
  have hx := B.exec
  have hb := B.bytes
  have hr := B.returns
  have hts := atoms_spec (ws := wsX5_between) B.pre
  have hown : s.vm.findClass RX5 = some m.cls := findClass_of_methodNamed B.named
  have hlocks := B.notSynchronized
  subst hav
  have hw : Hw D cy (AA cy S n) s.heap S n s.heap [] := Hw.start hsz hP0 hD0
  have hA : ∀ q, s.heap.size ≤ q → AA cy S n q := fun q h => Or.inr (hsz ▸ h)
  have hE : EX S S := EX.rf
  have F : CallFix p m c cX5_between 5 s _ wsX5_between RX5 := ⟨hx, hb, hml, hown, hts⟩
  have hB40 : ∀ (Sb : PS) (H1 : Heap) (lo1 : List Loc) (s0 : Int64) (ls : Array Slot), lv_has ls 5 [] → Hw D cy (AA cy S n) s.heap Sb n H1 lo1 → EX S Sb → f_X5_between_B40 Sb s0 = some res → W p l e (headSpec wsX5_between ({ frames := 6, cells := 0, slots := 0, locals := 141 } : Room)).room s m ([.ref y0, .long y1, .long y3] : List Value).toArray below meth c H1 lo1 0 0 (MQ below (va_Ql (fun (r : Int64) (u : PS × Nat) => r = res.1 ∧ u = (res.2, n)) (BW D cy S n) (AA cy S n)) ([.ref y0, .long y1, .long y3] : List Value).toArray s 0 0 (AA cy S n)) (F0 m 40 ls [.long s0]) := by
    intro Sb H1 lo1 s0 ls hl hw hE hf
    unfold f_X5_between_B40 at hf
    exact W.lret (v := s0) hx hb hr (fun t ht hW => ⟨⟨_, (Sb, n), rfl, po2 hf, BW.of hw hE ht⟩, hw.2.2.1.F ht⟩) hw.2.2.1.2.2 dX5_between_40
  have hB20 : ∀ (Sb : PS) (H1 : Heap) (lo1 : List Loc) (x0 : Nat) (x1 : Int64) (x3 : Int64) (s0 : Nat) (s1 : Int32) (ls : Array Slot), lv_has ls 5 [(0, .ref x0), (1, .long x1), (3, .long x3)] → Hw D cy (AA cy S n) s.heap Sb n H1 lo1 → EX S Sb → vd Sb x0 5 → vd Sb s0 5 → f_X5_between_B20 Sb x0 x1 x3 s0 s1 = some res → W p l e (headSpec wsX5_between ({ frames := 6, cells := 0, slots := 0, locals := 141 } : Room)).room s m ([.ref y0, .long y1, .long y3] : List Value).toArray below meth c H1 lo1 0 0 (MQ below (va_Ql (fun (r : Int64) (u : PS × Nat) => r = res.1 ∧ u = (res.2, n)) (BW D cy S n) (AA cy S n)) ([.ref y0, .long y1, .long y3] : List Value).toArray s 0 0 (AA cy S n)) (F0 m 20 ls [.int s1, .ref s0]) := by
    intro Sb H1 lo1 x0 x1 x3 s0 s1 ls hl hw hE v_x0 v_s0 hf
    unfold f_X5_between_B20 at hf
    refine q_put F hK hw v_s0.1 (pF_5 (S := Sb) v_s0.2) (fun w h => List.mem_cons_of_mem _ (List.mem_append_right _ h)) tyX5 tyX5_ok nmX5 rfl 0 (by decide) (hts (.fieldLink RX5 22 "SharedModuliModel" "thrown" "I") (List.mem_of_getElem? (i := 1) rfl)) (Or.inl rfl) (tyX5_ok 0 (by decide)) rfl rfl (Nat.le_of_ble_eq_true rfl) (S1 := sI Sb 80 s0 s1) (st_80 (S := Sb) v_s0.2 s1) dX5_between_20 (fun H locs hw => ?_)
    refine lv_aload_n hx hb dX5_between_23 rfl (lv_at hl 0 rfl) ?_
    refine q_get F hK hw.1 v_x0.1 (pF_5 (S := sI Sb 80 s0 s1) v_x0.2) (fun w h => List.mem_cons_of_mem _ (List.mem_append_right _ h)) rfl 0 (by decide) (hts (.fieldLink RX5 22 "SharedModuliModel" "thrown" "I") (List.mem_of_getElem? (i := 1) rfl)) (v := .int (fI (sI Sb 80 s0 s1) 80 x0)) rfl dX5_between_24 ?_
    refine lv_if_le (tgt := 34) hx hb dX5_between_27 (by decide) (fun c12 => ?_) (fun c12 => ?_)
    · have hf := it_t c12 hf
      refine lv_aload_n hx hb dX5_between_34 rfl (lv_at hl 0 rfl) ?_
      refine lv_lload_n hx hb dX5_between_35 rfl (lv_at hl 1 rfl) ?_
      refine lv_lload_n hx hb dX5_between_36 rfl (lv_at hl 2 rfl) ?_
      obtain ⟨t13, h14, hf⟩ := bd_some hf
      refine q_calll (va_runV (As := [.long x1, .long x3]) (rest := []) F (c_X5_manyBetween l D cy (S := sI Sb 80 s0 s1) v_x0 h14) (cwV 2 hts gX5_between_X5_manyBetween rfl rfl rfl ⟨rfl, ph_X5_manyBetween.1, ph_X5_manyBetween.2, pd_X5_manyBetween⟩ ⟨Nat.le_of_ble_eq_true rfl, Nat.le_of_ble_eq_true rfl⟩) ⟨PcW.bl, (q_rcv hK hw.1 v_x0.1 (pF_5 (S := sI Sb 80 s0 s1) v_x0.2) rfl), PcW.in hK hw hA (fun z => z.elim)⟩ rfl rfl hl.1 rfl (lv_room (Nat.le_of_ble_eq_true rfl)) dX5_between_37 ⟨Nat.zero_le _, Nat.zero_le _⟩) hw hA (fun H locs hw hX => ?_)
      have hE := hE.tr hX
      have v_x0 := hX _ _ v_x0
      have v_s0 := hX _ _ v_s0
      exact hB40 t13.2 _ _ t13.1 _ (lv_sub hl [] rfl) hw hE  hf
    · have hf := it_f c12 hf
      refine lv_lconst (v := 0) hx hb dX5_between_30 (by decide) ?_
      refine lv_goto (tgt := 40) hx hb dX5_between_31 (by decide) ?_
      exact hB40 (sI Sb 80 s0 s1) _ _ 0 _ (lv_sub hl [] rfl) hw hE  hf
  have hB19 : ∀ (Sb : PS) (H1 : Heap) (lo1 : List Loc) (x0 : Nat) (x1 : Int64) (x3 : Int64) (s0 : Nat) (ls : Array Slot), lv_has ls 5 [(0, .ref x0), (1, .long x1), (3, .long x3)] → Hw D cy (AA cy S n) s.heap Sb n H1 lo1 → EX S Sb → vd Sb x0 5 → vd Sb s0 5 → f_X5_between_B19 Sb x0 x1 x3 s0 = some res → W p l e (headSpec wsX5_between ({ frames := 6, cells := 0, slots := 0, locals := 141 } : Room)).room s m ([.ref y0, .long y1, .long y3] : List Value).toArray below meth c H1 lo1 0 0 (MQ below (va_Ql (fun (r : Int64) (u : PS × Nat) => r = res.1 ∧ u = (res.2, n)) (BW D cy S n) (AA cy S n)) ([.ref y0, .long y1, .long y3] : List Value).toArray s 0 0 (AA cy S n)) (F0 m 19 ls [.ref s0]) := by
    intro Sb H1 lo1 x0 x1 x3 s0 ls hl hw hE v_x0 v_s0 hf
    unfold f_X5_between_B19 at hf
    refine lv_iconst (v := 1) hx hb dX5_between_19 (by decide) ?_
    exact hB20 Sb _ _ x0 x1 x3 s0 1 _ (lv_sub hl [0, 1, 2] rfl) hw hE v_x0 v_s0 hf
  have hl := lv_entry ([.ref y0, .long y1, .long y3]) (n := 5) (Nat.le_of_ble_eq_true rfl)
  rw [lg_entry_eq]
  generalize (lg_sl ([.ref y0, .long y1, .long y3]) ++ List.replicate (5 - (lg_sl ([.ref y0, .long y1, .long y3])).length) Slot.unset).toArray = ls at hl ⊢
  have hl : lv_has ls 5 [(0, .ref y0), (1, .long y1), (3, .long y3)] := hl
  unfold f_X5_between at hf
  refine lv_aload_n hx hb dX5_between_0 rfl (lv_at hl 0 rfl) ?_
  refine lv_lload_n hx hb dX5_between_1 rfl (lv_at hl 1 rfl) ?_
  obtain ⟨t15, h16, hf⟩ := bd_some hf
  refine vp_callSi (va_runS (As := [.long y1]) (rest := [.ref y0]) F (c_X5_isNumber l D cy (H := _)  h16) (va_cwS 1 hts gX5_between_X5_isNumber rfl rfl rfl ⟨ph_X5_isNumber.1, ph_X5_isNumber.2, pd_X5_isNumber⟩ ⟨Nat.le_of_ble_eq_true rfl, Nat.le_of_ble_eq_true rfl⟩) ⟨PcR.bl, PcR.in hK⟩ rfl rfl hl.1 rfl (lv_room (Nat.le_of_ble_eq_true rfl)) dX5_between_2 ⟨Nat.zero_le _, Nat.zero_le _⟩).run (fun r17 er17 => ?_)
  subst r17
  refine lv_if_eq (tgt := 19) hx hb dX5_between_5 (by decide) (fun c18 => ?_) (fun c18 => ?_)
  · have hf := it_t c18 hf
    exact hB19 S _ _ y0 y1 y3 y0 _ (lv_sub hl [0, 1, 2] rfl) hw hE v_y0 v_y0 hf
  · have hf := it_f c18 hf
    refine lv_lload_n hx hb dX5_between_8 rfl (lv_at hl 2 rfl) ?_
    obtain ⟨t19, h20, hf⟩ := bd_some hf
    refine vp_callSi (va_runS (As := [.long y3]) (rest := [.ref y0]) F (c_X5_isNumber l D cy (H := _)  h20) (va_cwS 1 hts gX5_between_X5_isNumber rfl rfl rfl ⟨ph_X5_isNumber.1, ph_X5_isNumber.2, pd_X5_isNumber⟩ ⟨Nat.le_of_ble_eq_true rfl, Nat.le_of_ble_eq_true rfl⟩) ⟨PcR.bl, PcR.in hK⟩ rfl rfl hl.1 rfl (lv_room (Nat.le_of_ble_eq_true rfl)) dX5_between_9 ⟨Nat.zero_le _, Nat.zero_le _⟩).run (fun r21 er21 => ?_)
    subst r21
    refine lv_if_eq (tgt := 19) hx hb dX5_between_12 (by decide) (fun c22 => ?_) (fun c22 => ?_)
    · have hf := it_t c22 hf
      exact hB19 S _ _ y0 y1 y3 y0 _ (lv_sub hl [0, 1, 2] rfl) hw hE v_y0 v_y0 hf
    · have hf := it_f c22 hf
      refine lv_iconst (v := 0) hx hb dX5_between_15 (by decide) ?_
      refine lv_goto (tgt := 20) hx hb dX5_between_16 (by decide) ?_
      exact hB20 S _ _ y0 y1 y3 y0 0 _ (lv_sub hl [0, 1, 2] rfl) hw hE v_y0 v_y0 hf
def f_X5_missed_B84 (S : PS) (x3 : Int32) : Option Int32 :=
  some x3
def f_X5_missed_B76 (S : PS) (kL5 : Nat → Int64 → Int32 → Int32 → Option Int32) (ke84 : Int32 → Option Int32) (x0 : Nat) (x1 : Int64) (x4 : Int32) (s0 : Int32) (s1 : Int32) : Option Int32 :=
  kL5 x0 x1 (s0 + s1) (x4 + 1)
def f_X5_missed_B75 (S : PS) (kL5 : Nat → Int64 → Int32 → Int32 → Option Int32) (ke84 : Int32 → Option Int32) (x0 : Nat) (x1 : Int64) (x4 : Int32) (s0 : Int32) : Option Int32 :=
  f_X5_missed_B76 S kL5 ke84 x0 x1 x4 s0 0
def f_X5_missed_B54 (S : PS) (kL5 : Nat → Int64 → Int32 → Int32 → Option Int32) (ke84 : Int32 → Option Int32) (x0 : Nat) (x1 : Int64) (x3 : Int32) (x4 : Int32) (s0 : Int32) : Option Int32 :=
  bd (f_X5_isOn S x0 x4) fun t1 =>
  if t1 = 0 then (f_X5_missed_B75 S kL5 ke84 x0 x1 x4 x3) else
  if s0 = 0 then (f_X5_missed_B76 S kL5 ke84 x0 x1 x4 x3 1) else
  f_X5_missed_B75 S kL5 ke84 x0 x1 x4 x3
def f_X5_missed_L5s (S : PS) (kL5 : Nat → Int64 → Int32 → Int32 → Option Int32) (ke84 : Int32 → Option Int32) (x0 : Nat) (x1 : Int64) (x3 : Int32) (x4 : Int32) : Option Int32 :=
  rq (fR S 81 x0) S 6 fun b6 =>
  ck (decide (¬ ((0 : Int32) < 0 ∨ aN S b6 ≤ (0 : Int32).toNatClampNeg))) (
  if (aI S b6 (0 : Int32).toNatClampNeg) ≤ x4 then (ke84 x3) else
  bd (f_X5_of S x0 x4 0) fun t10 =>
  bd (f_X5_of S x0 x4 1) fun t13 =>
  bd (f_X5_of S x0 x4 2) fun t16 =>
  ck (decide (¬ t16.toInt64 = 0)) (
  if (((t10.toInt64 * x1) - t13.toInt64) - ((t10.toInt64 * x1) - t13.toInt64) / t16.toInt64 * t16.toInt64) = 0 then (f_X5_missed_B54 S kL5 ke84 x0 x1 x3 x4 1) else
  f_X5_missed_B54 S kL5 ke84 x0 x1 x3 x4 0))
def f_X5_missed_L5 (S : PS) (ke84 : Int32 → Option Int32) (fu : Nat) : Nat → Int64 → Int32 → Int32 → Option Int32 := fx (fun kL => f_X5_missed_L5s S kL ke84) (fun _ _ _ _ => none) fu
def f_X5_missed (S : PS) (x0 : Nat) (x1 : Int64) : Option Int32 :=
  f_X5_missed_L5 S (f_X5_missed_B84 S) FU x0 x1 0 0
set_option maxHeartbeats 4000000 in
set_option maxRecDepth 100000 in
theorem c_X5_missed (l : Launch) (D : va_G) (cy : cyT) {H : Heap} {S : PS} (hP : va_P D vwCl (wl cy S) H) {y0 : Nat} {y1 : Int64} (v_y0 : vd S y0 5) {res : Int32} (hf : f_X5_missed S y0 y1 = some res) : Met l yX5_missed wsX5_missed ({ frames := 2, cells := 0, slots := 0, locals := 43 } : Room) (PcR D cy H [.ref y0, .long y1]) (vp_Si (fun r => r = res)) 0 0 (fun _ => False) := by
  refine Met.ofW (cc := cX5_missed) (maxL := 6) (ret := (some .int)) (by decide) rfl ?_
  intro p e s m args below meth c s₁ B hml hv
  obtain ⟨hav, hH, hK⟩ := hv
  have hx := B.exec
  have hb := B.bytes
  have hr := B.returns
  have hts := atoms_spec (ws := wsX5_missed) B.pre
  have hown : s.vm.findClass RX5 = some m.cls := findClass_of_methodNamed B.named
  have hlocks := B.notSynchronized
  subst hav
  subst hH
  have F : CallFix p m c cX5_missed 6 s _ wsX5_missed RX5 := ⟨hx, hb, hml, hown, hts⟩
  have hB84 : ∀ (x3 : Int32) (ls : Array Slot), lv_has ls 6 [(3, .int x3)] → f_X5_missed_B84 S x3 = some res → W p l e (headSpec wsX5_missed ({ frames := 2, cells := 0, slots := 0, locals := 43 } : Room)).room s m ([.ref y0, .long y1] : List Value).toArray below meth c s.heap [] 0 0 (MQ below (vp_Si (fun r => r = res)) ([.ref y0, .long y1] : List Value).toArray s 0 0 (fun _ => False)) (F0 m 84 ls []) := by
    intro x3 ls hl hf
    unfold f_X5_missed_B84 at hf
    refine lv_iload_n hx hb dX5_missed_84 rfl (lv_at hl 0 rfl) ?_
    exact W.iret (v := x3) hx hb hr (fun t ht hW => ⟨_, rfl, Option.some.inj hf, ht⟩) (fun _ h => by cases h) dX5_missed_85
  have hL5 : ∀ (fu5 : Nat), ∀ (x0 : Nat) (x1 : Int64) (x3 : Int32) (x4 : Int32) (ls : Array Slot), lv_has ls 6 [(0, .ref x0), (1, .long x1), (3, .int x3), (4, .int x4)] → vd S x0 5 → f_X5_missed_L5 S (f_X5_missed_B84 S) fu5 x0 x1 x3 x4 = some res → W p l e (headSpec wsX5_missed ({ frames := 2, cells := 0, slots := 0, locals := 43 } : Room)).room s m ([.ref y0, .long y1] : List Value).toArray below meth c s.heap [] 0 0 (MQ below (vp_Si (fun r => r = res)) ([.ref y0, .long y1] : List Value).toArray s 0 0 (fun _ => False)) (F0 m 5 ls []) := by
    intro fu5
    induction fu5 with
    | zero =>
      intro x0 x1 x3 x4 ls hl v_x0 hf
      have hf : (none : Option Int32) = some res := hf
      cases hf
    | succ fu5 ih5 =>
      have hB76 : ∀ (x0 : Nat) (x1 : Int64) (x4 : Int32) (s0 : Int32) (s1 : Int32) (ls : Array Slot), lv_has ls 6 [(0, .ref x0), (1, .long x1), (4, .int x4)] → vd S x0 5 → f_X5_missed_B76 S (f_X5_missed_L5 S (f_X5_missed_B84 S) fu5) (f_X5_missed_B84 S) x0 x1 x4 s0 s1 = some res → W p l e (headSpec wsX5_missed ({ frames := 2, cells := 0, slots := 0, locals := 43 } : Room)).room s m ([.ref y0, .long y1] : List Value).toArray below meth c s.heap [] 0 0 (MQ below (vp_Si (fun r => r = res)) ([.ref y0, .long y1] : List Value).toArray s 0 0 (fun _ => False)) (F0 m 76 ls [.int s1, .int s0]) := by
        intro x0 x1 x4 s0 s1 ls hl v_x0 hf
        unfold f_X5_missed_B76 at hf
        refine lv_iadd hx hb dX5_missed_76 ?_
        refine lv_istore_n (lv' := [(3, .int (s0 + s1)), (0, .ref x0), (1, .long x1), (4, .int x4)]) hx hb dX5_missed_77 rfl hl (by decide) rfl (fun ls hl => ?_)
        refine lv_iinc (v := x4 + 1) (lv' := [(4, .int (x4 + 1)), (3, .int (s0 + s1)), (0, .ref x0), (1, .long x1)]) hx hb dX5_missed_78 hl (k := 3) rfl (by rfl) (by decide) rfl (fun ls hl => ?_)
        refine lv_goto (tgt := 5) hx hb dX5_missed_81 (by decide) ?_
        exact ih5 x0 x1 (s0 + s1) (x4 + 1) _ (lv_sub hl [2, 3, 1, 0] rfl) v_x0 hf
      have hB75 : ∀ (x0 : Nat) (x1 : Int64) (x4 : Int32) (s0 : Int32) (ls : Array Slot), lv_has ls 6 [(0, .ref x0), (1, .long x1), (4, .int x4)] → vd S x0 5 → f_X5_missed_B75 S (f_X5_missed_L5 S (f_X5_missed_B84 S) fu5) (f_X5_missed_B84 S) x0 x1 x4 s0 = some res → W p l e (headSpec wsX5_missed ({ frames := 2, cells := 0, slots := 0, locals := 43 } : Room)).room s m ([.ref y0, .long y1] : List Value).toArray below meth c s.heap [] 0 0 (MQ below (vp_Si (fun r => r = res)) ([.ref y0, .long y1] : List Value).toArray s 0 0 (fun _ => False)) (F0 m 75 ls [.int s0]) := by
        intro x0 x1 x4 s0 ls hl v_x0 hf
        unfold f_X5_missed_B75 at hf
        refine lv_iconst (v := 0) hx hb dX5_missed_75 (by decide) ?_
        exact hB76 x0 x1 x4 s0 0 _ (lv_sub hl [0, 1, 2] rfl) v_x0 hf
      have hB54 : ∀ (x0 : Nat) (x1 : Int64) (x3 : Int32) (x4 : Int32) (s0 : Int32) (ls : Array Slot), lv_has ls 6 [(0, .ref x0), (1, .long x1), (3, .int x3), (4, .int x4)] → vd S x0 5 → f_X5_missed_B54 S (f_X5_missed_L5 S (f_X5_missed_B84 S) fu5) (f_X5_missed_B84 S) x0 x1 x3 x4 s0 = some res → W p l e (headSpec wsX5_missed ({ frames := 2, cells := 0, slots := 0, locals := 43 } : Room)).room s m ([.ref y0, .long y1] : List Value).toArray below meth c s.heap [] 0 0 (MQ below (vp_Si (fun r => r = res)) ([.ref y0, .long y1] : List Value).toArray s 0 0 (fun _ => False)) (F0 m 54 ls [.int s0]) := by
        intro x0 x1 x3 x4 s0 ls hl v_x0 hf
        unfold f_X5_missed_B54 at hf
        refine lv_istore (lv' := [(5, .int s0), (0, .ref x0), (1, .long x1), (3, .int x3), (4, .int x4)]) hx hb dX5_missed_54 hl (by decide) rfl (fun ls hl => ?_)
        refine lv_iload_n hx hb dX5_missed_56 rfl (lv_at hl 3 rfl) ?_
        refine lv_aload_n hx hb dX5_missed_57 rfl (lv_at hl 1 rfl) ?_
        refine lv_iload hx hb dX5_missed_58 (lv_at hl 4 rfl) ?_
        obtain ⟨t21, h22, hf⟩ := bd_some hf
        refine vp_callSi (va_runV (As := [.int x4]) (rest := [.int x3]) F (c_X5_isOn l D cy (H := _) hP v_x0 h22) (cwV 1 hts gX5_missed_X5_isOn rfl rfl rfl ⟨rfl, ph_X5_isOn.1, ph_X5_isOn.2, pd_X5_isOn⟩ ⟨Nat.le_of_ble_eq_true rfl, Nat.le_of_ble_eq_true rfl⟩) ⟨PcR.bl, (q_rcv hK hP v_x0.1 (pF_5 (S := S) v_x0.2) rfl), PcR.in hK⟩ rfl rfl hl.1 rfl (lv_room (Nat.le_of_ble_eq_true rfl)) dX5_missed_60 ⟨Nat.zero_le _, Nat.zero_le _⟩).run (fun r23 er23 => ?_)
        subst r23
        refine lv_if_eq (tgt := 75) hx hb dX5_missed_63 (by decide) (fun c24 => ?_) (fun c24 => ?_)
        · have hf := it_t c24 hf
          exact hB75 x0 x1 x4 x3 _ (lv_sub hl [1, 2, 4] rfl) v_x0 hf
        · have hf := it_f c24 hf
          refine lv_iload hx hb dX5_missed_66 (lv_at hl 0 rfl) ?_
          refine lv_if_ne (tgt := 75) hx hb dX5_missed_68 (by decide) (fun c25 => ?_) (fun c25 => ?_)
          · have hf := it_f c25 hf
            exact hB75 x0 x1 x4 x3 _ (lv_sub hl [1, 2, 4] rfl) v_x0 hf
          · have hf := it_t c25 hf
            refine lv_iconst (v := 1) hx hb dX5_missed_71 (by decide) ?_
            refine lv_goto (tgt := 76) hx hb dX5_missed_72 (by decide) ?_
            exact hB76 x0 x1 x4 x3 1 _ (lv_sub hl [1, 2, 4] rfl) v_x0 hf
      intro x0 x1 x3 x4 ls hl v_x0 hf
      have hf : f_X5_missed_L5s S (f_X5_missed_L5 S (f_X5_missed_B84 S) fu5) (f_X5_missed_B84 S) x0 x1 x3 x4 = some res := hf
      unfold f_X5_missed_L5s at hf
      refine lv_iload hx hb dX5_missed_5 (lv_at hl 3 rfl) ?_
      refine lv_aload_n hx hb dX5_missed_7 rfl (lv_at hl 0 rfl) ?_
      obtain ⟨b26, e27, v_b26, hf⟩ := rq_some hf
      refine q_get F hK hP v_x0.1 (pF_5 (S := S) v_x0.2) (fun w h => List.mem_cons_of_mem _ (List.mem_append_right _ h)) rfl 1 (by decide) (hts (.fieldLink RX5 7 "SharedModuliModel" "z" "[I") (List.mem_of_getElem? (i := 1) rfl)) (v := .ref b26) (congrArg (fun z => some (va_rf z)) e27) dX5_missed_8 ?_
      refine lv_iconst (v := 0) hx hb dX5_missed_11 (by decide) ?_
      obtain ⟨c28, hf⟩ := ckd_some hf
      refine q_iald F hK hP v_b26 c28 dX5_missed_12 ?_
      refine lv_icmp_ge (tgt := 84) hx hb dX5_missed_13 (by decide) (fun c29 => ?_) (fun c29 => ?_)
      · have hf := it_t c29 hf
        exact hB84 x3 _ (lv_sub hl [2] rfl)  hf
      · have hf := it_f c29 hf
        refine lv_aload_n hx hb dX5_missed_16 rfl (lv_at hl 0 rfl) ?_
        refine lv_iload hx hb dX5_missed_17 (lv_at hl 3 rfl) ?_
        refine lv_iconst (v := 0) hx hb dX5_missed_19 (by decide) ?_
        obtain ⟨t30, h31, hf⟩ := bd_some hf
        refine vp_callSi (va_runV (As := [.int x4, .int 0]) (rest := []) F (c_X5_of l D cy (H := _) hP v_x0 h31) (cwV 2 hts gX5_missed_X5_of rfl rfl rfl ⟨rfl, ph_X5_of.1, ph_X5_of.2, pd_X5_of⟩ ⟨Nat.le_of_ble_eq_true rfl, Nat.le_of_ble_eq_true rfl⟩) ⟨PcR.bl, (q_rcv hK hP v_x0.1 (pF_5 (S := S) v_x0.2) rfl), PcR.in hK⟩ rfl rfl hl.1 rfl (lv_room (Nat.le_of_ble_eq_true rfl)) dX5_missed_20 ⟨Nat.zero_le _, Nat.zero_le _⟩).run (fun r32 er32 => ?_)
        subst r32
        refine lv_i2l hx hb dX5_missed_23 rfl ?_
        refine lv_lload_n hx hb dX5_missed_24 rfl (lv_at hl 1 rfl) ?_
        refine lv_lmul hx hb dX5_missed_25 ?_
        refine lv_aload_n hx hb dX5_missed_26 rfl (lv_at hl 0 rfl) ?_
        refine lv_iload hx hb dX5_missed_27 (lv_at hl 3 rfl) ?_
        refine lv_iconst (v := 1) hx hb dX5_missed_29 (by decide) ?_
        obtain ⟨t33, h34, hf⟩ := bd_some hf
        refine vp_callSi (va_runV (As := [.int x4, .int 1]) (rest := [.long (t30.toInt64 * x1)]) F (c_X5_of l D cy (H := _) hP v_x0 h34) (cwV 2 hts gX5_missed_X5_of rfl rfl rfl ⟨rfl, ph_X5_of.1, ph_X5_of.2, pd_X5_of⟩ ⟨Nat.le_of_ble_eq_true rfl, Nat.le_of_ble_eq_true rfl⟩) ⟨PcR.bl, (q_rcv hK hP v_x0.1 (pF_5 (S := S) v_x0.2) rfl), PcR.in hK⟩ rfl rfl hl.1 rfl (lv_room (Nat.le_of_ble_eq_true rfl)) dX5_missed_30 ⟨Nat.zero_le _, Nat.zero_le _⟩).run (fun r35 er35 => ?_)
        subst r35
        refine lv_i2l hx hb dX5_missed_33 rfl ?_
        refine lv_lsub hx hb dX5_missed_34 ?_
        refine lv_aload_n hx hb dX5_missed_35 rfl (lv_at hl 0 rfl) ?_
        refine lv_iload hx hb dX5_missed_36 (lv_at hl 3 rfl) ?_
        refine lv_iconst (v := 2) hx hb dX5_missed_38 (by decide) ?_
        obtain ⟨t36, h37, hf⟩ := bd_some hf
        refine vp_callSi (va_runV (As := [.int x4, .int 2]) (rest := [.long ((t30.toInt64 * x1) - t33.toInt64)]) F (c_X5_of l D cy (H := _) hP v_x0 h37) (cwV 2 hts gX5_missed_X5_of rfl rfl rfl ⟨rfl, ph_X5_of.1, ph_X5_of.2, pd_X5_of⟩ ⟨Nat.le_of_ble_eq_true rfl, Nat.le_of_ble_eq_true rfl⟩) ⟨PcR.bl, (q_rcv hK hP v_x0.1 (pF_5 (S := S) v_x0.2) rfl), PcR.in hK⟩ rfl rfl hl.1 rfl (lv_room (Nat.le_of_ble_eq_true rfl)) dX5_missed_39 ⟨Nat.zero_le _, Nat.zero_le _⟩).run (fun r38 er38 => ?_)
        subst r38
        refine lv_i2l hx hb dX5_missed_42 rfl ?_
        obtain ⟨c39, hf⟩ := ckd_some hf
        refine lv_lrem hx hb dX5_missed_43 c39 ?_
        refine lv_lconst (v := 0) hx hb dX5_missed_44 (by decide) ?_
        refine W.lcmp hx hb dX5_missed_45 ?_
        refine lv_if_ne (tgt := 53) hx hb dX5_missed_46 (by decide) (fun c40 => ?_) (fun c40 => ?_)
        · have hf := it_f (fun z => c40 ((lq_eq _ _).mpr z)) hf
          refine lv_iconst (v := 0) hx hb dX5_missed_53 (by decide) ?_
          exact hB54 x0 x1 x3 x4 0 _ (lv_sub hl [0, 1, 2, 3] rfl) v_x0 hf
        · have hf := it_t ((lq_eq _ _).mp c40) hf
          refine lv_iconst (v := 1) hx hb dX5_missed_49 (by decide) ?_
          refine lv_goto (tgt := 54) hx hb dX5_missed_50 (by decide) ?_
          exact hB54 x0 x1 x3 x4 1 _ (lv_sub hl [0, 1, 2, 3] rfl) v_x0 hf
  have hl := lv_entry ([.ref y0, .long y1]) (n := 6) (Nat.le_of_ble_eq_true rfl)
  rw [lg_entry_eq]
  generalize (lg_sl ([.ref y0, .long y1]) ++ List.replicate (6 - (lg_sl ([.ref y0, .long y1])).length) Slot.unset).toArray = ls at hl ⊢
  have hl : lv_has ls 6 [(0, .ref y0), (1, .long y1)] := hl
  unfold f_X5_missed at hf
  refine lv_iconst (v := 0) hx hb dX5_missed_0 (by decide) ?_
  refine lv_istore_n (lv' := [(3, .int 0), (0, .ref y0), (1, .long y1)]) hx hb dX5_missed_1 rfl hl (by decide) rfl (fun ls hl => ?_)
  refine lv_iconst (v := 0) hx hb dX5_missed_2 (by decide) ?_
  refine lv_istore (lv' := [(4, .int 0), (3, .int 0), (0, .ref y0), (1, .long y1)]) hx hb dX5_missed_3 hl (by decide) rfl (fun ls hl => ?_)
  exact hL5 FU y0 y1 0 0 _ (lv_sub hl [2, 3, 1, 0] rfl) v_y0 hf
def f_X5_misses_B32 (S : PS) (s0 : Int32) : Option (Int32 × PS) :=
  some (s0, S)
def f_X5_misses_B13 (S : PS) (x0 : Nat) (x1 : Int64) (s0 : Nat) (s1 : Int32) : Option (Int32 × PS) :=
  if (fI (sI S 80 s0 s1) 80 x0) ≤ 0 then (bd (f_X5_missed (sI S 80 s0 s1) x0 x1) fun t2 =>
  f_X5_misses_B32 (sI S 80 s0 s1) t2) else
  f_X5_misses_B32 (sI S 80 s0 s1) 0
def f_X5_misses (S : PS) (x0 : Nat) (x1 : Int64) : Option (Int32 × PS) :=
  bd (f_X5_isNumber x1) fun t5 =>
  if t5 = 0 then (f_X5_misses_B13 S x0 x1 x0 1) else
  f_X5_misses_B13 S x0 x1 x0 0
set_option maxHeartbeats 4000000 in
set_option maxRecDepth 100000 in
theorem c_X5_misses (l : Launch) (D : va_G) (cy : cyT) {S : PS} {n : Nat} {y0 : Nat} {y1 : Int64} (v_y0 : vd S y0 5) {res : Int32 × PS} (hf : f_X5_misses S y0 y1 = some res) : Met l yX5_misses wsX5_misses ({ frames := 3, cells := 0, slots := 0, locals := 68 } : Room) (PcW False D cy S n [.ref y0, .long y1]) (va_Qi (fun (r : Int32) (u : PS × Nat) => r = res.1 ∧ u = (res.2, n)) (BW D cy S n) (AA cy S n)) 0 0 (AA cy S n) := by
  refine Met.ofW (cc := cX5_misses) (maxL := 3) (ret := (some .int)) (by decide) rfl ?_
  intro p e s m args below meth c s₁ B hml hv
  obtain ⟨hav, hsz, hP0, hD0, hK, hZ0⟩ := hv
  have hx := B.exec
  have hb := B.bytes
  have hr := B.returns
  have hts := atoms_spec (ws := wsX5_misses) B.pre
  have hown : s.vm.findClass RX5 = some m.cls := findClass_of_methodNamed B.named
  have hlocks := B.notSynchronized
  subst hav
  have hw : Hw D cy (AA cy S n) s.heap S n s.heap [] := Hw.start hsz hP0 hD0
  have hA : ∀ q, s.heap.size ≤ q → AA cy S n q := fun q h => Or.inr (hsz ▸ h)
  have hE : EX S S := EX.rf
  have F : CallFix p m c cX5_misses 3 s _ wsX5_misses RX5 := ⟨hx, hb, hml, hown, hts⟩
  have hB32 : ∀ (Sb : PS) (H1 : Heap) (lo1 : List Loc) (s0 : Int32) (ls : Array Slot), lv_has ls 3 [] → Hw D cy (AA cy S n) s.heap Sb n H1 lo1 → EX S Sb → f_X5_misses_B32 Sb s0 = some res → W p l e (headSpec wsX5_misses ({ frames := 3, cells := 0, slots := 0, locals := 68 } : Room)).room s m ([.ref y0, .long y1] : List Value).toArray below meth c H1 lo1 0 0 (MQ below (va_Qi (fun (r : Int32) (u : PS × Nat) => r = res.1 ∧ u = (res.2, n)) (BW D cy S n) (AA cy S n)) ([.ref y0, .long y1] : List Value).toArray s 0 0 (AA cy S n)) (F0 m 32 ls [.int s0]) := by
    intro Sb H1 lo1 s0 ls hl hw hE hf
    unfold f_X5_misses_B32 at hf
    exact W.iret (v := s0) hx hb hr (fun t ht hW => ⟨⟨_, (Sb, n), rfl, po2 hf, BW.of hw hE ht⟩, hw.2.2.1.F ht⟩) hw.2.2.1.2.2 dX5_misses_32
  have hB13 : ∀ (Sb : PS) (H1 : Heap) (lo1 : List Loc) (x0 : Nat) (x1 : Int64) (s0 : Nat) (s1 : Int32) (ls : Array Slot), lv_has ls 3 [(0, .ref x0), (1, .long x1)] → Hw D cy (AA cy S n) s.heap Sb n H1 lo1 → EX S Sb → vd Sb x0 5 → vd Sb s0 5 → f_X5_misses_B13 Sb x0 x1 s0 s1 = some res → W p l e (headSpec wsX5_misses ({ frames := 3, cells := 0, slots := 0, locals := 68 } : Room)).room s m ([.ref y0, .long y1] : List Value).toArray below meth c H1 lo1 0 0 (MQ below (va_Qi (fun (r : Int32) (u : PS × Nat) => r = res.1 ∧ u = (res.2, n)) (BW D cy S n) (AA cy S n)) ([.ref y0, .long y1] : List Value).toArray s 0 0 (AA cy S n)) (F0 m 13 ls [.int s1, .ref s0]) := by
    intro Sb H1 lo1 x0 x1 s0 s1 ls hl hw hE v_x0 v_s0 hf
    unfold f_X5_misses_B13 at hf
    refine q_put F hK hw v_s0.1 (pF_5 (S := Sb) v_s0.2) (fun w h => List.mem_cons_of_mem _ (List.mem_append_right _ h)) tyX5 tyX5_ok nmX5 rfl 0 (by decide) (hts (.fieldLink RX5 22 "SharedModuliModel" "thrown" "I") (List.mem_of_getElem? (i := 1) rfl)) (Or.inl rfl) (tyX5_ok 0 (by decide)) rfl rfl (Nat.le_of_ble_eq_true rfl) (S1 := sI Sb 80 s0 s1) (st_80 (S := Sb) v_s0.2 s1) dX5_misses_13 (fun H locs hw => ?_)
    refine lv_aload_n hx hb dX5_misses_16 rfl (lv_at hl 0 rfl) ?_
    refine q_get F hK hw.1 v_x0.1 (pF_5 (S := sI Sb 80 s0 s1) v_x0.2) (fun w h => List.mem_cons_of_mem _ (List.mem_append_right _ h)) rfl 0 (by decide) (hts (.fieldLink RX5 22 "SharedModuliModel" "thrown" "I") (List.mem_of_getElem? (i := 1) rfl)) (v := .int (fI (sI Sb 80 s0 s1) 80 x0)) rfl dX5_misses_17 ?_
    refine lv_if_le (tgt := 27) hx hb dX5_misses_20 (by decide) (fun c9 => ?_) (fun c9 => ?_)
    · have hf := it_t c9 hf
      refine lv_aload_n hx hb dX5_misses_27 rfl (lv_at hl 0 rfl) ?_
      refine lv_lload_n hx hb dX5_misses_28 rfl (lv_at hl 1 rfl) ?_
      obtain ⟨t10, h11, hf⟩ := bd_some hf
      refine vp_callSi (va_runV (As := [.long x1]) (rest := []) F (c_X5_missed l D cy (H := _) hw.1 v_x0 h11) (cwV 1 hts gX5_misses_X5_missed rfl rfl rfl ⟨rfl, ph_X5_missed.1, ph_X5_missed.2, pd_X5_missed⟩ ⟨Nat.le_of_ble_eq_true rfl, Nat.le_of_ble_eq_true rfl⟩) ⟨PcR.bl, (q_rcv hK hw.1 v_x0.1 (pF_5 (S := sI Sb 80 s0 s1) v_x0.2) rfl), PcR.in hK⟩ rfl rfl hl.1 rfl (lv_room (Nat.le_of_ble_eq_true rfl)) dX5_misses_29 ⟨Nat.zero_le _, Nat.zero_le _⟩).run (fun r12 er12 => ?_)
      subst r12
      exact hB32 (sI Sb 80 s0 s1) _ _ t10 _ (lv_sub hl [] rfl) hw hE  hf
    · have hf := it_f c9 hf
      refine lv_iconst (v := 0) hx hb dX5_misses_23 (by decide) ?_
      refine lv_goto (tgt := 32) hx hb dX5_misses_24 (by decide) ?_
      exact hB32 (sI Sb 80 s0 s1) _ _ 0 _ (lv_sub hl [] rfl) hw hE  hf
  have hl := lv_entry ([.ref y0, .long y1]) (n := 3) (Nat.le_of_ble_eq_true rfl)
  rw [lg_entry_eq]
  generalize (lg_sl ([.ref y0, .long y1]) ++ List.replicate (3 - (lg_sl ([.ref y0, .long y1])).length) Slot.unset).toArray = ls at hl ⊢
  have hl : lv_has ls 3 [(0, .ref y0), (1, .long y1)] := hl
  unfold f_X5_misses at hf
  refine lv_aload_n hx hb dX5_misses_0 rfl (lv_at hl 0 rfl) ?_
  refine lv_lload_n hx hb dX5_misses_1 rfl (lv_at hl 1 rfl) ?_
  obtain ⟨t13, h14, hf⟩ := bd_some hf
  refine vp_callSi (va_runS (As := [.long y1]) (rest := [.ref y0]) F (c_X5_isNumber l D cy (H := _)  h14) (va_cwS 1 hts gX5_misses_X5_isNumber rfl rfl rfl ⟨ph_X5_isNumber.1, ph_X5_isNumber.2, pd_X5_isNumber⟩ ⟨Nat.le_of_ble_eq_true rfl, Nat.le_of_ble_eq_true rfl⟩) ⟨PcR.bl, PcR.in hK⟩ rfl rfl hl.1 rfl (lv_room (Nat.le_of_ble_eq_true rfl)) dX5_misses_2 ⟨Nat.zero_le _, Nat.zero_le _⟩).run (fun r15 er15 => ?_)
  subst r15
  refine lv_if_eq (tgt := 12) hx hb dX5_misses_5 (by decide) (fun c16 => ?_) (fun c16 => ?_)
  · have hf := it_t c16 hf
    refine lv_iconst (v := 1) hx hb dX5_misses_12 (by decide) ?_
    exact hB13 S _ _ y0 y1 y0 1 _ (lv_sub hl [0, 1] rfl) hw hE v_y0 v_y0 hf
  · have hf := it_f c16 hf
    refine lv_iconst (v := 0) hx hb dX5_misses_8 (by decide) ?_
    refine lv_goto (tgt := 13) hx hb dX5_misses_9 (by decide) ?_
    exact hB13 S _ _ y0 y1 y0 0 _ (lv_sub hl [0, 1] rfl) hw hE v_y0 v_y0 hf
def f_X5_wouldAdd_B82 (S : PS) (x0 : Nat) (s0 : Int64) : Option (Int64 × PS) :=
  bd (f_X5_clearNext S x0) fun t1 =>
  some (s0, t1)
def f_X5_wouldAdd (S : PS) (x0 : Nat) (x1 : Int32) (x2 : Int32) (x3 : Int32) (x4 : Int32) : Option (Int64 × PS) :=
  bd (f_X5_canAdd S x0 x1 x2 x3) fun t3 =>
  if t3.1 = 0 then (some (((-1)), t3.2)) else
  rq (fR t3.2 81 x0) t3.2 6 fun b6 =>
  ck (decide (¬ ((0 : Int32) < 0 ∨ aN t3.2 b6 ≤ (0 : Int32).toNatClampNeg))) (
  bd (f_X5_onSet t3.2 x0) fun t9 =>
  if 2 ≤ x4 then (if x4 = 2 then (bd (f_X5_against t3.2 x0 (aI t3.2 b6 (0 : Int32).toNatClampNeg)) fun t17 =>
  f_X5_wouldAdd_B82 t3.2 x0 t17.toInt64) else
  bd (f_X5_tells t3.2 x0 t9 (aI t3.2 b6 (0 : Int32).toNatClampNeg)) fun t14 =>
  if t14.1 = 0 then (f_X5_wouldAdd_B82 t14.2 x0 0) else
  f_X5_wouldAdd_B82 t14.2 x0 1) else
  bd (f_X5_joinedBy t3.2 x0 (t9 ||| ((1 : Int32) <<< ((aI t3.2 b6 (0 : Int32).toNatClampNeg) &&& 31))) x4) fun t20 =>
  f_X5_wouldAdd_B82 t20.2 x0 t20.1)
set_option maxHeartbeats 4000000 in
set_option maxRecDepth 100000 in
theorem c_X5_wouldAdd (l : Launch) (D : va_G) (cy : cyT) {S : PS} {n : Nat} {y0 : Nat} {y1 : Int32} {y2 : Int32} {y3 : Int32} {y4 : Int32} (v_y0 : vd S y0 5) {res : Int64 × PS} (hf : f_X5_wouldAdd S y0 y1 y2 y3 y4 = some res) : Met l yX5_wouldAdd wsX5_wouldAdd ({ frames := 6, cells := 0, slots := 0, locals := 137 } : Room) (PcW False D cy S n [.ref y0, .int y1, .int y2, .int y3, .int y4]) (va_Ql (fun (r : Int64) (u : PS × Nat) => r = res.1 ∧ u = (res.2, n)) (BW D cy S n) (AA cy S n)) 0 0 (AA cy S n) := by
  refine Met.ofW (cc := cX5_wouldAdd) (maxL := 9) (ret := (some .long)) (by decide) rfl ?_
  intro p e s m args below meth c s₁ B hml hv
  obtain ⟨hav, hsz, hP0, hD0, hK, hZ0⟩ := hv
  have hx := B.exec
  have hb := B.bytes
  have hr := B.returns
  have hts := atoms_spec (ws := wsX5_wouldAdd) B.pre
  have hown : s.vm.findClass RX5 = some m.cls := findClass_of_methodNamed B.named
  have hlocks := B.notSynchronized
  subst hav
  have hw : Hw D cy (AA cy S n) s.heap S n s.heap [] := Hw.start hsz hP0 hD0
  have hA : ∀ q, s.heap.size ≤ q → AA cy S n q := fun q h => Or.inr (hsz ▸ h)
  have hE : EX S S := EX.rf
  have F : CallFix p m c cX5_wouldAdd 9 s _ wsX5_wouldAdd RX5 := ⟨hx, hb, hml, hown, hts⟩
  have hB82 : ∀ (Sb : PS) (H1 : Heap) (lo1 : List Loc) (x0 : Nat) (s0 : Int64) (ls : Array Slot), lv_has ls 9 [(0, .ref x0)] → Hw D cy (AA cy S n) s.heap Sb n H1 lo1 → EX S Sb → vd Sb x0 5 → f_X5_wouldAdd_B82 Sb x0 s0 = some res → W p l e (headSpec wsX5_wouldAdd ({ frames := 6, cells := 0, slots := 0, locals := 137 } : Room)).room s m ([.ref y0, .int y1, .int y2, .int y3, .int y4] : List Value).toArray below meth c H1 lo1 0 0 (MQ below (va_Ql (fun (r : Int64) (u : PS × Nat) => r = res.1 ∧ u = (res.2, n)) (BW D cy S n) (AA cy S n)) ([.ref y0, .int y1, .int y2, .int y3, .int y4] : List Value).toArray s 0 0 (AA cy S n)) (F0 m 82 ls [.long s0]) := by
    intro Sb H1 lo1 x0 s0 ls hl hw hE v_x0 hf
    unfold f_X5_wouldAdd_B82 at hf
    refine lv_lstore (lv' := [(7, .long s0), (0, .ref x0)]) hx hb dX5_wouldAdd_82 hl (by decide) rfl (fun ls hl => ?_)
    refine lv_aload_n hx hb dX5_wouldAdd_84 rfl (lv_at hl 1 rfl) ?_
    obtain ⟨t22, h23, hf⟩ := bd_some hf
    refine q_callv (va_runV (As := []) (rest := []) F (c_X5_clearNext l D cy (S := Sb) v_x0 h23) (cwV 0 hts gX5_wouldAdd_X5_clearNext rfl rfl rfl ⟨rfl, ph_X5_clearNext.1, ph_X5_clearNext.2, pd_X5_clearNext⟩ ⟨Nat.le_of_ble_eq_true rfl, Nat.le_of_ble_eq_true rfl⟩) ⟨PcW.bl, (q_rcv hK hw.1 v_x0.1 (pF_5 (S := Sb) v_x0.2) rfl), PcW.in hK hw hA (fun z => z.elim)⟩ rfl rfl hl.1 rfl (lv_room (Nat.le_of_ble_eq_true rfl)) dX5_wouldAdd_85 ⟨Nat.zero_le _, Nat.zero_le _⟩) hw hA (fun H locs hw hX => ?_)
    have hE := hE.tr hX
    have v_x0 := hX _ _ v_x0
    refine lv_lload hx hb dX5_wouldAdd_88 (lv_at hl 0 rfl) ?_
    exact W.lret (v := s0) hx hb hr (fun t ht hW => ⟨⟨_, (t22, n), rfl, po2 hf, BW.of hw hE ht⟩, hw.2.2.1.F ht⟩) hw.2.2.1.2.2 dX5_wouldAdd_90
  have hl := lv_entry ([.ref y0, .int y1, .int y2, .int y3, .int y4]) (n := 9) (Nat.le_of_ble_eq_true rfl)
  rw [lg_entry_eq]
  generalize (lg_sl ([.ref y0, .int y1, .int y2, .int y3, .int y4]) ++ List.replicate (9 - (lg_sl ([.ref y0, .int y1, .int y2, .int y3, .int y4])).length) Slot.unset).toArray = ls at hl ⊢
  have hl : lv_has ls 9 [(0, .ref y0), (1, .int y1), (2, .int y2), (3, .int y3), (4, .int y4)] := hl
  unfold f_X5_wouldAdd at hf
  refine lv_aload_n hx hb dX5_wouldAdd_0 rfl (lv_at hl 0 rfl) ?_
  refine lv_iload_n hx hb dX5_wouldAdd_1 rfl (lv_at hl 1 rfl) ?_
  refine lv_iload_n hx hb dX5_wouldAdd_2 rfl (lv_at hl 2 rfl) ?_
  refine lv_iload_n hx hb dX5_wouldAdd_3 rfl (lv_at hl 3 rfl) ?_
  obtain ⟨t24, h25, hf⟩ := bd_some hf
  refine q_calli (va_runV (As := [.int y1, .int y2, .int y3]) (rest := []) F (c_X5_canAdd l D cy (S := S) v_y0 h25) (cwV 3 hts gX5_wouldAdd_X5_canAdd rfl rfl rfl ⟨rfl, ph_X5_canAdd.1, ph_X5_canAdd.2, pd_X5_canAdd⟩ ⟨Nat.le_of_ble_eq_true rfl, Nat.le_of_ble_eq_true rfl⟩) ⟨PcW.bl, (q_rcv hK hw.1 v_y0.1 (pF_5 (S := S) v_y0.2) rfl), PcW.in hK hw hA (fun z => z.elim)⟩ rfl rfl hl.1 rfl (lv_room (Nat.le_of_ble_eq_true rfl)) dX5_wouldAdd_4 ⟨Nat.zero_le _, Nat.zero_le _⟩) hw hA (fun H locs hw hX => ?_)
  have hE := hE.tr hX
  have v_y0 := hX _ _ v_y0
  refine lv_if_ne (tgt := 14) hx hb dX5_wouldAdd_7 (by decide) (fun c26 => ?_) (fun c26 => ?_)
  · have hf := it_f c26 hf
    refine lv_aload_n hx hb dX5_wouldAdd_14 rfl (lv_at hl 0 rfl) ?_
    obtain ⟨b27, e28, v_b27, hf⟩ := rq_some hf
    refine q_get F hK hw.1 v_y0.1 (pF_5 (S := t24.2) v_y0.2) (fun w h => List.mem_cons_of_mem _ (List.mem_append_right _ h)) rfl 1 (by decide) (hts (.fieldLink RX5 7 "SharedModuliModel" "z" "[I") (List.mem_of_getElem? (i := 2) rfl)) (v := .ref b27) (congrArg (fun z => some (va_rf z)) e28) dX5_wouldAdd_15 ?_
    refine lv_iconst (v := 0) hx hb dX5_wouldAdd_18 (by decide) ?_
    obtain ⟨c29, hf⟩ := ckd_some hf
    refine q_iald F hK hw.1 v_b27 c29 dX5_wouldAdd_19 ?_
    refine lv_istore (lv' := [(5, .int (aI t24.2 b27 (0 : Int32).toNatClampNeg)), (0, .ref y0), (1, .int y1), (2, .int y2), (3, .int y3), (4, .int y4)]) hx hb dX5_wouldAdd_20 hl (by decide) rfl (fun ls hl => ?_)
    refine lv_aload_n hx hb dX5_wouldAdd_22 rfl (lv_at hl 1 rfl) ?_
    obtain ⟨t30, h31, hf⟩ := bd_some hf
    refine vp_callSi (va_runV (As := []) (rest := []) F (c_X5_onSet l D cy (H := _) hw.1 v_y0 h31) (cwV 0 hts gX5_wouldAdd_X5_onSet rfl rfl rfl ⟨rfl, ph_X5_onSet.1, ph_X5_onSet.2, pd_X5_onSet⟩ ⟨Nat.le_of_ble_eq_true rfl, Nat.le_of_ble_eq_true rfl⟩) ⟨PcR.bl, (q_rcv hK hw.1 v_y0.1 (pF_5 (S := t24.2) v_y0.2) rfl), PcR.in hK⟩ rfl rfl hl.1 rfl (lv_room (Nat.le_of_ble_eq_true rfl)) dX5_wouldAdd_23 ⟨Nat.zero_le _, Nat.zero_le _⟩).run (fun r32 er32 => ?_)
    subst r32
    refine lv_istore (lv' := [(6, .int t30), (5, .int (aI t24.2 b27 (0 : Int32).toNatClampNeg)), (0, .ref y0), (1, .int y1), (2, .int y2), (3, .int y3), (4, .int y4)]) hx hb dX5_wouldAdd_26 hl (by decide) rfl (fun ls hl => ?_)
    refine lv_iload hx hb dX5_wouldAdd_28 (lv_at hl 6 rfl) ?_
    refine lv_iconst (v := 2) hx hb dX5_wouldAdd_30 (by decide) ?_
    refine lv_icmp_ge (tgt := 50) hx hb dX5_wouldAdd_31 (by decide) (fun c33 => ?_) (fun c33 => ?_)
    · have hf := it_t c33 hf
      refine lv_iload hx hb dX5_wouldAdd_50 (lv_at hl 6 rfl) ?_
      refine lv_iconst (v := 2) hx hb dX5_wouldAdd_52 (by decide) ?_
      refine lv_icmp_ne (tgt := 66) hx hb dX5_wouldAdd_53 (by decide) (fun c34 => ?_) (fun c34 => ?_)
      · have hf := it_f c34 hf
        refine lv_aload_n hx hb dX5_wouldAdd_66 rfl (lv_at hl 2 rfl) ?_
        refine lv_iload hx hb dX5_wouldAdd_67 (lv_at hl 0 rfl) ?_
        refine lv_iload hx hb dX5_wouldAdd_69 (lv_at hl 1 rfl) ?_
        obtain ⟨t35, h36, hf⟩ := bd_some hf
        refine q_calli (va_runV (As := [.int t30, .int (aI t24.2 b27 (0 : Int32).toNatClampNeg)]) (rest := []) F (c_X5_tells l D cy (S := t24.2) v_y0 h36) (cwV 2 hts gX5_wouldAdd_X5_tells rfl rfl rfl ⟨rfl, ph_X5_tells.1, ph_X5_tells.2, pd_X5_tells⟩ ⟨Nat.le_of_ble_eq_true rfl, Nat.le_of_ble_eq_true rfl⟩) ⟨PcW.bl, (q_rcv hK hw.1 v_y0.1 (pF_5 (S := t24.2) v_y0.2) rfl), PcW.in hK hw hA (fun z => z.elim)⟩ rfl rfl hl.1 rfl (lv_room (Nat.le_of_ble_eq_true rfl)) dX5_wouldAdd_71 ⟨Nat.zero_le _, Nat.zero_le _⟩) hw hA (fun H locs hw hX => ?_)
        have hE := hE.tr hX
        have v_y0 := hX _ _ v_y0
        have v_b27 := hX _ _ v_b27
        refine lv_if_eq (tgt := 81) hx hb dX5_wouldAdd_74 (by decide) (fun c37 => ?_) (fun c37 => ?_)
        · have hf := it_t c37 hf
          refine lv_lconst (v := 0) hx hb dX5_wouldAdd_81 (by decide) ?_
          exact hB82 t35.2 _ _ y0 0 _ (lv_sub hl [2] rfl) hw hE v_y0 hf
        · have hf := it_f c37 hf
          refine lv_lconst (v := 1) hx hb dX5_wouldAdd_77 (by decide) ?_
          refine lv_goto (tgt := 82) hx hb dX5_wouldAdd_78 (by decide) ?_
          exact hB82 t35.2 _ _ y0 1 _ (lv_sub hl [2] rfl) hw hE v_y0 hf
      · have hf := it_t c34 hf
        refine lv_aload_n hx hb dX5_wouldAdd_56 rfl (lv_at hl 2 rfl) ?_
        refine lv_iload hx hb dX5_wouldAdd_57 (lv_at hl 1 rfl) ?_
        obtain ⟨t38, h39, hf⟩ := bd_some hf
        refine vp_callSi (va_runV (As := [.int (aI t24.2 b27 (0 : Int32).toNatClampNeg)]) (rest := []) F (c_X5_against l D cy (H := _) hw.1 v_y0 h39) (cwV 1 hts gX5_wouldAdd_X5_against rfl rfl rfl ⟨rfl, ph_X5_against.1, ph_X5_against.2, pd_X5_against⟩ ⟨Nat.le_of_ble_eq_true rfl, Nat.le_of_ble_eq_true rfl⟩) ⟨PcR.bl, (q_rcv hK hw.1 v_y0.1 (pF_5 (S := t24.2) v_y0.2) rfl), PcR.in hK⟩ rfl rfl hl.1 rfl (lv_room (Nat.le_of_ble_eq_true rfl)) dX5_wouldAdd_59 ⟨Nat.zero_le _, Nat.zero_le _⟩).run (fun r40 er40 => ?_)
        subst r40
        refine lv_i2l hx hb dX5_wouldAdd_62 rfl ?_
        refine lv_goto (tgt := 82) hx hb dX5_wouldAdd_63 (by decide) ?_
        exact hB82 t24.2 _ _ y0 t38.toInt64 _ (lv_sub hl [2] rfl) hw hE v_y0 hf
    · have hf := it_f c33 hf
      refine lv_aload_n hx hb dX5_wouldAdd_34 rfl (lv_at hl 2 rfl) ?_
      refine lv_iload hx hb dX5_wouldAdd_35 (lv_at hl 0 rfl) ?_
      refine lv_iconst (v := 1) hx hb dX5_wouldAdd_37 (by decide) ?_
      refine lv_iload hx hb dX5_wouldAdd_38 (lv_at hl 1 rfl) ?_
      refine lv_ishl hx hb dX5_wouldAdd_40 ?_
      refine lv_ior hx hb dX5_wouldAdd_41 ?_
      refine lv_iload hx hb dX5_wouldAdd_42 (lv_at hl 6 rfl) ?_
      obtain ⟨t41, h42, hf⟩ := bd_some hf
      refine q_calll (va_runV (As := [.int (t30 ||| ((1 : Int32) <<< ((aI t24.2 b27 (0 : Int32).toNatClampNeg) &&& 31))), .int y4]) (rest := []) F (c_X5_joinedBy l D cy (S := t24.2) v_y0 h42) (cwV 2 hts gX5_wouldAdd_X5_joinedBy rfl rfl rfl ⟨rfl, ph_X5_joinedBy.1, ph_X5_joinedBy.2, pd_X5_joinedBy⟩ ⟨Nat.le_of_ble_eq_true rfl, Nat.le_of_ble_eq_true rfl⟩) ⟨PcW.bl, (q_rcv hK hw.1 v_y0.1 (pF_5 (S := t24.2) v_y0.2) rfl), PcW.in hK hw hA (fun z => z.elim)⟩ rfl rfl hl.1 rfl (lv_room (Nat.le_of_ble_eq_true rfl)) dX5_wouldAdd_44 ⟨Nat.zero_le _, Nat.zero_le _⟩) hw hA (fun H locs hw hX => ?_)
      have hE := hE.tr hX
      have v_y0 := hX _ _ v_y0
      have v_b27 := hX _ _ v_b27
      refine lv_goto (tgt := 82) hx hb dX5_wouldAdd_47 (by decide) ?_
      exact hB82 t41.2 _ _ y0 t41.1 _ (lv_sub hl [2] rfl) hw hE v_y0 hf
  · have hf := it_t c26 hf
    refine lv_ldc2 hx hb hown (hts (.constantLong RX5 153 (-1)) (List.mem_of_getElem? (i := 1) rfl)) dX5_wouldAdd_10 ?_
    exact W.lret (v := ((-1))) hx hb hr (fun t ht hW => ⟨⟨_, (t24.2, n), rfl, po2 hf, BW.of hw hE ht⟩, hw.2.2.1.F ht⟩) hw.2.2.1.2.2 dX5_wouldAdd_13
def f_X5_ifAdded_B48 (S : PS) (s0 : Int64) : Option (Int64 × PS) :=
  some (s0, S)
def f_X5_ifAdded_B25 (S : PS) (x0 : Nat) (x1 : Int32) (x2 : Int32) (x3 : Int32) (x4 : Int32) (s0 : Nat) (s1 : Int32) : Option (Int64 × PS) :=
  if (fI (sI S 80 s0 s1) 80 x0) ≤ 0 then (bd (f_X5_wouldAdd (sI S 80 s0 s1) x0 x1 x2 x3 x4) fun t2 =>
  f_X5_ifAdded_B48 t2.2 t2.1) else
  f_X5_ifAdded_B48 (sI S 80 s0 s1) 0
def f_X5_ifAdded_B24 (S : PS) (x0 : Nat) (x1 : Int32) (x2 : Int32) (x3 : Int32) (x4 : Int32) (s0 : Nat) : Option (Int64 × PS) :=
  f_X5_ifAdded_B25 S x0 x1 x2 x3 x4 s0 1
def f_X5_ifAdded (S : PS) (x0 : Nat) (x1 : Int32) (x2 : Int32) (x3 : Int32) (x4 : Int32) : Option (Int64 × PS) :=
  bd (f_X5_areGood x1 x2 x3) fun t4 =>
  if t4 = 0 then (f_X5_ifAdded_B24 S x0 x1 x2 x3 x4 x0) else
  bd (f_X5_in x4 0 3) fun t8 =>
  if t8 = 0 then (f_X5_ifAdded_B24 S x0 x1 x2 x3 x4 x0) else
  f_X5_ifAdded_B25 S x0 x1 x2 x3 x4 x0 0
set_option maxHeartbeats 4000000 in
set_option maxRecDepth 100000 in
theorem c_X5_ifAdded (l : Launch) (D : va_G) (cy : cyT) {S : PS} {n : Nat} {y0 : Nat} {y1 : Int32} {y2 : Int32} {y3 : Int32} {y4 : Int32} (v_y0 : vd S y0 5) {res : Int64 × PS} (hf : f_X5_ifAdded S y0 y1 y2 y3 y4 = some res) : Met l yX5_ifAdded wsX5_ifAdded ({ frames := 7, cells := 0, slots := 0, locals := 165 } : Room) (PcW False D cy S n [.ref y0, .int y1, .int y2, .int y3, .int y4]) (va_Ql (fun (r : Int64) (u : PS × Nat) => r = res.1 ∧ u = (res.2, n)) (BW D cy S n) (AA cy S n)) 0 0 (AA cy S n) := by
  refine Met.ofW (cc := cX5_ifAdded) (maxL := 5) (ret := (some .long)) (by decide) rfl ?_
  intro p e s m args below meth c s₁ B hml hv
  obtain ⟨hav, hsz, hP0, hD0, hK, hZ0⟩ := hv
  have hx := B.exec
  have hb := B.bytes
  have hr := B.returns
  have hts := atoms_spec (ws := wsX5_ifAdded) B.pre
  have hown : s.vm.findClass RX5 = some m.cls := findClass_of_methodNamed B.named
  have hlocks := B.notSynchronized
  subst hav
  have hw : Hw D cy (AA cy S n) s.heap S n s.heap [] := Hw.start hsz hP0 hD0
  have hA : ∀ q, s.heap.size ≤ q → AA cy S n q := fun q h => Or.inr (hsz ▸ h)
  have hE : EX S S := EX.rf
  have F : CallFix p m c cX5_ifAdded 5 s _ wsX5_ifAdded RX5 := ⟨hx, hb, hml, hown, hts⟩
  have hB48 : ∀ (Sb : PS) (H1 : Heap) (lo1 : List Loc) (s0 : Int64) (ls : Array Slot), lv_has ls 5 [] → Hw D cy (AA cy S n) s.heap Sb n H1 lo1 → EX S Sb → f_X5_ifAdded_B48 Sb s0 = some res → W p l e (headSpec wsX5_ifAdded ({ frames := 7, cells := 0, slots := 0, locals := 165 } : Room)).room s m ([.ref y0, .int y1, .int y2, .int y3, .int y4] : List Value).toArray below meth c H1 lo1 0 0 (MQ below (va_Ql (fun (r : Int64) (u : PS × Nat) => r = res.1 ∧ u = (res.2, n)) (BW D cy S n) (AA cy S n)) ([.ref y0, .int y1, .int y2, .int y3, .int y4] : List Value).toArray s 0 0 (AA cy S n)) (F0 m 48 ls [.long s0]) := by
    intro Sb H1 lo1 s0 ls hl hw hE hf
    unfold f_X5_ifAdded_B48 at hf
    exact W.lret (v := s0) hx hb hr (fun t ht hW => ⟨⟨_, (Sb, n), rfl, po2 hf, BW.of hw hE ht⟩, hw.2.2.1.F ht⟩) hw.2.2.1.2.2 dX5_ifAdded_48
  have hB25 : ∀ (Sb : PS) (H1 : Heap) (lo1 : List Loc) (x0 : Nat) (x1 : Int32) (x2 : Int32) (x3 : Int32) (x4 : Int32) (s0 : Nat) (s1 : Int32) (ls : Array Slot), lv_has ls 5 [(0, .ref x0), (1, .int x1), (2, .int x2), (3, .int x3), (4, .int x4)] → Hw D cy (AA cy S n) s.heap Sb n H1 lo1 → EX S Sb → vd Sb x0 5 → vd Sb s0 5 → f_X5_ifAdded_B25 Sb x0 x1 x2 x3 x4 s0 s1 = some res → W p l e (headSpec wsX5_ifAdded ({ frames := 7, cells := 0, slots := 0, locals := 165 } : Room)).room s m ([.ref y0, .int y1, .int y2, .int y3, .int y4] : List Value).toArray below meth c H1 lo1 0 0 (MQ below (va_Ql (fun (r : Int64) (u : PS × Nat) => r = res.1 ∧ u = (res.2, n)) (BW D cy S n) (AA cy S n)) ([.ref y0, .int y1, .int y2, .int y3, .int y4] : List Value).toArray s 0 0 (AA cy S n)) (F0 m 25 ls [.int s1, .ref s0]) := by
    intro Sb H1 lo1 x0 x1 x2 x3 x4 s0 s1 ls hl hw hE v_x0 v_s0 hf
    unfold f_X5_ifAdded_B25 at hf
    refine q_put F hK hw v_s0.1 (pF_5 (S := Sb) v_s0.2) (fun w h => List.mem_cons_of_mem _ (List.mem_append_right _ h)) tyX5 tyX5_ok nmX5 rfl 0 (by decide) (hts (.fieldLink RX5 22 "SharedModuliModel" "thrown" "I") (List.mem_of_getElem? (i := 1) rfl)) (Or.inl rfl) (tyX5_ok 0 (by decide)) rfl rfl (Nat.le_of_ble_eq_true rfl) (S1 := sI Sb 80 s0 s1) (st_80 (S := Sb) v_s0.2 s1) dX5_ifAdded_25 (fun H locs hw => ?_)
    refine lv_aload_n hx hb dX5_ifAdded_28 rfl (lv_at hl 0 rfl) ?_
    refine q_get F hK hw.1 v_x0.1 (pF_5 (S := sI Sb 80 s0 s1) v_x0.2) (fun w h => List.mem_cons_of_mem _ (List.mem_append_right _ h)) rfl 0 (by decide) (hts (.fieldLink RX5 22 "SharedModuliModel" "thrown" "I") (List.mem_of_getElem? (i := 1) rfl)) (v := .int (fI (sI Sb 80 s0 s1) 80 x0)) rfl dX5_ifAdded_29 ?_
    refine lv_if_le (tgt := 39) hx hb dX5_ifAdded_32 (by decide) (fun c12 => ?_) (fun c12 => ?_)
    · have hf := it_t c12 hf
      refine lv_aload_n hx hb dX5_ifAdded_39 rfl (lv_at hl 0 rfl) ?_
      refine lv_iload_n hx hb dX5_ifAdded_40 rfl (lv_at hl 1 rfl) ?_
      refine lv_iload_n hx hb dX5_ifAdded_41 rfl (lv_at hl 2 rfl) ?_
      refine lv_iload_n hx hb dX5_ifAdded_42 rfl (lv_at hl 3 rfl) ?_
      refine lv_iload hx hb dX5_ifAdded_43 (lv_at hl 4 rfl) ?_
      obtain ⟨t13, h14, hf⟩ := bd_some hf
      refine q_calll (va_runV (As := [.int x1, .int x2, .int x3, .int x4]) (rest := []) F (c_X5_wouldAdd l D cy (S := sI Sb 80 s0 s1) v_x0 h14) (cwV 4 hts gX5_ifAdded_X5_wouldAdd rfl rfl rfl ⟨rfl, ph_X5_wouldAdd.1, ph_X5_wouldAdd.2, pd_X5_wouldAdd⟩ ⟨Nat.le_of_ble_eq_true rfl, Nat.le_of_ble_eq_true rfl⟩) ⟨PcW.bl, (q_rcv hK hw.1 v_x0.1 (pF_5 (S := sI Sb 80 s0 s1) v_x0.2) rfl), PcW.in hK hw hA (fun z => z.elim)⟩ rfl rfl hl.1 rfl (lv_room (Nat.le_of_ble_eq_true rfl)) dX5_ifAdded_45 ⟨Nat.zero_le _, Nat.zero_le _⟩) hw hA (fun H locs hw hX => ?_)
      have hE := hE.tr hX
      have v_x0 := hX _ _ v_x0
      have v_s0 := hX _ _ v_s0
      exact hB48 t13.2 _ _ t13.1 _ (lv_sub hl [] rfl) hw hE  hf
    · have hf := it_f c12 hf
      refine lv_lconst (v := 0) hx hb dX5_ifAdded_35 (by decide) ?_
      refine lv_goto (tgt := 48) hx hb dX5_ifAdded_36 (by decide) ?_
      exact hB48 (sI Sb 80 s0 s1) _ _ 0 _ (lv_sub hl [] rfl) hw hE  hf
  have hB24 : ∀ (Sb : PS) (H1 : Heap) (lo1 : List Loc) (x0 : Nat) (x1 : Int32) (x2 : Int32) (x3 : Int32) (x4 : Int32) (s0 : Nat) (ls : Array Slot), lv_has ls 5 [(0, .ref x0), (1, .int x1), (2, .int x2), (3, .int x3), (4, .int x4)] → Hw D cy (AA cy S n) s.heap Sb n H1 lo1 → EX S Sb → vd Sb x0 5 → vd Sb s0 5 → f_X5_ifAdded_B24 Sb x0 x1 x2 x3 x4 s0 = some res → W p l e (headSpec wsX5_ifAdded ({ frames := 7, cells := 0, slots := 0, locals := 165 } : Room)).room s m ([.ref y0, .int y1, .int y2, .int y3, .int y4] : List Value).toArray below meth c H1 lo1 0 0 (MQ below (va_Ql (fun (r : Int64) (u : PS × Nat) => r = res.1 ∧ u = (res.2, n)) (BW D cy S n) (AA cy S n)) ([.ref y0, .int y1, .int y2, .int y3, .int y4] : List Value).toArray s 0 0 (AA cy S n)) (F0 m 24 ls [.ref s0]) := by
    intro Sb H1 lo1 x0 x1 x2 x3 x4 s0 ls hl hw hE v_x0 v_s0 hf
    unfold f_X5_ifAdded_B24 at hf
    refine lv_iconst (v := 1) hx hb dX5_ifAdded_24 (by decide) ?_
    exact hB25 Sb _ _ x0 x1 x2 x3 x4 s0 1 _ (lv_sub hl [0, 1, 2, 3, 4] rfl) hw hE v_x0 v_s0 hf
  have hl := lv_entry ([.ref y0, .int y1, .int y2, .int y3, .int y4]) (n := 5) (Nat.le_of_ble_eq_true rfl)
  rw [lg_entry_eq]
  generalize (lg_sl ([.ref y0, .int y1, .int y2, .int y3, .int y4]) ++ List.replicate (5 - (lg_sl ([.ref y0, .int y1, .int y2, .int y3, .int y4])).length) Slot.unset).toArray = ls at hl ⊢
  have hl : lv_has ls 5 [(0, .ref y0), (1, .int y1), (2, .int y2), (3, .int y3), (4, .int y4)] := hl
  unfold f_X5_ifAdded at hf
  refine lv_aload_n hx hb dX5_ifAdded_0 rfl (lv_at hl 0 rfl) ?_
  refine lv_iload_n hx hb dX5_ifAdded_1 rfl (lv_at hl 1 rfl) ?_
  refine lv_iload_n hx hb dX5_ifAdded_2 rfl (lv_at hl 2 rfl) ?_
  refine lv_iload_n hx hb dX5_ifAdded_3 rfl (lv_at hl 3 rfl) ?_
  obtain ⟨t15, h16, hf⟩ := bd_some hf
  refine vp_callSi (va_runS (As := [.int y1, .int y2, .int y3]) (rest := [.ref y0]) F (c_X5_areGood l D cy (H := _)  h16) (va_cwS 3 hts gX5_ifAdded_X5_areGood rfl rfl rfl ⟨ph_X5_areGood.1, ph_X5_areGood.2, pd_X5_areGood⟩ ⟨Nat.le_of_ble_eq_true rfl, Nat.le_of_ble_eq_true rfl⟩) ⟨PcR.bl, PcR.in hK⟩ rfl rfl hl.1 rfl (lv_room (Nat.le_of_ble_eq_true rfl)) dX5_ifAdded_4 ⟨Nat.zero_le _, Nat.zero_le _⟩).run (fun r17 er17 => ?_)
  subst r17
  refine lv_if_eq (tgt := 24) hx hb dX5_ifAdded_7 (by decide) (fun c18 => ?_) (fun c18 => ?_)
  · have hf := it_t c18 hf
    exact hB24 S _ _ y0 y1 y2 y3 y4 y0 _ (lv_sub hl [0, 1, 2, 3, 4] rfl) hw hE v_y0 v_y0 hf
  · have hf := it_f c18 hf
    refine lv_iload hx hb dX5_ifAdded_10 (lv_at hl 4 rfl) ?_
    refine lv_iconst (v := 0) hx hb dX5_ifAdded_12 (by decide) ?_
    refine lv_iconst (v := 3) hx hb dX5_ifAdded_13 (by decide) ?_
    obtain ⟨t19, h20, hf⟩ := bd_some hf
    refine vp_callSi (va_runS (As := [.int y4, .int 0, .int 3]) (rest := [.ref y0]) F (c_X5_in l D cy (H := _)  h20) (va_cwS 3 hts gX5_ifAdded_X5_in rfl rfl rfl ⟨ph_X5_in.1, ph_X5_in.2, pd_X5_in⟩ ⟨Nat.le_of_ble_eq_true rfl, Nat.le_of_ble_eq_true rfl⟩) ⟨PcR.bl, PcR.in hK⟩ rfl rfl hl.1 rfl (lv_room (Nat.le_of_ble_eq_true rfl)) dX5_ifAdded_14 ⟨Nat.zero_le _, Nat.zero_le _⟩).run (fun r21 er21 => ?_)
    subst r21
    refine lv_if_eq (tgt := 24) hx hb dX5_ifAdded_17 (by decide) (fun c22 => ?_) (fun c22 => ?_)
    · have hf := it_t c22 hf
      exact hB24 S _ _ y0 y1 y2 y3 y4 y0 _ (lv_sub hl [0, 1, 2, 3, 4] rfl) hw hE v_y0 v_y0 hf
    · have hf := it_f c22 hf
      refine lv_iconst (v := 0) hx hb dX5_ifAdded_20 (by decide) ?_
      refine lv_goto (tgt := 25) hx hb dX5_ifAdded_21 (by decide) ?_
      exact hB25 S _ _ y0 y1 y2 y3 y4 y0 0 _ (lv_sub hl [0, 1, 2, 3, 4] rfl) hw hE v_y0 v_y0 hf
def f_X5_without_B56 (S : PS) (s0 : Int64) : Option (Int64 × PS) :=
  some (s0, S)
def f_X5_without_B27 (S : PS) (x0 : Nat) (x1 : Int32) (x2 : Int32) (s0 : Nat) (s1 : Int32) : Option (Int64 × PS) :=
  if (fI (sI S 80 s0 s1) 80 x0) ≤ 0 then (bd (f_X5_onSet (sI S 80 s0 s1) x0) fun t2 =>
  bd (f_X5_joinedBy (sI S 80 s0 s1) x0 (t2 &&& (((1 : Int32) <<< (x1 &&& 31)) ^^^ ((-1) : Int32))) x2) fun t5 =>
  f_X5_without_B56 t5.2 t5.1) else
  f_X5_without_B56 (sI S 80 s0 s1) 0
def f_X5_without (S : PS) (x0 : Nat) (x1 : Int32) (x2 : Int32) : Option (Int64 × PS) :=
  bd (f_X5_isThere S x0 x1) fun t7 =>
  if t7 = 0 then (f_X5_without_B27 S x0 x1 x2 x0 1) else
  bd (f_X5_in x2 0 1) fun t11 =>
  if t11 = 0 then (f_X5_without_B27 S x0 x1 x2 x0 2) else
  f_X5_without_B27 S x0 x1 x2 x0 0
set_option maxHeartbeats 4000000 in
set_option maxRecDepth 100000 in
theorem c_X5_without (l : Launch) (D : va_G) (cy : cyT) {S : PS} {n : Nat} {y0 : Nat} {y1 : Int32} {y2 : Int32} (v_y0 : vd S y0 5) {res : Int64 × PS} (hf : f_X5_without S y0 y1 y2 = some res) : Met l yX5_without wsX5_without ({ frames := 6, cells := 0, slots := 0, locals := 137 } : Room) (PcW False D cy S n [.ref y0, .int y1, .int y2]) (va_Ql (fun (r : Int64) (u : PS × Nat) => r = res.1 ∧ u = (res.2, n)) (BW D cy S n) (AA cy S n)) 0 0 (AA cy S n) := by
  refine Met.ofW (cc := cX5_without) (maxL := 3) (ret := (some .long)) (by decide) rfl ?_
  intro p e s m args below meth c s₁ B hml hv
  obtain ⟨hav, hsz, hP0, hD0, hK, hZ0⟩ := hv
  have hx := B.exec
  have hb := B.bytes
  have hr := B.returns
  have hts := atoms_spec (ws := wsX5_without) B.pre
  have hown : s.vm.findClass RX5 = some m.cls := findClass_of_methodNamed B.named
  have hlocks := B.notSynchronized
  subst hav
  have hw : Hw D cy (AA cy S n) s.heap S n s.heap [] := Hw.start hsz hP0 hD0
  have hA : ∀ q, s.heap.size ≤ q → AA cy S n q := fun q h => Or.inr (hsz ▸ h)
  have hE : EX S S := EX.rf
  have F : CallFix p m c cX5_without 3 s _ wsX5_without RX5 := ⟨hx, hb, hml, hown, hts⟩
  have hB56 : ∀ (Sb : PS) (H1 : Heap) (lo1 : List Loc) (s0 : Int64) (ls : Array Slot), lv_has ls 3 [] → Hw D cy (AA cy S n) s.heap Sb n H1 lo1 → EX S Sb → f_X5_without_B56 Sb s0 = some res → W p l e (headSpec wsX5_without ({ frames := 6, cells := 0, slots := 0, locals := 137 } : Room)).room s m ([.ref y0, .int y1, .int y2] : List Value).toArray below meth c H1 lo1 0 0 (MQ below (va_Ql (fun (r : Int64) (u : PS × Nat) => r = res.1 ∧ u = (res.2, n)) (BW D cy S n) (AA cy S n)) ([.ref y0, .int y1, .int y2] : List Value).toArray s 0 0 (AA cy S n)) (F0 m 56 ls [.long s0]) := by
    intro Sb H1 lo1 s0 ls hl hw hE hf
    unfold f_X5_without_B56 at hf
    exact W.lret (v := s0) hx hb hr (fun t ht hW => ⟨⟨_, (Sb, n), rfl, po2 hf, BW.of hw hE ht⟩, hw.2.2.1.F ht⟩) hw.2.2.1.2.2 dX5_without_56
  have hB27 : ∀ (Sb : PS) (H1 : Heap) (lo1 : List Loc) (x0 : Nat) (x1 : Int32) (x2 : Int32) (s0 : Nat) (s1 : Int32) (ls : Array Slot), lv_has ls 3 [(0, .ref x0), (1, .int x1), (2, .int x2)] → Hw D cy (AA cy S n) s.heap Sb n H1 lo1 → EX S Sb → vd Sb x0 5 → vd Sb s0 5 → f_X5_without_B27 Sb x0 x1 x2 s0 s1 = some res → W p l e (headSpec wsX5_without ({ frames := 6, cells := 0, slots := 0, locals := 137 } : Room)).room s m ([.ref y0, .int y1, .int y2] : List Value).toArray below meth c H1 lo1 0 0 (MQ below (va_Ql (fun (r : Int64) (u : PS × Nat) => r = res.1 ∧ u = (res.2, n)) (BW D cy S n) (AA cy S n)) ([.ref y0, .int y1, .int y2] : List Value).toArray s 0 0 (AA cy S n)) (F0 m 27 ls [.int s1, .ref s0]) := by
    intro Sb H1 lo1 x0 x1 x2 s0 s1 ls hl hw hE v_x0 v_s0 hf
    unfold f_X5_without_B27 at hf
    refine q_put F hK hw v_s0.1 (pF_5 (S := Sb) v_s0.2) (fun w h => List.mem_cons_of_mem _ (List.mem_append_right _ h)) tyX5 tyX5_ok nmX5 rfl 0 (by decide) (hts (.fieldLink RX5 22 "SharedModuliModel" "thrown" "I") (List.mem_of_getElem? (i := 1) rfl)) (Or.inl rfl) (tyX5_ok 0 (by decide)) rfl rfl (Nat.le_of_ble_eq_true rfl) (S1 := sI Sb 80 s0 s1) (st_80 (S := Sb) v_s0.2 s1) dX5_without_27 (fun H locs hw => ?_)
    refine lv_aload_n hx hb dX5_without_30 rfl (lv_at hl 0 rfl) ?_
    refine q_get F hK hw.1 v_x0.1 (pF_5 (S := sI Sb 80 s0 s1) v_x0.2) (fun w h => List.mem_cons_of_mem _ (List.mem_append_right _ h)) rfl 0 (by decide) (hts (.fieldLink RX5 22 "SharedModuliModel" "thrown" "I") (List.mem_of_getElem? (i := 1) rfl)) (v := .int (fI (sI Sb 80 s0 s1) 80 x0)) rfl dX5_without_31 ?_
    refine lv_if_le (tgt := 41) hx hb dX5_without_34 (by decide) (fun c15 => ?_) (fun c15 => ?_)
    · have hf := it_t c15 hf
      refine lv_aload_n hx hb dX5_without_41 rfl (lv_at hl 0 rfl) ?_
      refine lv_aload_n hx hb dX5_without_42 rfl (lv_at hl 0 rfl) ?_
      obtain ⟨t16, h17, hf⟩ := bd_some hf
      refine vp_callSi (va_runV (As := []) (rest := [.ref x0]) F (c_X5_onSet l D cy (H := _) hw.1 v_x0 h17) (cwV 0 hts gX5_without_X5_onSet rfl rfl rfl ⟨rfl, ph_X5_onSet.1, ph_X5_onSet.2, pd_X5_onSet⟩ ⟨Nat.le_of_ble_eq_true rfl, Nat.le_of_ble_eq_true rfl⟩) ⟨PcR.bl, (q_rcv hK hw.1 v_x0.1 (pF_5 (S := sI Sb 80 s0 s1) v_x0.2) rfl), PcR.in hK⟩ rfl rfl hl.1 rfl (lv_room (Nat.le_of_ble_eq_true rfl)) dX5_without_43 ⟨Nat.zero_le _, Nat.zero_le _⟩).run (fun r18 er18 => ?_)
      subst r18
      refine lv_iconst (v := 1) hx hb dX5_without_46 (by decide) ?_
      refine lv_iload_n hx hb dX5_without_47 rfl (lv_at hl 1 rfl) ?_
      refine lv_ishl hx hb dX5_without_48 ?_
      refine lv_iconst (v := (-1)) hx hb dX5_without_49 (by decide) ?_
      refine lv_ixor hx hb dX5_without_50 ?_
      refine lv_iand hx hb dX5_without_51 ?_
      refine lv_iload_n hx hb dX5_without_52 rfl (lv_at hl 2 rfl) ?_
      obtain ⟨t19, h20, hf⟩ := bd_some hf
      refine q_calll (va_runV (As := [.int (t16 &&& (((1 : Int32) <<< (x1 &&& 31)) ^^^ ((-1) : Int32))), .int x2]) (rest := []) F (c_X5_joinedBy l D cy (S := sI Sb 80 s0 s1) v_x0 h20) (cwV 2 hts gX5_without_X5_joinedBy rfl rfl rfl ⟨rfl, ph_X5_joinedBy.1, ph_X5_joinedBy.2, pd_X5_joinedBy⟩ ⟨Nat.le_of_ble_eq_true rfl, Nat.le_of_ble_eq_true rfl⟩) ⟨PcW.bl, (q_rcv hK hw.1 v_x0.1 (pF_5 (S := sI Sb 80 s0 s1) v_x0.2) rfl), PcW.in hK hw hA (fun z => z.elim)⟩ rfl rfl hl.1 rfl (lv_room (Nat.le_of_ble_eq_true rfl)) dX5_without_53 ⟨Nat.zero_le _, Nat.zero_le _⟩) hw hA (fun H locs hw hX => ?_)
      have hE := hE.tr hX
      have v_x0 := hX _ _ v_x0
      have v_s0 := hX _ _ v_s0
      exact hB56 t19.2 _ _ t19.1 _ (lv_sub hl [] rfl) hw hE  hf
    · have hf := it_f c15 hf
      refine lv_lconst (v := 0) hx hb dX5_without_37 (by decide) ?_
      refine lv_goto (tgt := 56) hx hb dX5_without_38 (by decide) ?_
      exact hB56 (sI Sb 80 s0 s1) _ _ 0 _ (lv_sub hl [] rfl) hw hE  hf
  have hl := lv_entry ([.ref y0, .int y1, .int y2]) (n := 3) (Nat.le_of_ble_eq_true rfl)
  rw [lg_entry_eq]
  generalize (lg_sl ([.ref y0, .int y1, .int y2]) ++ List.replicate (3 - (lg_sl ([.ref y0, .int y1, .int y2])).length) Slot.unset).toArray = ls at hl ⊢
  have hl : lv_has ls 3 [(0, .ref y0), (1, .int y1), (2, .int y2)] := hl
  unfold f_X5_without at hf
  refine lv_aload_n hx hb dX5_without_0 rfl (lv_at hl 0 rfl) ?_
  refine lv_aload_n hx hb dX5_without_1 rfl (lv_at hl 0 rfl) ?_
  refine lv_iload_n hx hb dX5_without_2 rfl (lv_at hl 1 rfl) ?_
  obtain ⟨t21, h22, hf⟩ := bd_some hf
  refine vp_callSi (va_runV (As := [.int y1]) (rest := [.ref y0]) F (c_X5_isThere l D cy (H := _) hw.1 v_y0 h22) (cwV 1 hts gX5_without_X5_isThere rfl rfl rfl ⟨rfl, ph_X5_isThere.1, ph_X5_isThere.2, pd_X5_isThere⟩ ⟨Nat.le_of_ble_eq_true rfl, Nat.le_of_ble_eq_true rfl⟩) ⟨PcR.bl, (q_rcv hK hw.1 v_y0.1 (pF_5 (S := S) v_y0.2) rfl), PcR.in hK⟩ rfl rfl hl.1 rfl (lv_room (Nat.le_of_ble_eq_true rfl)) dX5_without_3 ⟨Nat.zero_le _, Nat.zero_le _⟩).run (fun r23 er23 => ?_)
  subst r23
  refine lv_if_ne (tgt := 13) hx hb dX5_without_6 (by decide) (fun c24 => ?_) (fun c24 => ?_)
  · have hf := it_f c24 hf
    refine lv_iload_n hx hb dX5_without_13 rfl (lv_at hl 2 rfl) ?_
    refine lv_iconst (v := 0) hx hb dX5_without_14 (by decide) ?_
    refine lv_iconst (v := 1) hx hb dX5_without_15 (by decide) ?_
    obtain ⟨t25, h26, hf⟩ := bd_some hf
    refine vp_callSi (va_runS (As := [.int y2, .int 0, .int 1]) (rest := [.ref y0]) F (c_X5_in l D cy (H := _)  h26) (va_cwS 3 hts gX5_without_X5_in rfl rfl rfl ⟨ph_X5_in.1, ph_X5_in.2, pd_X5_in⟩ ⟨Nat.le_of_ble_eq_true rfl, Nat.le_of_ble_eq_true rfl⟩) ⟨PcR.bl, PcR.in hK⟩ rfl rfl hl.1 rfl (lv_room (Nat.le_of_ble_eq_true rfl)) dX5_without_16 ⟨Nat.zero_le _, Nat.zero_le _⟩).run (fun r27 er27 => ?_)
    subst r27
    refine lv_if_eq (tgt := 26) hx hb dX5_without_19 (by decide) (fun c28 => ?_) (fun c28 => ?_)
    · have hf := it_t c28 hf
      refine lv_iconst (v := 2) hx hb dX5_without_26 (by decide) ?_
      exact hB27 S _ _ y0 y1 y2 y0 2 _ (lv_sub hl [0, 1, 2] rfl) hw hE v_y0 v_y0 hf
    · have hf := it_f c28 hf
      refine lv_iconst (v := 0) hx hb dX5_without_22 (by decide) ?_
      refine lv_goto (tgt := 27) hx hb dX5_without_23 (by decide) ?_
      exact hB27 S _ _ y0 y1 y2 y0 0 _ (lv_sub hl [0, 1, 2] rfl) hw hE v_y0 v_y0 hf
  · have hf := it_t c24 hf
    refine lv_iconst (v := 1) hx hb dX5_without_9 (by decide) ?_
    refine lv_goto (tgt := 27) hx hb dX5_without_10 (by decide) ?_
    exact hB27 S _ _ y0 y1 y2 y0 1 _ (lv_sub hl [0, 1, 2] rfl) hw hE v_y0 v_y0 hf
def f_X5_most (S : PS) (x0 : Nat) : Option (Int32 × PS) :=
  bd (f_X5_mostTogether (sI S 80 x0 0) x0) fun t1 =>
  some (t1, sI S 80 x0 0)
set_option maxHeartbeats 4000000 in
set_option maxRecDepth 100000 in
theorem c_X5_most (l : Launch) (D : va_G) (cy : cyT) {S : PS} {n : Nat} {y0 : Nat} (v_y0 : vd S y0 5) {res : Int32 × PS} (hf : f_X5_most S y0 = some res) : Met l yX5_most wsX5_most ({ frames := 5, cells := 0, slots := 0, locals := 115 } : Room) (PcW False D cy S n [.ref y0]) (va_Qi (fun (r : Int32) (u : PS × Nat) => r = res.1 ∧ u = (res.2, n)) (BW D cy S n) (AA cy S n)) 0 0 (AA cy S n) := by
  refine Met.ofW (cc := cX5_most) (maxL := 1) (ret := (some .int)) (by decide) rfl ?_
  intro p e s m args below meth c s₁ B hml hv
  obtain ⟨hav, hsz, hP0, hD0, hK, hZ0⟩ := hv
  have hx := B.exec
  have hb := B.bytes
  have hr := B.returns
  have hts := atoms_spec (ws := wsX5_most) B.pre
  have hown : s.vm.findClass RX5 = some m.cls := findClass_of_methodNamed B.named
  have hlocks := B.notSynchronized
  subst hav
  have hw : Hw D cy (AA cy S n) s.heap S n s.heap [] := Hw.start hsz hP0 hD0
  have hA : ∀ q, s.heap.size ≤ q → AA cy S n q := fun q h => Or.inr (hsz ▸ h)
  have hE : EX S S := EX.rf
  have F : CallFix p m c cX5_most 1 s _ wsX5_most RX5 := ⟨hx, hb, hml, hown, hts⟩
  have hl := lv_entry ([.ref y0]) (n := 1) (Nat.le_of_ble_eq_true rfl)
  rw [lg_entry_eq]
  generalize (lg_sl ([.ref y0]) ++ List.replicate (1 - (lg_sl ([.ref y0])).length) Slot.unset).toArray = ls at hl ⊢
  have hl : lv_has ls 1 [(0, .ref y0)] := hl
  unfold f_X5_most at hf
  refine lv_aload_n hx hb dX5_most_0 rfl (lv_at hl 0 rfl) ?_
  refine lv_iconst (v := 0) hx hb dX5_most_1 (by decide) ?_
  refine q_put F hK hw v_y0.1 (pF_5 (S := S) v_y0.2) (fun w h => List.mem_cons_of_mem _ (List.mem_append_right _ h)) tyX5 tyX5_ok nmX5 rfl 0 (by decide) (hts (.fieldLink RX5 22 "SharedModuliModel" "thrown" "I") (List.mem_of_getElem? (i := 1) rfl)) (Or.inl rfl) (tyX5_ok 0 (by decide)) rfl rfl (Nat.le_of_ble_eq_true rfl) (S1 := sI S 80 y0 0) (st_80 (S := S) v_y0.2 0) dX5_most_2 (fun H locs hw => ?_)
  refine lv_aload_n hx hb dX5_most_5 rfl (lv_at hl 0 rfl) ?_
  obtain ⟨t4, h5, hf⟩ := bd_some hf
  refine vp_callSi (va_runV (As := []) (rest := []) F (c_X5_mostTogether l D cy (H := _) hw.1 v_y0 h5) (cwV 0 hts gX5_most_X5_mostTogether rfl rfl rfl ⟨rfl, ph_X5_mostTogether.1, ph_X5_mostTogether.2, pd_X5_mostTogether⟩ ⟨Nat.le_of_ble_eq_true rfl, Nat.le_of_ble_eq_true rfl⟩) ⟨PcR.bl, (q_rcv hK hw.1 v_y0.1 (pF_5 (S := sI S 80 y0 0) v_y0.2) rfl), PcR.in hK⟩ rfl rfl hl.1 rfl (lv_room (Nat.le_of_ble_eq_true rfl)) dX5_most_6 ⟨Nat.zero_le _, Nat.zero_le _⟩).run (fun r6 er6 => ?_)
  subst r6
  exact W.iret (v := t4) hx hb hr (fun t ht hW => ⟨⟨_, (sI S 80 y0 0, n), rfl, po2 hf, BW.of hw hE ht⟩, hw.2.2.1.F ht⟩) hw.2.2.1.2.2 dX5_most_9
def f_X5_blamed_B84 (S : PS) (x1 : Int32) : Option Int32 :=
  some x1
def f_X5_blamed_B77 (S : PS) (kL6 : Nat → Int32 → Int32 → Int32 → Option Int32) (ke84 : Int32 → Option Int32) (x0 : Nat) (x1 : Int32) (x3 : Int32) (s0 : Int32) : Option Int32 :=
  kL6 x0 x1 s0 (x3 + 1)
def f_X5_blamed_B64 (S : PS) (kL6 : Nat → Int32 → Int32 → Int32 → Option Int32) (ke84 : Int32 → Option Int32) (x0 : Nat) (x2 : Int32) (x3 : Int32) (x4 : Int32) (s0 : Int32) : Option Int32 :=
  if x4 ≤ x2 then (f_X5_blamed_B77 S kL6 ke84 x0 s0 x3 x2) else
  f_X5_blamed_B77 S kL6 ke84 x0 s0 x3 x4
def f_X5_blamed_B51 (S : PS) (kL6 : Nat → Int32 → Int32 → Int32 → Option Int32) (ke84 : Int32 → Option Int32) (x0 : Nat) (x1 : Int32) (x2 : Int32) (x3 : Int32) (s0 : Int32) : Option Int32 :=
  if s0 ≤ x2 then (f_X5_blamed_B64 S kL6 ke84 x0 x2 x3 s0 x1) else
  f_X5_blamed_B64 S kL6 ke84 x0 x2 x3 s0 x3
def f_X5_blamed_L6s (S : PS) (kL6 : Nat → Int32 → Int32 → Int32 → Option Int32) (ke84 : Int32 → Option Int32) (x0 : Nat) (x1 : Int32) (x2 : Int32) (x3 : Int32) : Option Int32 :=
  rq (fR S 81 x0) S 6 fun b3 =>
  ck (decide (¬ ((0 : Int32) < 0 ∨ aN S b3 ≤ (0 : Int32).toNatClampNeg))) (
  if (aI S b3 (0 : Int32).toNatClampNeg) ≤ x3 then (ke84 x1) else
  bd (f_X5_isOn S x0 x3) fun t7 =>
  if t7 = 0 then (f_X5_blamed_B51 S kL6 ke84 x0 x1 x2 x3 0) else
  bd (f_X5_isVoid S x0 x3) fun t11 =>
  if t11 = 0 then (bd (f_X5_against S x0 x3) fun t15 =>
  f_X5_blamed_B51 S kL6 ke84 x0 x1 x2 x3 t15) else
  bd (f_X5_onSet S x0) fun t18 =>
  bd (f_X5_bits t18) fun t21 =>
  f_X5_blamed_B51 S kL6 ke84 x0 x1 x2 x3 t21)
def f_X5_blamed_L6 (S : PS) (ke84 : Int32 → Option Int32) (fu : Nat) : Nat → Int32 → Int32 → Int32 → Option Int32 := fx (fun kL => f_X5_blamed_L6s S kL ke84) (fun _ _ _ _ => none) fu
def f_X5_blamed (S : PS) (x0 : Nat) : Option Int32 :=
  f_X5_blamed_L6 S (f_X5_blamed_B84 S) FU x0 ((-1)) 0 0
set_option maxHeartbeats 4000000 in
set_option maxRecDepth 100000 in
theorem c_X5_blamed (l : Launch) (D : va_G) (cy : cyT) {H : Heap} {S : PS} (hP : va_P D vwCl (wl cy S) H) {y0 : Nat} (v_y0 : vd S y0 5) {res : Int32} (hf : f_X5_blamed S y0 = some res) : Met l yX5_blamed wsX5_blamed ({ frames := 4, cells := 0, slots := 0, locals := 91 } : Room) (PcR D cy H [.ref y0]) (vp_Si (fun r => r = res)) 0 0 (fun _ => False) := by
  refine Met.ofW (cc := cX5_blamed) (maxL := 5) (ret := (some .int)) (by decide) rfl ?_
  intro p e s m args below meth c s₁ B hml hv
  obtain ⟨hav, hH, hK⟩ := hv
  have hx := B.exec
  have hb := B.bytes
  have hr := B.returns
  have hts := atoms_spec (ws := wsX5_blamed) B.pre
  have hown : s.vm.findClass RX5 = some m.cls := findClass_of_methodNamed B.named
  have hlocks := B.notSynchronized
  subst hav
  subst hH
  have F : CallFix p m c cX5_blamed 5 s _ wsX5_blamed RX5 := ⟨hx, hb, hml, hown, hts⟩
  have hB84 : ∀ (x1 : Int32) (ls : Array Slot), lv_has ls 5 [(1, .int x1)] → f_X5_blamed_B84 S x1 = some res → W p l e (headSpec wsX5_blamed ({ frames := 4, cells := 0, slots := 0, locals := 91 } : Room)).room s m ([.ref y0] : List Value).toArray below meth c s.heap [] 0 0 (MQ below (vp_Si (fun r => r = res)) ([.ref y0] : List Value).toArray s 0 0 (fun _ => False)) (F0 m 84 ls []) := by
    intro x1 ls hl hf
    unfold f_X5_blamed_B84 at hf
    refine lv_iload_n hx hb dX5_blamed_84 rfl (lv_at hl 0 rfl) ?_
    exact W.iret (v := x1) hx hb hr (fun t ht hW => ⟨_, rfl, Option.some.inj hf, ht⟩) (fun _ h => by cases h) dX5_blamed_85
  have hL6 : ∀ (fu6 : Nat), ∀ (x0 : Nat) (x1 : Int32) (x2 : Int32) (x3 : Int32) (ls : Array Slot), lv_has ls 5 [(0, .ref x0), (1, .int x1), (2, .int x2), (3, .int x3)] → vd S x0 5 → f_X5_blamed_L6 S (f_X5_blamed_B84 S) fu6 x0 x1 x2 x3 = some res → W p l e (headSpec wsX5_blamed ({ frames := 4, cells := 0, slots := 0, locals := 91 } : Room)).room s m ([.ref y0] : List Value).toArray below meth c s.heap [] 0 0 (MQ below (vp_Si (fun r => r = res)) ([.ref y0] : List Value).toArray s 0 0 (fun _ => False)) (F0 m 6 ls []) := by
    intro fu6
    induction fu6 with
    | zero =>
      intro x0 x1 x2 x3 ls hl v_x0 hf
      have hf : (none : Option Int32) = some res := hf
      cases hf
    | succ fu6 ih6 =>
      have hB77 : ∀ (x0 : Nat) (x1 : Int32) (x3 : Int32) (s0 : Int32) (ls : Array Slot), lv_has ls 5 [(0, .ref x0), (1, .int x1), (3, .int x3)] → vd S x0 5 → f_X5_blamed_B77 S (f_X5_blamed_L6 S (f_X5_blamed_B84 S) fu6) (f_X5_blamed_B84 S) x0 x1 x3 s0 = some res → W p l e (headSpec wsX5_blamed ({ frames := 4, cells := 0, slots := 0, locals := 91 } : Room)).room s m ([.ref y0] : List Value).toArray below meth c s.heap [] 0 0 (MQ below (vp_Si (fun r => r = res)) ([.ref y0] : List Value).toArray s 0 0 (fun _ => False)) (F0 m 77 ls [.int s0]) := by
        intro x0 x1 x3 s0 ls hl v_x0 hf
        unfold f_X5_blamed_B77 at hf
        refine lv_istore_n (lv' := [(2, .int s0), (0, .ref x0), (1, .int x1), (3, .int x3)]) hx hb dX5_blamed_77 rfl hl (by decide) rfl (fun ls hl => ?_)
        refine lv_iinc (v := x3 + 1) (lv' := [(3, .int (x3 + 1)), (2, .int s0), (0, .ref x0), (1, .int x1)]) hx hb dX5_blamed_78 hl (k := 3) rfl (by rfl) (by decide) rfl (fun ls hl => ?_)
        refine lv_goto (tgt := 6) hx hb dX5_blamed_81 (by decide) ?_
        exact ih6 x0 x1 s0 (x3 + 1) _ (lv_sub hl [2, 3, 1, 0] rfl) v_x0 hf
      have hB64 : ∀ (x0 : Nat) (x2 : Int32) (x3 : Int32) (x4 : Int32) (s0 : Int32) (ls : Array Slot), lv_has ls 5 [(0, .ref x0), (2, .int x2), (3, .int x3), (4, .int x4)] → vd S x0 5 → f_X5_blamed_B64 S (f_X5_blamed_L6 S (f_X5_blamed_B84 S) fu6) (f_X5_blamed_B84 S) x0 x2 x3 x4 s0 = some res → W p l e (headSpec wsX5_blamed ({ frames := 4, cells := 0, slots := 0, locals := 91 } : Room)).room s m ([.ref y0] : List Value).toArray below meth c s.heap [] 0 0 (MQ below (vp_Si (fun r => r = res)) ([.ref y0] : List Value).toArray s 0 0 (fun _ => False)) (F0 m 64 ls [.int s0]) := by
        intro x0 x2 x3 x4 s0 ls hl v_x0 hf
        unfold f_X5_blamed_B64 at hf
        refine lv_istore_n (lv' := [(1, .int s0), (0, .ref x0), (2, .int x2), (3, .int x3), (4, .int x4)]) hx hb dX5_blamed_64 rfl hl (by decide) rfl (fun ls hl => ?_)
        refine lv_iload hx hb dX5_blamed_65 (lv_at hl 4 rfl) ?_
        refine lv_iload_n hx hb dX5_blamed_67 rfl (lv_at hl 2 rfl) ?_
        refine lv_icmp_le (tgt := 76) hx hb dX5_blamed_68 (by decide) (fun c24 => ?_) (fun c24 => ?_)
        · have hf := it_t c24 hf
          refine lv_iload_n hx hb dX5_blamed_76 rfl (lv_at hl 2 rfl) ?_
          exact hB77 x0 s0 x3 x2 _ (lv_sub hl [1, 0, 3] rfl) v_x0 hf
        · have hf := it_f c24 hf
          refine lv_iload hx hb dX5_blamed_71 (lv_at hl 4 rfl) ?_
          refine lv_goto (tgt := 77) hx hb dX5_blamed_73 (by decide) ?_
          exact hB77 x0 s0 x3 x4 _ (lv_sub hl [1, 0, 3] rfl) v_x0 hf
      have hB51 : ∀ (x0 : Nat) (x1 : Int32) (x2 : Int32) (x3 : Int32) (s0 : Int32) (ls : Array Slot), lv_has ls 5 [(0, .ref x0), (1, .int x1), (2, .int x2), (3, .int x3)] → vd S x0 5 → f_X5_blamed_B51 S (f_X5_blamed_L6 S (f_X5_blamed_B84 S) fu6) (f_X5_blamed_B84 S) x0 x1 x2 x3 s0 = some res → W p l e (headSpec wsX5_blamed ({ frames := 4, cells := 0, slots := 0, locals := 91 } : Room)).room s m ([.ref y0] : List Value).toArray below meth c s.heap [] 0 0 (MQ below (vp_Si (fun r => r = res)) ([.ref y0] : List Value).toArray s 0 0 (fun _ => False)) (F0 m 51 ls [.int s0]) := by
        intro x0 x1 x2 x3 s0 ls hl v_x0 hf
        unfold f_X5_blamed_B51 at hf
        refine lv_istore (lv' := [(4, .int s0), (0, .ref x0), (1, .int x1), (2, .int x2), (3, .int x3)]) hx hb dX5_blamed_51 hl (by decide) rfl (fun ls hl => ?_)
        refine lv_iload hx hb dX5_blamed_53 (lv_at hl 0 rfl) ?_
        refine lv_iload_n hx hb dX5_blamed_55 rfl (lv_at hl 3 rfl) ?_
        refine lv_icmp_le (tgt := 63) hx hb dX5_blamed_56 (by decide) (fun c25 => ?_) (fun c25 => ?_)
        · have hf := it_t c25 hf
          refine lv_iload_n hx hb dX5_blamed_63 rfl (lv_at hl 2 rfl) ?_
          exact hB64 x0 x2 x3 s0 x1 _ (lv_sub hl [1, 3, 4, 0] rfl) v_x0 hf
        · have hf := it_f c25 hf
          refine lv_iload_n hx hb dX5_blamed_59 rfl (lv_at hl 4 rfl) ?_
          refine lv_goto (tgt := 64) hx hb dX5_blamed_60 (by decide) ?_
          exact hB64 x0 x2 x3 s0 x3 _ (lv_sub hl [1, 3, 4, 0] rfl) v_x0 hf
      intro x0 x1 x2 x3 ls hl v_x0 hf
      have hf : f_X5_blamed_L6s S (f_X5_blamed_L6 S (f_X5_blamed_B84 S) fu6) (f_X5_blamed_B84 S) x0 x1 x2 x3 = some res := hf
      unfold f_X5_blamed_L6s at hf
      refine lv_iload_n hx hb dX5_blamed_6 rfl (lv_at hl 3 rfl) ?_
      refine lv_aload_n hx hb dX5_blamed_7 rfl (lv_at hl 0 rfl) ?_
      obtain ⟨b26, e27, v_b26, hf⟩ := rq_some hf
      refine q_get F hK hP v_x0.1 (pF_5 (S := S) v_x0.2) (fun w h => List.mem_cons_of_mem _ (List.mem_append_right _ h)) rfl 1 (by decide) (hts (.fieldLink RX5 7 "SharedModuliModel" "z" "[I") (List.mem_of_getElem? (i := 1) rfl)) (v := .ref b26) (congrArg (fun z => some (va_rf z)) e27) dX5_blamed_8 ?_
      refine lv_iconst (v := 0) hx hb dX5_blamed_11 (by decide) ?_
      obtain ⟨c28, hf⟩ := ckd_some hf
      refine q_iald F hK hP v_b26 c28 dX5_blamed_12 ?_
      refine lv_icmp_ge (tgt := 84) hx hb dX5_blamed_13 (by decide) (fun c29 => ?_) (fun c29 => ?_)
      · have hf := it_t c29 hf
        exact hB84 x1 _ (lv_sub hl [1] rfl)  hf
      · have hf := it_f c29 hf
        refine lv_aload_n hx hb dX5_blamed_16 rfl (lv_at hl 0 rfl) ?_
        refine lv_iload_n hx hb dX5_blamed_17 rfl (lv_at hl 3 rfl) ?_
        obtain ⟨t30, h31, hf⟩ := bd_some hf
        refine vp_callSi (va_runV (As := [.int x3]) (rest := []) F (c_X5_isOn l D cy (H := _) hP v_x0 h31) (cwV 1 hts gX5_blamed_X5_isOn rfl rfl rfl ⟨rfl, ph_X5_isOn.1, ph_X5_isOn.2, pd_X5_isOn⟩ ⟨Nat.le_of_ble_eq_true rfl, Nat.le_of_ble_eq_true rfl⟩) ⟨PcR.bl, (q_rcv hK hP v_x0.1 (pF_5 (S := S) v_x0.2) rfl), PcR.in hK⟩ rfl rfl hl.1 rfl (lv_room (Nat.le_of_ble_eq_true rfl)) dX5_blamed_18 ⟨Nat.zero_le _, Nat.zero_le _⟩).run (fun r32 er32 => ?_)
        subst r32
        refine lv_if_ne (tgt := 28) hx hb dX5_blamed_21 (by decide) (fun c33 => ?_) (fun c33 => ?_)
        · have hf := it_f c33 hf
          refine lv_aload_n hx hb dX5_blamed_28 rfl (lv_at hl 0 rfl) ?_
          refine lv_iload_n hx hb dX5_blamed_29 rfl (lv_at hl 3 rfl) ?_
          obtain ⟨t34, h35, hf⟩ := bd_some hf
          refine vp_callSi (va_runV (As := [.int x3]) (rest := []) F (c_X5_isVoid l D cy (H := _) hP v_x0 h35) (cwV 1 hts gX5_blamed_X5_isVoid rfl rfl rfl ⟨rfl, ph_X5_isVoid.1, ph_X5_isVoid.2, pd_X5_isVoid⟩ ⟨Nat.le_of_ble_eq_true rfl, Nat.le_of_ble_eq_true rfl⟩) ⟨PcR.bl, (q_rcv hK hP v_x0.1 (pF_5 (S := S) v_x0.2) rfl), PcR.in hK⟩ rfl rfl hl.1 rfl (lv_room (Nat.le_of_ble_eq_true rfl)) dX5_blamed_30 ⟨Nat.zero_le _, Nat.zero_le _⟩).run (fun r36 er36 => ?_)
          subst r36
          refine lv_if_eq (tgt := 46) hx hb dX5_blamed_33 (by decide) (fun c37 => ?_) (fun c37 => ?_)
          · have hf := it_t c37 hf
            refine lv_aload_n hx hb dX5_blamed_46 rfl (lv_at hl 0 rfl) ?_
            refine lv_iload_n hx hb dX5_blamed_47 rfl (lv_at hl 3 rfl) ?_
            obtain ⟨t38, h39, hf⟩ := bd_some hf
            refine vp_callSi (va_runV (As := [.int x3]) (rest := []) F (c_X5_against l D cy (H := _) hP v_x0 h39) (cwV 1 hts gX5_blamed_X5_against rfl rfl rfl ⟨rfl, ph_X5_against.1, ph_X5_against.2, pd_X5_against⟩ ⟨Nat.le_of_ble_eq_true rfl, Nat.le_of_ble_eq_true rfl⟩) ⟨PcR.bl, (q_rcv hK hP v_x0.1 (pF_5 (S := S) v_x0.2) rfl), PcR.in hK⟩ rfl rfl hl.1 rfl (lv_room (Nat.le_of_ble_eq_true rfl)) dX5_blamed_48 ⟨Nat.zero_le _, Nat.zero_le _⟩).run (fun r40 er40 => ?_)
            subst r40
            exact hB51 x0 x1 x2 x3 t38 _ (lv_sub hl [0, 1, 2, 3] rfl) v_x0 hf
          · have hf := it_f c37 hf
            refine lv_aload_n hx hb dX5_blamed_36 rfl (lv_at hl 0 rfl) ?_
            obtain ⟨t41, h42, hf⟩ := bd_some hf
            refine vp_callSi (va_runV (As := []) (rest := []) F (c_X5_onSet l D cy (H := _) hP v_x0 h42) (cwV 0 hts gX5_blamed_X5_onSet rfl rfl rfl ⟨rfl, ph_X5_onSet.1, ph_X5_onSet.2, pd_X5_onSet⟩ ⟨Nat.le_of_ble_eq_true rfl, Nat.le_of_ble_eq_true rfl⟩) ⟨PcR.bl, (q_rcv hK hP v_x0.1 (pF_5 (S := S) v_x0.2) rfl), PcR.in hK⟩ rfl rfl hl.1 rfl (lv_room (Nat.le_of_ble_eq_true rfl)) dX5_blamed_37 ⟨Nat.zero_le _, Nat.zero_le _⟩).run (fun r43 er43 => ?_)
            subst r43
            obtain ⟨t44, h45, hf⟩ := bd_some hf
            refine vp_callSi (va_runS (As := [.int t41]) (rest := []) F (c_X5_bits l D cy (H := _)  h45) (va_cwS 1 hts gX5_blamed_X5_bits rfl rfl rfl ⟨ph_X5_bits.1, ph_X5_bits.2, pd_X5_bits⟩ ⟨Nat.le_of_ble_eq_true rfl, Nat.le_of_ble_eq_true rfl⟩) ⟨PcR.bl, PcR.in hK⟩ rfl rfl hl.1 rfl (lv_room (Nat.le_of_ble_eq_true rfl)) dX5_blamed_40 ⟨Nat.zero_le _, Nat.zero_le _⟩).run (fun r46 er46 => ?_)
            subst r46
            refine lv_goto (tgt := 51) hx hb dX5_blamed_43 (by decide) ?_
            exact hB51 x0 x1 x2 x3 t44 _ (lv_sub hl [0, 1, 2, 3] rfl) v_x0 hf
        · have hf := it_t c33 hf
          refine lv_iconst (v := 0) hx hb dX5_blamed_24 (by decide) ?_
          refine lv_goto (tgt := 51) hx hb dX5_blamed_25 (by decide) ?_
          exact hB51 x0 x1 x2 x3 0 _ (lv_sub hl [0, 1, 2, 3] rfl) v_x0 hf
  have hl := lv_entry ([.ref y0]) (n := 5) (Nat.le_of_ble_eq_true rfl)
  rw [lg_entry_eq]
  generalize (lg_sl ([.ref y0]) ++ List.replicate (5 - (lg_sl ([.ref y0])).length) Slot.unset).toArray = ls at hl ⊢
  have hl : lv_has ls 5 [(0, .ref y0)] := hl
  unfold f_X5_blamed at hf
  refine lv_iconst (v := (-1)) hx hb dX5_blamed_0 (by decide) ?_
  refine lv_istore_n (lv' := [(1, .int ((-1))), (0, .ref y0)]) hx hb dX5_blamed_1 rfl hl (by decide) rfl (fun ls hl => ?_)
  refine lv_iconst (v := 0) hx hb dX5_blamed_2 (by decide) ?_
  refine lv_istore_n (lv' := [(2, .int 0), (1, .int ((-1))), (0, .ref y0)]) hx hb dX5_blamed_3 rfl hl (by decide) rfl (fun ls hl => ?_)
  refine lv_iconst (v := 0) hx hb dX5_blamed_4 (by decide) ?_
  refine lv_istore_n (lv' := [(3, .int 0), (2, .int 0), (1, .int ((-1))), (0, .ref y0)]) hx hb dX5_blamed_5 rfl hl (by decide) rfl (fun ls hl => ?_)
  exact hL6 FU y0 ((-1)) 0 0 _ (lv_sub hl [3, 2, 1, 0] rfl) v_y0 hf
def f_X5_blame (S : PS) (x0 : Nat) : Option (Int32 × PS) :=
  bd (f_X5_blamed (sI S 80 x0 0) x0) fun t1 =>
  some (t1, sI S 80 x0 0)
set_option maxHeartbeats 4000000 in
set_option maxRecDepth 100000 in
theorem c_X5_blame (l : Launch) (D : va_G) (cy : cyT) {S : PS} {n : Nat} {y0 : Nat} (v_y0 : vd S y0 5) {res : Int32 × PS} (hf : f_X5_blame S y0 = some res) : Met l yX5_blame wsX5_blame ({ frames := 5, cells := 0, slots := 0, locals := 115 } : Room) (PcW False D cy S n [.ref y0]) (va_Qi (fun (r : Int32) (u : PS × Nat) => r = res.1 ∧ u = (res.2, n)) (BW D cy S n) (AA cy S n)) 0 0 (AA cy S n) := by
  refine Met.ofW (cc := cX5_blame) (maxL := 1) (ret := (some .int)) (by decide) rfl ?_
  intro p e s m args below meth c s₁ B hml hv
  obtain ⟨hav, hsz, hP0, hD0, hK, hZ0⟩ := hv
  have hx := B.exec
  have hb := B.bytes
  have hr := B.returns
  have hts := atoms_spec (ws := wsX5_blame) B.pre
  have hown : s.vm.findClass RX5 = some m.cls := findClass_of_methodNamed B.named
  have hlocks := B.notSynchronized
  subst hav
  have hw : Hw D cy (AA cy S n) s.heap S n s.heap [] := Hw.start hsz hP0 hD0
  have hA : ∀ q, s.heap.size ≤ q → AA cy S n q := fun q h => Or.inr (hsz ▸ h)
  have hE : EX S S := EX.rf
  have F : CallFix p m c cX5_blame 1 s _ wsX5_blame RX5 := ⟨hx, hb, hml, hown, hts⟩
  have hl := lv_entry ([.ref y0]) (n := 1) (Nat.le_of_ble_eq_true rfl)
  rw [lg_entry_eq]
  generalize (lg_sl ([.ref y0]) ++ List.replicate (1 - (lg_sl ([.ref y0])).length) Slot.unset).toArray = ls at hl ⊢
  have hl : lv_has ls 1 [(0, .ref y0)] := hl
  unfold f_X5_blame at hf
  refine lv_aload_n hx hb dX5_blame_0 rfl (lv_at hl 0 rfl) ?_
  refine lv_iconst (v := 0) hx hb dX5_blame_1 (by decide) ?_
  refine q_put F hK hw v_y0.1 (pF_5 (S := S) v_y0.2) (fun w h => List.mem_cons_of_mem _ (List.mem_append_right _ h)) tyX5 tyX5_ok nmX5 rfl 0 (by decide) (hts (.fieldLink RX5 22 "SharedModuliModel" "thrown" "I") (List.mem_of_getElem? (i := 1) rfl)) (Or.inl rfl) (tyX5_ok 0 (by decide)) rfl rfl (Nat.le_of_ble_eq_true rfl) (S1 := sI S 80 y0 0) (st_80 (S := S) v_y0.2 0) dX5_blame_2 (fun H locs hw => ?_)
  refine lv_aload_n hx hb dX5_blame_5 rfl (lv_at hl 0 rfl) ?_
  obtain ⟨t4, h5, hf⟩ := bd_some hf
  refine vp_callSi (va_runV (As := []) (rest := []) F (c_X5_blamed l D cy (H := _) hw.1 v_y0 h5) (cwV 0 hts gX5_blame_X5_blamed rfl rfl rfl ⟨rfl, ph_X5_blamed.1, ph_X5_blamed.2, pd_X5_blamed⟩ ⟨Nat.le_of_ble_eq_true rfl, Nat.le_of_ble_eq_true rfl⟩) ⟨PcR.bl, (q_rcv hK hw.1 v_y0.1 (pF_5 (S := sI S 80 y0 0) v_y0.2) rfl), PcR.in hK⟩ rfl rfl hl.1 rfl (lv_room (Nat.le_of_ble_eq_true rfl)) dX5_blame_6 ⟨Nat.zero_le _, Nat.zero_le _⟩).run (fun r6 er6 => ?_)
  subst r6
  exact W.iret (v := t4) hx hb hr (fun t ht hW => ⟨⟨_, (sI S 80 y0 0, n), rfl, po2 hf, BW.of hw hE ht⟩, hw.2.2.1.F ht⟩) hw.2.2.1.2.2 dX5_blame_9
def f_X5_share_B22 (S : PS) (s0 : UInt64) : Option (UInt64 × PS) :=
  some (s0, S)
def f_X5_share (S : PS) (x0 : Nat) : Option (UInt64 × PS) :=
  bd (f_X5_onSet S x0) fun t1 =>
  bd (f_X5_join S x0 t1) fun t4 =>
  if t4.1 = 0 then (f_X5_share_B22 t4.2 FP.dconst0) else
  ck (decide ((FP.ddiv FP.dconst1 (FP.l2d (fL t4.2 86 x0))) &&& 0x7fffffffffffffff ≤ 0x7ff0000000000000)) (
  f_X5_share_B22 t4.2 (FP.ddiv FP.dconst1 (FP.l2d (fL t4.2 86 x0))))
set_option maxHeartbeats 4000000 in
set_option maxRecDepth 100000 in
theorem c_X5_share (l : Launch) (D : va_G) (cy : cyT) {S : PS} {n : Nat} {y0 : Nat} (v_y0 : vd S y0 5) {res : UInt64 × PS} (hf : f_X5_share S y0 = some res) : Met l yX5_share wsX5_share ({ frames := 5, cells := 0, slots := 0, locals := 115 } : Room) (PcW False D cy S n [.ref y0]) (va_Qd (fun (r : UInt64) (u : PS × Nat) => r = res.1 ∧ u = (res.2, n)) (BW D cy S n) (AA cy S n)) 0 0 (AA cy S n) := by
  refine Met.ofW (cc := cX5_share) (maxL := 1) (ret := (some .double)) (by decide) rfl ?_
  intro p e s m args below meth c s₁ B hml hv
  obtain ⟨hav, hsz, hP0, hD0, hK, hZ0⟩ := hv
  have hx := B.exec
  have hb := B.bytes
  have hr := B.returns
  have hts := atoms_spec (ws := wsX5_share) B.pre
  have hown : s.vm.findClass RX5 = some m.cls := findClass_of_methodNamed B.named
  have hlocks := B.notSynchronized
  subst hav
  have hw : Hw D cy (AA cy S n) s.heap S n s.heap [] := Hw.start hsz hP0 hD0
  have hA : ∀ q, s.heap.size ≤ q → AA cy S n q := fun q h => Or.inr (hsz ▸ h)
  have hE : EX S S := EX.rf
  have F : CallFix p m c cX5_share 1 s _ wsX5_share RX5 := ⟨hx, hb, hml, hown, hts⟩
  have hB22 : ∀ (Sb : PS) (H1 : Heap) (lo1 : List Loc) (s0 : UInt64) (ls : Array Slot), lv_has ls 1 [] → Hw D cy (AA cy S n) s.heap Sb n H1 lo1 → EX S Sb → f_X5_share_B22 Sb s0 = some res → W p l e (headSpec wsX5_share ({ frames := 5, cells := 0, slots := 0, locals := 115 } : Room)).room s m ([.ref y0] : List Value).toArray below meth c H1 lo1 0 0 (MQ below (va_Qd (fun (r : UInt64) (u : PS × Nat) => r = res.1 ∧ u = (res.2, n)) (BW D cy S n) (AA cy S n)) ([.ref y0] : List Value).toArray s 0 0 (AA cy S n)) (F0 m 22 ls [.double s0]) := by
    intro Sb H1 lo1 s0 ls hl hw hE hf
    unfold f_X5_share_B22 at hf
    exact W.dret (v := s0) hx hb hr (fun t ht hW => ⟨⟨_, (Sb, n), rfl, po2 hf, BW.of hw hE ht⟩, hw.2.2.1.F ht⟩) hw.2.2.1.2.2 dX5_share_22
  have hl := lv_entry ([.ref y0]) (n := 1) (Nat.le_of_ble_eq_true rfl)
  rw [lg_entry_eq]
  generalize (lg_sl ([.ref y0]) ++ List.replicate (1 - (lg_sl ([.ref y0])).length) Slot.unset).toArray = ls at hl ⊢
  have hl : lv_has ls 1 [(0, .ref y0)] := hl
  unfold f_X5_share at hf
  refine lv_aload_n hx hb dX5_share_0 rfl (lv_at hl 0 rfl) ?_
  refine lv_aload_n hx hb dX5_share_1 rfl (lv_at hl 0 rfl) ?_
  obtain ⟨t8, h9, hf⟩ := bd_some hf
  refine vp_callSi (va_runV (As := []) (rest := [.ref y0]) F (c_X5_onSet l D cy (H := _) hw.1 v_y0 h9) (cwV 0 hts gX5_share_X5_onSet rfl rfl rfl ⟨rfl, ph_X5_onSet.1, ph_X5_onSet.2, pd_X5_onSet⟩ ⟨Nat.le_of_ble_eq_true rfl, Nat.le_of_ble_eq_true rfl⟩) ⟨PcR.bl, (q_rcv hK hw.1 v_y0.1 (pF_5 (S := S) v_y0.2) rfl), PcR.in hK⟩ rfl rfl hl.1 rfl (lv_room (Nat.le_of_ble_eq_true rfl)) dX5_share_2 ⟨Nat.zero_le _, Nat.zero_le _⟩).run (fun r10 er10 => ?_)
  subst r10
  obtain ⟨t11, h12, hf⟩ := bd_some hf
  refine q_calli (va_runV (As := [.int t8]) (rest := []) F (c_X5_join l D cy (S := S) v_y0 h12) (cwV 1 hts gX5_share_X5_join rfl rfl rfl ⟨rfl, ph_X5_join.1, ph_X5_join.2, pd_X5_join⟩ ⟨Nat.le_of_ble_eq_true rfl, Nat.le_of_ble_eq_true rfl⟩) ⟨PcW.bl, (q_rcv hK hw.1 v_y0.1 (pF_5 (S := S) v_y0.2) rfl), PcW.in hK hw hA (fun z => z.elim)⟩ rfl rfl hl.1 rfl (lv_room (Nat.le_of_ble_eq_true rfl)) dX5_share_5 ⟨Nat.zero_le _, Nat.zero_le _⟩) hw hA (fun H locs hw hX => ?_)
  have hE := hE.tr hX
  have v_y0 := hX _ _ v_y0
  refine lv_if_eq (tgt := 21) hx hb dX5_share_8 (by decide) (fun c13 => ?_) (fun c13 => ?_)
  · have hf := it_t c13 hf
    refine lv_dconst0 hx hb dX5_share_21 ?_
    exact hB22 t11.2 _ _ FP.dconst0 _ (lv_sub hl [] rfl) hw hE  hf
  · have hf := it_f c13 hf
    refine lv_dconst1 hx hb dX5_share_11 ?_
    refine lv_aload_n hx hb dX5_share_12 rfl (lv_at hl 0 rfl) ?_
    refine q_get F hK hw.1 v_y0.1 (pF_5 (S := t11.2) v_y0.2) (fun w h => List.mem_cons_of_mem _ (List.mem_append_right _ h)) rfl 6 (by decide) (hts (.fieldLink RX5 56 "SharedModuliModel" "n" "J") (List.mem_of_getElem? (i := 1) rfl)) (v := .long (fL t11.2 86 y0)) rfl dX5_share_13 ?_
    refine lv_l2d hx hb dX5_share_16 ?_
    obtain ⟨c14, hf⟩ := ckd_some hf
    refine lv_ddiv hx hb dX5_share_17 c14 ?_
    refine lv_goto (tgt := 22) hx hb dX5_share_18 (by decide) ?_
    exact hB22 t11.2 _ _ (FP.ddiv FP.dconst1 (FP.l2d (fL t11.2 86 y0))) _ (lv_sub hl [] rfl) hw hE  hf
def f_X5_density (S : PS) (x0 : Nat) : Option (UInt64 × PS) :=
  bd (f_X5_share (sI S 80 x0 0) x0) fun t1 =>
  some (t1.1, t1.2)
set_option maxHeartbeats 4000000 in
set_option maxRecDepth 100000 in
theorem c_X5_density (l : Launch) (D : va_G) (cy : cyT) {S : PS} {n : Nat} {y0 : Nat} (v_y0 : vd S y0 5) {res : UInt64 × PS} (hf : f_X5_density S y0 = some res) : Met l yX5_density wsX5_density ({ frames := 6, cells := 0, slots := 0, locals := 135 } : Room) (PcW False D cy S n [.ref y0]) (va_Qd (fun (r : UInt64) (u : PS × Nat) => r = res.1 ∧ u = (res.2, n)) (BW D cy S n) (AA cy S n)) 0 0 (AA cy S n) := by
  refine Met.ofW (cc := cX5_density) (maxL := 1) (ret := (some .double)) (by decide) rfl ?_
  intro p e s m args below meth c s₁ B hml hv
  obtain ⟨hav, hsz, hP0, hD0, hK, hZ0⟩ := hv
  have hx := B.exec
  have hb := B.bytes
  have hr := B.returns
  have hts := atoms_spec (ws := wsX5_density) B.pre
  have hown : s.vm.findClass RX5 = some m.cls := findClass_of_methodNamed B.named
  have hlocks := B.notSynchronized
  subst hav
  have hw : Hw D cy (AA cy S n) s.heap S n s.heap [] := Hw.start hsz hP0 hD0
  have hA : ∀ q, s.heap.size ≤ q → AA cy S n q := fun q h => Or.inr (hsz ▸ h)
  have hE : EX S S := EX.rf
  have F : CallFix p m c cX5_density 1 s _ wsX5_density RX5 := ⟨hx, hb, hml, hown, hts⟩
  have hl := lv_entry ([.ref y0]) (n := 1) (Nat.le_of_ble_eq_true rfl)
  rw [lg_entry_eq]
  generalize (lg_sl ([.ref y0]) ++ List.replicate (1 - (lg_sl ([.ref y0])).length) Slot.unset).toArray = ls at hl ⊢
  have hl : lv_has ls 1 [(0, .ref y0)] := hl
  unfold f_X5_density at hf
  refine lv_aload_n hx hb dX5_density_0 rfl (lv_at hl 0 rfl) ?_
  refine lv_iconst (v := 0) hx hb dX5_density_1 (by decide) ?_
  refine q_put F hK hw v_y0.1 (pF_5 (S := S) v_y0.2) (fun w h => List.mem_cons_of_mem _ (List.mem_append_right _ h)) tyX5 tyX5_ok nmX5 rfl 0 (by decide) (hts (.fieldLink RX5 22 "SharedModuliModel" "thrown" "I") (List.mem_of_getElem? (i := 1) rfl)) (Or.inl rfl) (tyX5_ok 0 (by decide)) rfl rfl (Nat.le_of_ble_eq_true rfl) (S1 := sI S 80 y0 0) (st_80 (S := S) v_y0.2 0) dX5_density_2 (fun H locs hw => ?_)
  refine lv_aload_n hx hb dX5_density_5 rfl (lv_at hl 0 rfl) ?_
  obtain ⟨t3, h4, hf⟩ := bd_some hf
  refine q_calld (va_runV (As := []) (rest := []) F (c_X5_share l D cy (S := sI S 80 y0 0) v_y0 h4) (cwV 0 hts gX5_density_X5_share rfl rfl rfl ⟨rfl, ph_X5_share.1, ph_X5_share.2, pd_X5_share⟩ ⟨Nat.le_of_ble_eq_true rfl, Nat.le_of_ble_eq_true rfl⟩) ⟨PcW.bl, (q_rcv hK hw.1 v_y0.1 (pF_5 (S := sI S 80 y0 0) v_y0.2) rfl), PcW.in hK hw hA (fun z => z.elim)⟩ rfl rfl hl.1 rfl (lv_room (Nat.le_of_ble_eq_true rfl)) dX5_density_6 ⟨Nat.zero_le _, Nat.zero_le _⟩) hw hA (fun H locs hw hX => ?_)
  have hE := hE.tr hX
  have v_y0 := hX _ _ v_y0
  exact W.dret (v := t3.1) hx hb hr (fun t ht hW => ⟨⟨_, (t3.2, n), rfl, po2 hf, BW.of hw hE ht⟩, hw.2.2.1.F ht⟩) hw.2.2.1.2.2 dX5_density_9
def f_X5_bitsOf_B59 (x2 : UInt64) (x4 : Int64) : Option Int64 :=
  ck (decide ((FP.dmul x2 4841369599423283200) &&& 0x7fffffffffffffff ≤ 0x7ff0000000000000)) (
  some (((x4 <<< ((52 : Int32).toInt64 &&& 63)) + (FP.d2l (FP.dmul x2 4841369599423283200))) - (4503599627370496 : Int64)))
def f_X5_bitsOf_L38s (kL38 : UInt64 → Int64 → Option Int64) (ke59 : UInt64 → Int64 → Option Int64) (x2 : UInt64) (x4 : Int64) : Option Int64 :=
  if 0 ≤ (Op.cmpValue (FP.dcmp x2 FP.dconst1) .g) then (ke59 x2 x4) else
  ck (decide ((FP.dmul x2 4611686018427387904) &&& 0x7fffffffffffffff ≤ 0x7ff0000000000000)) (
  kL38 (FP.dmul x2 4611686018427387904) (x4 - (1 : Int64)))
def f_X5_bitsOf_L38 (ke59 : UInt64 → Int64 → Option Int64) (fu : Nat) : UInt64 → Int64 → Option Int64 := fx (fun kL => f_X5_bitsOf_L38s kL ke59) (fun _ _ => none) fu
def f_X5_bitsOf_L15s (kL15 : UInt64 → Int64 → Option Int64) (ke38 : UInt64 → Int64 → Option Int64) (x2 : UInt64) (x4 : Int64) : Option Int64 :=
  if (Op.cmpValue (FP.dcmp x2 4611686018427387904) .l) < 0 then (ke38 x2 x4) else
  ck (decide ((FP.ddiv x2 4611686018427387904) &&& 0x7fffffffffffffff ≤ 0x7ff0000000000000)) (
  kL15 (FP.ddiv x2 4611686018427387904) (x4 + (1 : Int64)))
def f_X5_bitsOf_L15 (ke38 : UInt64 → Int64 → Option Int64) (fu : Nat) : UInt64 → Int64 → Option Int64 := fx (fun kL => f_X5_bitsOf_L15s kL ke38) (fun _ _ => none) fu
def f_X5_bitsOf (x0 : UInt64) : Option Int64 :=
  if (Op.cmpValue (FP.dcmp x0 FP.dconst0) .l) = 0 then (some 0) else
  f_X5_bitsOf_L15 (f_X5_bitsOf_L38 f_X5_bitsOf_B59 FU) FU x0 1023
set_option maxHeartbeats 4000000 in
set_option maxRecDepth 100000 in
theorem c_X5_bitsOf (l : Launch) (D : va_G) (cy : cyT) {H : Heap} {y0 : UInt64}  {res : Int64} (hf : f_X5_bitsOf y0 = some res) : Met l yX5_bitsOf wsX5_bitsOf ({ frames := 0, cells := 0, slots := 0, locals := 0 } : Room) (PcR D cy H [.double y0]) (vp_Sl (fun r => r = res)) 0 0 (fun _ => False) := by
  refine Met.ofW (cc := cX5_bitsOf) (maxL := 6) (ret := (some .long)) (by decide) rfl ?_
  intro p e s m args below meth c s₁ B hml hv
  obtain ⟨hav, hH, hK⟩ := hv
  have hx := B.exec
  have hb := B.bytes
  have hr := B.returns
  have hts := atoms_spec (ws := wsX5_bitsOf) B.pre
  have hown : s.vm.findClass RX5 = some m.cls := findClass_of_methodNamed B.named
  have hlocks := B.notSynchronized
  subst hav
  subst hH
  have F : CallFix p m c cX5_bitsOf 6 s _ wsX5_bitsOf RX5 := ⟨hx, hb, hml, hown, hts⟩
  have hB59 : ∀ (x2 : UInt64) (x4 : Int64) (ls : Array Slot), lv_has ls 6 [(2, .double x2), (4, .long x4)] → f_X5_bitsOf_B59 x2 x4 = some res → W p l e (headSpec wsX5_bitsOf ({ frames := 0, cells := 0, slots := 0, locals := 0 } : Room)).room s m ([.double y0] : List Value).toArray below meth c s.heap [] 0 0 (MQ below (vp_Sl (fun r => r = res)) ([.double y0] : List Value).toArray s 0 0 (fun _ => False)) (F0 m 59 ls []) := by
    intro x2 x4 ls hl hf
    unfold f_X5_bitsOf_B59 at hf
    refine lv_lload hx hb dX5_bitsOf_59 (lv_at hl 1 rfl) ?_
    refine lv_bipush (v := 52) hx hb dX5_bitsOf_61 (by decide) ?_
    refine lv_lshl hx hb dX5_bitsOf_63 rfl ?_
    refine lv_dload_n hx hb dX5_bitsOf_64 rfl (lv_at hl 0 rfl) ?_
    refine lv_ldc2d hx hb hown (hts (.constantDouble RX5 221 4841369599423283200) (List.mem_of_getElem? (i := 3) rfl)) dX5_bitsOf_65 ?_
    obtain ⟨c7, hf⟩ := ckd_some hf
    refine lv_dmul hx hb dX5_bitsOf_68 c7 ?_
    refine lv_d2l hx hb dX5_bitsOf_69 ?_
    refine lv_ladd hx hb dX5_bitsOf_70 ?_
    refine lv_ldc2 hx hb hown (hts (.constantLong RX5 223 4503599627370496) (List.mem_of_getElem? (i := 4) rfl)) dX5_bitsOf_71 ?_
    refine lv_lsub hx hb dX5_bitsOf_74 ?_
    exact W.lret (v := (((x4 <<< ((52 : Int32).toInt64 &&& 63)) + (FP.d2l (FP.dmul x2 4841369599423283200))) - (4503599627370496 : Int64))) hx hb hr (fun t ht hW => ⟨_, rfl, Option.some.inj hf, ht⟩) (fun _ h => by cases h) dX5_bitsOf_75
  have hL38 : ∀ (fu38 : Nat), ∀ (x2 : UInt64) (x4 : Int64) (ls : Array Slot), lv_has ls 6 [(2, .double x2), (4, .long x4)] → f_X5_bitsOf_L38 f_X5_bitsOf_B59 fu38 x2 x4 = some res → W p l e (headSpec wsX5_bitsOf ({ frames := 0, cells := 0, slots := 0, locals := 0 } : Room)).room s m ([.double y0] : List Value).toArray below meth c s.heap [] 0 0 (MQ below (vp_Sl (fun r => r = res)) ([.double y0] : List Value).toArray s 0 0 (fun _ => False)) (F0 m 38 ls []) := by
    intro fu38
    induction fu38 with
    | zero =>
      intro x2 x4 ls hl hf
      have hf : (none : Option Int64) = some res := hf
      cases hf
    | succ fu38 ih38 =>
      intro x2 x4 ls hl hf
      have hf : f_X5_bitsOf_L38s (f_X5_bitsOf_L38 f_X5_bitsOf_B59 fu38) f_X5_bitsOf_B59 x2 x4 = some res := hf
      unfold f_X5_bitsOf_L38s at hf
      refine lv_dload_n hx hb dX5_bitsOf_38 rfl (lv_at hl 0 rfl) ?_
      refine lv_dconst1 hx hb dX5_bitsOf_39 ?_
      refine lv_dcmp hx hb dX5_bitsOf_40 ?_
      refine lv_if_ge (tgt := 59) hx hb dX5_bitsOf_41 (by decide) (fun c8 => ?_) (fun c8 => ?_)
      · have hf := it_t c8 hf
        exact hB59 x2 x4 _ (lv_sub hl [0, 1] rfl)  hf
      · have hf := it_f c8 hf
        refine lv_dload_n hx hb dX5_bitsOf_44 rfl (lv_at hl 0 rfl) ?_
        refine lv_ldc2d hx hb hown (hts (.constantDouble RX5 219 4611686018427387904) (List.mem_of_getElem? (i := 2) rfl)) dX5_bitsOf_45 ?_
        obtain ⟨c9, hf⟩ := ckd_some hf
        refine lv_dmul hx hb dX5_bitsOf_48 c9 ?_
        refine lv_dstore_n (lv' := [(2, .double (FP.dmul x2 4611686018427387904)), (4, .long x4)]) hx hb dX5_bitsOf_49 rfl hl (by decide) rfl (fun ls hl => ?_)
        refine lv_lload hx hb dX5_bitsOf_50 (lv_at hl 1 rfl) ?_
        refine lv_lconst (v := 1) hx hb dX5_bitsOf_52 (by decide) ?_
        refine lv_lsub hx hb dX5_bitsOf_53 ?_
        refine lv_lstore (lv' := [(4, .long (x4 - (1 : Int64))), (2, .double (FP.dmul x2 4611686018427387904))]) hx hb dX5_bitsOf_54 hl (by decide) rfl (fun ls hl => ?_)
        refine lv_goto (tgt := 38) hx hb dX5_bitsOf_56 (by decide) ?_
        exact ih38 (FP.dmul x2 4611686018427387904) (x4 - (1 : Int64)) _ (lv_sub hl [1, 0] rfl)  hf
  have hL15 : ∀ (fu15 : Nat), ∀ (x2 : UInt64) (x4 : Int64) (ls : Array Slot), lv_has ls 6 [(2, .double x2), (4, .long x4)] → f_X5_bitsOf_L15 (f_X5_bitsOf_L38 f_X5_bitsOf_B59 FU) fu15 x2 x4 = some res → W p l e (headSpec wsX5_bitsOf ({ frames := 0, cells := 0, slots := 0, locals := 0 } : Room)).room s m ([.double y0] : List Value).toArray below meth c s.heap [] 0 0 (MQ below (vp_Sl (fun r => r = res)) ([.double y0] : List Value).toArray s 0 0 (fun _ => False)) (F0 m 15 ls []) := by
    intro fu15
    induction fu15 with
    | zero =>
      intro x2 x4 ls hl hf
      have hf : (none : Option Int64) = some res := hf
      cases hf
    | succ fu15 ih15 =>
      intro x2 x4 ls hl hf
      have hf : f_X5_bitsOf_L15s (f_X5_bitsOf_L15 (f_X5_bitsOf_L38 f_X5_bitsOf_B59 FU) fu15) (f_X5_bitsOf_L38 f_X5_bitsOf_B59 FU) x2 x4 = some res := hf
      unfold f_X5_bitsOf_L15s at hf
      refine lv_dload_n hx hb dX5_bitsOf_15 rfl (lv_at hl 0 rfl) ?_
      refine lv_ldc2d hx hb hown (hts (.constantDouble RX5 219 4611686018427387904) (List.mem_of_getElem? (i := 2) rfl)) dX5_bitsOf_16 ?_
      refine lv_dcmp hx hb dX5_bitsOf_19 ?_
      refine lv_if_lt (tgt := 38) hx hb dX5_bitsOf_20 (by decide) (fun c10 => ?_) (fun c10 => ?_)
      · have hf := it_t c10 hf
        exact hL38 FU x2 x4 _ (lv_sub hl [0, 1] rfl)  hf
      · have hf := it_f c10 hf
        refine lv_dload_n hx hb dX5_bitsOf_23 rfl (lv_at hl 0 rfl) ?_
        refine lv_ldc2d hx hb hown (hts (.constantDouble RX5 219 4611686018427387904) (List.mem_of_getElem? (i := 2) rfl)) dX5_bitsOf_24 ?_
        obtain ⟨c11, hf⟩ := ckd_some hf
        refine lv_ddiv hx hb dX5_bitsOf_27 c11 ?_
        refine lv_dstore_n (lv' := [(2, .double (FP.ddiv x2 4611686018427387904)), (4, .long x4)]) hx hb dX5_bitsOf_28 rfl hl (by decide) rfl (fun ls hl => ?_)
        refine lv_lload hx hb dX5_bitsOf_29 (lv_at hl 1 rfl) ?_
        refine lv_lconst (v := 1) hx hb dX5_bitsOf_31 (by decide) ?_
        refine lv_ladd hx hb dX5_bitsOf_32 ?_
        refine lv_lstore (lv' := [(4, .long (x4 + (1 : Int64))), (2, .double (FP.ddiv x2 4611686018427387904))]) hx hb dX5_bitsOf_33 hl (by decide) rfl (fun ls hl => ?_)
        refine lv_goto (tgt := 15) hx hb dX5_bitsOf_35 (by decide) ?_
        exact ih15 (FP.ddiv x2 4611686018427387904) (x4 + (1 : Int64)) _ (lv_sub hl [1, 0] rfl)  hf
  have hl := lv_entry ([.double y0]) (n := 6) (Nat.le_of_ble_eq_true rfl)
  rw [lg_entry_eq]
  generalize (lg_sl ([.double y0]) ++ List.replicate (6 - (lg_sl ([.double y0])).length) Slot.unset).toArray = ls at hl ⊢
  have hl : lv_has ls 6 [(0, .double y0)] := hl
  unfold f_X5_bitsOf at hf
  refine lv_dload_n hx hb dX5_bitsOf_0 rfl (lv_at hl 0 rfl) ?_
  refine lv_dconst0 hx hb dX5_bitsOf_1 ?_
  refine lv_dcmp hx hb dX5_bitsOf_2 ?_
  refine lv_if_ne (tgt := 8) hx hb dX5_bitsOf_3 (by decide) (fun c12 => ?_) (fun c12 => ?_)
  · have hf := it_f c12 hf
    refine lv_dload_n hx hb dX5_bitsOf_8 rfl (lv_at hl 0 rfl) ?_
    refine lv_dstore_n (lv' := [(2, .double y0), (0, .double y0)]) hx hb dX5_bitsOf_9 rfl hl (by decide) rfl (fun ls hl => ?_)
    refine lv_ldc2 hx hb hown (hts (.constantLong RX5 217 1023) (List.mem_of_getElem? (i := 1) rfl)) dX5_bitsOf_10 ?_
    refine lv_lstore (lv' := [(4, .long 1023), (2, .double y0), (0, .double y0)]) hx hb dX5_bitsOf_13 hl (by decide) rfl (fun ls hl => ?_)
    exact hL15 FU y0 1023 _ (lv_sub hl [1, 0] rfl)  hf
  · have hf := it_t c12 hf
    refine lv_lconst (v := 0) hx hb dX5_bitsOf_6 (by decide) ?_
    exact W.lret (v := 0) hx hb hr (fun t ht hW => ⟨_, rfl, Option.some.inj hf, ht⟩) (fun _ h => by cases h) dX5_bitsOf_7
def f_X5_mix (S : PS) (x0 : Nat) (x1 : Int64) : Option PS :=
  some (sL S 92 x0 (((31 : Int64) * (fL S 92 x0)) + x1))
set_option maxHeartbeats 4000000 in
set_option maxRecDepth 100000 in
theorem c_X5_mix (l : Launch) (D : va_G) (cy : cyT) {S : PS} {n : Nat} {y0 : Nat} {y1 : Int64} (v_y0 : vd S y0 5) {res : PS} (hf : f_X5_mix S y0 y1 = some res) : Met l yX5_mix wsX5_mix ({ frames := 0, cells := 0, slots := 0, locals := 0 } : Room) (PcW False D cy S n [.ref y0, .long y1]) (va_Qv (fun (u : PS × Nat) => u = (res, n)) (BW D cy S n) (AA cy S n)) 0 0 (AA cy S n) := by
  refine Met.ofW (cc := cX5_mix) (maxL := 3) (ret := none) (by decide) rfl ?_
  intro p e s m args below meth c s₁ B hml hv
  obtain ⟨hav, hsz, hP0, hD0, hK, hZ0⟩ := hv
  have hx := B.exec
  have hb := B.bytes
  have hr := B.returns
  have hts := atoms_spec (ws := wsX5_mix) B.pre
  have hown : s.vm.findClass RX5 = some m.cls := findClass_of_methodNamed B.named
  have hlocks := B.notSynchronized
  subst hav
  have hw : Hw D cy (AA cy S n) s.heap S n s.heap [] := Hw.start hsz hP0 hD0
  have hA : ∀ q, s.heap.size ≤ q → AA cy S n q := fun q h => Or.inr (hsz ▸ h)
  have hE : EX S S := EX.rf
  have F : CallFix p m c cX5_mix 3 s _ wsX5_mix RX5 := ⟨hx, hb, hml, hown, hts⟩
  have hl := lv_entry ([.ref y0, .long y1]) (n := 3) (Nat.le_of_ble_eq_true rfl)
  rw [lg_entry_eq]
  generalize (lg_sl ([.ref y0, .long y1]) ++ List.replicate (3 - (lg_sl ([.ref y0, .long y1])).length) Slot.unset).toArray = ls at hl ⊢
  have hl : lv_has ls 3 [(0, .ref y0), (1, .long y1)] := hl
  unfold f_X5_mix at hf
  refine lv_aload_n hx hb dX5_mix_0 rfl (lv_at hl 0 rfl) ?_
  refine lv_ldc2 hx hb hown (hts (.constantLong RX5 225 31) (List.mem_of_getElem? (i := 1) rfl)) dX5_mix_1 ?_
  refine lv_aload_n hx hb dX5_mix_4 rfl (lv_at hl 0 rfl) ?_
  refine q_get F hK hw.1 v_y0.1 (pF_5 (S := S) v_y0.2) (fun w h => List.mem_cons_of_mem _ (List.mem_append_right _ h)) rfl 12 (by decide) (hts (.fieldLink RX5 227 "SharedModuliModel" "hash" "J") (List.mem_of_getElem? (i := 2) rfl)) (v := .long (fL S 92 y0)) rfl dX5_mix_5 ?_
  refine lv_lmul hx hb dX5_mix_8 ?_
  refine lv_lload_n hx hb dX5_mix_9 rfl (lv_at hl 1 rfl) ?_
  refine lv_ladd hx hb dX5_mix_10 ?_
  refine q_put F hK hw v_y0.1 (pF_5 (S := S) v_y0.2) (fun w h => List.mem_cons_of_mem _ (List.mem_append_right _ h)) tyX5 tyX5_ok nmX5 rfl 12 (by decide) (hts (.fieldLink RX5 227 "SharedModuliModel" "hash" "J") (List.mem_of_getElem? (i := 2) rfl)) (Or.inl rfl) (tyX5_ok 12 (by decide)) rfl rfl (Nat.le_of_ble_eq_true rfl) (S1 := sL S 92 y0 (((31 : Int64) * (fL S 92 y0)) + y1)) (st_92 (S := S) v_y0.2 (((31 : Int64) * (fL S 92 y0)) + y1)) dX5_mix_11 (fun H locs hw => ?_)
  exact W.vret hx hb hr (fun t ht hW => ⟨⟨(sL S 92 y0 (((31 : Int64) * (fL S 92 y0)) + y1), n), rfl, po1 hf, BW.of hw hE ht⟩, hw.2.2.1.F ht⟩) hw.2.2.1.2.2 dX5_mix_14
def f_X5_mixCondition_B61 (S : PS) (x0 : Nat) (x1 : Int32) : Option PS :=
  bd (f_X5_onSet S x0) fun t1 =>
  bd (f_X5_joinedBy S x0 (t1 &&& (((1 : Int32) <<< (x1 &&& 31)) ^^^ ((-1) : Int32))) 0) fun t4 =>
  bd (f_X5_mix t4.2 x0 t4.1) fun t6 =>
  bd (f_X5_onSet t6 x0) fun t8 =>
  bd (f_X5_joinedBy t6 x0 (t8 &&& (((1 : Int32) <<< (x1 &&& 31)) ^^^ ((-1) : Int32))) 1) fun t11 =>
  bd (f_X5_mix t11.2 x0 t11.1) fun t13 =>
  some (t13)
def f_X5_mixCondition_B52 (kL27 : PS → Nat → Int32 → Int32 → Option PS) (ke61 : PS → Nat → Int32 → Option PS) (S : PS) (x0 : Nat) (x1 : Int32) (x2 : Int32) (s0 : Nat) (s1 : Int64) : Option PS :=
  bd (f_X5_mix S s0 s1) fun t15 =>
  kL27 t15 x0 x1 (x2 + 1)
def f_X5_mixCondition_L27s (kL27 : PS → Nat → Int32 → Int32 → Option PS) (ke61 : PS → Nat → Int32 → Option PS) (S : PS) (x0 : Nat) (x1 : Int32) (x2 : Int32) : Option PS :=
  rq (fR S 81 x0) S 6 fun b17 =>
  ck (decide (¬ ((0 : Int32) < 0 ∨ aN S b17 ≤ (0 : Int32).toNatClampNeg))) (
  if (aI S b17 (0 : Int32).toNatClampNeg) ≤ x2 then (ke61 S x0 x1) else
  bd (f_X5_goTogether S x0 x1 x2) fun t21 =>
  if t21 = 0 then (f_X5_mixCondition_B52 kL27 ke61 S x0 x1 x2 x0 0) else
  f_X5_mixCondition_B52 kL27 ke61 S x0 x1 x2 x0 1)
def f_X5_mixCondition_L27 (ke61 : PS → Nat → Int32 → Option PS) (fu : Nat) : PS → Nat → Int32 → Int32 → Option PS := fx (fun kL => f_X5_mixCondition_L27s kL ke61) (fun _ _ _ _ => none) fu
def f_X5_mixCondition_B25 (S : PS) (x0 : Nat) (x1 : Int32) : Option PS :=
  f_X5_mixCondition_L27 f_X5_mixCondition_B61 FU S x0 x1 0
def f_X5_mixCondition_L2s (kL2 : PS → Nat → Int32 → Int32 → Option PS) (ke25 : PS → Nat → Int32 → Option PS) (S : PS) (x0 : Nat) (x1 : Int32) (x2 : Int32) : Option PS :=
  if 8 < x2 then (ke25 S x0 x1) else
  bd (f_X5_told S x0 x1 x2) fun t26 =>
  bd (f_X5_mix t26.2 x0 t26.1.toInt64) fun t28 =>
  kL2 t28 x0 x1 (x2 + 1)
def f_X5_mixCondition_L2 (ke25 : PS → Nat → Int32 → Option PS) (fu : Nat) : PS → Nat → Int32 → Int32 → Option PS := fx (fun kL => f_X5_mixCondition_L2s kL ke25) (fun _ _ _ _ => none) fu
def f_X5_mixCondition (S : PS) (x0 : Nat) (x1 : Int32) : Option PS :=
  f_X5_mixCondition_L2 f_X5_mixCondition_B25 FU S x0 x1 0
set_option maxHeartbeats 4000000 in
set_option maxRecDepth 100000 in
theorem c_X5_mixCondition (l : Launch) (D : va_G) (cy : cyT) {S : PS} {n : Nat} {y0 : Nat} {y1 : Int32} (v_y0 : vd S y0 5) {res : PS} (hf : f_X5_mixCondition S y0 y1 = some res) : Met l yX5_mixCondition wsX5_mixCondition ({ frames := 8, cells := 0, slots := 0, locals := 180 } : Room) (PcW False D cy S n [.ref y0, .int y1]) (va_Qv (fun (u : PS × Nat) => u = (res, n)) (BW D cy S n) (AA cy S n)) 0 0 (AA cy S n) := by
  refine Met.ofW (cc := cX5_mixCondition) (maxL := 3) (ret := none) (by decide) rfl ?_
  intro p e s m args below meth c s₁ B hml hv
  obtain ⟨hav, hsz, hP0, hD0, hK, hZ0⟩ := hv
  have hx := B.exec
  have hb := B.bytes
  have hr := B.returns
  have hts := atoms_spec (ws := wsX5_mixCondition) B.pre
  have hown : s.vm.findClass RX5 = some m.cls := findClass_of_methodNamed B.named
  have hlocks := B.notSynchronized
  subst hav
  have hw : Hw D cy (AA cy S n) s.heap S n s.heap [] := Hw.start hsz hP0 hD0
  have hA : ∀ q, s.heap.size ≤ q → AA cy S n q := fun q h => Or.inr (hsz ▸ h)
  have hE : EX S S := EX.rf
  have F : CallFix p m c cX5_mixCondition 3 s _ wsX5_mixCondition RX5 := ⟨hx, hb, hml, hown, hts⟩
  have hB61 : ∀ (Sb : PS) (H1 : Heap) (lo1 : List Loc) (x0 : Nat) (x1 : Int32) (ls : Array Slot), lv_has ls 3 [(0, .ref x0), (1, .int x1)] → Hw D cy (AA cy S n) s.heap Sb n H1 lo1 → EX S Sb → vd Sb x0 5 → f_X5_mixCondition_B61 Sb x0 x1 = some res → W p l e (headSpec wsX5_mixCondition ({ frames := 8, cells := 0, slots := 0, locals := 180 } : Room)).room s m ([.ref y0, .int y1] : List Value).toArray below meth c H1 lo1 0 0 (MQ below (va_Qv (fun (u : PS × Nat) => u = (res, n)) (BW D cy S n) (AA cy S n)) ([.ref y0, .int y1] : List Value).toArray s 0 0 (AA cy S n)) (F0 m 61 ls []) := by
    intro Sb H1 lo1 x0 x1 ls hl hw hE v_x0 hf
    unfold f_X5_mixCondition_B61 at hf
    refine lv_aload_n hx hb dX5_mixCondition_61 rfl (lv_at hl 0 rfl) ?_
    refine lv_aload_n hx hb dX5_mixCondition_62 rfl (lv_at hl 0 rfl) ?_
    refine lv_aload_n hx hb dX5_mixCondition_63 rfl (lv_at hl 0 rfl) ?_
    obtain ⟨t30, h31, hf⟩ := bd_some hf
    refine vp_callSi (va_runV (As := []) (rest := [.ref x0, .ref x0]) F (c_X5_onSet l D cy (H := _) hw.1 v_x0 h31) (cwV 0 hts gX5_mixCondition_X5_onSet rfl rfl rfl ⟨rfl, ph_X5_onSet.1, ph_X5_onSet.2, pd_X5_onSet⟩ ⟨Nat.le_of_ble_eq_true rfl, Nat.le_of_ble_eq_true rfl⟩) ⟨PcR.bl, (q_rcv hK hw.1 v_x0.1 (pF_5 (S := Sb) v_x0.2) rfl), PcR.in hK⟩ rfl rfl hl.1 rfl (lv_room (Nat.le_of_ble_eq_true rfl)) dX5_mixCondition_64 ⟨Nat.zero_le _, Nat.zero_le _⟩).run (fun r32 er32 => ?_)
    subst r32
    refine lv_iconst (v := 1) hx hb dX5_mixCondition_67 (by decide) ?_
    refine lv_iload_n hx hb dX5_mixCondition_68 rfl (lv_at hl 1 rfl) ?_
    refine lv_ishl hx hb dX5_mixCondition_69 ?_
    refine lv_iconst (v := (-1)) hx hb dX5_mixCondition_70 (by decide) ?_
    refine lv_ixor hx hb dX5_mixCondition_71 ?_
    refine lv_iand hx hb dX5_mixCondition_72 ?_
    refine lv_iconst (v := 0) hx hb dX5_mixCondition_73 (by decide) ?_
    obtain ⟨t33, h34, hf⟩ := bd_some hf
    refine q_calll (va_runV (As := [.int (t30 &&& (((1 : Int32) <<< (x1 &&& 31)) ^^^ ((-1) : Int32))), .int 0]) (rest := [.ref x0]) F (c_X5_joinedBy l D cy (S := Sb) v_x0 h34) (cwV 2 hts gX5_mixCondition_X5_joinedBy rfl rfl rfl ⟨rfl, ph_X5_joinedBy.1, ph_X5_joinedBy.2, pd_X5_joinedBy⟩ ⟨Nat.le_of_ble_eq_true rfl, Nat.le_of_ble_eq_true rfl⟩) ⟨PcW.bl, (q_rcv hK hw.1 v_x0.1 (pF_5 (S := Sb) v_x0.2) rfl), PcW.in hK hw hA (fun z => z.elim)⟩ rfl rfl hl.1 rfl (lv_room (Nat.le_of_ble_eq_true rfl)) dX5_mixCondition_74 ⟨Nat.zero_le _, Nat.zero_le _⟩) hw hA (fun H locs hw hX => ?_)
    have hE := hE.tr hX
    have v_x0 := hX _ _ v_x0
    obtain ⟨t35, h36, hf⟩ := bd_some hf
    refine q_callv (va_runV (As := [.long t33.1]) (rest := []) F (c_X5_mix l D cy (S := t33.2) v_x0 h36) (cwV 1 hts gX5_mixCondition_X5_mix rfl rfl rfl ⟨rfl, ph_X5_mix.1, ph_X5_mix.2, pd_X5_mix⟩ ⟨Nat.le_of_ble_eq_true rfl, Nat.le_of_ble_eq_true rfl⟩) ⟨PcW.bl, (q_rcv hK hw.1 v_x0.1 (pF_5 (S := t33.2) v_x0.2) rfl), PcW.in hK hw hA (fun z => z.elim)⟩ rfl rfl hl.1 rfl (lv_room (Nat.le_of_ble_eq_true rfl)) dX5_mixCondition_77 ⟨Nat.zero_le _, Nat.zero_le _⟩) hw hA (fun H locs hw hX => ?_)
    have hE := hE.tr hX
    have v_x0 := hX _ _ v_x0
    refine lv_aload_n hx hb dX5_mixCondition_80 rfl (lv_at hl 0 rfl) ?_
    refine lv_aload_n hx hb dX5_mixCondition_81 rfl (lv_at hl 0 rfl) ?_
    refine lv_aload_n hx hb dX5_mixCondition_82 rfl (lv_at hl 0 rfl) ?_
    obtain ⟨t37, h38, hf⟩ := bd_some hf
    refine vp_callSi (va_runV (As := []) (rest := [.ref x0, .ref x0]) F (c_X5_onSet l D cy (H := _) hw.1 v_x0 h38) (cwV 0 hts gX5_mixCondition_X5_onSet rfl rfl rfl ⟨rfl, ph_X5_onSet.1, ph_X5_onSet.2, pd_X5_onSet⟩ ⟨Nat.le_of_ble_eq_true rfl, Nat.le_of_ble_eq_true rfl⟩) ⟨PcR.bl, (q_rcv hK hw.1 v_x0.1 (pF_5 (S := t35) v_x0.2) rfl), PcR.in hK⟩ rfl rfl hl.1 rfl (lv_room (Nat.le_of_ble_eq_true rfl)) dX5_mixCondition_83 ⟨Nat.zero_le _, Nat.zero_le _⟩).run (fun r39 er39 => ?_)
    subst r39
    refine lv_iconst (v := 1) hx hb dX5_mixCondition_86 (by decide) ?_
    refine lv_iload_n hx hb dX5_mixCondition_87 rfl (lv_at hl 1 rfl) ?_
    refine lv_ishl hx hb dX5_mixCondition_88 ?_
    refine lv_iconst (v := (-1)) hx hb dX5_mixCondition_89 (by decide) ?_
    refine lv_ixor hx hb dX5_mixCondition_90 ?_
    refine lv_iand hx hb dX5_mixCondition_91 ?_
    refine lv_iconst (v := 1) hx hb dX5_mixCondition_92 (by decide) ?_
    obtain ⟨t40, h41, hf⟩ := bd_some hf
    refine q_calll (va_runV (As := [.int (t37 &&& (((1 : Int32) <<< (x1 &&& 31)) ^^^ ((-1) : Int32))), .int 1]) (rest := [.ref x0]) F (c_X5_joinedBy l D cy (S := t35) v_x0 h41) (cwV 2 hts gX5_mixCondition_X5_joinedBy rfl rfl rfl ⟨rfl, ph_X5_joinedBy.1, ph_X5_joinedBy.2, pd_X5_joinedBy⟩ ⟨Nat.le_of_ble_eq_true rfl, Nat.le_of_ble_eq_true rfl⟩) ⟨PcW.bl, (q_rcv hK hw.1 v_x0.1 (pF_5 (S := t35) v_x0.2) rfl), PcW.in hK hw hA (fun z => z.elim)⟩ rfl rfl hl.1 rfl (lv_room (Nat.le_of_ble_eq_true rfl)) dX5_mixCondition_93 ⟨Nat.zero_le _, Nat.zero_le _⟩) hw hA (fun H locs hw hX => ?_)
    have hE := hE.tr hX
    have v_x0 := hX _ _ v_x0
    obtain ⟨t42, h43, hf⟩ := bd_some hf
    refine q_callv (va_runV (As := [.long t40.1]) (rest := []) F (c_X5_mix l D cy (S := t40.2) v_x0 h43) (cwV 1 hts gX5_mixCondition_X5_mix rfl rfl rfl ⟨rfl, ph_X5_mix.1, ph_X5_mix.2, pd_X5_mix⟩ ⟨Nat.le_of_ble_eq_true rfl, Nat.le_of_ble_eq_true rfl⟩) ⟨PcW.bl, (q_rcv hK hw.1 v_x0.1 (pF_5 (S := t40.2) v_x0.2) rfl), PcW.in hK hw hA (fun z => z.elim)⟩ rfl rfl hl.1 rfl (lv_room (Nat.le_of_ble_eq_true rfl)) dX5_mixCondition_96 ⟨Nat.zero_le _, Nat.zero_le _⟩) hw hA (fun H locs hw hX => ?_)
    have hE := hE.tr hX
    have v_x0 := hX _ _ v_x0
    exact W.vret hx hb hr (fun t ht hW => ⟨⟨(t42, n), rfl, po1 hf, BW.of hw hE ht⟩, hw.2.2.1.F ht⟩) hw.2.2.1.2.2 dX5_mixCondition_99
  have hL27 : ∀ (fu27 : Nat), ∀ (Sb : PS) (H1 : Heap) (lo1 : List Loc) (x0 : Nat) (x1 : Int32) (x2 : Int32) (ls : Array Slot), lv_has ls 3 [(0, .ref x0), (1, .int x1), (2, .int x2)] → Hw D cy (AA cy S n) s.heap Sb n H1 lo1 → EX S Sb → vd Sb x0 5 → f_X5_mixCondition_L27 f_X5_mixCondition_B61 fu27 Sb x0 x1 x2 = some res → W p l e (headSpec wsX5_mixCondition ({ frames := 8, cells := 0, slots := 0, locals := 180 } : Room)).room s m ([.ref y0, .int y1] : List Value).toArray below meth c H1 lo1 0 0 (MQ below (va_Qv (fun (u : PS × Nat) => u = (res, n)) (BW D cy S n) (AA cy S n)) ([.ref y0, .int y1] : List Value).toArray s 0 0 (AA cy S n)) (F0 m 27 ls []) := by
    intro fu27
    induction fu27 with
    | zero =>
      intro Sb H1 lo1 x0 x1 x2 ls hl hw hE v_x0 hf
      have hf : (none : Option PS) = some res := hf
      cases hf
    | succ fu27 ih27 =>
      have hB52 : ∀ (Sb : PS) (H1 : Heap) (lo1 : List Loc) (x0 : Nat) (x1 : Int32) (x2 : Int32) (s0 : Nat) (s1 : Int64) (ls : Array Slot), lv_has ls 3 [(0, .ref x0), (1, .int x1), (2, .int x2)] → Hw D cy (AA cy S n) s.heap Sb n H1 lo1 → EX S Sb → vd Sb x0 5 → vd Sb s0 5 → f_X5_mixCondition_B52 (f_X5_mixCondition_L27 f_X5_mixCondition_B61 fu27) f_X5_mixCondition_B61 Sb x0 x1 x2 s0 s1 = some res → W p l e (headSpec wsX5_mixCondition ({ frames := 8, cells := 0, slots := 0, locals := 180 } : Room)).room s m ([.ref y0, .int y1] : List Value).toArray below meth c H1 lo1 0 0 (MQ below (va_Qv (fun (u : PS × Nat) => u = (res, n)) (BW D cy S n) (AA cy S n)) ([.ref y0, .int y1] : List Value).toArray s 0 0 (AA cy S n)) (F0 m 52 ls [.long s1, .ref s0]) := by
        intro Sb H1 lo1 x0 x1 x2 s0 s1 ls hl hw hE v_x0 v_s0 hf
        unfold f_X5_mixCondition_B52 at hf
        obtain ⟨t44, h45, hf⟩ := bd_some hf
        refine q_callv (va_runV (As := [.long s1]) (rest := []) F (c_X5_mix l D cy (S := Sb) v_s0 h45) (cwV 1 hts gX5_mixCondition_X5_mix rfl rfl rfl ⟨rfl, ph_X5_mix.1, ph_X5_mix.2, pd_X5_mix⟩ ⟨Nat.le_of_ble_eq_true rfl, Nat.le_of_ble_eq_true rfl⟩) ⟨PcW.bl, (q_rcv hK hw.1 v_s0.1 (pF_5 (S := Sb) v_s0.2) rfl), PcW.in hK hw hA (fun z => z.elim)⟩ rfl rfl hl.1 rfl (lv_room (Nat.le_of_ble_eq_true rfl)) dX5_mixCondition_52 ⟨Nat.zero_le _, Nat.zero_le _⟩) hw hA (fun H locs hw hX => ?_)
        have hE := hE.tr hX
        have v_x0 := hX _ _ v_x0
        have v_s0 := hX _ _ v_s0
        refine lv_iinc (v := x2 + 1) (lv' := [(2, .int (x2 + 1)), (0, .ref x0), (1, .int x1)]) hx hb dX5_mixCondition_55 hl (k := 2) rfl (by rfl) (by decide) rfl (fun ls hl => ?_)
        refine lv_goto (tgt := 27) hx hb dX5_mixCondition_58 (by decide) ?_
        exact ih27 t44 _ _ x0 x1 (x2 + 1) _ (lv_sub hl [1, 2, 0] rfl) hw hE v_x0 hf
      intro Sb H1 lo1 x0 x1 x2 ls hl hw hE v_x0 hf
      have hf : f_X5_mixCondition_L27s (f_X5_mixCondition_L27 f_X5_mixCondition_B61 fu27) f_X5_mixCondition_B61 Sb x0 x1 x2 = some res := hf
      unfold f_X5_mixCondition_L27s at hf
      refine lv_iload_n hx hb dX5_mixCondition_27 rfl (lv_at hl 2 rfl) ?_
      refine lv_aload_n hx hb dX5_mixCondition_28 rfl (lv_at hl 0 rfl) ?_
      obtain ⟨b46, e47, v_b46, hf⟩ := rq_some hf
      refine q_get F hK hw.1 v_x0.1 (pF_5 (S := Sb) v_x0.2) (fun w h => List.mem_cons_of_mem _ (List.mem_append_right _ h)) rfl 1 (by decide) (hts (.fieldLink RX5 7 "SharedModuliModel" "z" "[I") (List.mem_of_getElem? (i := 1) rfl)) (v := .ref b46) (congrArg (fun z => some (va_rf z)) e47) dX5_mixCondition_29 ?_
      refine lv_iconst (v := 0) hx hb dX5_mixCondition_32 (by decide) ?_
      obtain ⟨c48, hf⟩ := ckd_some hf
      refine q_iald F hK hw.1 v_b46 c48 dX5_mixCondition_33 ?_
      refine lv_icmp_ge (tgt := 61) hx hb dX5_mixCondition_34 (by decide) (fun c49 => ?_) (fun c49 => ?_)
      · have hf := it_t c49 hf
        exact hB61 Sb _ _ x0 x1 _ (lv_sub hl [0, 1] rfl) hw hE v_x0 hf
      · have hf := it_f c49 hf
        refine lv_aload_n hx hb dX5_mixCondition_37 rfl (lv_at hl 0 rfl) ?_
        refine lv_aload_n hx hb dX5_mixCondition_38 rfl (lv_at hl 0 rfl) ?_
        refine lv_iload_n hx hb dX5_mixCondition_39 rfl (lv_at hl 1 rfl) ?_
        refine lv_iload_n hx hb dX5_mixCondition_40 rfl (lv_at hl 2 rfl) ?_
        obtain ⟨t50, h51, hf⟩ := bd_some hf
        refine vp_callSi (va_runV (As := [.int x1, .int x2]) (rest := [.ref x0]) F (c_X5_goTogether l D cy (H := _) hw.1 v_x0 h51) (cwV 2 hts gX5_mixCondition_X5_goTogether rfl rfl rfl ⟨rfl, ph_X5_goTogether.1, ph_X5_goTogether.2, pd_X5_goTogether⟩ ⟨Nat.le_of_ble_eq_true rfl, Nat.le_of_ble_eq_true rfl⟩) ⟨PcR.bl, (q_rcv hK hw.1 v_x0.1 (pF_5 (S := Sb) v_x0.2) rfl), PcR.in hK⟩ rfl rfl hl.1 rfl (lv_room (Nat.le_of_ble_eq_true rfl)) dX5_mixCondition_41 ⟨Nat.zero_le _, Nat.zero_le _⟩).run (fun r52 er52 => ?_)
        subst r52
        refine lv_if_eq (tgt := 51) hx hb dX5_mixCondition_44 (by decide) (fun c53 => ?_) (fun c53 => ?_)
        · have hf := it_t c53 hf
          refine lv_lconst (v := 0) hx hb dX5_mixCondition_51 (by decide) ?_
          exact hB52 Sb _ _ x0 x1 x2 x0 0 _ (lv_sub hl [0, 1, 2] rfl) hw hE v_x0 v_x0 hf
        · have hf := it_f c53 hf
          refine lv_lconst (v := 1) hx hb dX5_mixCondition_47 (by decide) ?_
          refine lv_goto (tgt := 52) hx hb dX5_mixCondition_48 (by decide) ?_
          exact hB52 Sb _ _ x0 x1 x2 x0 1 _ (lv_sub hl [0, 1, 2] rfl) hw hE v_x0 v_x0 hf
  have hB25 : ∀ (Sb : PS) (H1 : Heap) (lo1 : List Loc) (x0 : Nat) (x1 : Int32) (ls : Array Slot), lv_has ls 3 [(0, .ref x0), (1, .int x1)] → Hw D cy (AA cy S n) s.heap Sb n H1 lo1 → EX S Sb → vd Sb x0 5 → f_X5_mixCondition_B25 Sb x0 x1 = some res → W p l e (headSpec wsX5_mixCondition ({ frames := 8, cells := 0, slots := 0, locals := 180 } : Room)).room s m ([.ref y0, .int y1] : List Value).toArray below meth c H1 lo1 0 0 (MQ below (va_Qv (fun (u : PS × Nat) => u = (res, n)) (BW D cy S n) (AA cy S n)) ([.ref y0, .int y1] : List Value).toArray s 0 0 (AA cy S n)) (F0 m 25 ls []) := by
    intro Sb H1 lo1 x0 x1 ls hl hw hE v_x0 hf
    unfold f_X5_mixCondition_B25 at hf
    refine lv_iconst (v := 0) hx hb dX5_mixCondition_25 (by decide) ?_
    refine lv_istore_n (lv' := [(2, .int 0), (0, .ref x0), (1, .int x1)]) hx hb dX5_mixCondition_26 rfl hl (by decide) rfl (fun ls hl => ?_)
    exact hL27 FU Sb _ _ x0 x1 0 _ (lv_sub hl [1, 2, 0] rfl) hw hE v_x0 hf
  have hL2 : ∀ (fu2 : Nat), ∀ (Sb : PS) (H1 : Heap) (lo1 : List Loc) (x0 : Nat) (x1 : Int32) (x2 : Int32) (ls : Array Slot), lv_has ls 3 [(0, .ref x0), (1, .int x1), (2, .int x2)] → Hw D cy (AA cy S n) s.heap Sb n H1 lo1 → EX S Sb → vd Sb x0 5 → f_X5_mixCondition_L2 f_X5_mixCondition_B25 fu2 Sb x0 x1 x2 = some res → W p l e (headSpec wsX5_mixCondition ({ frames := 8, cells := 0, slots := 0, locals := 180 } : Room)).room s m ([.ref y0, .int y1] : List Value).toArray below meth c H1 lo1 0 0 (MQ below (va_Qv (fun (u : PS × Nat) => u = (res, n)) (BW D cy S n) (AA cy S n)) ([.ref y0, .int y1] : List Value).toArray s 0 0 (AA cy S n)) (F0 m 2 ls []) := by
    intro fu2
    induction fu2 with
    | zero =>
      intro Sb H1 lo1 x0 x1 x2 ls hl hw hE v_x0 hf
      have hf : (none : Option PS) = some res := hf
      cases hf
    | succ fu2 ih2 =>
      intro Sb H1 lo1 x0 x1 x2 ls hl hw hE v_x0 hf
      have hf : f_X5_mixCondition_L2s (f_X5_mixCondition_L2 f_X5_mixCondition_B25 fu2) f_X5_mixCondition_B25 Sb x0 x1 x2 = some res := hf
      unfold f_X5_mixCondition_L2s at hf
      refine lv_iload_n hx hb dX5_mixCondition_2 rfl (lv_at hl 2 rfl) ?_
      refine lv_bipush (v := 8) hx hb dX5_mixCondition_3 (by decide) ?_
      refine lv_icmp_gt (tgt := 25) hx hb dX5_mixCondition_5 (by decide) (fun c54 => ?_) (fun c54 => ?_)
      · have hf := it_t c54 hf
        exact hB25 Sb _ _ x0 x1 _ (lv_sub hl [0, 1] rfl) hw hE v_x0 hf
      · have hf := it_f c54 hf
        refine lv_aload_n hx hb dX5_mixCondition_8 rfl (lv_at hl 0 rfl) ?_
        refine lv_aload_n hx hb dX5_mixCondition_9 rfl (lv_at hl 0 rfl) ?_
        refine lv_iload_n hx hb dX5_mixCondition_10 rfl (lv_at hl 1 rfl) ?_
        refine lv_iload_n hx hb dX5_mixCondition_11 rfl (lv_at hl 2 rfl) ?_
        obtain ⟨t55, h56, hf⟩ := bd_some hf
        refine q_calli (va_runV (As := [.int x1, .int x2]) (rest := [.ref x0]) F (c_X5_told l D cy (S := Sb) v_x0 h56) (cwV 2 hts gX5_mixCondition_X5_told rfl rfl rfl ⟨rfl, ph_X5_told.1, ph_X5_told.2, pd_X5_told⟩ ⟨Nat.le_of_ble_eq_true rfl, Nat.le_of_ble_eq_true rfl⟩) ⟨PcW.bl, (q_rcv hK hw.1 v_x0.1 (pF_5 (S := Sb) v_x0.2) rfl), PcW.in hK hw hA (fun z => z.elim)⟩ rfl rfl hl.1 rfl (lv_room (Nat.le_of_ble_eq_true rfl)) dX5_mixCondition_12 ⟨Nat.zero_le _, Nat.zero_le _⟩) hw hA (fun H locs hw hX => ?_)
        have hE := hE.tr hX
        have v_x0 := hX _ _ v_x0
        refine lv_i2l hx hb dX5_mixCondition_15 rfl ?_
        obtain ⟨t57, h58, hf⟩ := bd_some hf
        refine q_callv (va_runV (As := [.long t55.1.toInt64]) (rest := []) F (c_X5_mix l D cy (S := t55.2) v_x0 h58) (cwV 1 hts gX5_mixCondition_X5_mix rfl rfl rfl ⟨rfl, ph_X5_mix.1, ph_X5_mix.2, pd_X5_mix⟩ ⟨Nat.le_of_ble_eq_true rfl, Nat.le_of_ble_eq_true rfl⟩) ⟨PcW.bl, (q_rcv hK hw.1 v_x0.1 (pF_5 (S := t55.2) v_x0.2) rfl), PcW.in hK hw hA (fun z => z.elim)⟩ rfl rfl hl.1 rfl (lv_room (Nat.le_of_ble_eq_true rfl)) dX5_mixCondition_16 ⟨Nat.zero_le _, Nat.zero_le _⟩) hw hA (fun H locs hw hX => ?_)
        have hE := hE.tr hX
        have v_x0 := hX _ _ v_x0
        refine lv_iinc (v := x2 + 1) (lv' := [(2, .int (x2 + 1)), (0, .ref x0), (1, .int x1)]) hx hb dX5_mixCondition_19 hl (k := 2) rfl (by rfl) (by decide) rfl (fun ls hl => ?_)
        refine lv_goto (tgt := 2) hx hb dX5_mixCondition_22 (by decide) ?_
        exact ih2 t57 _ _ x0 x1 (x2 + 1) _ (lv_sub hl [1, 2, 0] rfl) hw hE v_x0 hf
  have hl := lv_entry ([.ref y0, .int y1]) (n := 3) (Nat.le_of_ble_eq_true rfl)
  rw [lg_entry_eq]
  generalize (lg_sl ([.ref y0, .int y1]) ++ List.replicate (3 - (lg_sl ([.ref y0, .int y1])).length) Slot.unset).toArray = ls at hl ⊢
  have hl : lv_has ls 3 [(0, .ref y0), (1, .int y1)] := hl
  unfold f_X5_mixCondition at hf
  refine lv_iconst (v := 0) hx hb dX5_mixCondition_0 (by decide) ?_
  refine lv_istore_n (lv' := [(2, .int 0), (0, .ref y0), (1, .int y1)]) hx hb dX5_mixCondition_1 rfl hl (by decide) rfl (fun ls hl => ?_)
  exact hL2 FU S _ _ y0 y1 0 _ (lv_sub hl [1, 2, 0] rfl) hw hE v_y0 hf
def f_X5_mixPrimes_B45 (S : PS) : Option PS :=
  some (S)
def f_X5_mixPrimes_B39 (kL2 : PS → Nat → Int32 → Option PS) (ke45 : PS → Option PS) (S : PS) (x0 : Nat) (x1 : Int32) : Option PS :=
  kL2 S x0 (x1 + 1)
def f_X5_mixPrimes_L10s (kL10 : PS → Nat → Int32 → Int32 → Option PS) (ke39 : PS → Nat → Int32 → Option PS) (S : PS) (x0 : Nat) (x1 : Int32) (x2 : Int32) : Option PS :=
  if 3 < x2 then (ke39 S x0 x1) else
  bd (f_X5_isPrime x1) fun t2 =>
  if t2 = 0 then (ke39 S x0 x1) else
  bd (f_X5_toldPrime S x0 x1 x2) fun t6 =>
  bd (f_X5_mix S x0 t6.toInt64) fun t9 =>
  kL10 t9 x0 x1 (x2 + 1)
def f_X5_mixPrimes_L10 (ke39 : PS → Nat → Int32 → Option PS) (fu : Nat) : PS → Nat → Int32 → Int32 → Option PS := fx (fun kL => f_X5_mixPrimes_L10s kL ke39) (fun _ _ _ _ => none) fu
def f_X5_mixPrimes_L2s (kL2 : PS → Nat → Int32 → Option PS) (ke45 : PS → Option PS) (S : PS) (x0 : Nat) (x1 : Int32) : Option PS :=
  if 13 < x1 then (ke45 S) else
  f_X5_mixPrimes_L10 (f_X5_mixPrimes_B39 kL2 ke45) FU S x0 x1 0
def f_X5_mixPrimes_L2 (ke45 : PS → Option PS) (fu : Nat) : PS → Nat → Int32 → Option PS := fx (fun kL => f_X5_mixPrimes_L2s kL ke45) (fun _ _ _ => none) fu
def f_X5_mixPrimes (S : PS) (x0 : Nat) : Option PS :=
  f_X5_mixPrimes_L2 f_X5_mixPrimes_B45 FU S x0 2
set_option maxHeartbeats 4000000 in
set_option maxRecDepth 100000 in
theorem c_X5_mixPrimes (l : Launch) (D : va_G) (cy : cyT) {S : PS} {n : Nat} {y0 : Nat} (v_y0 : vd S y0 5) {res : PS} (hf : f_X5_mixPrimes S y0 = some res) : Met l yX5_mixPrimes wsX5_mixPrimes ({ frames := 5, cells := 0, slots := 0, locals := 120 } : Room) (PcW False D cy S n [.ref y0]) (va_Qv (fun (u : PS × Nat) => u = (res, n)) (BW D cy S n) (AA cy S n)) 0 0 (AA cy S n) := by
  refine Met.ofW (cc := cX5_mixPrimes) (maxL := 3) (ret := none) (by decide) rfl ?_
  intro p e s m args below meth c s₁ B hml hv
  obtain ⟨hav, hsz, hP0, hD0, hK, hZ0⟩ := hv
  have hx := B.exec
  have hb := B.bytes
  have hr := B.returns
  have hts := atoms_spec (ws := wsX5_mixPrimes) B.pre
  have hown : s.vm.findClass RX5 = some m.cls := findClass_of_methodNamed B.named
  have hlocks := B.notSynchronized
  subst hav
  have hw : Hw D cy (AA cy S n) s.heap S n s.heap [] := Hw.start hsz hP0 hD0
  have hA : ∀ q, s.heap.size ≤ q → AA cy S n q := fun q h => Or.inr (hsz ▸ h)
  have hE : EX S S := EX.rf
  have F : CallFix p m c cX5_mixPrimes 3 s _ wsX5_mixPrimes RX5 := ⟨hx, hb, hml, hown, hts⟩
  have hB45 : ∀ (Sb : PS) (H1 : Heap) (lo1 : List Loc)  (ls : Array Slot), lv_has ls 3 [] → Hw D cy (AA cy S n) s.heap Sb n H1 lo1 → EX S Sb → f_X5_mixPrimes_B45 Sb = some res → W p l e (headSpec wsX5_mixPrimes ({ frames := 5, cells := 0, slots := 0, locals := 120 } : Room)).room s m ([.ref y0] : List Value).toArray below meth c H1 lo1 0 0 (MQ below (va_Qv (fun (u : PS × Nat) => u = (res, n)) (BW D cy S n) (AA cy S n)) ([.ref y0] : List Value).toArray s 0 0 (AA cy S n)) (F0 m 45 ls []) := by
    intro Sb H1 lo1 ls hl hw hE hf
    unfold f_X5_mixPrimes_B45 at hf
    exact W.vret hx hb hr (fun t ht hW => ⟨⟨(Sb, n), rfl, po1 hf, BW.of hw hE ht⟩, hw.2.2.1.F ht⟩) hw.2.2.1.2.2 dX5_mixPrimes_45
  have hL2 : ∀ (fu2 : Nat), ∀ (Sb : PS) (H1 : Heap) (lo1 : List Loc) (x0 : Nat) (x1 : Int32) (ls : Array Slot), lv_has ls 3 [(0, .ref x0), (1, .int x1)] → Hw D cy (AA cy S n) s.heap Sb n H1 lo1 → EX S Sb → vd Sb x0 5 → f_X5_mixPrimes_L2 f_X5_mixPrimes_B45 fu2 Sb x0 x1 = some res → W p l e (headSpec wsX5_mixPrimes ({ frames := 5, cells := 0, slots := 0, locals := 120 } : Room)).room s m ([.ref y0] : List Value).toArray below meth c H1 lo1 0 0 (MQ below (va_Qv (fun (u : PS × Nat) => u = (res, n)) (BW D cy S n) (AA cy S n)) ([.ref y0] : List Value).toArray s 0 0 (AA cy S n)) (F0 m 2 ls []) := by
    intro fu2
    induction fu2 with
    | zero =>
      intro Sb H1 lo1 x0 x1 ls hl hw hE v_x0 hf
      have hf : (none : Option PS) = some res := hf
      cases hf
    | succ fu2 ih2 =>
      have hB39 : ∀ (Sb : PS) (H1 : Heap) (lo1 : List Loc) (x0 : Nat) (x1 : Int32) (ls : Array Slot), lv_has ls 3 [(0, .ref x0), (1, .int x1)] → Hw D cy (AA cy S n) s.heap Sb n H1 lo1 → EX S Sb → vd Sb x0 5 → f_X5_mixPrimes_B39 (f_X5_mixPrimes_L2 f_X5_mixPrimes_B45 fu2) f_X5_mixPrimes_B45 Sb x0 x1 = some res → W p l e (headSpec wsX5_mixPrimes ({ frames := 5, cells := 0, slots := 0, locals := 120 } : Room)).room s m ([.ref y0] : List Value).toArray below meth c H1 lo1 0 0 (MQ below (va_Qv (fun (u : PS × Nat) => u = (res, n)) (BW D cy S n) (AA cy S n)) ([.ref y0] : List Value).toArray s 0 0 (AA cy S n)) (F0 m 39 ls []) := by
        intro Sb H1 lo1 x0 x1 ls hl hw hE v_x0 hf
        unfold f_X5_mixPrimes_B39 at hf
        refine lv_iinc (v := x1 + 1) (lv' := [(1, .int (x1 + 1)), (0, .ref x0)]) hx hb dX5_mixPrimes_39 hl (k := 1) rfl (by rfl) (by decide) rfl (fun ls hl => ?_)
        refine lv_goto (tgt := 2) hx hb dX5_mixPrimes_42 (by decide) ?_
        exact ih2 Sb _ _ x0 (x1 + 1) _ (lv_sub hl [1, 0] rfl) hw hE v_x0 hf
      have hL10 : ∀ (fu10 : Nat), ∀ (Sb : PS) (H1 : Heap) (lo1 : List Loc) (x0 : Nat) (x1 : Int32) (x2 : Int32) (ls : Array Slot), lv_has ls 3 [(0, .ref x0), (1, .int x1), (2, .int x2)] → Hw D cy (AA cy S n) s.heap Sb n H1 lo1 → EX S Sb → vd Sb x0 5 → f_X5_mixPrimes_L10 (f_X5_mixPrimes_B39 (f_X5_mixPrimes_L2 f_X5_mixPrimes_B45 fu2) f_X5_mixPrimes_B45) fu10 Sb x0 x1 x2 = some res → W p l e (headSpec wsX5_mixPrimes ({ frames := 5, cells := 0, slots := 0, locals := 120 } : Room)).room s m ([.ref y0] : List Value).toArray below meth c H1 lo1 0 0 (MQ below (va_Qv (fun (u : PS × Nat) => u = (res, n)) (BW D cy S n) (AA cy S n)) ([.ref y0] : List Value).toArray s 0 0 (AA cy S n)) (F0 m 10 ls []) := by
        intro fu10
        induction fu10 with
        | zero =>
          intro Sb H1 lo1 x0 x1 x2 ls hl hw hE v_x0 hf
          have hf : (none : Option PS) = some res := hf
          cases hf
        | succ fu10 ih10 =>
          intro Sb H1 lo1 x0 x1 x2 ls hl hw hE v_x0 hf
          have hf : f_X5_mixPrimes_L10s (f_X5_mixPrimes_L10 (f_X5_mixPrimes_B39 (f_X5_mixPrimes_L2 f_X5_mixPrimes_B45 fu2) f_X5_mixPrimes_B45) fu10) (f_X5_mixPrimes_B39 (f_X5_mixPrimes_L2 f_X5_mixPrimes_B45 fu2) f_X5_mixPrimes_B45) Sb x0 x1 x2 = some res := hf
          unfold f_X5_mixPrimes_L10s at hf
          refine lv_iload_n hx hb dX5_mixPrimes_10 rfl (lv_at hl 2 rfl) ?_
          refine lv_iconst (v := 3) hx hb dX5_mixPrimes_11 (by decide) ?_
          refine lv_icmp_gt (tgt := 39) hx hb dX5_mixPrimes_12 (by decide) (fun c12 => ?_) (fun c12 => ?_)
          · have hf := it_t c12 hf
            exact hB39 Sb _ _ x0 x1 _ (lv_sub hl [0, 1] rfl) hw hE v_x0 hf
          · have hf := it_f c12 hf
            refine lv_iload_n hx hb dX5_mixPrimes_15 rfl (lv_at hl 1 rfl) ?_
            obtain ⟨t13, h14, hf⟩ := bd_some hf
            refine vp_callSi (va_runS (As := [.int x1]) (rest := []) F (c_X5_isPrime l D cy (H := _)  h14) (va_cwS 1 hts gX5_mixPrimes_X5_isPrime rfl rfl rfl ⟨ph_X5_isPrime.1, ph_X5_isPrime.2, pd_X5_isPrime⟩ ⟨Nat.le_of_ble_eq_true rfl, Nat.le_of_ble_eq_true rfl⟩) ⟨PcR.bl, PcR.in hK⟩ rfl rfl hl.1 rfl (lv_room (Nat.le_of_ble_eq_true rfl)) dX5_mixPrimes_16 ⟨Nat.zero_le _, Nat.zero_le _⟩).run (fun r15 er15 => ?_)
            subst r15
            refine lv_if_eq (tgt := 39) hx hb dX5_mixPrimes_19 (by decide) (fun c16 => ?_) (fun c16 => ?_)
            · have hf := it_t c16 hf
              exact hB39 Sb _ _ x0 x1 _ (lv_sub hl [0, 1] rfl) hw hE v_x0 hf
            · have hf := it_f c16 hf
              refine lv_aload_n hx hb dX5_mixPrimes_22 rfl (lv_at hl 0 rfl) ?_
              refine lv_aload_n hx hb dX5_mixPrimes_23 rfl (lv_at hl 0 rfl) ?_
              refine lv_iload_n hx hb dX5_mixPrimes_24 rfl (lv_at hl 1 rfl) ?_
              refine lv_iload_n hx hb dX5_mixPrimes_25 rfl (lv_at hl 2 rfl) ?_
              obtain ⟨t17, h18, hf⟩ := bd_some hf
              refine vp_callSi (va_runV (As := [.int x1, .int x2]) (rest := [.ref x0]) F (c_X5_toldPrime l D cy (H := _) hw.1 v_x0 h18) (cwV 2 hts gX5_mixPrimes_X5_toldPrime rfl rfl rfl ⟨rfl, ph_X5_toldPrime.1, ph_X5_toldPrime.2, pd_X5_toldPrime⟩ ⟨Nat.le_of_ble_eq_true rfl, Nat.le_of_ble_eq_true rfl⟩) ⟨PcR.bl, (q_rcv hK hw.1 v_x0.1 (pF_5 (S := Sb) v_x0.2) rfl), PcR.in hK⟩ rfl rfl hl.1 rfl (lv_room (Nat.le_of_ble_eq_true rfl)) dX5_mixPrimes_26 ⟨Nat.zero_le _, Nat.zero_le _⟩).run (fun r19 er19 => ?_)
              subst r19
              refine lv_i2l hx hb dX5_mixPrimes_29 rfl ?_
              obtain ⟨t20, h21, hf⟩ := bd_some hf
              refine q_callv (va_runV (As := [.long t17.toInt64]) (rest := []) F (c_X5_mix l D cy (S := Sb) v_x0 h21) (cwV 1 hts gX5_mixPrimes_X5_mix rfl rfl rfl ⟨rfl, ph_X5_mix.1, ph_X5_mix.2, pd_X5_mix⟩ ⟨Nat.le_of_ble_eq_true rfl, Nat.le_of_ble_eq_true rfl⟩) ⟨PcW.bl, (q_rcv hK hw.1 v_x0.1 (pF_5 (S := Sb) v_x0.2) rfl), PcW.in hK hw hA (fun z => z.elim)⟩ rfl rfl hl.1 rfl (lv_room (Nat.le_of_ble_eq_true rfl)) dX5_mixPrimes_30 ⟨Nat.zero_le _, Nat.zero_le _⟩) hw hA (fun H locs hw hX => ?_)
              have hE := hE.tr hX
              have v_x0 := hX _ _ v_x0
              refine lv_iinc (v := x2 + 1) (lv' := [(2, .int (x2 + 1)), (0, .ref x0), (1, .int x1)]) hx hb dX5_mixPrimes_33 hl (k := 2) rfl (by rfl) (by decide) rfl (fun ls hl => ?_)
              refine lv_goto (tgt := 10) hx hb dX5_mixPrimes_36 (by decide) ?_
              exact ih10 t20 _ _ x0 x1 (x2 + 1) _ (lv_sub hl [1, 2, 0] rfl) hw hE v_x0 hf
      intro Sb H1 lo1 x0 x1 ls hl hw hE v_x0 hf
      have hf : f_X5_mixPrimes_L2s (f_X5_mixPrimes_L2 f_X5_mixPrimes_B45 fu2) f_X5_mixPrimes_B45 Sb x0 x1 = some res := hf
      unfold f_X5_mixPrimes_L2s at hf
      refine lv_iload_n hx hb dX5_mixPrimes_2 rfl (lv_at hl 1 rfl) ?_
      refine lv_bipush (v := 13) hx hb dX5_mixPrimes_3 (by decide) ?_
      refine lv_icmp_gt (tgt := 45) hx hb dX5_mixPrimes_5 (by decide) (fun c22 => ?_) (fun c22 => ?_)
      · have hf := it_t c22 hf
        exact hB45 Sb _ _ _ (lv_sub hl [] rfl) hw hE  hf
      · have hf := it_f c22 hf
        refine lv_iconst (v := 0) hx hb dX5_mixPrimes_8 (by decide) ?_
        refine lv_istore_n (lv' := [(2, .int 0), (0, .ref x0), (1, .int x1)]) hx hb dX5_mixPrimes_9 rfl hl (by decide) rfl (fun ls hl => ?_)
        exact hL10 FU Sb _ _ x0 x1 0 _ (lv_sub hl [1, 2, 0] rfl) hw hE v_x0 hf
  have hl := lv_entry ([.ref y0]) (n := 3) (Nat.le_of_ble_eq_true rfl)
  rw [lg_entry_eq]
  generalize (lg_sl ([.ref y0]) ++ List.replicate (3 - (lg_sl ([.ref y0])).length) Slot.unset).toArray = ls at hl ⊢
  have hl : lv_has ls 3 [(0, .ref y0)] := hl
  unfold f_X5_mixPrimes at hf
  refine lv_iconst (v := 2) hx hb dX5_mixPrimes_0 (by decide) ?_
  refine lv_istore_n (lv' := [(1, .int 2), (0, .ref y0)]) hx hb dX5_mixPrimes_1 rfl hl (by decide) rfl (fun ls hl => ?_)
  exact hL2 FU S _ _ y0 2 _ (lv_sub hl [1, 0] rfl) hw hE v_y0 hf
def f_X5_digest_B260 (S : PS) (x0 : Nat) : Option (Int64 × PS) :=
  some ((fL S 92 x0), S)
def f_X5_digest_L235s (kL235 : PS → Nat → Int32 → Option (Int64 × PS)) (ke260 : PS → Nat → Option (Int64 × PS)) (S : PS) (x0 : Nat) (x1 : Int32) : Option (Int64 × PS) :=
  if (fI S 85 x0) ≤ x1 then (ke260 S x0) else
  rq (fR S 84 x0) S 6 fun b2 =>
  ck (decide (¬ (x1 < 0 ∨ aN S b2 ≤ x1.toNatClampNeg))) (
  bd (f_X5_mix S x0 ((aI S b2 x1.toNatClampNeg).toInt64)) fun t5 =>
  kL235 t5 x0 (x1 + 1))
def f_X5_digest_L235 (ke260 : PS → Nat → Option (Int64 × PS)) (fu : Nat) : PS → Nat → Int32 → Option (Int64 × PS) := fx (fun kL => f_X5_digest_L235s kL ke260) (fun _ _ _ => none) fu
def f_X5_digest_B195 (S : PS) (x0 : Nat) : Option (Int64 × PS) :=
  bd (f_X5_mostTogether S x0) fun t7 =>
  bd (f_X5_mix S x0 t7.toInt64) fun t10 =>
  bd (f_X5_blamed t10 x0) fun t12 =>
  bd (f_X5_mix t10 x0 t12.toInt64) fun t15 =>
  bd (f_X5_share t15 x0) fun t17 =>
  bd (f_X5_bitsOf t17.1) fun t19 =>
  bd (f_X5_mix t17.2 x0 t19) fun t22 =>
  bd (f_X5_mix t22 x0 ((fI t22 85 x0).toInt64)) fun t24 =>
  f_X5_digest_L235 f_X5_digest_B260 FU t24 x0 0
def f_X5_digest_L171s (kL171 : PS → Nat → Int32 → Option (Int64 × PS)) (ke195 : PS → Nat → Option (Int64 × PS)) (S : PS) (x0 : Nat) (x1 : Int32) : Option (Int64 × PS) :=
  if 3 < x1 then (ke195 S x0) else
  bd (f_X5_wouldAdd S x0 3 1 10 x1) fun t27 =>
  bd (f_X5_mix t27.2 x0 t27.1) fun t29 =>
  kL171 t29 x0 (x1 + 1)
def f_X5_digest_L171 (ke195 : PS → Nat → Option (Int64 × PS)) (fu : Nat) : PS → Nat → Int32 → Option (Int64 × PS) := fx (fun kL => f_X5_digest_L171s kL ke195) (fun _ _ _ => none) fu
def f_X5_digest_B112 (S : PS) (x0 : Nat) : Option (Int64 × PS) :=
  bd (f_X5_answered S x0 1000 0) fun t31 =>
  bd (f_X5_mix t31.2 x0 t31.1) fun t33 =>
  bd (f_X5_nearestTo t33 x0 500) fun t35 =>
  bd (f_X5_mix t35.2 x0 t35.1) fun t37 =>
  bd (f_X5_manyBetween t37 x0 0 9999) fun t39 =>
  bd (f_X5_mix t39.2 x0 t39.1) fun t41 =>
  bd (f_X5_missed t41 x0 0) fun t43 =>
  bd (f_X5_mix t41 x0 t43.toInt64) fun t46 =>
  bd (f_X5_missed t46 x0 100) fun t48 =>
  bd (f_X5_mix t46 x0 t48.toInt64) fun t51 =>
  f_X5_digest_L171 f_X5_digest_B195 FU t51 x0 0
def f_X5_digest_L91s (kL91 : PS → Nat → Int32 → Option (Int64 × PS)) (ke112 : PS → Nat → Option (Int64 × PS)) (S : PS) (x0 : Nat) (x1 : Int32) : Option (Int64 × PS) :=
  if 2 < x1 then (ke112 S x0) else
  bd (f_X5_answered S x0 0 x1) fun t54 =>
  bd (f_X5_mix t54.2 x0 t54.1) fun t56 =>
  kL91 t56 x0 (x1 + 1)
def f_X5_digest_L91 (ke112 : PS → Nat → Option (Int64 × PS)) (fu : Nat) : PS → Nat → Int32 → Option (Int64 × PS) := fx (fun kL => f_X5_digest_L91s kL ke112) (fun _ _ _ => none) fu
def f_X5_digest_B85 (S : PS) (x0 : Nat) : Option (Int64 × PS) :=
  bd (f_X5_mixPrimes S x0) fun t58 =>
  f_X5_digest_L91 f_X5_digest_B112 FU t58 x0 0
def f_X5_digest_L64s (kL64 : PS → Nat → Int32 → Option (Int64 × PS)) (ke85 : PS → Nat → Option (Int64 × PS)) (S : PS) (x0 : Nat) (x1 : Int32) : Option (Int64 × PS) :=
  rq (fR S 81 x0) S 6 fun b60 =>
  ck (decide (¬ ((0 : Int32) < 0 ∨ aN S b60 ≤ (0 : Int32).toNatClampNeg))) (
  if (aI S b60 (0 : Int32).toNatClampNeg) ≤ x1 then (ke85 S x0) else
  bd (f_X5_mixCondition S x0 x1) fun t64 =>
  kL64 t64 x0 (x1 + 1))
def f_X5_digest_L64 (ke85 : PS → Nat → Option (Int64 × PS)) (fu : Nat) : PS → Nat → Int32 → Option (Int64 × PS) := fx (fun kL => f_X5_digest_L64s kL ke85) (fun _ _ _ => none) fu
def f_X5_digest_B36 (S : PS) (x0 : Nat) : Option (Int64 × PS) :=
  bd (f_X5_onSet S x0) fun t66 =>
  bd (f_X5_joinedBy S x0 t66 0) fun t69 =>
  bd (f_X5_mix t69.2 x0 t69.1) fun t71 =>
  bd (f_X5_onSet t71 x0) fun t73 =>
  bd (f_X5_joinedBy t71 x0 t73 1) fun t76 =>
  bd (f_X5_mix t76.2 x0 t76.1) fun t78 =>
  f_X5_digest_L64 f_X5_digest_B85 FU t78 x0 0
def f_X5_digest_L14s (kL14 : PS → Nat → Int32 → Option (Int64 × PS)) (ke36 : PS → Nat → Option (Int64 × PS)) (S : PS) (x0 : Nat) (x1 : Int32) : Option (Int64 × PS) :=
  if 6 < x1 then (ke36 S x0) else
  bd (f_X5_counted S x0 x1) fun t81 =>
  bd (f_X5_mix t81.2 x0 t81.1.toInt64) fun t83 =>
  kL14 t83 x0 (x1 + 1)
def f_X5_digest_L14 (ke36 : PS → Nat → Option (Int64 × PS)) (fu : Nat) : PS → Nat → Int32 → Option (Int64 × PS) := fx (fun kL => f_X5_digest_L14s kL ke36) (fun _ _ _ => none) fu
def f_X5_digest (S : PS) (x0 : Nat) : Option (Int64 × PS) :=
  f_X5_digest_L14 f_X5_digest_B36 FU (sL (sI S 80 x0 0) 92 x0 2791) x0 0
set_option maxHeartbeats 4000000 in
set_option maxRecDepth 100000 in
theorem c_X5_digest (l : Launch) (D : va_G) (cy : cyT) {S : PS} {n : Nat} {y0 : Nat} (v_y0 : vd S y0 5) {res : Int64 × PS} (hf : f_X5_digest S y0 = some res) : Met l yX5_digest wsX5_digest ({ frames := 9, cells := 0, slots := 0, locals := 202 } : Room) (PcW False D cy S n [.ref y0]) (va_Ql (fun (r : Int64) (u : PS × Nat) => r = res.1 ∧ u = (res.2, n)) (BW D cy S n) (AA cy S n)) 0 0 (AA cy S n) := by
  refine Met.ofW (cc := cX5_digest) (maxL := 2) (ret := (some .long)) (by decide) rfl ?_
  intro p e s m args below meth c s₁ B hml hv
  obtain ⟨hav, hsz, hP0, hD0, hK, hZ0⟩ := hv
  have hx := B.exec
  have hb := B.bytes
  have hr := B.returns
  have hts := atoms_spec (ws := wsX5_digest) B.pre
  have hown : s.vm.findClass RX5 = some m.cls := findClass_of_methodNamed B.named
  have hlocks := B.notSynchronized
  subst hav
  have hw : Hw D cy (AA cy S n) s.heap S n s.heap [] := Hw.start hsz hP0 hD0
  have hA : ∀ q, s.heap.size ≤ q → AA cy S n q := fun q h => Or.inr (hsz ▸ h)
  have hE : EX S S := EX.rf
  have F : CallFix p m c cX5_digest 2 s _ wsX5_digest RX5 := ⟨hx, hb, hml, hown, hts⟩
  have hB260 : ∀ (Sb : PS) (H1 : Heap) (lo1 : List Loc) (x0 : Nat) (ls : Array Slot), lv_has ls 2 [(0, .ref x0)] → Hw D cy (AA cy S n) s.heap Sb n H1 lo1 → EX S Sb → vd Sb x0 5 → f_X5_digest_B260 Sb x0 = some res → W p l e (headSpec wsX5_digest ({ frames := 9, cells := 0, slots := 0, locals := 202 } : Room)).room s m ([.ref y0] : List Value).toArray below meth c H1 lo1 0 0 (MQ below (va_Ql (fun (r : Int64) (u : PS × Nat) => r = res.1 ∧ u = (res.2, n)) (BW D cy S n) (AA cy S n)) ([.ref y0] : List Value).toArray s 0 0 (AA cy S n)) (F0 m 260 ls []) := by
    intro Sb H1 lo1 x0 ls hl hw hE v_x0 hf
    unfold f_X5_digest_B260 at hf
    refine lv_aload_n hx hb dX5_digest_260 rfl (lv_at hl 0 rfl) ?_
    refine q_get F hK hw.1 v_x0.1 (pF_5 (S := Sb) v_x0.2) (fun w h => List.mem_cons_of_mem _ (List.mem_append_right _ h)) rfl 12 (by decide) (hts (.fieldLink RX5 227 "SharedModuliModel" "hash" "J") (List.mem_of_getElem? (i := 3) rfl)) (v := .long (fL Sb 92 x0)) rfl dX5_digest_261 ?_
    exact W.lret (v := (fL Sb 92 x0)) hx hb hr (fun t ht hW => ⟨⟨_, (Sb, n), rfl, po2 hf, BW.of hw hE ht⟩, hw.2.2.1.F ht⟩) hw.2.2.1.2.2 dX5_digest_264
  have hL235 : ∀ (fu235 : Nat), ∀ (Sb : PS) (H1 : Heap) (lo1 : List Loc) (x0 : Nat) (x1 : Int32) (ls : Array Slot), lv_has ls 2 [(0, .ref x0), (1, .int x1)] → Hw D cy (AA cy S n) s.heap Sb n H1 lo1 → EX S Sb → vd Sb x0 5 → f_X5_digest_L235 f_X5_digest_B260 fu235 Sb x0 x1 = some res → W p l e (headSpec wsX5_digest ({ frames := 9, cells := 0, slots := 0, locals := 202 } : Room)).room s m ([.ref y0] : List Value).toArray below meth c H1 lo1 0 0 (MQ below (va_Ql (fun (r : Int64) (u : PS × Nat) => r = res.1 ∧ u = (res.2, n)) (BW D cy S n) (AA cy S n)) ([.ref y0] : List Value).toArray s 0 0 (AA cy S n)) (F0 m 235 ls []) := by
    intro fu235
    induction fu235 with
    | zero =>
      intro Sb H1 lo1 x0 x1 ls hl hw hE v_x0 hf
      have hf : (none : Option (Int64 × PS)) = some res := hf
      cases hf
    | succ fu235 ih235 =>
      intro Sb H1 lo1 x0 x1 ls hl hw hE v_x0 hf
      have hf : f_X5_digest_L235s (f_X5_digest_L235 f_X5_digest_B260 fu235) f_X5_digest_B260 Sb x0 x1 = some res := hf
      unfold f_X5_digest_L235s at hf
      refine lv_iload_n hx hb dX5_digest_235 rfl (lv_at hl 1 rfl) ?_
      refine lv_aload_n hx hb dX5_digest_236 rfl (lv_at hl 0 rfl) ?_
      refine q_get F hK hw.1 v_x0.1 (pF_5 (S := Sb) v_x0.2) (fun w h => List.mem_cons_of_mem _ (List.mem_append_right _ h)) rfl 5 (by decide) (hts (.fieldLink RX5 119 "SharedModuliModel" "typed" "I") (List.mem_of_getElem? (i := 9) rfl)) (v := .int (fI Sb 85 x0)) rfl dX5_digest_237 ?_
      refine lv_icmp_ge (tgt := 260) hx hb dX5_digest_240 (by decide) (fun c85 => ?_) (fun c85 => ?_)
      · have hf := it_t c85 hf
        exact hB260 Sb _ _ x0 _ (lv_sub hl [0] rfl) hw hE v_x0 hf
      · have hf := it_f c85 hf
        refine lv_aload_n hx hb dX5_digest_243 rfl (lv_at hl 0 rfl) ?_
        refine lv_aload_n hx hb dX5_digest_244 rfl (lv_at hl 0 rfl) ?_
        obtain ⟨b86, e87, v_b86, hf⟩ := rq_some hf
        refine q_get F hK hw.1 v_x0.1 (pF_5 (S := Sb) v_x0.2) (fun w h => List.mem_cons_of_mem _ (List.mem_append_right _ h)) rfl 4 (by decide) (hts (.fieldLink RX5 16 "SharedModuliModel" "buffe\x72" "[I") (List.mem_of_getElem? (i := 10) rfl)) (v := .ref b86) (congrArg (fun z => some (va_rf z)) e87) dX5_digest_245 ?_
        refine lv_iload_n hx hb dX5_digest_248 rfl (lv_at hl 1 rfl) ?_
        obtain ⟨c88, hf⟩ := ckd_some hf
        refine q_iald F hK hw.1 v_b86 c88 dX5_digest_249 ?_
        refine lv_i2l hx hb dX5_digest_250 rfl ?_
        obtain ⟨t89, h90, hf⟩ := bd_some hf
        refine q_callv (va_runV (As := [.long ((aI Sb b86 x1.toNatClampNeg).toInt64)]) (rest := []) F (c_X5_mix l D cy (S := Sb) v_x0 h90) (cwV 1 hts gX5_digest_X5_mix rfl rfl rfl ⟨rfl, ph_X5_mix.1, ph_X5_mix.2, pd_X5_mix⟩ ⟨Nat.le_of_ble_eq_true rfl, Nat.le_of_ble_eq_true rfl⟩) ⟨PcW.bl, (q_rcv hK hw.1 v_x0.1 (pF_5 (S := Sb) v_x0.2) rfl), PcW.in hK hw hA (fun z => z.elim)⟩ rfl rfl hl.1 rfl (lv_room (Nat.le_of_ble_eq_true rfl)) dX5_digest_251 ⟨Nat.zero_le _, Nat.zero_le _⟩) hw hA (fun H locs hw hX => ?_)
        have hE := hE.tr hX
        have v_x0 := hX _ _ v_x0
        have v_b86 := hX _ _ v_b86
        refine lv_iinc (v := x1 + 1) (lv' := [(1, .int (x1 + 1)), (0, .ref x0)]) hx hb dX5_digest_254 hl (k := 1) rfl (by rfl) (by decide) rfl (fun ls hl => ?_)
        refine lv_goto (tgt := 235) hx hb dX5_digest_257 (by decide) ?_
        exact ih235 t89 _ _ x0 (x1 + 1) _ (lv_sub hl [1, 0] rfl) hw hE v_x0 hf
  have hB195 : ∀ (Sb : PS) (H1 : Heap) (lo1 : List Loc) (x0 : Nat) (ls : Array Slot), lv_has ls 2 [(0, .ref x0)] → Hw D cy (AA cy S n) s.heap Sb n H1 lo1 → EX S Sb → vd Sb x0 5 → f_X5_digest_B195 Sb x0 = some res → W p l e (headSpec wsX5_digest ({ frames := 9, cells := 0, slots := 0, locals := 202 } : Room)).room s m ([.ref y0] : List Value).toArray below meth c H1 lo1 0 0 (MQ below (va_Ql (fun (r : Int64) (u : PS × Nat) => r = res.1 ∧ u = (res.2, n)) (BW D cy S n) (AA cy S n)) ([.ref y0] : List Value).toArray s 0 0 (AA cy S n)) (F0 m 195 ls []) := by
    intro Sb H1 lo1 x0 ls hl hw hE v_x0 hf
    unfold f_X5_digest_B195 at hf
    refine lv_aload_n hx hb dX5_digest_195 rfl (lv_at hl 0 rfl) ?_
    refine lv_aload_n hx hb dX5_digest_196 rfl (lv_at hl 0 rfl) ?_
    obtain ⟨t91, h92, hf⟩ := bd_some hf
    refine vp_callSi (va_runV (As := []) (rest := [.ref x0]) F (c_X5_mostTogether l D cy (H := _) hw.1 v_x0 h92) (cwV 0 hts gX5_digest_X5_mostTogether rfl rfl rfl ⟨rfl, ph_X5_mostTogether.1, ph_X5_mostTogether.2, pd_X5_mostTogether⟩ ⟨Nat.le_of_ble_eq_true rfl, Nat.le_of_ble_eq_true rfl⟩) ⟨PcR.bl, (q_rcv hK hw.1 v_x0.1 (pF_5 (S := Sb) v_x0.2) rfl), PcR.in hK⟩ rfl rfl hl.1 rfl (lv_room (Nat.le_of_ble_eq_true rfl)) dX5_digest_197 ⟨Nat.zero_le _, Nat.zero_le _⟩).run (fun r93 er93 => ?_)
    subst r93
    refine lv_i2l hx hb dX5_digest_200 rfl ?_
    obtain ⟨t94, h95, hf⟩ := bd_some hf
    refine q_callv (va_runV (As := [.long t91.toInt64]) (rest := []) F (c_X5_mix l D cy (S := Sb) v_x0 h95) (cwV 1 hts gX5_digest_X5_mix rfl rfl rfl ⟨rfl, ph_X5_mix.1, ph_X5_mix.2, pd_X5_mix⟩ ⟨Nat.le_of_ble_eq_true rfl, Nat.le_of_ble_eq_true rfl⟩) ⟨PcW.bl, (q_rcv hK hw.1 v_x0.1 (pF_5 (S := Sb) v_x0.2) rfl), PcW.in hK hw hA (fun z => z.elim)⟩ rfl rfl hl.1 rfl (lv_room (Nat.le_of_ble_eq_true rfl)) dX5_digest_201 ⟨Nat.zero_le _, Nat.zero_le _⟩) hw hA (fun H locs hw hX => ?_)
    have hE := hE.tr hX
    have v_x0 := hX _ _ v_x0
    refine lv_aload_n hx hb dX5_digest_204 rfl (lv_at hl 0 rfl) ?_
    refine lv_aload_n hx hb dX5_digest_205 rfl (lv_at hl 0 rfl) ?_
    obtain ⟨t96, h97, hf⟩ := bd_some hf
    refine vp_callSi (va_runV (As := []) (rest := [.ref x0]) F (c_X5_blamed l D cy (H := _) hw.1 v_x0 h97) (cwV 0 hts gX5_digest_X5_blamed rfl rfl rfl ⟨rfl, ph_X5_blamed.1, ph_X5_blamed.2, pd_X5_blamed⟩ ⟨Nat.le_of_ble_eq_true rfl, Nat.le_of_ble_eq_true rfl⟩) ⟨PcR.bl, (q_rcv hK hw.1 v_x0.1 (pF_5 (S := t94) v_x0.2) rfl), PcR.in hK⟩ rfl rfl hl.1 rfl (lv_room (Nat.le_of_ble_eq_true rfl)) dX5_digest_206 ⟨Nat.zero_le _, Nat.zero_le _⟩).run (fun r98 er98 => ?_)
    subst r98
    refine lv_i2l hx hb dX5_digest_209 rfl ?_
    obtain ⟨t99, h100, hf⟩ := bd_some hf
    refine q_callv (va_runV (As := [.long t96.toInt64]) (rest := []) F (c_X5_mix l D cy (S := t94) v_x0 h100) (cwV 1 hts gX5_digest_X5_mix rfl rfl rfl ⟨rfl, ph_X5_mix.1, ph_X5_mix.2, pd_X5_mix⟩ ⟨Nat.le_of_ble_eq_true rfl, Nat.le_of_ble_eq_true rfl⟩) ⟨PcW.bl, (q_rcv hK hw.1 v_x0.1 (pF_5 (S := t94) v_x0.2) rfl), PcW.in hK hw hA (fun z => z.elim)⟩ rfl rfl hl.1 rfl (lv_room (Nat.le_of_ble_eq_true rfl)) dX5_digest_210 ⟨Nat.zero_le _, Nat.zero_le _⟩) hw hA (fun H locs hw hX => ?_)
    have hE := hE.tr hX
    have v_x0 := hX _ _ v_x0
    refine lv_aload_n hx hb dX5_digest_213 rfl (lv_at hl 0 rfl) ?_
    refine lv_aload_n hx hb dX5_digest_214 rfl (lv_at hl 0 rfl) ?_
    obtain ⟨t101, h102, hf⟩ := bd_some hf
    refine q_calld (va_runV (As := []) (rest := [.ref x0]) F (c_X5_share l D cy (S := t99) v_x0 h102) (cwV 0 hts gX5_digest_X5_share rfl rfl rfl ⟨rfl, ph_X5_share.1, ph_X5_share.2, pd_X5_share⟩ ⟨Nat.le_of_ble_eq_true rfl, Nat.le_of_ble_eq_true rfl⟩) ⟨PcW.bl, (q_rcv hK hw.1 v_x0.1 (pF_5 (S := t99) v_x0.2) rfl), PcW.in hK hw hA (fun z => z.elim)⟩ rfl rfl hl.1 rfl (lv_room (Nat.le_of_ble_eq_true rfl)) dX5_digest_215 ⟨Nat.zero_le _, Nat.zero_le _⟩) hw hA (fun H locs hw hX => ?_)
    have hE := hE.tr hX
    have v_x0 := hX _ _ v_x0
    obtain ⟨t103, h104, hf⟩ := bd_some hf
    refine vp_callSl (va_runS (As := [.double t101.1]) (rest := [.ref x0]) F (c_X5_bitsOf l D cy (H := _)  h104) (va_cwS 1 hts gX5_digest_X5_bitsOf rfl rfl rfl ⟨ph_X5_bitsOf.1, ph_X5_bitsOf.2, pd_X5_bitsOf⟩ ⟨Nat.le_of_ble_eq_true rfl, Nat.le_of_ble_eq_true rfl⟩) ⟨PcR.bl, PcR.in hK⟩ rfl rfl hl.1 rfl (lv_room (Nat.le_of_ble_eq_true rfl)) dX5_digest_218 ⟨Nat.zero_le _, Nat.zero_le _⟩).run (fun r105 er105 => ?_)
    subst r105
    obtain ⟨t106, h107, hf⟩ := bd_some hf
    refine q_callv (va_runV (As := [.long t103]) (rest := []) F (c_X5_mix l D cy (S := t101.2) v_x0 h107) (cwV 1 hts gX5_digest_X5_mix rfl rfl rfl ⟨rfl, ph_X5_mix.1, ph_X5_mix.2, pd_X5_mix⟩ ⟨Nat.le_of_ble_eq_true rfl, Nat.le_of_ble_eq_true rfl⟩) ⟨PcW.bl, (q_rcv hK hw.1 v_x0.1 (pF_5 (S := t101.2) v_x0.2) rfl), PcW.in hK hw hA (fun z => z.elim)⟩ rfl rfl hl.1 rfl (lv_room (Nat.le_of_ble_eq_true rfl)) dX5_digest_221 ⟨Nat.zero_le _, Nat.zero_le _⟩) hw hA (fun H locs hw hX => ?_)
    have hE := hE.tr hX
    have v_x0 := hX _ _ v_x0
    refine lv_aload_n hx hb dX5_digest_224 rfl (lv_at hl 0 rfl) ?_
    refine lv_aload_n hx hb dX5_digest_225 rfl (lv_at hl 0 rfl) ?_
    refine q_get F hK hw.1 v_x0.1 (pF_5 (S := t106) v_x0.2) (fun w h => List.mem_cons_of_mem _ (List.mem_append_right _ h)) rfl 5 (by decide) (hts (.fieldLink RX5 119 "SharedModuliModel" "typed" "I") (List.mem_of_getElem? (i := 9) rfl)) (v := .int (fI t106 85 x0)) rfl dX5_digest_226 ?_
    refine lv_i2l hx hb dX5_digest_229 rfl ?_
    obtain ⟨t108, h109, hf⟩ := bd_some hf
    refine q_callv (va_runV (As := [.long ((fI t106 85 x0).toInt64)]) (rest := []) F (c_X5_mix l D cy (S := t106) v_x0 h109) (cwV 1 hts gX5_digest_X5_mix rfl rfl rfl ⟨rfl, ph_X5_mix.1, ph_X5_mix.2, pd_X5_mix⟩ ⟨Nat.le_of_ble_eq_true rfl, Nat.le_of_ble_eq_true rfl⟩) ⟨PcW.bl, (q_rcv hK hw.1 v_x0.1 (pF_5 (S := t106) v_x0.2) rfl), PcW.in hK hw hA (fun z => z.elim)⟩ rfl rfl hl.1 rfl (lv_room (Nat.le_of_ble_eq_true rfl)) dX5_digest_230 ⟨Nat.zero_le _, Nat.zero_le _⟩) hw hA (fun H locs hw hX => ?_)
    have hE := hE.tr hX
    have v_x0 := hX _ _ v_x0
    refine lv_iconst (v := 0) hx hb dX5_digest_233 (by decide) ?_
    refine lv_istore_n (lv' := [(1, .int 0), (0, .ref x0)]) hx hb dX5_digest_234 rfl hl (by decide) rfl (fun ls hl => ?_)
    exact hL235 FU t108 _ _ x0 0 _ (lv_sub hl [1, 0] rfl) hw hE v_x0 hf
  have hL171 : ∀ (fu171 : Nat), ∀ (Sb : PS) (H1 : Heap) (lo1 : List Loc) (x0 : Nat) (x1 : Int32) (ls : Array Slot), lv_has ls 2 [(0, .ref x0), (1, .int x1)] → Hw D cy (AA cy S n) s.heap Sb n H1 lo1 → EX S Sb → vd Sb x0 5 → f_X5_digest_L171 f_X5_digest_B195 fu171 Sb x0 x1 = some res → W p l e (headSpec wsX5_digest ({ frames := 9, cells := 0, slots := 0, locals := 202 } : Room)).room s m ([.ref y0] : List Value).toArray below meth c H1 lo1 0 0 (MQ below (va_Ql (fun (r : Int64) (u : PS × Nat) => r = res.1 ∧ u = (res.2, n)) (BW D cy S n) (AA cy S n)) ([.ref y0] : List Value).toArray s 0 0 (AA cy S n)) (F0 m 171 ls []) := by
    intro fu171
    induction fu171 with
    | zero =>
      intro Sb H1 lo1 x0 x1 ls hl hw hE v_x0 hf
      have hf : (none : Option (Int64 × PS)) = some res := hf
      cases hf
    | succ fu171 ih171 =>
      intro Sb H1 lo1 x0 x1 ls hl hw hE v_x0 hf
      have hf : f_X5_digest_L171s (f_X5_digest_L171 f_X5_digest_B195 fu171) f_X5_digest_B195 Sb x0 x1 = some res := hf
      unfold f_X5_digest_L171s at hf
      refine lv_iload_n hx hb dX5_digest_171 rfl (lv_at hl 1 rfl) ?_
      refine lv_iconst (v := 3) hx hb dX5_digest_172 (by decide) ?_
      refine lv_icmp_gt (tgt := 195) hx hb dX5_digest_173 (by decide) (fun c110 => ?_) (fun c110 => ?_)
      · have hf := it_t c110 hf
        exact hB195 Sb _ _ x0 _ (lv_sub hl [0] rfl) hw hE v_x0 hf
      · have hf := it_f c110 hf
        refine lv_aload_n hx hb dX5_digest_176 rfl (lv_at hl 0 rfl) ?_
        refine lv_aload_n hx hb dX5_digest_177 rfl (lv_at hl 0 rfl) ?_
        refine lv_iconst (v := 3) hx hb dX5_digest_178 (by decide) ?_
        refine lv_iconst (v := 1) hx hb dX5_digest_179 (by decide) ?_
        refine lv_bipush (v := 10) hx hb dX5_digest_180 (by decide) ?_
        refine lv_iload_n hx hb dX5_digest_182 rfl (lv_at hl 1 rfl) ?_
        obtain ⟨t111, h112, hf⟩ := bd_some hf
        refine q_calll (va_runV (As := [.int 3, .int 1, .int 10, .int x1]) (rest := [.ref x0]) F (c_X5_wouldAdd l D cy (S := Sb) v_x0 h112) (cwV 4 hts gX5_digest_X5_wouldAdd rfl rfl rfl ⟨rfl, ph_X5_wouldAdd.1, ph_X5_wouldAdd.2, pd_X5_wouldAdd⟩ ⟨Nat.le_of_ble_eq_true rfl, Nat.le_of_ble_eq_true rfl⟩) ⟨PcW.bl, (q_rcv hK hw.1 v_x0.1 (pF_5 (S := Sb) v_x0.2) rfl), PcW.in hK hw hA (fun z => z.elim)⟩ rfl rfl hl.1 rfl (lv_room (Nat.le_of_ble_eq_true rfl)) dX5_digest_183 ⟨Nat.zero_le _, Nat.zero_le _⟩) hw hA (fun H locs hw hX => ?_)
        have hE := hE.tr hX
        have v_x0 := hX _ _ v_x0
        obtain ⟨t113, h114, hf⟩ := bd_some hf
        refine q_callv (va_runV (As := [.long t111.1]) (rest := []) F (c_X5_mix l D cy (S := t111.2) v_x0 h114) (cwV 1 hts gX5_digest_X5_mix rfl rfl rfl ⟨rfl, ph_X5_mix.1, ph_X5_mix.2, pd_X5_mix⟩ ⟨Nat.le_of_ble_eq_true rfl, Nat.le_of_ble_eq_true rfl⟩) ⟨PcW.bl, (q_rcv hK hw.1 v_x0.1 (pF_5 (S := t111.2) v_x0.2) rfl), PcW.in hK hw hA (fun z => z.elim)⟩ rfl rfl hl.1 rfl (lv_room (Nat.le_of_ble_eq_true rfl)) dX5_digest_186 ⟨Nat.zero_le _, Nat.zero_le _⟩) hw hA (fun H locs hw hX => ?_)
        have hE := hE.tr hX
        have v_x0 := hX _ _ v_x0
        refine lv_iinc (v := x1 + 1) (lv' := [(1, .int (x1 + 1)), (0, .ref x0)]) hx hb dX5_digest_189 hl (k := 1) rfl (by rfl) (by decide) rfl (fun ls hl => ?_)
        refine lv_goto (tgt := 171) hx hb dX5_digest_192 (by decide) ?_
        exact ih171 t113 _ _ x0 (x1 + 1) _ (lv_sub hl [1, 0] rfl) hw hE v_x0 hf
  have hB112 : ∀ (Sb : PS) (H1 : Heap) (lo1 : List Loc) (x0 : Nat) (ls : Array Slot), lv_has ls 2 [(0, .ref x0)] → Hw D cy (AA cy S n) s.heap Sb n H1 lo1 → EX S Sb → vd Sb x0 5 → f_X5_digest_B112 Sb x0 = some res → W p l e (headSpec wsX5_digest ({ frames := 9, cells := 0, slots := 0, locals := 202 } : Room)).room s m ([.ref y0] : List Value).toArray below meth c H1 lo1 0 0 (MQ below (va_Ql (fun (r : Int64) (u : PS × Nat) => r = res.1 ∧ u = (res.2, n)) (BW D cy S n) (AA cy S n)) ([.ref y0] : List Value).toArray s 0 0 (AA cy S n)) (F0 m 112 ls []) := by
    intro Sb H1 lo1 x0 ls hl hw hE v_x0 hf
    unfold f_X5_digest_B112 at hf
    refine lv_aload_n hx hb dX5_digest_112 rfl (lv_at hl 0 rfl) ?_
    refine lv_aload_n hx hb dX5_digest_113 rfl (lv_at hl 0 rfl) ?_
    refine lv_ldc2 hx hb hown (hts (.constantLong RX5 242 1000) (List.mem_of_getElem? (i := 5) rfl)) dX5_digest_114 ?_
    refine lv_iconst (v := 0) hx hb dX5_digest_117 (by decide) ?_
    obtain ⟨t115, h116, hf⟩ := bd_some hf
    refine q_calll (va_runV (As := [.long 1000, .int 0]) (rest := [.ref x0]) F (c_X5_answered l D cy (S := Sb) v_x0 h116) (cwV 2 hts gX5_digest_X5_answered rfl rfl rfl ⟨rfl, ph_X5_answered.1, ph_X5_answered.2, pd_X5_answered⟩ ⟨Nat.le_of_ble_eq_true rfl, Nat.le_of_ble_eq_true rfl⟩) ⟨PcW.bl, (q_rcv hK hw.1 v_x0.1 (pF_5 (S := Sb) v_x0.2) rfl), PcW.in hK hw hA (fun z => z.elim)⟩ rfl rfl hl.1 rfl (lv_room (Nat.le_of_ble_eq_true rfl)) dX5_digest_118 ⟨Nat.zero_le _, Nat.zero_le _⟩) hw hA (fun H locs hw hX => ?_)
    have hE := hE.tr hX
    have v_x0 := hX _ _ v_x0
    obtain ⟨t117, h118, hf⟩ := bd_some hf
    refine q_callv (va_runV (As := [.long t115.1]) (rest := []) F (c_X5_mix l D cy (S := t115.2) v_x0 h118) (cwV 1 hts gX5_digest_X5_mix rfl rfl rfl ⟨rfl, ph_X5_mix.1, ph_X5_mix.2, pd_X5_mix⟩ ⟨Nat.le_of_ble_eq_true rfl, Nat.le_of_ble_eq_true rfl⟩) ⟨PcW.bl, (q_rcv hK hw.1 v_x0.1 (pF_5 (S := t115.2) v_x0.2) rfl), PcW.in hK hw hA (fun z => z.elim)⟩ rfl rfl hl.1 rfl (lv_room (Nat.le_of_ble_eq_true rfl)) dX5_digest_121 ⟨Nat.zero_le _, Nat.zero_le _⟩) hw hA (fun H locs hw hX => ?_)
    have hE := hE.tr hX
    have v_x0 := hX _ _ v_x0
    refine lv_aload_n hx hb dX5_digest_124 rfl (lv_at hl 0 rfl) ?_
    refine lv_aload_n hx hb dX5_digest_125 rfl (lv_at hl 0 rfl) ?_
    refine lv_ldc2 hx hb hown (hts (.constantLong RX5 244 500) (List.mem_of_getElem? (i := 6) rfl)) dX5_digest_126 ?_
    obtain ⟨t119, h120, hf⟩ := bd_some hf
    refine q_calll (va_runV (As := [.long 500]) (rest := [.ref x0]) F (c_X5_nearestTo l D cy (S := t117) v_x0 h120) (cwV 1 hts gX5_digest_X5_nearestTo rfl rfl rfl ⟨rfl, ph_X5_nearestTo.1, ph_X5_nearestTo.2, pd_X5_nearestTo⟩ ⟨Nat.le_of_ble_eq_true rfl, Nat.le_of_ble_eq_true rfl⟩) ⟨PcW.bl, (q_rcv hK hw.1 v_x0.1 (pF_5 (S := t117) v_x0.2) rfl), PcW.in hK hw hA (fun z => z.elim)⟩ rfl rfl hl.1 rfl (lv_room (Nat.le_of_ble_eq_true rfl)) dX5_digest_129 ⟨Nat.zero_le _, Nat.zero_le _⟩) hw hA (fun H locs hw hX => ?_)
    have hE := hE.tr hX
    have v_x0 := hX _ _ v_x0
    obtain ⟨t121, h122, hf⟩ := bd_some hf
    refine q_callv (va_runV (As := [.long t119.1]) (rest := []) F (c_X5_mix l D cy (S := t119.2) v_x0 h122) (cwV 1 hts gX5_digest_X5_mix rfl rfl rfl ⟨rfl, ph_X5_mix.1, ph_X5_mix.2, pd_X5_mix⟩ ⟨Nat.le_of_ble_eq_true rfl, Nat.le_of_ble_eq_true rfl⟩) ⟨PcW.bl, (q_rcv hK hw.1 v_x0.1 (pF_5 (S := t119.2) v_x0.2) rfl), PcW.in hK hw hA (fun z => z.elim)⟩ rfl rfl hl.1 rfl (lv_room (Nat.le_of_ble_eq_true rfl)) dX5_digest_132 ⟨Nat.zero_le _, Nat.zero_le _⟩) hw hA (fun H locs hw hX => ?_)
    have hE := hE.tr hX
    have v_x0 := hX _ _ v_x0
    refine lv_aload_n hx hb dX5_digest_135 rfl (lv_at hl 0 rfl) ?_
    refine lv_aload_n hx hb dX5_digest_136 rfl (lv_at hl 0 rfl) ?_
    refine lv_lconst (v := 0) hx hb dX5_digest_137 (by decide) ?_
    refine lv_ldc2 hx hb hown (hts (.constantLong RX5 246 9999) (List.mem_of_getElem? (i := 7) rfl)) dX5_digest_138 ?_
    obtain ⟨t123, h124, hf⟩ := bd_some hf
    refine q_calll (va_runV (As := [.long 0, .long 9999]) (rest := [.ref x0]) F (c_X5_manyBetween l D cy (S := t121) v_x0 h124) (cwV 2 hts gX5_digest_X5_manyBetween rfl rfl rfl ⟨rfl, ph_X5_manyBetween.1, ph_X5_manyBetween.2, pd_X5_manyBetween⟩ ⟨Nat.le_of_ble_eq_true rfl, Nat.le_of_ble_eq_true rfl⟩) ⟨PcW.bl, (q_rcv hK hw.1 v_x0.1 (pF_5 (S := t121) v_x0.2) rfl), PcW.in hK hw hA (fun z => z.elim)⟩ rfl rfl hl.1 rfl (lv_room (Nat.le_of_ble_eq_true rfl)) dX5_digest_141 ⟨Nat.zero_le _, Nat.zero_le _⟩) hw hA (fun H locs hw hX => ?_)
    have hE := hE.tr hX
    have v_x0 := hX _ _ v_x0
    obtain ⟨t125, h126, hf⟩ := bd_some hf
    refine q_callv (va_runV (As := [.long t123.1]) (rest := []) F (c_X5_mix l D cy (S := t123.2) v_x0 h126) (cwV 1 hts gX5_digest_X5_mix rfl rfl rfl ⟨rfl, ph_X5_mix.1, ph_X5_mix.2, pd_X5_mix⟩ ⟨Nat.le_of_ble_eq_true rfl, Nat.le_of_ble_eq_true rfl⟩) ⟨PcW.bl, (q_rcv hK hw.1 v_x0.1 (pF_5 (S := t123.2) v_x0.2) rfl), PcW.in hK hw hA (fun z => z.elim)⟩ rfl rfl hl.1 rfl (lv_room (Nat.le_of_ble_eq_true rfl)) dX5_digest_144 ⟨Nat.zero_le _, Nat.zero_le _⟩) hw hA (fun H locs hw hX => ?_)
    have hE := hE.tr hX
    have v_x0 := hX _ _ v_x0
    refine lv_aload_n hx hb dX5_digest_147 rfl (lv_at hl 0 rfl) ?_
    refine lv_aload_n hx hb dX5_digest_148 rfl (lv_at hl 0 rfl) ?_
    refine lv_lconst (v := 0) hx hb dX5_digest_149 (by decide) ?_
    obtain ⟨t127, h128, hf⟩ := bd_some hf
    refine vp_callSi (va_runV (As := [.long 0]) (rest := [.ref x0]) F (c_X5_missed l D cy (H := _) hw.1 v_x0 h128) (cwV 1 hts gX5_digest_X5_missed rfl rfl rfl ⟨rfl, ph_X5_missed.1, ph_X5_missed.2, pd_X5_missed⟩ ⟨Nat.le_of_ble_eq_true rfl, Nat.le_of_ble_eq_true rfl⟩) ⟨PcR.bl, (q_rcv hK hw.1 v_x0.1 (pF_5 (S := t125) v_x0.2) rfl), PcR.in hK⟩ rfl rfl hl.1 rfl (lv_room (Nat.le_of_ble_eq_true rfl)) dX5_digest_150 ⟨Nat.zero_le _, Nat.zero_le _⟩).run (fun r129 er129 => ?_)
    subst r129
    refine lv_i2l hx hb dX5_digest_153 rfl ?_
    obtain ⟨t130, h131, hf⟩ := bd_some hf
    refine q_callv (va_runV (As := [.long t127.toInt64]) (rest := []) F (c_X5_mix l D cy (S := t125) v_x0 h131) (cwV 1 hts gX5_digest_X5_mix rfl rfl rfl ⟨rfl, ph_X5_mix.1, ph_X5_mix.2, pd_X5_mix⟩ ⟨Nat.le_of_ble_eq_true rfl, Nat.le_of_ble_eq_true rfl⟩) ⟨PcW.bl, (q_rcv hK hw.1 v_x0.1 (pF_5 (S := t125) v_x0.2) rfl), PcW.in hK hw hA (fun z => z.elim)⟩ rfl rfl hl.1 rfl (lv_room (Nat.le_of_ble_eq_true rfl)) dX5_digest_154 ⟨Nat.zero_le _, Nat.zero_le _⟩) hw hA (fun H locs hw hX => ?_)
    have hE := hE.tr hX
    have v_x0 := hX _ _ v_x0
    refine lv_aload_n hx hb dX5_digest_157 rfl (lv_at hl 0 rfl) ?_
    refine lv_aload_n hx hb dX5_digest_158 rfl (lv_at hl 0 rfl) ?_
    refine lv_ldc2 hx hb hown (hts (.constantLong RX5 248 100) (List.mem_of_getElem? (i := 8) rfl)) dX5_digest_159 ?_
    obtain ⟨t132, h133, hf⟩ := bd_some hf
    refine vp_callSi (va_runV (As := [.long 100]) (rest := [.ref x0]) F (c_X5_missed l D cy (H := _) hw.1 v_x0 h133) (cwV 1 hts gX5_digest_X5_missed rfl rfl rfl ⟨rfl, ph_X5_missed.1, ph_X5_missed.2, pd_X5_missed⟩ ⟨Nat.le_of_ble_eq_true rfl, Nat.le_of_ble_eq_true rfl⟩) ⟨PcR.bl, (q_rcv hK hw.1 v_x0.1 (pF_5 (S := t130) v_x0.2) rfl), PcR.in hK⟩ rfl rfl hl.1 rfl (lv_room (Nat.le_of_ble_eq_true rfl)) dX5_digest_162 ⟨Nat.zero_le _, Nat.zero_le _⟩).run (fun r134 er134 => ?_)
    subst r134
    refine lv_i2l hx hb dX5_digest_165 rfl ?_
    obtain ⟨t135, h136, hf⟩ := bd_some hf
    refine q_callv (va_runV (As := [.long t132.toInt64]) (rest := []) F (c_X5_mix l D cy (S := t130) v_x0 h136) (cwV 1 hts gX5_digest_X5_mix rfl rfl rfl ⟨rfl, ph_X5_mix.1, ph_X5_mix.2, pd_X5_mix⟩ ⟨Nat.le_of_ble_eq_true rfl, Nat.le_of_ble_eq_true rfl⟩) ⟨PcW.bl, (q_rcv hK hw.1 v_x0.1 (pF_5 (S := t130) v_x0.2) rfl), PcW.in hK hw hA (fun z => z.elim)⟩ rfl rfl hl.1 rfl (lv_room (Nat.le_of_ble_eq_true rfl)) dX5_digest_166 ⟨Nat.zero_le _, Nat.zero_le _⟩) hw hA (fun H locs hw hX => ?_)
    have hE := hE.tr hX
    have v_x0 := hX _ _ v_x0
    refine lv_iconst (v := 0) hx hb dX5_digest_169 (by decide) ?_
    refine lv_istore_n (lv' := [(1, .int 0), (0, .ref x0)]) hx hb dX5_digest_170 rfl hl (by decide) rfl (fun ls hl => ?_)
    exact hL171 FU t135 _ _ x0 0 _ (lv_sub hl [1, 0] rfl) hw hE v_x0 hf
  have hL91 : ∀ (fu91 : Nat), ∀ (Sb : PS) (H1 : Heap) (lo1 : List Loc) (x0 : Nat) (x1 : Int32) (ls : Array Slot), lv_has ls 2 [(0, .ref x0), (1, .int x1)] → Hw D cy (AA cy S n) s.heap Sb n H1 lo1 → EX S Sb → vd Sb x0 5 → f_X5_digest_L91 f_X5_digest_B112 fu91 Sb x0 x1 = some res → W p l e (headSpec wsX5_digest ({ frames := 9, cells := 0, slots := 0, locals := 202 } : Room)).room s m ([.ref y0] : List Value).toArray below meth c H1 lo1 0 0 (MQ below (va_Ql (fun (r : Int64) (u : PS × Nat) => r = res.1 ∧ u = (res.2, n)) (BW D cy S n) (AA cy S n)) ([.ref y0] : List Value).toArray s 0 0 (AA cy S n)) (F0 m 91 ls []) := by
    intro fu91
    induction fu91 with
    | zero =>
      intro Sb H1 lo1 x0 x1 ls hl hw hE v_x0 hf
      have hf : (none : Option (Int64 × PS)) = some res := hf
      cases hf
    | succ fu91 ih91 =>
      intro Sb H1 lo1 x0 x1 ls hl hw hE v_x0 hf
      have hf : f_X5_digest_L91s (f_X5_digest_L91 f_X5_digest_B112 fu91) f_X5_digest_B112 Sb x0 x1 = some res := hf
      unfold f_X5_digest_L91s at hf
      refine lv_iload_n hx hb dX5_digest_91 rfl (lv_at hl 1 rfl) ?_
      refine lv_iconst (v := 2) hx hb dX5_digest_92 (by decide) ?_
      refine lv_icmp_gt (tgt := 112) hx hb dX5_digest_93 (by decide) (fun c137 => ?_) (fun c137 => ?_)
      · have hf := it_t c137 hf
        exact hB112 Sb _ _ x0 _ (lv_sub hl [0] rfl) hw hE v_x0 hf
      · have hf := it_f c137 hf
        refine lv_aload_n hx hb dX5_digest_96 rfl (lv_at hl 0 rfl) ?_
        refine lv_aload_n hx hb dX5_digest_97 rfl (lv_at hl 0 rfl) ?_
        refine lv_lconst (v := 0) hx hb dX5_digest_98 (by decide) ?_
        refine lv_iload_n hx hb dX5_digest_99 rfl (lv_at hl 1 rfl) ?_
        obtain ⟨t138, h139, hf⟩ := bd_some hf
        refine q_calll (va_runV (As := [.long 0, .int x1]) (rest := [.ref x0]) F (c_X5_answered l D cy (S := Sb) v_x0 h139) (cwV 2 hts gX5_digest_X5_answered rfl rfl rfl ⟨rfl, ph_X5_answered.1, ph_X5_answered.2, pd_X5_answered⟩ ⟨Nat.le_of_ble_eq_true rfl, Nat.le_of_ble_eq_true rfl⟩) ⟨PcW.bl, (q_rcv hK hw.1 v_x0.1 (pF_5 (S := Sb) v_x0.2) rfl), PcW.in hK hw hA (fun z => z.elim)⟩ rfl rfl hl.1 rfl (lv_room (Nat.le_of_ble_eq_true rfl)) dX5_digest_100 ⟨Nat.zero_le _, Nat.zero_le _⟩) hw hA (fun H locs hw hX => ?_)
        have hE := hE.tr hX
        have v_x0 := hX _ _ v_x0
        obtain ⟨t140, h141, hf⟩ := bd_some hf
        refine q_callv (va_runV (As := [.long t138.1]) (rest := []) F (c_X5_mix l D cy (S := t138.2) v_x0 h141) (cwV 1 hts gX5_digest_X5_mix rfl rfl rfl ⟨rfl, ph_X5_mix.1, ph_X5_mix.2, pd_X5_mix⟩ ⟨Nat.le_of_ble_eq_true rfl, Nat.le_of_ble_eq_true rfl⟩) ⟨PcW.bl, (q_rcv hK hw.1 v_x0.1 (pF_5 (S := t138.2) v_x0.2) rfl), PcW.in hK hw hA (fun z => z.elim)⟩ rfl rfl hl.1 rfl (lv_room (Nat.le_of_ble_eq_true rfl)) dX5_digest_103 ⟨Nat.zero_le _, Nat.zero_le _⟩) hw hA (fun H locs hw hX => ?_)
        have hE := hE.tr hX
        have v_x0 := hX _ _ v_x0
        refine lv_iinc (v := x1 + 1) (lv' := [(1, .int (x1 + 1)), (0, .ref x0)]) hx hb dX5_digest_106 hl (k := 1) rfl (by rfl) (by decide) rfl (fun ls hl => ?_)
        refine lv_goto (tgt := 91) hx hb dX5_digest_109 (by decide) ?_
        exact ih91 t140 _ _ x0 (x1 + 1) _ (lv_sub hl [1, 0] rfl) hw hE v_x0 hf
  have hB85 : ∀ (Sb : PS) (H1 : Heap) (lo1 : List Loc) (x0 : Nat) (ls : Array Slot), lv_has ls 2 [(0, .ref x0)] → Hw D cy (AA cy S n) s.heap Sb n H1 lo1 → EX S Sb → vd Sb x0 5 → f_X5_digest_B85 Sb x0 = some res → W p l e (headSpec wsX5_digest ({ frames := 9, cells := 0, slots := 0, locals := 202 } : Room)).room s m ([.ref y0] : List Value).toArray below meth c H1 lo1 0 0 (MQ below (va_Ql (fun (r : Int64) (u : PS × Nat) => r = res.1 ∧ u = (res.2, n)) (BW D cy S n) (AA cy S n)) ([.ref y0] : List Value).toArray s 0 0 (AA cy S n)) (F0 m 85 ls []) := by
    intro Sb H1 lo1 x0 ls hl hw hE v_x0 hf
    unfold f_X5_digest_B85 at hf
    refine lv_aload_n hx hb dX5_digest_85 rfl (lv_at hl 0 rfl) ?_
    obtain ⟨t142, h143, hf⟩ := bd_some hf
    refine q_callv (va_runV (As := []) (rest := []) F (c_X5_mixPrimes l D cy (S := Sb) v_x0 h143) (cwV 0 hts gX5_digest_X5_mixPrimes rfl rfl rfl ⟨rfl, ph_X5_mixPrimes.1, ph_X5_mixPrimes.2, pd_X5_mixPrimes⟩ ⟨Nat.le_of_ble_eq_true rfl, Nat.le_of_ble_eq_true rfl⟩) ⟨PcW.bl, (q_rcv hK hw.1 v_x0.1 (pF_5 (S := Sb) v_x0.2) rfl), PcW.in hK hw hA (fun z => z.elim)⟩ rfl rfl hl.1 rfl (lv_room (Nat.le_of_ble_eq_true rfl)) dX5_digest_86 ⟨Nat.zero_le _, Nat.zero_le _⟩) hw hA (fun H locs hw hX => ?_)
    have hE := hE.tr hX
    have v_x0 := hX _ _ v_x0
    refine lv_iconst (v := 0) hx hb dX5_digest_89 (by decide) ?_
    refine lv_istore_n (lv' := [(1, .int 0), (0, .ref x0)]) hx hb dX5_digest_90 rfl hl (by decide) rfl (fun ls hl => ?_)
    exact hL91 FU t142 _ _ x0 0 _ (lv_sub hl [1, 0] rfl) hw hE v_x0 hf
  have hL64 : ∀ (fu64 : Nat), ∀ (Sb : PS) (H1 : Heap) (lo1 : List Loc) (x0 : Nat) (x1 : Int32) (ls : Array Slot), lv_has ls 2 [(0, .ref x0), (1, .int x1)] → Hw D cy (AA cy S n) s.heap Sb n H1 lo1 → EX S Sb → vd Sb x0 5 → f_X5_digest_L64 f_X5_digest_B85 fu64 Sb x0 x1 = some res → W p l e (headSpec wsX5_digest ({ frames := 9, cells := 0, slots := 0, locals := 202 } : Room)).room s m ([.ref y0] : List Value).toArray below meth c H1 lo1 0 0 (MQ below (va_Ql (fun (r : Int64) (u : PS × Nat) => r = res.1 ∧ u = (res.2, n)) (BW D cy S n) (AA cy S n)) ([.ref y0] : List Value).toArray s 0 0 (AA cy S n)) (F0 m 64 ls []) := by
    intro fu64
    induction fu64 with
    | zero =>
      intro Sb H1 lo1 x0 x1 ls hl hw hE v_x0 hf
      have hf : (none : Option (Int64 × PS)) = some res := hf
      cases hf
    | succ fu64 ih64 =>
      intro Sb H1 lo1 x0 x1 ls hl hw hE v_x0 hf
      have hf : f_X5_digest_L64s (f_X5_digest_L64 f_X5_digest_B85 fu64) f_X5_digest_B85 Sb x0 x1 = some res := hf
      unfold f_X5_digest_L64s at hf
      refine lv_iload_n hx hb dX5_digest_64 rfl (lv_at hl 1 rfl) ?_
      refine lv_aload_n hx hb dX5_digest_65 rfl (lv_at hl 0 rfl) ?_
      obtain ⟨b144, e145, v_b144, hf⟩ := rq_some hf
      refine q_get F hK hw.1 v_x0.1 (pF_5 (S := Sb) v_x0.2) (fun w h => List.mem_cons_of_mem _ (List.mem_append_right _ h)) rfl 1 (by decide) (hts (.fieldLink RX5 7 "SharedModuliModel" "z" "[I") (List.mem_of_getElem? (i := 4) rfl)) (v := .ref b144) (congrArg (fun z => some (va_rf z)) e145) dX5_digest_66 ?_
      refine lv_iconst (v := 0) hx hb dX5_digest_69 (by decide) ?_
      obtain ⟨c146, hf⟩ := ckd_some hf
      refine q_iald F hK hw.1 v_b144 c146 dX5_digest_70 ?_
      refine lv_icmp_ge (tgt := 85) hx hb dX5_digest_71 (by decide) (fun c147 => ?_) (fun c147 => ?_)
      · have hf := it_t c147 hf
        exact hB85 Sb _ _ x0 _ (lv_sub hl [0] rfl) hw hE v_x0 hf
      · have hf := it_f c147 hf
        refine lv_aload_n hx hb dX5_digest_74 rfl (lv_at hl 0 rfl) ?_
        refine lv_iload_n hx hb dX5_digest_75 rfl (lv_at hl 1 rfl) ?_
        obtain ⟨t148, h149, hf⟩ := bd_some hf
        refine q_callv (va_runV (As := [.int x1]) (rest := []) F (c_X5_mixCondition l D cy (S := Sb) v_x0 h149) (cwV 1 hts gX5_digest_X5_mixCondition rfl rfl rfl ⟨rfl, ph_X5_mixCondition.1, ph_X5_mixCondition.2, pd_X5_mixCondition⟩ ⟨Nat.le_of_ble_eq_true rfl, Nat.le_of_ble_eq_true rfl⟩) ⟨PcW.bl, (q_rcv hK hw.1 v_x0.1 (pF_5 (S := Sb) v_x0.2) rfl), PcW.in hK hw hA (fun z => z.elim)⟩ rfl rfl hl.1 rfl (lv_room (Nat.le_of_ble_eq_true rfl)) dX5_digest_76 ⟨Nat.zero_le _, Nat.zero_le _⟩) hw hA (fun H locs hw hX => ?_)
        have hE := hE.tr hX
        have v_x0 := hX _ _ v_x0
        have v_b144 := hX _ _ v_b144
        refine lv_iinc (v := x1 + 1) (lv' := [(1, .int (x1 + 1)), (0, .ref x0)]) hx hb dX5_digest_79 hl (k := 1) rfl (by rfl) (by decide) rfl (fun ls hl => ?_)
        refine lv_goto (tgt := 64) hx hb dX5_digest_82 (by decide) ?_
        exact ih64 t148 _ _ x0 (x1 + 1) _ (lv_sub hl [1, 0] rfl) hw hE v_x0 hf
  have hB36 : ∀ (Sb : PS) (H1 : Heap) (lo1 : List Loc) (x0 : Nat) (ls : Array Slot), lv_has ls 2 [(0, .ref x0)] → Hw D cy (AA cy S n) s.heap Sb n H1 lo1 → EX S Sb → vd Sb x0 5 → f_X5_digest_B36 Sb x0 = some res → W p l e (headSpec wsX5_digest ({ frames := 9, cells := 0, slots := 0, locals := 202 } : Room)).room s m ([.ref y0] : List Value).toArray below meth c H1 lo1 0 0 (MQ below (va_Ql (fun (r : Int64) (u : PS × Nat) => r = res.1 ∧ u = (res.2, n)) (BW D cy S n) (AA cy S n)) ([.ref y0] : List Value).toArray s 0 0 (AA cy S n)) (F0 m 36 ls []) := by
    intro Sb H1 lo1 x0 ls hl hw hE v_x0 hf
    unfold f_X5_digest_B36 at hf
    refine lv_aload_n hx hb dX5_digest_36 rfl (lv_at hl 0 rfl) ?_
    refine lv_aload_n hx hb dX5_digest_37 rfl (lv_at hl 0 rfl) ?_
    refine lv_aload_n hx hb dX5_digest_38 rfl (lv_at hl 0 rfl) ?_
    obtain ⟨t150, h151, hf⟩ := bd_some hf
    refine vp_callSi (va_runV (As := []) (rest := [.ref x0, .ref x0]) F (c_X5_onSet l D cy (H := _) hw.1 v_x0 h151) (cwV 0 hts gX5_digest_X5_onSet rfl rfl rfl ⟨rfl, ph_X5_onSet.1, ph_X5_onSet.2, pd_X5_onSet⟩ ⟨Nat.le_of_ble_eq_true rfl, Nat.le_of_ble_eq_true rfl⟩) ⟨PcR.bl, (q_rcv hK hw.1 v_x0.1 (pF_5 (S := Sb) v_x0.2) rfl), PcR.in hK⟩ rfl rfl hl.1 rfl (lv_room (Nat.le_of_ble_eq_true rfl)) dX5_digest_39 ⟨Nat.zero_le _, Nat.zero_le _⟩).run (fun r152 er152 => ?_)
    subst r152
    refine lv_iconst (v := 0) hx hb dX5_digest_42 (by decide) ?_
    obtain ⟨t153, h154, hf⟩ := bd_some hf
    refine q_calll (va_runV (As := [.int t150, .int 0]) (rest := [.ref x0]) F (c_X5_joinedBy l D cy (S := Sb) v_x0 h154) (cwV 2 hts gX5_digest_X5_joinedBy rfl rfl rfl ⟨rfl, ph_X5_joinedBy.1, ph_X5_joinedBy.2, pd_X5_joinedBy⟩ ⟨Nat.le_of_ble_eq_true rfl, Nat.le_of_ble_eq_true rfl⟩) ⟨PcW.bl, (q_rcv hK hw.1 v_x0.1 (pF_5 (S := Sb) v_x0.2) rfl), PcW.in hK hw hA (fun z => z.elim)⟩ rfl rfl hl.1 rfl (lv_room (Nat.le_of_ble_eq_true rfl)) dX5_digest_43 ⟨Nat.zero_le _, Nat.zero_le _⟩) hw hA (fun H locs hw hX => ?_)
    have hE := hE.tr hX
    have v_x0 := hX _ _ v_x0
    obtain ⟨t155, h156, hf⟩ := bd_some hf
    refine q_callv (va_runV (As := [.long t153.1]) (rest := []) F (c_X5_mix l D cy (S := t153.2) v_x0 h156) (cwV 1 hts gX5_digest_X5_mix rfl rfl rfl ⟨rfl, ph_X5_mix.1, ph_X5_mix.2, pd_X5_mix⟩ ⟨Nat.le_of_ble_eq_true rfl, Nat.le_of_ble_eq_true rfl⟩) ⟨PcW.bl, (q_rcv hK hw.1 v_x0.1 (pF_5 (S := t153.2) v_x0.2) rfl), PcW.in hK hw hA (fun z => z.elim)⟩ rfl rfl hl.1 rfl (lv_room (Nat.le_of_ble_eq_true rfl)) dX5_digest_46 ⟨Nat.zero_le _, Nat.zero_le _⟩) hw hA (fun H locs hw hX => ?_)
    have hE := hE.tr hX
    have v_x0 := hX _ _ v_x0
    refine lv_aload_n hx hb dX5_digest_49 rfl (lv_at hl 0 rfl) ?_
    refine lv_aload_n hx hb dX5_digest_50 rfl (lv_at hl 0 rfl) ?_
    refine lv_aload_n hx hb dX5_digest_51 rfl (lv_at hl 0 rfl) ?_
    obtain ⟨t157, h158, hf⟩ := bd_some hf
    refine vp_callSi (va_runV (As := []) (rest := [.ref x0, .ref x0]) F (c_X5_onSet l D cy (H := _) hw.1 v_x0 h158) (cwV 0 hts gX5_digest_X5_onSet rfl rfl rfl ⟨rfl, ph_X5_onSet.1, ph_X5_onSet.2, pd_X5_onSet⟩ ⟨Nat.le_of_ble_eq_true rfl, Nat.le_of_ble_eq_true rfl⟩) ⟨PcR.bl, (q_rcv hK hw.1 v_x0.1 (pF_5 (S := t155) v_x0.2) rfl), PcR.in hK⟩ rfl rfl hl.1 rfl (lv_room (Nat.le_of_ble_eq_true rfl)) dX5_digest_52 ⟨Nat.zero_le _, Nat.zero_le _⟩).run (fun r159 er159 => ?_)
    subst r159
    refine lv_iconst (v := 1) hx hb dX5_digest_55 (by decide) ?_
    obtain ⟨t160, h161, hf⟩ := bd_some hf
    refine q_calll (va_runV (As := [.int t157, .int 1]) (rest := [.ref x0]) F (c_X5_joinedBy l D cy (S := t155) v_x0 h161) (cwV 2 hts gX5_digest_X5_joinedBy rfl rfl rfl ⟨rfl, ph_X5_joinedBy.1, ph_X5_joinedBy.2, pd_X5_joinedBy⟩ ⟨Nat.le_of_ble_eq_true rfl, Nat.le_of_ble_eq_true rfl⟩) ⟨PcW.bl, (q_rcv hK hw.1 v_x0.1 (pF_5 (S := t155) v_x0.2) rfl), PcW.in hK hw hA (fun z => z.elim)⟩ rfl rfl hl.1 rfl (lv_room (Nat.le_of_ble_eq_true rfl)) dX5_digest_56 ⟨Nat.zero_le _, Nat.zero_le _⟩) hw hA (fun H locs hw hX => ?_)
    have hE := hE.tr hX
    have v_x0 := hX _ _ v_x0
    obtain ⟨t162, h163, hf⟩ := bd_some hf
    refine q_callv (va_runV (As := [.long t160.1]) (rest := []) F (c_X5_mix l D cy (S := t160.2) v_x0 h163) (cwV 1 hts gX5_digest_X5_mix rfl rfl rfl ⟨rfl, ph_X5_mix.1, ph_X5_mix.2, pd_X5_mix⟩ ⟨Nat.le_of_ble_eq_true rfl, Nat.le_of_ble_eq_true rfl⟩) ⟨PcW.bl, (q_rcv hK hw.1 v_x0.1 (pF_5 (S := t160.2) v_x0.2) rfl), PcW.in hK hw hA (fun z => z.elim)⟩ rfl rfl hl.1 rfl (lv_room (Nat.le_of_ble_eq_true rfl)) dX5_digest_59 ⟨Nat.zero_le _, Nat.zero_le _⟩) hw hA (fun H locs hw hX => ?_)
    have hE := hE.tr hX
    have v_x0 := hX _ _ v_x0
    refine lv_iconst (v := 0) hx hb dX5_digest_62 (by decide) ?_
    refine lv_istore_n (lv' := [(1, .int 0), (0, .ref x0)]) hx hb dX5_digest_63 rfl hl (by decide) rfl (fun ls hl => ?_)
    exact hL64 FU t162 _ _ x0 0 _ (lv_sub hl [1, 0] rfl) hw hE v_x0 hf
  have hL14 : ∀ (fu14 : Nat), ∀ (Sb : PS) (H1 : Heap) (lo1 : List Loc) (x0 : Nat) (x1 : Int32) (ls : Array Slot), lv_has ls 2 [(0, .ref x0), (1, .int x1)] → Hw D cy (AA cy S n) s.heap Sb n H1 lo1 → EX S Sb → vd Sb x0 5 → f_X5_digest_L14 f_X5_digest_B36 fu14 Sb x0 x1 = some res → W p l e (headSpec wsX5_digest ({ frames := 9, cells := 0, slots := 0, locals := 202 } : Room)).room s m ([.ref y0] : List Value).toArray below meth c H1 lo1 0 0 (MQ below (va_Ql (fun (r : Int64) (u : PS × Nat) => r = res.1 ∧ u = (res.2, n)) (BW D cy S n) (AA cy S n)) ([.ref y0] : List Value).toArray s 0 0 (AA cy S n)) (F0 m 14 ls []) := by
    intro fu14
    induction fu14 with
    | zero =>
      intro Sb H1 lo1 x0 x1 ls hl hw hE v_x0 hf
      have hf : (none : Option (Int64 × PS)) = some res := hf
      cases hf
    | succ fu14 ih14 =>
      intro Sb H1 lo1 x0 x1 ls hl hw hE v_x0 hf
      have hf : f_X5_digest_L14s (f_X5_digest_L14 f_X5_digest_B36 fu14) f_X5_digest_B36 Sb x0 x1 = some res := hf
      unfold f_X5_digest_L14s at hf
      refine lv_iload_n hx hb dX5_digest_14 rfl (lv_at hl 1 rfl) ?_
      refine lv_bipush (v := 6) hx hb dX5_digest_15 (by decide) ?_
      refine lv_icmp_gt (tgt := 36) hx hb dX5_digest_17 (by decide) (fun c164 => ?_) (fun c164 => ?_)
      · have hf := it_t c164 hf
        exact hB36 Sb _ _ x0 _ (lv_sub hl [0] rfl) hw hE v_x0 hf
      · have hf := it_f c164 hf
        refine lv_aload_n hx hb dX5_digest_20 rfl (lv_at hl 0 rfl) ?_
        refine lv_aload_n hx hb dX5_digest_21 rfl (lv_at hl 0 rfl) ?_
        refine lv_iload_n hx hb dX5_digest_22 rfl (lv_at hl 1 rfl) ?_
        obtain ⟨t165, h166, hf⟩ := bd_some hf
        refine q_calli (va_runV (As := [.int x1]) (rest := [.ref x0]) F (c_X5_counted l D cy (S := Sb) v_x0 h166) (cwV 1 hts gX5_digest_X5_counted rfl rfl rfl ⟨rfl, ph_X5_counted.1, ph_X5_counted.2, pd_X5_counted⟩ ⟨Nat.le_of_ble_eq_true rfl, Nat.le_of_ble_eq_true rfl⟩) ⟨PcW.bl, (q_rcv hK hw.1 v_x0.1 (pF_5 (S := Sb) v_x0.2) rfl), PcW.in hK hw hA (fun z => z.elim)⟩ rfl rfl hl.1 rfl (lv_room (Nat.le_of_ble_eq_true rfl)) dX5_digest_23 ⟨Nat.zero_le _, Nat.zero_le _⟩) hw hA (fun H locs hw hX => ?_)
        have hE := hE.tr hX
        have v_x0 := hX _ _ v_x0
        refine lv_i2l hx hb dX5_digest_26 rfl ?_
        obtain ⟨t167, h168, hf⟩ := bd_some hf
        refine q_callv (va_runV (As := [.long t165.1.toInt64]) (rest := []) F (c_X5_mix l D cy (S := t165.2) v_x0 h168) (cwV 1 hts gX5_digest_X5_mix rfl rfl rfl ⟨rfl, ph_X5_mix.1, ph_X5_mix.2, pd_X5_mix⟩ ⟨Nat.le_of_ble_eq_true rfl, Nat.le_of_ble_eq_true rfl⟩) ⟨PcW.bl, (q_rcv hK hw.1 v_x0.1 (pF_5 (S := t165.2) v_x0.2) rfl), PcW.in hK hw hA (fun z => z.elim)⟩ rfl rfl hl.1 rfl (lv_room (Nat.le_of_ble_eq_true rfl)) dX5_digest_27 ⟨Nat.zero_le _, Nat.zero_le _⟩) hw hA (fun H locs hw hX => ?_)
        have hE := hE.tr hX
        have v_x0 := hX _ _ v_x0
        refine lv_iinc (v := x1 + 1) (lv' := [(1, .int (x1 + 1)), (0, .ref x0)]) hx hb dX5_digest_30 hl (k := 1) rfl (by rfl) (by decide) rfl (fun ls hl => ?_)
        refine lv_goto (tgt := 14) hx hb dX5_digest_33 (by decide) ?_
        exact ih14 t167 _ _ x0 (x1 + 1) _ (lv_sub hl [1, 0] rfl) hw hE v_x0 hf
  have hl := lv_entry ([.ref y0]) (n := 2) (Nat.le_of_ble_eq_true rfl)
  rw [lg_entry_eq]
  generalize (lg_sl ([.ref y0]) ++ List.replicate (2 - (lg_sl ([.ref y0])).length) Slot.unset).toArray = ls at hl ⊢
  have hl : lv_has ls 2 [(0, .ref y0)] := hl
  unfold f_X5_digest at hf
  refine lv_aload_n hx hb dX5_digest_0 rfl (lv_at hl 0 rfl) ?_
  refine lv_iconst (v := 0) hx hb dX5_digest_1 (by decide) ?_
  refine q_put F hK hw v_y0.1 (pF_5 (S := S) v_y0.2) (fun w h => List.mem_cons_of_mem _ (List.mem_append_right _ h)) tyX5 tyX5_ok nmX5 rfl 0 (by decide) (hts (.fieldLink RX5 22 "SharedModuliModel" "thrown" "I") (List.mem_of_getElem? (i := 1) rfl)) (Or.inl rfl) (tyX5_ok 0 (by decide)) rfl rfl (Nat.le_of_ble_eq_true rfl) (S1 := sI S 80 y0 0) (st_80 (S := S) v_y0.2 0) dX5_digest_2 (fun H locs hw => ?_)
  refine lv_aload_n hx hb dX5_digest_5 rfl (lv_at hl 0 rfl) ?_
  refine lv_ldc2 hx hb hown (hts (.constantLong RX5 234 2791) (List.mem_of_getElem? (i := 2) rfl)) dX5_digest_6 ?_
  refine q_put F hK hw v_y0.1 (pF_5 (S := sI S 80 y0 0) v_y0.2) (fun w h => List.mem_cons_of_mem _ (List.mem_append_right _ h)) tyX5 tyX5_ok nmX5 rfl 12 (by decide) (hts (.fieldLink RX5 227 "SharedModuliModel" "hash" "J") (List.mem_of_getElem? (i := 3) rfl)) (Or.inl rfl) (tyX5_ok 12 (by decide)) rfl rfl (Nat.le_of_ble_eq_true rfl) (S1 := sL (sI S 80 y0 0) 92 y0 2791) (st_92 (S := sI S 80 y0 0) v_y0.2 2791) dX5_digest_9 (fun H locs hw => ?_)
  refine lv_iconst (v := 0) hx hb dX5_digest_12 (by decide) ?_
  refine lv_istore_n (lv' := [(1, .int 0), (0, .ref y0)]) hx hb dX5_digest_13 rfl hl (by decide) rfl (fun ls hl => ?_)
  exact hL14 FU (sL (sI S 80 y0 0) 92 y0 2791) _ _ y0 0 _ (lv_sub hl [1, 0] rfl) hw hE v_y0 hf

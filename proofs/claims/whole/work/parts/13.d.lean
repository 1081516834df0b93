def f_X5_init (S : PS) (n : Nat) (x0 : Nat) : Option (PS × Nat) :=
  some (sI (sR (nA (sR (nA (sR (nA (sR (nA S n 6 45) 81 x0 (some n)) (n + 1) 6 270) 82 x0 (some (n + 1))) ((n + 1) + 1) 6 60) 84 x0 (some ((n + 1) + 1))) (((n + 1) + 1) + 1) 6 45) 88 x0 (some (((n + 1) + 1) + 1))) 80 x0 0, (((n + 1) + 1) + 1) + 1)
set_option maxHeartbeats 4000000 in
set_option maxRecDepth 100000 in
theorem c_X5_init (l : Launch) (D : va_G) (cy : cyT) {S : PS} {n : Nat} {y0 : Nat} (v_y0 : vd S y0 5) {res : PS × Nat} (hf : f_X5_init S n y0 = some res) : Met l yX5_init wsX5_init ({ frames := 1, cells := 4, slots := 420, locals := 20 } : Room) (PcW False D cy S n [.ref y0]) (va_Qv (fun (u : PS × Nat) => u = res) (BW D cy S n) (AA cy S n)) 4 420 (AA cy S n) := by
  refine Met.ofW (cc := cX5_init) (maxL := 1) (ret := none) (by decide) rfl ?_
  intro p e s m args below meth c s₁ B hml hv
  obtain ⟨hav, hsz, hP0, hD0, hK, hZ0⟩ := hv
  have hx := B.exec
  have hb := B.bytes
  have hr := B.returns
  have hts := atoms_spec (ws := wsX5_init) B.pre
  have hown : s.vm.findClass RX5 = some m.cls := findClass_of_methodNamed B.named
  have hlocks := B.notSynchronized
  have hin : meth.name = "<init>" := (name_of_methodNamed B.named B.method).1
  subst hav
  have hw : Hw D cy (AA cy S n) s.heap S n s.heap [] := Hw.start hsz hP0 hD0
  have hA : ∀ q, s.heap.size ≤ q → AA cy S n q := fun q h => Or.inr (hsz ▸ h)
  have hE : EX S S := EX.rf
  have F : CallFix p m c cX5_init 1 s _ wsX5_init RX5 := ⟨hx, hb, hml, hown, hts⟩
  have hl := lv_entry ([.ref y0]) (n := 1) (Nat.le_of_ble_eq_true rfl)
  rw [lg_entry_eq]
  generalize (lg_sl ([.ref y0]) ++ List.replicate (1 - (lg_sl ([.ref y0])).length) Slot.unset).toArray = ls at hl ⊢
  have hl : lv_has ls 1 [(0, .ref y0)] := hl
  unfold f_X5_init at hf
  refine lv_aload_n hx hb dX5_init_0 rfl (lv_at hl 0 rfl) ?_
  refine W.objInit hx hb hown (hts (.methodLink RX5 1 objectInit) (List.mem_of_getElem? (i := 1) rfl)) (hts (.instanceMethod objectInit) (List.mem_of_getElem? (i := 2) rfl)) (hts (.code objectInit ⟨#[0xb1]⟩ 1 none) (List.mem_of_getElem? (i := 3) rfl)) rfl (by rw [hml]; exact hl.1) rfl dX5_init_1 (Nat.le_of_ble_eq_true rfl) (Nat.le_of_ble_eq_true rfl) ?_
  refine W.eq (g2 := F0 m 4 ls []) rfl ?_
  refine lv_aload_n hx hb dX5_init_4 rfl (lv_at hl 0 rfl) ?_
  refine lv_bipush (v := 45) hx hb dX5_init_5 (by decide) ?_
  have hfr := hw.fresh
  refine q_newi F hK hw hA (hts (.arrayClass .int) (List.mem_of_getElem? (i := 4) rfl)) (N' := 45) (by decide) (by decide) (by decide) (by show _ ≤ 4; omega) (by show _ ≤ 420; omega) dX5_init_7 (fun H hw => ?_)
  have hX := EX.nA (k := 6) (n := 45) hfr
  have hE := hE.tr hX
  have v_y0 := hX _ _ v_y0
  have v_q5 : vd (nA S n 6 45) (n) 6 := vd_nA
  refine q_put F hK hw v_y0.1 (pF_5 (S := nA S n 6 45) v_y0.2) (fun w h => List.mem_cons_of_mem _ (List.mem_append_right _ h)) tyX5 tyX5_ok nmX5 rfl 1 (by decide) (hts (.fieldLink RX5 7 "SharedModuliModel" "z" "[I") (List.mem_of_getElem? (i := 5) rfl)) (Or.inr ⟨hin, rfl⟩) (tyX5_ok 1 (by decide)) rfl rfl (Nat.le_of_ble_eq_true rfl) (S1 := sR (nA S n 6 45) 81 y0 (some n)) (st_81 (S := nA S n 6 45) v_y0.2 (some n)) dX5_init_9 (fun H locs hw => ?_)
  refine lv_aload_n hx hb dX5_init_12 rfl (lv_at hl 0 rfl) ?_
  refine lv_sipush (v := 270) hx hb dX5_init_13 (by decide) ?_
  have hfr := hw.fresh
  refine q_newi F hK hw hA (hts (.arrayClass .int) (List.mem_of_getElem? (i := 4) rfl)) (N' := 270) (by decide) (by decide) (by decide) (by show _ ≤ 4; omega) (by show _ ≤ 420; omega) dX5_init_16 (fun H hw => ?_)
  have hX := EX.nA (k := 6) (n := 270) hfr
  have hE := hE.tr hX
  have v_y0 := hX _ _ v_y0
  have v_q5 := hX _ _ v_q5
  have v_q6 : vd (nA (sR (nA S n 6 45) 81 y0 (some n)) (n + 1) 6 270) (n + 1) 6 := vd_nA
  refine q_put F hK hw v_y0.1 (pF_5 (S := nA (sR (nA S n 6 45) 81 y0 (some n)) (n + 1) 6 270) v_y0.2) (fun w h => List.mem_cons_of_mem _ (List.mem_append_right _ h)) tyX5 tyX5_ok nmX5 rfl 2 (by decide) (hts (.fieldLink RX5 13 "SharedModuliModel" "saved" "[I") (List.mem_of_getElem? (i := 6) rfl)) (Or.inr ⟨hin, rfl⟩) (tyX5_ok 2 (by decide)) rfl rfl (Nat.le_of_ble_eq_true rfl) (S1 := sR (nA (sR (nA S n 6 45) 81 y0 (some n)) (n + 1) 6 270) 82 y0 (some (n + 1))) (st_82 (S := nA (sR (nA S n 6 45) 81 y0 (some n)) (n + 1) 6 270) v_y0.2 (some (n + 1))) dX5_init_18 (fun H locs hw => ?_)
  refine lv_aload_n hx hb dX5_init_21 rfl (lv_at hl 0 rfl) ?_
  refine lv_bipush (v := 60) hx hb dX5_init_22 (by decide) ?_
  have hfr := hw.fresh
  refine q_newi F hK hw hA (hts (.arrayClass .int) (List.mem_of_getElem? (i := 4) rfl)) (N' := 60) (by decide) (by decide) (by decide) (by show _ ≤ 4; omega) (by show _ ≤ 420; omega) dX5_init_24 (fun H hw => ?_)
  have hX := EX.nA (k := 6) (n := 60) hfr
  have hE := hE.tr hX
  have v_y0 := hX _ _ v_y0
  have v_q5 := hX _ _ v_q5
  have v_q6 := hX _ _ v_q6
  have v_q7 : vd (nA (sR (nA (sR (nA S n 6 45) 81 y0 (some n)) (n + 1) 6 270) 82 y0 (some (n + 1))) ((n + 1) + 1) 6 60) ((n + 1) + 1) 6 := vd_nA
  refine q_put F hK hw v_y0.1 (pF_5 (S := nA (sR (nA (sR (nA S n 6 45) 81 y0 (some n)) (n + 1) 6 270) 82 y0 (some (n + 1))) ((n + 1) + 1) 6 60) v_y0.2) (fun w h => List.mem_cons_of_mem _ (List.mem_append_right _ h)) tyX5 tyX5_ok nmX5 rfl 4 (by decide) (hts (.fieldLink RX5 16 "SharedModuliModel" "buffe\x72" "[I") (List.mem_of_getElem? (i := 7) rfl)) (Or.inr ⟨hin, rfl⟩) (tyX5_ok 4 (by decide)) rfl rfl (Nat.le_of_ble_eq_true rfl) (S1 := sR (nA (sR (nA (sR (nA S n 6 45) 81 y0 (some n)) (n + 1) 6 270) 82 y0 (some (n + 1))) ((n + 1) + 1) 6 60) 84 y0 (some ((n + 1) + 1))) (st_84 (S := nA (sR (nA (sR (nA S n 6 45) 81 y0 (some n)) (n + 1) 6 270) 82 y0 (some (n + 1))) ((n + 1) + 1) 6 60) v_y0.2 (some ((n + 1) + 1))) dX5_init_26 (fun H locs hw => ?_)
  refine lv_aload_n hx hb dX5_init_29 rfl (lv_at hl 0 rfl) ?_
  refine lv_bipush (v := 45) hx hb dX5_init_30 (by decide) ?_
  have hfr := hw.fresh
  refine q_newi F hK hw hA (hts (.arrayClass .int) (List.mem_of_getElem? (i := 4) rfl)) (N' := 45) (by decide) (by decide) (by decide) (by show _ ≤ 4; omega) (by show _ ≤ 420; omega) dX5_init_32 (fun H hw => ?_)
  have hX := EX.nA (k := 6) (n := 45) hfr
  have hE := hE.tr hX
  have v_y0 := hX _ _ v_y0
  have v_q5 := hX _ _ v_q5
  have v_q6 := hX _ _ v_q6
  have v_q7 := hX _ _ v_q7
  have v_q8 : vd (nA (sR (nA (sR (nA (sR (nA S n 6 45) 81 y0 (some n)) (n + 1) 6 270) 82 y0 (some (n + 1))) ((n + 1) + 1) 6 60) 84 y0 (some ((n + 1) + 1))) (((n + 1) + 1) + 1) 6 45) (((n + 1) + 1) + 1) 6 := vd_nA
  refine q_put F hK hw v_y0.1 (pF_5 (S := nA (sR (nA (sR (nA (sR (nA S n 6 45) 81 y0 (some n)) (n + 1) 6 270) 82 y0 (some (n + 1))) ((n + 1) + 1) 6 60) 84 y0 (some ((n + 1) + 1))) (((n + 1) + 1) + 1) 6 45) v_y0.2) (fun w h => List.mem_cons_of_mem _ (List.mem_append_right _ h)) tyX5 tyX5_ok nmX5 rfl 8 (by decide) (hts (.fieldLink RX5 19 "SharedModuliModel" "read" "[I") (List.mem_of_getElem? (i := 8) rfl)) (Or.inr ⟨hin, rfl⟩) (tyX5_ok 8 (by decide)) rfl rfl (Nat.le_of_ble_eq_true rfl) (S1 := sR (nA (sR (nA (sR (nA (sR (nA S n 6 45) 81 y0 (some n)) (n + 1) 6 270) 82 y0 (some (n + 1))) ((n + 1) + 1) 6 60) 84 y0 (some ((n + 1) + 1))) (((n + 1) + 1) + 1) 6 45) 88 y0 (some (((n + 1) + 1) + 1))) (st_88 (S := nA (sR (nA (sR (nA (sR (nA S n 6 45) 81 y0 (some n)) (n + 1) 6 270) 82 y0 (some (n + 1))) ((n + 1) + 1) 6 60) 84 y0 (some ((n + 1) + 1))) (((n + 1) + 1) + 1) 6 45) v_y0.2 (some (((n + 1) + 1) + 1))) dX5_init_34 (fun H locs hw => ?_)
  refine lv_aload_n hx hb dX5_init_37 rfl (lv_at hl 0 rfl) ?_
  refine lv_iconst (v := 0) hx hb dX5_init_38 (by decide) ?_
  refine q_put F hK hw v_y0.1 (pF_5 (S := sR (nA (sR (nA (sR (nA (sR (nA S n 6 45) 81 y0 (some n)) (n + 1) 6 270) 82 y0 (some (n + 1))) ((n + 1) + 1) 6 60) 84 y0 (some ((n + 1) + 1))) (((n + 1) + 1) + 1) 6 45) 88 y0 (some (((n + 1) + 1) + 1))) v_y0.2) (fun w h => List.mem_cons_of_mem _ (List.mem_append_right _ h)) tyX5 tyX5_ok nmX5 rfl 0 (by decide) (hts (.fieldLink RX5 22 "SharedModuliModel" "thrown" "I") (List.mem_of_getElem? (i := 9) rfl)) (Or.inl rfl) (tyX5_ok 0 (by decide)) rfl rfl (Nat.le_of_ble_eq_true rfl) (S1 := sI (sR (nA (sR (nA (sR (nA (sR (nA S n 6 45) 81 y0 (some n)) (n + 1) 6 270) 82 y0 (some (n + 1))) ((n + 1) + 1) 6 60) 84 y0 (some ((n + 1) + 1))) (((n + 1) + 1) + 1) 6 45) 88 y0 (some (((n + 1) + 1) + 1))) 80 y0 0) (st_80 (S := sR (nA (sR (nA (sR (nA (sR (nA S n 6 45) 81 y0 (some n)) (n + 1) 6 270) 82 y0 (some (n + 1))) ((n + 1) + 1) 6 60) 84 y0 (some ((n + 1) + 1))) (((n + 1) + 1) + 1) 6 45) 88 y0 (some (((n + 1) + 1) + 1))) v_y0.2 0) dX5_init_39 (fun H locs hw => ?_)
  refine W.widen (k := 4) (n := 420) (by omega) (by omega) ?_
  exact W.vret hx hb hr (fun t ht hW => ⟨⟨(sI (sR (nA (sR (nA (sR (nA (sR (nA S n 6 45) 81 y0 (some n)) (n + 1) 6 270) 82 y0 (some (n + 1))) ((n + 1) + 1) 6 60) 84 y0 (some ((n + 1) + 1))) (((n + 1) + 1) + 1) 6 45) 88 y0 (some (((n + 1) + 1) + 1))) 80 y0 0, (((n + 1) + 1) + 1) + 1), rfl, po1n hf, BW.of hw hE ht⟩, hw.2.2.1.F ht⟩) hw.2.2.1.2.2 dX5_init_42
def f_X5_thrown (S : PS) (x0 : Nat) : Option Int32 :=
  some (fI S 80 x0)
set_option maxHeartbeats 4000000 in
set_option maxRecDepth 100000 in
theorem c_X5_thrown (l : Launch) (D : va_G) (cy : cyT) {H : Heap} {S : PS} (hP : va_P D vwCl (wl cy S) H) {y0 : Nat} (v_y0 : vd S y0 5) {res : Int32} (hf : f_X5_thrown S y0 = some res) : Met l yX5_thrown wsX5_thrown ({ frames := 0, cells := 0, slots := 0, locals := 0 } : Room) (PcR D cy H [.ref y0]) (vp_Si (fun r => r = res)) 0 0 (fun _ => False) := by
  refine Met.ofW (cc := cX5_thrown) (maxL := 1) (ret := (some .int)) (by decide) rfl ?_
  intro p e s m args below meth c s₁ B hml hv
  obtain ⟨hav, hH, hK⟩ := hv
  have hx := B.exec
  have hb := B.bytes
  have hr := B.returns
  have hts := atoms_spec (ws := wsX5_thrown) B.pre
  have hown : s.vm.findClass RX5 = some m.cls := findClass_of_methodNamed B.named
  have hlocks := B.notSynchronized
  subst hav
  subst hH
  have F : CallFix p m c cX5_thrown 1 s _ wsX5_thrown RX5 := ⟨hx, hb, hml, hown, hts⟩
  have hl := lv_entry ([.ref y0]) (n := 1) (Nat.le_of_ble_eq_true rfl)
  rw [lg_entry_eq]
  generalize (lg_sl ([.ref y0]) ++ List.replicate (1 - (lg_sl ([.ref y0])).length) Slot.unset).toArray = ls at hl ⊢
  have hl : lv_has ls 1 [(0, .ref y0)] := hl
  unfold f_X5_thrown at hf
  refine lv_aload_n hx hb dX5_thrown_0 rfl (lv_at hl 0 rfl) ?_
  refine q_get F hK hP v_y0.1 (pF_5 (S := S) v_y0.2) (fun w h => List.mem_cons_of_mem _ (List.mem_append_right _ h)) rfl 0 (by decide) (hts (.fieldLink RX5 22 "SharedModuliModel" "thrown" "I") (List.mem_of_getElem? (i := 1) rfl)) (v := .int (fI S 80 y0)) rfl dX5_thrown_1 ?_
  exact W.iret (v := (fI S 80 y0)) hx hb hr (fun t ht hW => ⟨_, rfl, Option.some.inj hf, ht⟩) (fun _ h => by cases h) dX5_thrown_4
def f_X5_in_B15 (s0 : Int32) : Option Int32 :=
  ck (decide (s0 &&& 1 = s0)) (
  some s0)
def f_X5_in_B14  : Option Int32 :=
  f_X5_in_B15 0
def f_X5_in (x0 : Int32) (x1 : Int32) (x2 : Int32) : Option Int32 :=
  if x0 < x1 then (f_X5_in_B14) else
  if x2 < x0 then (f_X5_in_B14) else
  f_X5_in_B15 1
set_option maxHeartbeats 4000000 in
set_option maxRecDepth 100000 in
theorem c_X5_in (l : Launch) (D : va_G) (cy : cyT) {H : Heap} {y0 : Int32} {y1 : Int32} {y2 : Int32}  {res : Int32} (hf : f_X5_in y0 y1 y2 = some res) : Met l yX5_in wsX5_in ({ frames := 0, cells := 0, slots := 0, locals := 0 } : Room) (PcR D cy H [.int y0, .int y1, .int y2]) (vp_Si (fun r => r = res)) 0 0 (fun _ => False) := by
  refine Met.ofW (cc := cX5_in) (maxL := 3) (ret := (some .boolean)) (by decide) rfl ?_
  intro p e s m args below meth c s₁ B hml hv
  obtain ⟨hav, hH, hK⟩ := hv
  have hx := B.exec
  have hb := B.bytes
  have hr := B.returns
  have hts := atoms_spec (ws := wsX5_in) B.pre
  have hown : s.vm.findClass RX5 = some m.cls := findClass_of_methodNamed B.named
  have hlocks := B.notSynchronized
  subst hav
  subst hH
  have F : CallFix p m c cX5_in 3 s _ wsX5_in RX5 := ⟨hx, hb, hml, hown, hts⟩
  have hB15 : ∀ (s0 : Int32) (ls : Array Slot), lv_has ls 3 [] → f_X5_in_B15 s0 = some res → W p l e (headSpec wsX5_in ({ frames := 0, cells := 0, slots := 0, locals := 0 } : Room)).room s m ([.int y0, .int y1, .int y2] : List Value).toArray below meth c s.heap [] 0 0 (MQ below (vp_Si (fun r => r = res)) ([.int y0, .int y1, .int y2] : List Value).toArray s 0 0 (fun _ => False)) (F0 m 15 ls [.int s0]) := by
    intro s0 ls hl hf
    unfold f_X5_in_B15 at hf
    obtain ⟨c4, hf⟩ := ckd_some hf
    exact W.zret (v := s0) hx hb hr (nz c4) (fun t ht hW => ⟨_, rfl, Option.some.inj hf, ht⟩) (fun _ h => by cases h) dX5_in_15
  have hB14 : ∀  (ls : Array Slot), lv_has ls 3 [] → f_X5_in_B14 = some res → W p l e (headSpec wsX5_in ({ frames := 0, cells := 0, slots := 0, locals := 0 } : Room)).room s m ([.int y0, .int y1, .int y2] : List Value).toArray below meth c s.heap [] 0 0 (MQ below (vp_Si (fun r => r = res)) ([.int y0, .int y1, .int y2] : List Value).toArray s 0 0 (fun _ => False)) (F0 m 14 ls []) := by
    intro ls hl hf
    unfold f_X5_in_B14 at hf
    refine lv_iconst (v := 0) hx hb dX5_in_14 (by decide) ?_
    exact hB15 0 _ (lv_sub hl [] rfl)  hf
  have hl := lv_entry ([.int y0, .int y1, .int y2]) (n := 3) (Nat.le_of_ble_eq_true rfl)
  rw [lg_entry_eq]
  generalize (lg_sl ([.int y0, .int y1, .int y2]) ++ List.replicate (3 - (lg_sl ([.int y0, .int y1, .int y2])).length) Slot.unset).toArray = ls at hl ⊢
  have hl : lv_has ls 3 [(0, .int y0), (1, .int y1), (2, .int y2)] := hl
  unfold f_X5_in at hf
  refine lv_iload_n hx hb dX5_in_0 rfl (lv_at hl 0 rfl) ?_
  refine lv_iload_n hx hb dX5_in_1 rfl (lv_at hl 1 rfl) ?_
  refine lv_icmp_lt (tgt := 14) hx hb dX5_in_2 (by decide) (fun c5 => ?_) (fun c5 => ?_)
  · have hf := it_t c5 hf
    exact hB14 _ (lv_sub hl [] rfl)  hf
  · have hf := it_f c5 hf
    refine lv_iload_n hx hb dX5_in_5 rfl (lv_at hl 0 rfl) ?_
    refine lv_iload_n hx hb dX5_in_6 rfl (lv_at hl 2 rfl) ?_
    refine lv_icmp_gt (tgt := 14) hx hb dX5_in_7 (by decide) (fun c6 => ?_) (fun c6 => ?_)
    · have hf := it_t c6 hf
      exact hB14 _ (lv_sub hl [] rfl)  hf
    · have hf := it_f c6 hf
      refine lv_iconst (v := 1) hx hb dX5_in_10 (by decide) ?_
      refine lv_goto (tgt := 15) hx hb dX5_in_11 (by decide) ?_
      exact hB15 1 _ (lv_sub hl [] rfl)  hf
def f_X5_isThere_B19 (S : PS) (s0 : Int32) : Option Int32 :=
  ck (decide (s0 &&& 1 = s0)) (
  some s0)
def f_X5_isThere_B18 (S : PS)  : Option Int32 :=
  f_X5_isThere_B19 S 0
def f_X5_isThere (S : PS) (x0 : Nat) (x1 : Int32) : Option Int32 :=
  if x1 < 0 then (f_X5_isThere_B18 S) else
  rq (fR S 81 x0) S 6 fun b3 =>
  ck (decide (¬ ((0 : Int32) < 0 ∨ aN S b3 ≤ (0 : Int32).toNatClampNeg))) (
  if (aI S b3 (0 : Int32).toNatClampNeg) ≤ x1 then (f_X5_isThere_B18 S) else
  f_X5_isThere_B19 S 1)
set_option maxHeartbeats 4000000 in
set_option maxRecDepth 100000 in
theorem c_X5_isThere (l : Launch) (D : va_G) (cy : cyT) {H : Heap} {S : PS} (hP : va_P D vwCl (wl cy S) H) {y0 : Nat} {y1 : Int32} (v_y0 : vd S y0 5) {res : Int32} (hf : f_X5_isThere S y0 y1 = some res) : Met l yX5_isThere wsX5_isThere ({ frames := 0, cells := 0, slots := 0, locals := 0 } : Room) (PcR D cy H [.ref y0, .int y1]) (vp_Si (fun r => r = res)) 0 0 (fun _ => False) := by
  refine Met.ofW (cc := cX5_isThere) (maxL := 2) (ret := (some .boolean)) (by decide) rfl ?_
  intro p e s m args below meth c s₁ B hml hv
  obtain ⟨hav, hH, hK⟩ := hv
  have hx := B.exec
  have hb := B.bytes
  have hr := B.returns
  have hts := atoms_spec (ws := wsX5_isThere) B.pre
  have hown : s.vm.findClass RX5 = some m.cls := findClass_of_methodNamed B.named
  have hlocks := B.notSynchronized
  subst hav
  subst hH
  have F : CallFix p m c cX5_isThere 2 s _ wsX5_isThere RX5 := ⟨hx, hb, hml, hown, hts⟩
  have hB19 : ∀ (s0 : Int32) (ls : Array Slot), lv_has ls 2 [] → f_X5_isThere_B19 S s0 = some res → W p l e (headSpec wsX5_isThere ({ frames := 0, cells := 0, slots := 0, locals := 0 } : Room)).room s m ([.ref y0, .int y1] : List Value).toArray below meth c s.heap [] 0 0 (MQ below (vp_Si (fun r => r = res)) ([.ref y0, .int y1] : List Value).toArray s 0 0 (fun _ => False)) (F0 m 19 ls [.int s0]) := by
    intro s0 ls hl hf
    unfold f_X5_isThere_B19 at hf
    obtain ⟨c7, hf⟩ := ckd_some hf
    exact W.zret (v := s0) hx hb hr (nz c7) (fun t ht hW => ⟨_, rfl, Option.some.inj hf, ht⟩) (fun _ h => by cases h) dX5_isThere_19
  have hB18 : ∀  (ls : Array Slot), lv_has ls 2 [] → f_X5_isThere_B18 S = some res → W p l e (headSpec wsX5_isThere ({ frames := 0, cells := 0, slots := 0, locals := 0 } : Room)).room s m ([.ref y0, .int y1] : List Value).toArray below meth c s.heap [] 0 0 (MQ below (vp_Si (fun r => r = res)) ([.ref y0, .int y1] : List Value).toArray s 0 0 (fun _ => False)) (F0 m 18 ls []) := by
    intro ls hl hf
    unfold f_X5_isThere_B18 at hf
    refine lv_iconst (v := 0) hx hb dX5_isThere_18 (by decide) ?_
    exact hB19 0 _ (lv_sub hl [] rfl)  hf
  have hl := lv_entry ([.ref y0, .int y1]) (n := 2) (Nat.le_of_ble_eq_true rfl)
  rw [lg_entry_eq]
  generalize (lg_sl ([.ref y0, .int y1]) ++ List.replicate (2 - (lg_sl ([.ref y0, .int y1])).length) Slot.unset).toArray = ls at hl ⊢
  have hl : lv_has ls 2 [(0, .ref y0), (1, .int y1)] := hl
  unfold f_X5_isThere at hf
  refine lv_iload_n hx hb dX5_isThere_0 rfl (lv_at hl 1 rfl) ?_
  refine lv_if_lt (tgt := 18) hx hb dX5_isThere_1 (by decide) (fun c8 => ?_) (fun c8 => ?_)
  · have hf := it_t c8 hf
    exact hB18 _ (lv_sub hl [] rfl)  hf
  · have hf := it_f c8 hf
    refine lv_iload_n hx hb dX5_isThere_4 rfl (lv_at hl 1 rfl) ?_
    refine lv_aload_n hx hb dX5_isThere_5 rfl (lv_at hl 0 rfl) ?_
    obtain ⟨b9, e10, v_b9, hf⟩ := rq_some hf
    refine q_get F hK hP v_y0.1 (pF_5 (S := S) v_y0.2) (fun w h => List.mem_cons_of_mem _ (List.mem_append_right _ h)) rfl 1 (by decide) (hts (.fieldLink RX5 7 "SharedModuliModel" "z" "[I") (List.mem_of_getElem? (i := 1) rfl)) (v := .ref b9) (congrArg (fun z => some (va_rf z)) e10) dX5_isThere_6 ?_
    refine lv_iconst (v := 0) hx hb dX5_isThere_9 (by decide) ?_
    obtain ⟨c11, hf⟩ := ckd_some hf
    refine q_iald F hK hP v_b9 c11 dX5_isThere_10 ?_
    refine lv_icmp_ge (tgt := 18) hx hb dX5_isThere_11 (by decide) (fun c12 => ?_) (fun c12 => ?_)
    · have hf := it_t c12 hf
      exact hB18 _ (lv_sub hl [] rfl)  hf
    · have hf := it_f c12 hf
      refine lv_iconst (v := 1) hx hb dX5_isThere_14 (by decide) ?_
      refine lv_goto (tgt := 19) hx hb dX5_isThere_15 (by decide) ?_
      exact hB19 1 _ (lv_sub hl [] rfl)  hf
def f_X5_of (S : PS) (x0 : Nat) (x1 : Int32) (x2 : Int32) : Option Int32 :=
  rq (fR S 81 x0) S 6 fun b1 =>
  ck (decide (¬ ((((1 : Int32) + ((4 : Int32) * x1)) + x2) < 0 ∨ aN S b1 ≤ (((1 : Int32) + ((4 : Int32) * x1)) + x2).toNatClampNeg))) (
  some (aI S b1 (((1 : Int32) + ((4 : Int32) * x1)) + x2).toNatClampNeg))
set_option maxHeartbeats 4000000 in
set_option maxRecDepth 100000 in
theorem c_X5_of (l : Launch) (D : va_G) (cy : cyT) {H : Heap} {S : PS} (hP : va_P D vwCl (wl cy S) H) {y0 : Nat} {y1 : Int32} {y2 : Int32} (v_y0 : vd S y0 5) {res : Int32} (hf : f_X5_of S y0 y1 y2 = some res) : Met l yX5_of wsX5_of ({ frames := 0, cells := 0, slots := 0, locals := 0 } : Room) (PcR D cy H [.ref y0, .int y1, .int y2]) (vp_Si (fun r => r = res)) 0 0 (fun _ => False) := by
  refine Met.ofW (cc := cX5_of) (maxL := 3) (ret := (some .int)) (by decide) rfl ?_
  intro p e s m args below meth c s₁ B hml hv
  obtain ⟨hav, hH, hK⟩ := hv
  have hx := B.exec
  have hb := B.bytes
  have hr := B.returns
  have hts := atoms_spec (ws := wsX5_of) B.pre
  have hown : s.vm.findClass RX5 = some m.cls := findClass_of_methodNamed B.named
  have hlocks := B.notSynchronized
  subst hav
  subst hH
  have F : CallFix p m c cX5_of 3 s _ wsX5_of RX5 := ⟨hx, hb, hml, hown, hts⟩
  have hl := lv_entry ([.ref y0, .int y1, .int y2]) (n := 3) (Nat.le_of_ble_eq_true rfl)
  rw [lg_entry_eq]
  generalize (lg_sl ([.ref y0, .int y1, .int y2]) ++ List.replicate (3 - (lg_sl ([.ref y0, .int y1, .int y2])).length) Slot.unset).toArray = ls at hl ⊢
  have hl : lv_has ls 3 [(0, .ref y0), (1, .int y1), (2, .int y2)] := hl
  unfold f_X5_of at hf
  refine lv_aload_n hx hb dX5_of_0 rfl (lv_at hl 0 rfl) ?_
  obtain ⟨b4, e5, v_b4, hf⟩ := rq_some hf
  refine q_get F hK hP v_y0.1 (pF_5 (S := S) v_y0.2) (fun w h => List.mem_cons_of_mem _ (List.mem_append_right _ h)) rfl 1 (by decide) (hts (.fieldLink RX5 7 "SharedModuliModel" "z" "[I") (List.mem_of_getElem? (i := 1) rfl)) (v := .ref b4) (congrArg (fun z => some (va_rf z)) e5) dX5_of_1 ?_
  refine lv_iconst (v := 1) hx hb dX5_of_4 (by decide) ?_
  refine lv_iconst (v := 4) hx hb dX5_of_5 (by decide) ?_
  refine lv_iload_n hx hb dX5_of_6 rfl (lv_at hl 1 rfl) ?_
  refine lv_imul hx hb dX5_of_7 ?_
  refine lv_iadd hx hb dX5_of_8 ?_
  refine lv_iload_n hx hb dX5_of_9 rfl (lv_at hl 2 rfl) ?_
  refine lv_iadd hx hb dX5_of_10 ?_
  obtain ⟨c6, hf⟩ := ckd_some hf
  refine q_iald F hK hP v_b4 c6 dX5_of_11 ?_
  exact W.iret (v := (aI S b4 (((1 : Int32) + ((4 : Int32) * y1)) + y2).toNatClampNeg)) hx hb hr (fun t ht hW => ⟨_, rfl, Option.some.inj hf, ht⟩) (fun _ h => by cases h) dX5_of_12
def f_X5_isOn_B15 (S : PS) (s0 : Int32) : Option Int32 :=
  ck (decide (s0 &&& 1 = s0)) (
  some s0)
def f_X5_isOn (S : PS) (x0 : Nat) (x1 : Int32) : Option Int32 :=
  bd (f_X5_of S x0 x1 3) fun t2 =>
  if t2 = 1 then (f_X5_isOn_B15 S 1) else
  f_X5_isOn_B15 S 0
set_option maxHeartbeats 4000000 in
set_option maxRecDepth 100000 in
theorem c_X5_isOn (l : Launch) (D : va_G) (cy : cyT) {H : Heap} {S : PS} (hP : va_P D vwCl (wl cy S) H) {y0 : Nat} {y1 : Int32} (v_y0 : vd S y0 5) {res : Int32} (hf : f_X5_isOn S y0 y1 = some res) : Met l yX5_isOn wsX5_isOn ({ frames := 1, cells := 0, slots := 0, locals := 22 } : Room) (PcR D cy H [.ref y0, .int y1]) (vp_Si (fun r => r = res)) 0 0 (fun _ => False) := by
  refine Met.ofW (cc := cX5_isOn) (maxL := 2) (ret := (some .boolean)) (by decide) rfl ?_
  intro p e s m args below meth c s₁ B hml hv
  obtain ⟨hav, hH, hK⟩ := hv
  have hx := B.exec
  have hb := B.bytes
  have hr := B.returns
  have hts := atoms_spec (ws := wsX5_isOn) B.pre
  have hown : s.vm.findClass RX5 = some m.cls := findClass_of_methodNamed B.named
  have hlocks := B.notSynchronized
  subst hav
  subst hH
  have F : CallFix p m c cX5_isOn 2 s _ wsX5_isOn RX5 := ⟨hx, hb, hml, hown, hts⟩
  have hB15 : ∀ (s0 : Int32) (ls : Array Slot), lv_has ls 2 [] → f_X5_isOn_B15 S s0 = some res → W p l e (headSpec wsX5_isOn ({ frames := 1, cells := 0, slots := 0, locals := 22 } : Room)).room s m ([.ref y0, .int y1] : List Value).toArray below meth c s.heap [] 0 0 (MQ below (vp_Si (fun r => r = res)) ([.ref y0, .int y1] : List Value).toArray s 0 0 (fun _ => False)) (F0 m 15 ls [.int s0]) := by
    intro s0 ls hl hf
    unfold f_X5_isOn_B15 at hf
    obtain ⟨c6, hf⟩ := ckd_some hf
    exact W.zret (v := s0) hx hb hr (nz c6) (fun t ht hW => ⟨_, rfl, Option.some.inj hf, ht⟩) (fun _ h => by cases h) dX5_isOn_15
  have hl := lv_entry ([.ref y0, .int y1]) (n := 2) (Nat.le_of_ble_eq_true rfl)
  rw [lg_entry_eq]
  generalize (lg_sl ([.ref y0, .int y1]) ++ List.replicate (2 - (lg_sl ([.ref y0, .int y1])).length) Slot.unset).toArray = ls at hl ⊢
  have hl : lv_has ls 2 [(0, .ref y0), (1, .int y1)] := hl
  unfold f_X5_isOn at hf
  refine lv_aload_n hx hb dX5_isOn_0 rfl (lv_at hl 0 rfl) ?_
  refine lv_iload_n hx hb dX5_isOn_1 rfl (lv_at hl 1 rfl) ?_
  refine lv_iconst (v := 3) hx hb dX5_isOn_2 (by decide) ?_
  obtain ⟨t7, h8, hf⟩ := bd_some hf
  refine vp_callSi (va_runV (As := [.int y1, .int 3]) (rest := []) F (c_X5_of l D cy (H := _) hP v_y0 h8) (cwV 2 hts gX5_isOn_X5_of rfl rfl rfl ⟨rfl, ph_X5_of.1, ph_X5_of.2, pd_X5_of⟩ ⟨Nat.le_of_ble_eq_true rfl, Nat.le_of_ble_eq_true rfl⟩) ⟨PcR.bl, (q_rcv hK hP v_y0.1 (pF_5 (S := S) v_y0.2) rfl), PcR.in hK⟩ rfl rfl hl.1 rfl (lv_room (Nat.le_of_ble_eq_true rfl)) dX5_isOn_3 ⟨Nat.zero_le _, Nat.zero_le _⟩).run (fun r9 er9 => ?_)
  subst r9
  refine lv_iconst (v := 1) hx hb dX5_isOn_6 (by decide) ?_
  refine lv_icmp_ne (tgt := 14) hx hb dX5_isOn_7 (by decide) (fun c10 => ?_) (fun c10 => ?_)
  · have hf := it_f c10 hf
    refine lv_iconst (v := 0) hx hb dX5_isOn_14 (by decide) ?_
    exact hB15 0 _ (lv_sub hl [] rfl)  hf
  · have hf := it_t c10 hf
    refine lv_iconst (v := 1) hx hb dX5_isOn_10 (by decide) ?_
    refine lv_goto (tgt := 15) hx hb dX5_isOn_11 (by decide) ?_
    exact hB15 1 _ (lv_sub hl [] rfl)  hf
def f_X5_isNumber_B19 (s0 : Int32) : Option Int32 :=
  ck (decide (s0 &&& 1 = s0)) (
  some s0)
def f_X5_isNumber_B18  : Option Int32 :=
  f_X5_isNumber_B19 0
def f_X5_isNumber (x0 : Int64) : Option Int32 :=
  if x0 < 0 then (f_X5_isNumber_B18) else
  if 1000000000000000 < x0 then (f_X5_isNumber_B18) else
  f_X5_isNumber_B19 1
set_option maxHeartbeats 4000000 in
set_option maxRecDepth 100000 in
theorem c_X5_isNumber (l : Launch) (D : va_G) (cy : cyT) {H : Heap} {y0 : Int64}  {res : Int32} (hf : f_X5_isNumber y0 = some res) : Met l yX5_isNumber wsX5_isNumber ({ frames := 0, cells := 0, slots := 0, locals := 0 } : Room) (PcR D cy H [.long y0]) (vp_Si (fun r => r = res)) 0 0 (fun _ => False) := by
  refine Met.ofW (cc := cX5_isNumber) (maxL := 2) (ret := (some .boolean)) (by decide) rfl ?_
  intro p e s m args below meth c s₁ B hml hv
  obtain ⟨hav, hH, hK⟩ := hv
  have hx := B.exec
  have hb := B.bytes
  have hr := B.returns
  have hts := atoms_spec (ws := wsX5_isNumber) B.pre
  have hown : s.vm.findClass RX5 = some m.cls := findClass_of_methodNamed B.named
  have hlocks := B.notSynchronized
  subst hav
  subst hH
  have F : CallFix p m c cX5_isNumber 2 s _ wsX5_isNumber RX5 := ⟨hx, hb, hml, hown, hts⟩
  have hB19 : ∀ (s0 : Int32) (ls : Array Slot), lv_has ls 2 [] → f_X5_isNumber_B19 s0 = some res → W p l e (headSpec wsX5_isNumber ({ frames := 0, cells := 0, slots := 0, locals := 0 } : Room)).room s m ([.long y0] : List Value).toArray below meth c s.heap [] 0 0 (MQ below (vp_Si (fun r => r = res)) ([.long y0] : List Value).toArray s 0 0 (fun _ => False)) (F0 m 19 ls [.int s0]) := by
    intro s0 ls hl hf
    unfold f_X5_isNumber_B19 at hf
    obtain ⟨c4, hf⟩ := ckd_some hf
    exact W.zret (v := s0) hx hb hr (nz c4) (fun t ht hW => ⟨_, rfl, Option.some.inj hf, ht⟩) (fun _ h => by cases h) dX5_isNumber_19
  have hB18 : ∀  (ls : Array Slot), lv_has ls 2 [] → f_X5_isNumber_B18 = some res → W p l e (headSpec wsX5_isNumber ({ frames := 0, cells := 0, slots := 0, locals := 0 } : Room)).room s m ([.long y0] : List Value).toArray below meth c s.heap [] 0 0 (MQ below (vp_Si (fun r => r = res)) ([.long y0] : List Value).toArray s 0 0 (fun _ => False)) (F0 m 18 ls []) := by
    intro ls hl hf
    unfold f_X5_isNumber_B18 at hf
    refine lv_iconst (v := 0) hx hb dX5_isNumber_18 (by decide) ?_
    exact hB19 0 _ (lv_sub hl [] rfl)  hf
  have hl := lv_entry ([.long y0]) (n := 2) (Nat.le_of_ble_eq_true rfl)
  rw [lg_entry_eq]
  generalize (lg_sl ([.long y0]) ++ List.replicate (2 - (lg_sl ([.long y0])).length) Slot.unset).toArray = ls at hl ⊢
  have hl : lv_has ls 2 [(0, .long y0)] := hl
  unfold f_X5_isNumber at hf
  refine lv_lload_n hx hb dX5_isNumber_0 rfl (lv_at hl 0 rfl) ?_
  refine lv_lconst (v := 0) hx hb dX5_isNumber_1 (by decide) ?_
  refine W.lcmp hx hb dX5_isNumber_2 ?_
  refine lv_if_lt (tgt := 18) hx hb dX5_isNumber_3 (by decide) (fun c5 => ?_) (fun c5 => ?_)
  · have hf := it_t ((lq_lt _ _).mp c5) hf
    exact hB18 _ (lv_sub hl [] rfl)  hf
  · have hf := it_f (fun z => c5 ((lq_lt _ _).mpr z)) hf
    refine lv_lload_n hx hb dX5_isNumber_6 rfl (lv_at hl 0 rfl) ?_
    refine lv_ldc2 hx hb hown (hts (.constantLong RX5 30 1000000000000000) (List.mem_of_getElem? (i := 1) rfl)) dX5_isNumber_7 ?_
    refine W.lcmp hx hb dX5_isNumber_10 ?_
    refine lv_if_gt (tgt := 18) hx hb dX5_isNumber_11 (by decide) (fun c6 => ?_) (fun c6 => ?_)
    · have hf := it_t ((lq_gt _ _).mp c6) hf
      exact hB18 _ (lv_sub hl [] rfl)  hf
    · have hf := it_f (fun z => c6 ((lq_gt _ _).mpr z)) hf
      refine lv_iconst (v := 1) hx hb dX5_isNumber_14 (by decide) ?_
      refine lv_goto (tgt := 19) hx hb dX5_isNumber_15 (by decide) ?_
      exact hB19 1 _ (lv_sub hl [] rfl)  hf
def f_X5_save_B83 (S : PS) (x0 : Nat) : Option PS :=
  some (sI S 83 x0 ((fI S 83 x0) + (1 : Int32)))
def f_X5_save_L51s (kL51 : PS → Nat → Int32 → Option PS) (ke83 : PS → Nat → Option PS) (S : PS) (x0 : Nat) (x1 : Int32) : Option PS :=
  if 45 ≤ x1 then (ke83 S x0) else
  rq (fR S 82 x0) S 6 fun b2 =>
  rq (fR S 81 x0) S 6 fun b4 =>
  ck (decide (¬ (x1 < 0 ∨ aN S b4 ≤ x1.toNatClampNeg))) (
  ck (decide (¬ ((((fI S 83 x0) * (45 : Int32)) + x1) < 0 ∨ aN S b2 ≤ (((fI S 83 x0) * (45 : Int32)) + x1).toNatClampNeg))) (
  kL51 (sA S b2 (((fI S 83 x0) * (45 : Int32)) + x1) (aI S b4 x1.toNatClampNeg)) x0 (x1 + 1)))
def f_X5_save_L51 (ke83 : PS → Nat → Option PS) (fu : Nat) : PS → Nat → Int32 → Option PS := fx (fun kL => f_X5_save_L51s kL ke83) (fun _ _ _ => none) fu
def f_X5_save_B49 (S : PS) (x0 : Nat) : Option PS :=
  f_X5_save_L51 f_X5_save_B83 FU S x0 0
def f_X5_save_B39 (S : PS) (x0 : Nat) : Option PS :=
  f_X5_save_B49 (sI S 83 x0 ((fI S 83 x0) - (1 : Int32))) x0
def f_X5_save_L11s (kL11 : PS → Nat → Int32 → Option PS) (ke39 : PS → Nat → Option PS) (S : PS) (x0 : Nat) (x1 : Int32) : Option PS :=
  if 225 ≤ x1 then (ke39 S x0) else
  rq (fR S 82 x0) S 6 fun b9 =>
  rq (fR S 82 x0) S 6 fun b11 =>
  ck (decide (¬ ((x1 + (45 : Int32)) < 0 ∨ aN S b11 ≤ (x1 + (45 : Int32)).toNatClampNeg))) (
  ck (decide (¬ (x1 < 0 ∨ aN S b9 ≤ x1.toNatClampNeg))) (
  kL11 (sA S b9 x1 (aI S b11 (x1 + (45 : Int32)).toNatClampNeg)) x0 (x1 + 1)))
def f_X5_save_L11 (ke39 : PS → Nat → Option PS) (fu : Nat) : PS → Nat → Int32 → Option PS := fx (fun kL => f_X5_save_L11s kL ke39) (fun _ _ _ => none) fu
def f_X5_save (S : PS) (x0 : Nat) : Option PS :=
  if (fI S 83 x0) = 6 then (f_X5_save_L11 f_X5_save_B39 FU S x0 0) else
  f_X5_save_B49 S x0
set_option maxHeartbeats 4000000 in
set_option maxRecDepth 100000 in
theorem c_X5_save (l : Launch) (D : va_G) (cy : cyT) {S : PS} {n : Nat} {y0 : Nat} (v_y0 : vd S y0 5) {res : PS} (hf : f_X5_save S y0 = some res) : Met l yX5_save wsX5_save ({ frames := 0, cells := 0, slots := 0, locals := 0 } : Room) (PcW False D cy S n [.ref y0]) (va_Qv (fun (u : PS × Nat) => u = (res, n)) (BW D cy S n) (AA cy S n)) 0 0 (AA cy S n) := by
  refine Met.ofW (cc := cX5_save) (maxL := 2) (ret := none) (by decide) rfl ?_
  intro p e s m args below meth c s₁ B hml hv
  obtain ⟨hav, hsz, hP0, hD0, hK, hZ0⟩ := hv
  have hx := B.exec
  have hb := B.bytes
  have hr := B.returns
  have hts := atoms_spec (ws := wsX5_save) B.pre
  have hown : s.vm.findClass RX5 = some m.cls := findClass_of_methodNamed B.named
  have hlocks := B.notSynchronized
  subst hav
  have hw : Hw D cy (AA cy S n) s.heap S n s.heap [] := Hw.start hsz hP0 hD0
  have hA : ∀ q, s.heap.size ≤ q → AA cy S n q := fun q h => Or.inr (hsz ▸ h)
  have hE : EX S S := EX.rf
  have F : CallFix p m c cX5_save 2 s _ wsX5_save RX5 := ⟨hx, hb, hml, hown, hts⟩
  have hB83 : ∀ (Sb : PS) (H1 : Heap) (lo1 : List Loc) (x0 : Nat) (ls : Array Slot), lv_has ls 2 [(0, .ref x0)] → Hw D cy (AA cy S n) s.heap Sb n H1 lo1 → EX S Sb → vd Sb x0 5 → f_X5_save_B83 Sb x0 = some res → W p l e (headSpec wsX5_save ({ frames := 0, cells := 0, slots := 0, locals := 0 } : Room)).room s m ([.ref y0] : List Value).toArray below meth c H1 lo1 0 0 (MQ below (va_Qv (fun (u : PS × Nat) => u = (res, n)) (BW D cy S n) (AA cy S n)) ([.ref y0] : List Value).toArray s 0 0 (AA cy S n)) (F0 m 83 ls []) := by
    intro Sb H1 lo1 x0 ls hl hw hE v_x0 hf
    unfold f_X5_save_B83 at hf
    refine lv_aload_n hx hb dX5_save_83 rfl (lv_at hl 0 rfl) ?_
    refine lv_dup hx hb dX5_save_84 rfl ?_
    refine q_get F hK hw.1 v_x0.1 (pF_5 (S := Sb) v_x0.2) (fun w h => List.mem_cons_of_mem _ (List.mem_append_right _ h)) rfl 3 (by decide) (hts (.fieldLink RX5 32 "SharedModuliModel" "savedMany" "I") (List.mem_of_getElem? (i := 1) rfl)) (v := .int (fI Sb 83 x0)) rfl dX5_save_85 ?_
    refine lv_iconst (v := 1) hx hb dX5_save_88 (by decide) ?_
    refine lv_iadd hx hb dX5_save_89 ?_
    refine q_put F hK hw v_x0.1 (pF_5 (S := Sb) v_x0.2) (fun w h => List.mem_cons_of_mem _ (List.mem_append_right _ h)) tyX5 tyX5_ok nmX5 rfl 3 (by decide) (hts (.fieldLink RX5 32 "SharedModuliModel" "savedMany" "I") (List.mem_of_getElem? (i := 1) rfl)) (Or.inl rfl) (tyX5_ok 3 (by decide)) rfl rfl (Nat.le_of_ble_eq_true rfl) (S1 := sI Sb 83 x0 ((fI Sb 83 x0) + (1 : Int32))) (st_83 (S := Sb) v_x0.2 ((fI Sb 83 x0) + (1 : Int32))) dX5_save_90 (fun H locs hw => ?_)
    exact W.vret hx hb hr (fun t ht hW => ⟨⟨(sI Sb 83 x0 ((fI Sb 83 x0) + (1 : Int32)), n), rfl, po1 hf, BW.of hw hE ht⟩, hw.2.2.1.F ht⟩) hw.2.2.1.2.2 dX5_save_93
  have hL51 : ∀ (fu51 : Nat), ∀ (Sb : PS) (H1 : Heap) (lo1 : List Loc) (x0 : Nat) (x1 : Int32) (ls : Array Slot), lv_has ls 2 [(0, .ref x0), (1, .int x1)] → Hw D cy (AA cy S n) s.heap Sb n H1 lo1 → EX S Sb → vd Sb x0 5 → f_X5_save_L51 f_X5_save_B83 fu51 Sb x0 x1 = some res → W p l e (headSpec wsX5_save ({ frames := 0, cells := 0, slots := 0, locals := 0 } : Room)).room s m ([.ref y0] : List Value).toArray below meth c H1 lo1 0 0 (MQ below (va_Qv (fun (u : PS × Nat) => u = (res, n)) (BW D cy S n) (AA cy S n)) ([.ref y0] : List Value).toArray s 0 0 (AA cy S n)) (F0 m 51 ls []) := by
    intro fu51
    induction fu51 with
    | zero =>
      intro Sb H1 lo1 x0 x1 ls hl hw hE v_x0 hf
      have hf : (none : Option PS) = some res := hf
      cases hf
    | succ fu51 ih51 =>
      intro Sb H1 lo1 x0 x1 ls hl hw hE v_x0 hf
      have hf : f_X5_save_L51s (f_X5_save_L51 f_X5_save_B83 fu51) f_X5_save_B83 Sb x0 x1 = some res := hf
      unfold f_X5_save_L51s at hf
      refine lv_iload_n hx hb dX5_save_51 rfl (lv_at hl 1 rfl) ?_
      refine lv_bipush (v := 45) hx hb dX5_save_52 (by decide) ?_
      refine lv_icmp_ge (tgt := 83) hx hb dX5_save_54 (by decide) (fun c16 => ?_) (fun c16 => ?_)
      · have hf := it_t c16 hf
        exact hB83 Sb _ _ x0 _ (lv_sub hl [0] rfl) hw hE v_x0 hf
      · have hf := it_f c16 hf
        refine lv_aload_n hx hb dX5_save_57 rfl (lv_at hl 0 rfl) ?_
        obtain ⟨b17, e18, v_b17, hf⟩ := rq_some hf
        refine q_get F hK hw.1 v_x0.1 (pF_5 (S := Sb) v_x0.2) (fun w h => List.mem_cons_of_mem _ (List.mem_append_right _ h)) rfl 2 (by decide) (hts (.fieldLink RX5 13 "SharedModuliModel" "saved" "[I") (List.mem_of_getElem? (i := 2) rfl)) (v := .ref b17) (congrArg (fun z => some (va_rf z)) e18) dX5_save_58 ?_
        refine lv_aload_n hx hb dX5_save_61 rfl (lv_at hl 0 rfl) ?_
        refine q_get F hK hw.1 v_x0.1 (pF_5 (S := Sb) v_x0.2) (fun w h => List.mem_cons_of_mem _ (List.mem_append_right _ h)) rfl 3 (by decide) (hts (.fieldLink RX5 32 "SharedModuliModel" "savedMany" "I") (List.mem_of_getElem? (i := 1) rfl)) (v := .int (fI Sb 83 x0)) rfl dX5_save_62 ?_
        refine lv_bipush (v := 45) hx hb dX5_save_65 (by decide) ?_
        refine lv_imul hx hb dX5_save_67 ?_
        refine lv_iload_n hx hb dX5_save_68 rfl (lv_at hl 1 rfl) ?_
        refine lv_iadd hx hb dX5_save_69 ?_
        refine lv_aload_n hx hb dX5_save_70 rfl (lv_at hl 0 rfl) ?_
        obtain ⟨b19, e20, v_b19, hf⟩ := rq_some hf
        refine q_get F hK hw.1 v_x0.1 (pF_5 (S := Sb) v_x0.2) (fun w h => List.mem_cons_of_mem _ (List.mem_append_right _ h)) rfl 1 (by decide) (hts (.fieldLink RX5 7 "SharedModuliModel" "z" "[I") (List.mem_of_getElem? (i := 3) rfl)) (v := .ref b19) (congrArg (fun z => some (va_rf z)) e20) dX5_save_71 ?_
        refine lv_iload_n hx hb dX5_save_74 rfl (lv_at hl 1 rfl) ?_
        obtain ⟨c21, hf⟩ := ckd_some hf
        refine q_iald F hK hw.1 v_b19 c21 dX5_save_75 ?_
        obtain ⟨c22, hf⟩ := ckd_some hf
        refine q_iast F hK hw v_b17 c22 dX5_save_76 (fun H locs hw => ?_)
        refine lv_iinc (v := x1 + 1) (lv' := [(1, .int (x1 + 1)), (0, .ref x0)]) hx hb dX5_save_77 hl (k := 1) rfl (by rfl) (by decide) rfl (fun ls hl => ?_)
        refine lv_goto (tgt := 51) hx hb dX5_save_80 (by decide) ?_
        exact ih51 (sA Sb b17 (((fI Sb 83 x0) * (45 : Int32)) + x1) (aI Sb b19 x1.toNatClampNeg)) _ _ x0 (x1 + 1) _ (lv_sub hl [1, 0] rfl) hw hE v_x0 hf
  have hB49 : ∀ (Sb : PS) (H1 : Heap) (lo1 : List Loc) (x0 : Nat) (ls : Array Slot), lv_has ls 2 [(0, .ref x0)] → Hw D cy (AA cy S n) s.heap Sb n H1 lo1 → EX S Sb → vd Sb x0 5 → f_X5_save_B49 Sb x0 = some res → W p l e (headSpec wsX5_save ({ frames := 0, cells := 0, slots := 0, locals := 0 } : Room)).room s m ([.ref y0] : List Value).toArray below meth c H1 lo1 0 0 (MQ below (va_Qv (fun (u : PS × Nat) => u = (res, n)) (BW D cy S n) (AA cy S n)) ([.ref y0] : List Value).toArray s 0 0 (AA cy S n)) (F0 m 49 ls []) := by
    intro Sb H1 lo1 x0 ls hl hw hE v_x0 hf
    unfold f_X5_save_B49 at hf
    refine lv_iconst (v := 0) hx hb dX5_save_49 (by decide) ?_
    refine lv_istore_n (lv' := [(1, .int 0), (0, .ref x0)]) hx hb dX5_save_50 rfl hl (by decide) rfl (fun ls hl => ?_)
    exact hL51 FU Sb _ _ x0 0 _ (lv_sub hl [1, 0] rfl) hw hE v_x0 hf
  have hB39 : ∀ (Sb : PS) (H1 : Heap) (lo1 : List Loc) (x0 : Nat) (ls : Array Slot), lv_has ls 2 [(0, .ref x0)] → Hw D cy (AA cy S n) s.heap Sb n H1 lo1 → EX S Sb → vd Sb x0 5 → f_X5_save_B39 Sb x0 = some res → W p l e (headSpec wsX5_save ({ frames := 0, cells := 0, slots := 0, locals := 0 } : Room)).room s m ([.ref y0] : List Value).toArray below meth c H1 lo1 0 0 (MQ below (va_Qv (fun (u : PS × Nat) => u = (res, n)) (BW D cy S n) (AA cy S n)) ([.ref y0] : List Value).toArray s 0 0 (AA cy S n)) (F0 m 39 ls []) := by
    intro Sb H1 lo1 x0 ls hl hw hE v_x0 hf
    unfold f_X5_save_B39 at hf
    refine lv_aload_n hx hb dX5_save_39 rfl (lv_at hl 0 rfl) ?_
    refine lv_dup hx hb dX5_save_40 rfl ?_
    refine q_get F hK hw.1 v_x0.1 (pF_5 (S := Sb) v_x0.2) (fun w h => List.mem_cons_of_mem _ (List.mem_append_right _ h)) rfl 3 (by decide) (hts (.fieldLink RX5 32 "SharedModuliModel" "savedMany" "I") (List.mem_of_getElem? (i := 1) rfl)) (v := .int (fI Sb 83 x0)) rfl dX5_save_41 ?_
    refine lv_iconst (v := 1) hx hb dX5_save_44 (by decide) ?_
    refine lv_isub hx hb dX5_save_45 ?_
    refine q_put F hK hw v_x0.1 (pF_5 (S := Sb) v_x0.2) (fun w h => List.mem_cons_of_mem _ (List.mem_append_right _ h)) tyX5 tyX5_ok nmX5 rfl 3 (by decide) (hts (.fieldLink RX5 32 "SharedModuliModel" "savedMany" "I") (List.mem_of_getElem? (i := 1) rfl)) (Or.inl rfl) (tyX5_ok 3 (by decide)) rfl rfl (Nat.le_of_ble_eq_true rfl) (S1 := sI Sb 83 x0 ((fI Sb 83 x0) - (1 : Int32))) (st_83 (S := Sb) v_x0.2 ((fI Sb 83 x0) - (1 : Int32))) dX5_save_46 (fun H locs hw => ?_)
    exact hB49 (sI Sb 83 x0 ((fI Sb 83 x0) - (1 : Int32))) _ _ x0 _ (lv_sub hl [0] rfl) hw hE v_x0 hf
  have hL11 : ∀ (fu11 : Nat), ∀ (Sb : PS) (H1 : Heap) (lo1 : List Loc) (x0 : Nat) (x1 : Int32) (ls : Array Slot), lv_has ls 2 [(0, .ref x0), (1, .int x1)] → Hw D cy (AA cy S n) s.heap Sb n H1 lo1 → EX S Sb → vd Sb x0 5 → f_X5_save_L11 f_X5_save_B39 fu11 Sb x0 x1 = some res → W p l e (headSpec wsX5_save ({ frames := 0, cells := 0, slots := 0, locals := 0 } : Room)).room s m ([.ref y0] : List Value).toArray below meth c H1 lo1 0 0 (MQ below (va_Qv (fun (u : PS × Nat) => u = (res, n)) (BW D cy S n) (AA cy S n)) ([.ref y0] : List Value).toArray s 0 0 (AA cy S n)) (F0 m 11 ls []) := by
    intro fu11
    induction fu11 with
    | zero =>
      intro Sb H1 lo1 x0 x1 ls hl hw hE v_x0 hf
      have hf : (none : Option PS) = some res := hf
      cases hf
    | succ fu11 ih11 =>
      intro Sb H1 lo1 x0 x1 ls hl hw hE v_x0 hf
      have hf : f_X5_save_L11s (f_X5_save_L11 f_X5_save_B39 fu11) f_X5_save_B39 Sb x0 x1 = some res := hf
      unfold f_X5_save_L11s at hf
      refine lv_iload_n hx hb dX5_save_11 rfl (lv_at hl 1 rfl) ?_
      refine lv_sipush (v := 225) hx hb dX5_save_12 (by decide) ?_
      refine lv_icmp_ge (tgt := 39) hx hb dX5_save_15 (by decide) (fun c23 => ?_) (fun c23 => ?_)
      · have hf := it_t c23 hf
        exact hB39 Sb _ _ x0 _ (lv_sub hl [0] rfl) hw hE v_x0 hf
      · have hf := it_f c23 hf
        refine lv_aload_n hx hb dX5_save_18 rfl (lv_at hl 0 rfl) ?_
        obtain ⟨b24, e25, v_b24, hf⟩ := rq_some hf
        refine q_get F hK hw.1 v_x0.1 (pF_5 (S := Sb) v_x0.2) (fun w h => List.mem_cons_of_mem _ (List.mem_append_right _ h)) rfl 2 (by decide) (hts (.fieldLink RX5 13 "SharedModuliModel" "saved" "[I") (List.mem_of_getElem? (i := 2) rfl)) (v := .ref b24) (congrArg (fun z => some (va_rf z)) e25) dX5_save_19 ?_
        refine lv_iload_n hx hb dX5_save_22 rfl (lv_at hl 1 rfl) ?_
        refine lv_aload_n hx hb dX5_save_23 rfl (lv_at hl 0 rfl) ?_
        obtain ⟨b26, e27, v_b26, hf⟩ := rq_some hf
        refine q_get F hK hw.1 v_x0.1 (pF_5 (S := Sb) v_x0.2) (fun w h => List.mem_cons_of_mem _ (List.mem_append_right _ h)) rfl 2 (by decide) (hts (.fieldLink RX5 13 "SharedModuliModel" "saved" "[I") (List.mem_of_getElem? (i := 2) rfl)) (v := .ref b26) (congrArg (fun z => some (va_rf z)) e27) dX5_save_24 ?_
        refine lv_iload_n hx hb dX5_save_27 rfl (lv_at hl 1 rfl) ?_
        refine lv_bipush (v := 45) hx hb dX5_save_28 (by decide) ?_
        refine lv_iadd hx hb dX5_save_30 ?_
        obtain ⟨c28, hf⟩ := ckd_some hf
        refine q_iald F hK hw.1 v_b26 c28 dX5_save_31 ?_
        obtain ⟨c29, hf⟩ := ckd_some hf
        refine q_iast F hK hw v_b24 c29 dX5_save_32 (fun H locs hw => ?_)
        refine lv_iinc (v := x1 + 1) (lv' := [(1, .int (x1 + 1)), (0, .ref x0)]) hx hb dX5_save_33 hl (k := 1) rfl (by rfl) (by decide) rfl (fun ls hl => ?_)
        refine lv_goto (tgt := 11) hx hb dX5_save_36 (by decide) ?_
        exact ih11 (sA Sb b24 x1 (aI Sb b26 (x1 + (45 : Int32)).toNatClampNeg)) _ _ x0 (x1 + 1) _ (lv_sub hl [1, 0] rfl) hw hE v_x0 hf
  have hl := lv_entry ([.ref y0]) (n := 2) (Nat.le_of_ble_eq_true rfl)
  rw [lg_entry_eq]
  generalize (lg_sl ([.ref y0]) ++ List.replicate (2 - (lg_sl ([.ref y0])).length) Slot.unset).toArray = ls at hl ⊢
  have hl : lv_has ls 2 [(0, .ref y0)] := hl
  unfold f_X5_save at hf
  refine lv_aload_n hx hb dX5_save_0 rfl (lv_at hl 0 rfl) ?_
  refine q_get F hK hw.1 v_y0.1 (pF_5 (S := S) v_y0.2) (fun w h => List.mem_cons_of_mem _ (List.mem_append_right _ h)) rfl 3 (by decide) (hts (.fieldLink RX5 32 "SharedModuliModel" "savedMany" "I") (List.mem_of_getElem? (i := 1) rfl)) (v := .int (fI S 83 y0)) rfl dX5_save_1 ?_
  refine lv_bipush (v := 6) hx hb dX5_save_4 (by decide) ?_
  refine lv_icmp_ne (tgt := 49) hx hb dX5_save_6 (by decide) (fun c30 => ?_) (fun c30 => ?_)
  · have hf := it_f c30 hf
    exact hB49 S _ _ y0 _ (lv_sub hl [0] rfl) hw hE v_y0 hf
  · have hf := it_t c30 hf
    refine lv_iconst (v := 0) hx hb dX5_save_9 (by decide) ?_
    refine lv_istore_n (lv' := [(1, .int 0), (0, .ref y0)]) hx hb dX5_save_10 rfl hl (by decide) rfl (fun ls hl => ?_)
    exact hL11 FU S _ _ y0 0 _ (lv_sub hl [1, 0] rfl) hw hE v_y0 hf
def f_X5_undo_B69 (S : PS) (x0 : Nat) : Option (Int32 × PS) :=
  some ((fI S 83 x0), S)
def f_X5_undo_L37s (kL37 : PS → Nat → Int32 → Option (Int32 × PS)) (ke69 : PS → Nat → Option (Int32 × PS)) (S : PS) (x0 : Nat) (x1 : Int32) : Option (Int32 × PS) :=
  if 45 ≤ x1 then (ke69 S x0) else
  rq (fR S 81 x0) S 6 fun b2 =>
  rq (fR S 82 x0) S 6 fun b4 =>
  ck (decide (¬ ((((fI S 83 x0) * (45 : Int32)) + x1) < 0 ∨ aN S b4 ≤ (((fI S 83 x0) * (45 : Int32)) + x1).toNatClampNeg))) (
  ck (decide (¬ (x1 < 0 ∨ aN S b2 ≤ x1.toNatClampNeg))) (
  kL37 (sA S b2 x1 (aI S b4 (((fI S 83 x0) * (45 : Int32)) + x1).toNatClampNeg)) x0 (x1 + 1)))
def f_X5_undo_L37 (ke69 : PS → Nat → Option (Int32 × PS)) (fu : Nat) : PS → Nat → Int32 → Option (Int32 × PS) := fx (fun kL => f_X5_undo_L37s kL ke69) (fun _ _ _ => none) fu
def f_X5_undo_B13 (S : PS) (x0 : Nat) (s0 : Nat) (s1 : Int32) : Option (Int32 × PS) :=
  if (fI (sI S 80 s0 s1) 80 x0) ≤ 0 then (f_X5_undo_L37 f_X5_undo_B69 FU (sI (sI S 80 s0 s1) 83 x0 ((fI (sI S 80 s0 s1) 83 x0) - (1 : Int32))) x0 0) else
  some (0, sI S 80 s0 s1)
def f_X5_undo (S : PS) (x0 : Nat) : Option (Int32 × PS) :=
  if (fI S 83 x0) = 0 then (f_X5_undo_B13 S x0 x0 1) else
  f_X5_undo_B13 S x0 x0 0
set_option maxHeartbeats 4000000 in
set_option maxRecDepth 100000 in
theorem c_X5_undo (l : Launch) (D : va_G) (cy : cyT) {S : PS} {n : Nat} {y0 : Nat} (v_y0 : vd S y0 5) {res : Int32 × PS} (hf : f_X5_undo S y0 = some res) : Met l yX5_undo wsX5_undo ({ frames := 0, cells := 0, slots := 0, locals := 0 } : Room) (PcW False D cy S n [.ref y0]) (va_Qi (fun (r : Int32) (u : PS × Nat) => r = res.1 ∧ u = (res.2, n)) (BW D cy S n) (AA cy S n)) 0 0 (AA cy S n) := by
  refine Met.ofW (cc := cX5_undo) (maxL := 2) (ret := (some .int)) (by decide) rfl ?_
  intro p e s m args below meth c s₁ B hml hv
  obtain ⟨hav, hsz, hP0, hD0, hK, hZ0⟩ := hv
  have hx := B.exec
  have hb := B.bytes
  have hr := B.returns
  have hts := atoms_spec (ws := wsX5_undo) B.pre
  have hown : s.vm.findClass RX5 = some m.cls := findClass_of_methodNamed B.named
  have hlocks := B.notSynchronized
  subst hav
  have hw : Hw D cy (AA cy S n) s.heap S n s.heap [] := Hw.start hsz hP0 hD0
  have hA : ∀ q, s.heap.size ≤ q → AA cy S n q := fun q h => Or.inr (hsz ▸ h)
  have hE : EX S S := EX.rf
  have F : CallFix p m c cX5_undo 2 s _ wsX5_undo RX5 := ⟨hx, hb, hml, hown, hts⟩
  have hB69 : ∀ (Sb : PS) (H1 : Heap) (lo1 : List Loc) (x0 : Nat) (ls : Array Slot), lv_has ls 2 [(0, .ref x0)] → Hw D cy (AA cy S n) s.heap Sb n H1 lo1 → EX S Sb → vd Sb x0 5 → f_X5_undo_B69 Sb x0 = some res → W p l e (headSpec wsX5_undo ({ frames := 0, cells := 0, slots := 0, locals := 0 } : Room)).room s m ([.ref y0] : List Value).toArray below meth c H1 lo1 0 0 (MQ below (va_Qi (fun (r : Int32) (u : PS × Nat) => r = res.1 ∧ u = (res.2, n)) (BW D cy S n) (AA cy S n)) ([.ref y0] : List Value).toArray s 0 0 (AA cy S n)) (F0 m 69 ls []) := by
    intro Sb H1 lo1 x0 ls hl hw hE v_x0 hf
    unfold f_X5_undo_B69 at hf
    refine lv_aload_n hx hb dX5_undo_69 rfl (lv_at hl 0 rfl) ?_
    refine q_get F hK hw.1 v_x0.1 (pF_5 (S := Sb) v_x0.2) (fun w h => List.mem_cons_of_mem _ (List.mem_append_right _ h)) rfl 3 (by decide) (hts (.fieldLink RX5 32 "SharedModuliModel" "savedMany" "I") (List.mem_of_getElem? (i := 1) rfl)) (v := .int (fI Sb 83 x0)) rfl dX5_undo_70 ?_
    exact W.iret (v := (fI Sb 83 x0)) hx hb hr (fun t ht hW => ⟨⟨_, (Sb, n), rfl, po2 hf, BW.of hw hE ht⟩, hw.2.2.1.F ht⟩) hw.2.2.1.2.2 dX5_undo_73
  have hL37 : ∀ (fu37 : Nat), ∀ (Sb : PS) (H1 : Heap) (lo1 : List Loc) (x0 : Nat) (x1 : Int32) (ls : Array Slot), lv_has ls 2 [(0, .ref x0), (1, .int x1)] → Hw D cy (AA cy S n) s.heap Sb n H1 lo1 → EX S Sb → vd Sb x0 5 → f_X5_undo_L37 f_X5_undo_B69 fu37 Sb x0 x1 = some res → W p l e (headSpec wsX5_undo ({ frames := 0, cells := 0, slots := 0, locals := 0 } : Room)).room s m ([.ref y0] : List Value).toArray below meth c H1 lo1 0 0 (MQ below (va_Qi (fun (r : Int32) (u : PS × Nat) => r = res.1 ∧ u = (res.2, n)) (BW D cy S n) (AA cy S n)) ([.ref y0] : List Value).toArray s 0 0 (AA cy S n)) (F0 m 37 ls []) := by
    intro fu37
    induction fu37 with
    | zero =>
      intro Sb H1 lo1 x0 x1 ls hl hw hE v_x0 hf
      have hf : (none : Option (Int32 × PS)) = some res := hf
      cases hf
    | succ fu37 ih37 =>
      intro Sb H1 lo1 x0 x1 ls hl hw hE v_x0 hf
      have hf : f_X5_undo_L37s (f_X5_undo_L37 f_X5_undo_B69 fu37) f_X5_undo_B69 Sb x0 x1 = some res := hf
      unfold f_X5_undo_L37s at hf
      refine lv_iload_n hx hb dX5_undo_37 rfl (lv_at hl 1 rfl) ?_
      refine lv_bipush (v := 45) hx hb dX5_undo_38 (by decide) ?_
      refine lv_icmp_ge (tgt := 69) hx hb dX5_undo_40 (by decide) (fun c10 => ?_) (fun c10 => ?_)
      · have hf := it_t c10 hf
        exact hB69 Sb _ _ x0 _ (lv_sub hl [0] rfl) hw hE v_x0 hf
      · have hf := it_f c10 hf
        refine lv_aload_n hx hb dX5_undo_43 rfl (lv_at hl 0 rfl) ?_
        obtain ⟨b11, e12, v_b11, hf⟩ := rq_some hf
        refine q_get F hK hw.1 v_x0.1 (pF_5 (S := Sb) v_x0.2) (fun w h => List.mem_cons_of_mem _ (List.mem_append_right _ h)) rfl 1 (by decide) (hts (.fieldLink RX5 7 "SharedModuliModel" "z" "[I") (List.mem_of_getElem? (i := 3) rfl)) (v := .ref b11) (congrArg (fun z => some (va_rf z)) e12) dX5_undo_44 ?_
        refine lv_iload_n hx hb dX5_undo_47 rfl (lv_at hl 1 rfl) ?_
        refine lv_aload_n hx hb dX5_undo_48 rfl (lv_at hl 0 rfl) ?_
        obtain ⟨b13, e14, v_b13, hf⟩ := rq_some hf
        refine q_get F hK hw.1 v_x0.1 (pF_5 (S := Sb) v_x0.2) (fun w h => List.mem_cons_of_mem _ (List.mem_append_right _ h)) rfl 2 (by decide) (hts (.fieldLink RX5 13 "SharedModuliModel" "saved" "[I") (List.mem_of_getElem? (i := 4) rfl)) (v := .ref b13) (congrArg (fun z => some (va_rf z)) e14) dX5_undo_49 ?_
        refine lv_aload_n hx hb dX5_undo_52 rfl (lv_at hl 0 rfl) ?_
        refine q_get F hK hw.1 v_x0.1 (pF_5 (S := Sb) v_x0.2) (fun w h => List.mem_cons_of_mem _ (List.mem_append_right _ h)) rfl 3 (by decide) (hts (.fieldLink RX5 32 "SharedModuliModel" "savedMany" "I") (List.mem_of_getElem? (i := 1) rfl)) (v := .int (fI Sb 83 x0)) rfl dX5_undo_53 ?_
        refine lv_bipush (v := 45) hx hb dX5_undo_56 (by decide) ?_
        refine lv_imul hx hb dX5_undo_58 ?_
        refine lv_iload_n hx hb dX5_undo_59 rfl (lv_at hl 1 rfl) ?_
        refine lv_iadd hx hb dX5_undo_60 ?_
        obtain ⟨c15, hf⟩ := ckd_some hf
        refine q_iald F hK hw.1 v_b13 c15 dX5_undo_61 ?_
        obtain ⟨c16, hf⟩ := ckd_some hf
        refine q_iast F hK hw v_b11 c16 dX5_undo_62 (fun H locs hw => ?_)
        refine lv_iinc (v := x1 + 1) (lv' := [(1, .int (x1 + 1)), (0, .ref x0)]) hx hb dX5_undo_63 hl (k := 1) rfl (by rfl) (by decide) rfl (fun ls hl => ?_)
        refine lv_goto (tgt := 37) hx hb dX5_undo_66 (by decide) ?_
        exact ih37 (sA Sb b11 x1 (aI Sb b13 (((fI Sb 83 x0) * (45 : Int32)) + x1).toNatClampNeg)) _ _ x0 (x1 + 1) _ (lv_sub hl [1, 0] rfl) hw hE v_x0 hf
  have hB13 : ∀ (Sb : PS) (H1 : Heap) (lo1 : List Loc) (x0 : Nat) (s0 : Nat) (s1 : Int32) (ls : Array Slot), lv_has ls 2 [(0, .ref x0)] → Hw D cy (AA cy S n) s.heap Sb n H1 lo1 → EX S Sb → vd Sb x0 5 → vd Sb s0 5 → f_X5_undo_B13 Sb x0 s0 s1 = some res → W p l e (headSpec wsX5_undo ({ frames := 0, cells := 0, slots := 0, locals := 0 } : Room)).room s m ([.ref y0] : List Value).toArray below meth c H1 lo1 0 0 (MQ below (va_Qi (fun (r : Int32) (u : PS × Nat) => r = res.1 ∧ u = (res.2, n)) (BW D cy S n) (AA cy S n)) ([.ref y0] : List Value).toArray s 0 0 (AA cy S n)) (F0 m 13 ls [.int s1, .ref s0]) := by
    intro Sb H1 lo1 x0 s0 s1 ls hl hw hE v_x0 v_s0 hf
    unfold f_X5_undo_B13 at hf
    refine q_put F hK hw v_s0.1 (pF_5 (S := Sb) v_s0.2) (fun w h => List.mem_cons_of_mem _ (List.mem_append_right _ h)) tyX5 tyX5_ok nmX5 rfl 0 (by decide) (hts (.fieldLink RX5 22 "SharedModuliModel" "thrown" "I") (List.mem_of_getElem? (i := 2) rfl)) (Or.inl rfl) (tyX5_ok 0 (by decide)) rfl rfl (Nat.le_of_ble_eq_true rfl) (S1 := sI Sb 80 s0 s1) (st_80 (S := Sb) v_s0.2 s1) dX5_undo_13 (fun H locs hw => ?_)
    refine lv_aload_n hx hb dX5_undo_16 rfl (lv_at hl 0 rfl) ?_
    refine q_get F hK hw.1 v_x0.1 (pF_5 (S := sI Sb 80 s0 s1) v_x0.2) (fun w h => List.mem_cons_of_mem _ (List.mem_append_right _ h)) rfl 0 (by decide) (hts (.fieldLink RX5 22 "SharedModuliModel" "thrown" "I") (List.mem_of_getElem? (i := 2) rfl)) (v := .int (fI (sI Sb 80 s0 s1) 80 x0)) rfl dX5_undo_17 ?_
    refine lv_if_le (tgt := 25) hx hb dX5_undo_20 (by decide) (fun c17 => ?_) (fun c17 => ?_)
    · have hf := it_t c17 hf
      refine lv_aload_n hx hb dX5_undo_25 rfl (lv_at hl 0 rfl) ?_
      refine lv_dup hx hb dX5_undo_26 rfl ?_
      refine q_get F hK hw.1 v_x0.1 (pF_5 (S := sI Sb 80 s0 s1) v_x0.2) (fun w h => List.mem_cons_of_mem _ (List.mem_append_right _ h)) rfl 3 (by decide) (hts (.fieldLink RX5 32 "SharedModuliModel" "savedMany" "I") (List.mem_of_getElem? (i := 1) rfl)) (v := .int (fI (sI Sb 80 s0 s1) 83 x0)) rfl dX5_undo_27 ?_
      refine lv_iconst (v := 1) hx hb dX5_undo_30 (by decide) ?_
      refine lv_isub hx hb dX5_undo_31 ?_
      refine q_put F hK hw v_x0.1 (pF_5 (S := sI Sb 80 s0 s1) v_x0.2) (fun w h => List.mem_cons_of_mem _ (List.mem_append_right _ h)) tyX5 tyX5_ok nmX5 rfl 3 (by decide) (hts (.fieldLink RX5 32 "SharedModuliModel" "savedMany" "I") (List.mem_of_getElem? (i := 1) rfl)) (Or.inl rfl) (tyX5_ok 3 (by decide)) rfl rfl (Nat.le_of_ble_eq_true rfl) (S1 := sI (sI Sb 80 s0 s1) 83 x0 ((fI (sI Sb 80 s0 s1) 83 x0) - (1 : Int32))) (st_83 (S := sI Sb 80 s0 s1) v_x0.2 ((fI (sI Sb 80 s0 s1) 83 x0) - (1 : Int32))) dX5_undo_32 (fun H locs hw => ?_)
      refine lv_iconst (v := 0) hx hb dX5_undo_35 (by decide) ?_
      refine lv_istore_n (lv' := [(1, .int 0), (0, .ref x0)]) hx hb dX5_undo_36 rfl hl (by decide) rfl (fun ls hl => ?_)
      exact hL37 FU (sI (sI Sb 80 s0 s1) 83 x0 ((fI (sI Sb 80 s0 s1) 83 x0) - (1 : Int32))) _ _ x0 0 _ (lv_sub hl [1, 0] rfl) hw hE v_x0 hf
    · have hf := it_f c17 hf
      refine lv_iconst (v := 0) hx hb dX5_undo_23 (by decide) ?_
      exact W.iret (v := 0) hx hb hr (fun t ht hW => ⟨⟨_, (sI Sb 80 s0 s1, n), rfl, po2 hf, BW.of hw hE ht⟩, hw.2.2.1.F ht⟩) hw.2.2.1.2.2 dX5_undo_24
  have hl := lv_entry ([.ref y0]) (n := 2) (Nat.le_of_ble_eq_true rfl)
  rw [lg_entry_eq]
  generalize (lg_sl ([.ref y0]) ++ List.replicate (2 - (lg_sl ([.ref y0])).length) Slot.unset).toArray = ls at hl ⊢
  have hl : lv_has ls 2 [(0, .ref y0)] := hl
  unfold f_X5_undo at hf
  refine lv_aload_n hx hb dX5_undo_0 rfl (lv_at hl 0 rfl) ?_
  refine lv_aload_n hx hb dX5_undo_1 rfl (lv_at hl 0 rfl) ?_
  refine q_get F hK hw.1 v_y0.1 (pF_5 (S := S) v_y0.2) (fun w h => List.mem_cons_of_mem _ (List.mem_append_right _ h)) rfl 3 (by decide) (hts (.fieldLink RX5 32 "SharedModuliModel" "savedMany" "I") (List.mem_of_getElem? (i := 1) rfl)) (v := .int (fI S 83 y0)) rfl dX5_undo_2 ?_
  refine lv_if_ne (tgt := 12) hx hb dX5_undo_5 (by decide) (fun c18 => ?_) (fun c18 => ?_)
  · have hf := it_f c18 hf
    refine lv_iconst (v := 0) hx hb dX5_undo_12 (by decide) ?_
    exact hB13 S _ _ y0 y0 0 _ (lv_sub hl [0] rfl) hw hE v_y0 v_y0 hf
  · have hf := it_t c18 hf
    refine lv_iconst (v := 1) hx hb dX5_undo_8 (by decide) ?_
    refine lv_goto (tgt := 13) hx hb dX5_undo_9 (by decide) ?_
    exact hB13 S _ _ y0 y0 1 _ (lv_sub hl [0] rfl) hw hE v_y0 v_y0 hf
def f_X5_common_B21 (x2 : Int32) : Option Int32 :=
  some x2
def f_X5_common_L4s (kL4 : Int32 → Int32 → Option Int32) (ke21 : Int32 → Option Int32) (x2 : Int32) (x3 : Int32) : Option Int32 :=
  if x3 ≤ 0 then (ke21 x2) else
  ck (decide (¬ x3 = 0)) (
  kL4 x3 (x2 - x2 / x3 * x3))
def f_X5_common_L4 (ke21 : Int32 → Option Int32) (fu : Nat) : Int32 → Int32 → Option Int32 := fx (fun kL => f_X5_common_L4s kL ke21) (fun _ _ => none) fu
def f_X5_common (x0 : Int32) (x1 : Int32) : Option Int32 :=
  f_X5_common_L4 f_X5_common_B21 FU x0 x1
set_option maxHeartbeats 4000000 in
set_option maxRecDepth 100000 in
theorem c_X5_common (l : Launch) (D : va_G) (cy : cyT) {H : Heap} {y0 : Int32} {y1 : Int32}  {res : Int32} (hf : f_X5_common y0 y1 = some res) : Met l yX5_common wsX5_common ({ frames := 0, cells := 0, slots := 0, locals := 0 } : Room) (PcR D cy H [.int y0, .int y1]) (vp_Si (fun r => r = res)) 0 0 (fun _ => False) := by
  refine Met.ofW (cc := cX5_common) (maxL := 5) (ret := (some .int)) (by decide) rfl ?_
  intro p e s m args below meth c s₁ B hml hv
  obtain ⟨hav, hH, hK⟩ := hv
  have hx := B.exec
  have hb := B.bytes
  have hr := B.returns
  have hts := atoms_spec (ws := wsX5_common) B.pre
  have hown : s.vm.findClass RX5 = some m.cls := findClass_of_methodNamed B.named
  have hlocks := B.notSynchronized
  subst hav
  subst hH
  have F : CallFix p m c cX5_common 5 s _ wsX5_common RX5 := ⟨hx, hb, hml, hown, hts⟩
  have hB21 : ∀ (x2 : Int32) (ls : Array Slot), lv_has ls 5 [(2, .int x2)] → f_X5_common_B21 x2 = some res → W p l e (headSpec wsX5_common ({ frames := 0, cells := 0, slots := 0, locals := 0 } : Room)).room s m ([.int y0, .int y1] : List Value).toArray below meth c s.heap [] 0 0 (MQ below (vp_Si (fun r => r = res)) ([.int y0, .int y1] : List Value).toArray s 0 0 (fun _ => False)) (F0 m 21 ls []) := by
    intro x2 ls hl hf
    unfold f_X5_common_B21 at hf
    refine lv_iload_n hx hb dX5_common_21 rfl (lv_at hl 0 rfl) ?_
    exact W.iret (v := x2) hx hb hr (fun t ht hW => ⟨_, rfl, Option.some.inj hf, ht⟩) (fun _ h => by cases h) dX5_common_22
  have hL4 : ∀ (fu4 : Nat), ∀ (x2 : Int32) (x3 : Int32) (ls : Array Slot), lv_has ls 5 [(2, .int x2), (3, .int x3)] → f_X5_common_L4 f_X5_common_B21 fu4 x2 x3 = some res → W p l e (headSpec wsX5_common ({ frames := 0, cells := 0, slots := 0, locals := 0 } : Room)).room s m ([.int y0, .int y1] : List Value).toArray below meth c s.heap [] 0 0 (MQ below (vp_Si (fun r => r = res)) ([.int y0, .int y1] : List Value).toArray s 0 0 (fun _ => False)) (F0 m 4 ls []) := by
    intro fu4
    induction fu4 with
    | zero =>
      intro x2 x3 ls hl hf
      have hf : (none : Option Int32) = some res := hf
      cases hf
    | succ fu4 ih4 =>
      intro x2 x3 ls hl hf
      have hf : f_X5_common_L4s (f_X5_common_L4 f_X5_common_B21 fu4) f_X5_common_B21 x2 x3 = some res := hf
      unfold f_X5_common_L4s at hf
      refine lv_iload_n hx hb dX5_common_4 rfl (lv_at hl 1 rfl) ?_
      refine lv_if_le (tgt := 21) hx hb dX5_common_5 (by decide) (fun c3 => ?_) (fun c3 => ?_)
      · have hf := it_t c3 hf
        exact hB21 x2 _ (lv_sub hl [0] rfl)  hf
      · have hf := it_f c3 hf
        refine lv_iload_n hx hb dX5_common_8 rfl (lv_at hl 0 rfl) ?_
        refine lv_iload_n hx hb dX5_common_9 rfl (lv_at hl 1 rfl) ?_
        obtain ⟨c4, hf⟩ := ckd_some hf
        refine lv_irem hx hb dX5_common_10 c4 ?_
        refine lv_istore (lv' := [(4, .int (x2 - x2 / x3 * x3)), (2, .int x2), (3, .int x3)]) hx hb dX5_common_11 hl (by decide) rfl (fun ls hl => ?_)
        refine lv_iload_n hx hb dX5_common_13 rfl (lv_at hl 2 rfl) ?_
        refine lv_istore_n (lv' := [(2, .int x3), (4, .int (x2 - x2 / x3 * x3)), (3, .int x3)]) hx hb dX5_common_14 rfl hl (by decide) rfl (fun ls hl => ?_)
        refine lv_iload hx hb dX5_common_15 (lv_at hl 1 rfl) ?_
        refine lv_istore_n (lv' := [(3, .int (x2 - x2 / x3 * x3)), (2, .int x3), (4, .int (x2 - x2 / x3 * x3))]) hx hb dX5_common_17 rfl hl (by decide) rfl (fun ls hl => ?_)
        refine lv_goto (tgt := 4) hx hb dX5_common_18 (by decide) ?_
        exact ih4 x3 (x2 - x2 / x3 * x3) _ (lv_sub hl [1, 0] rfl)  hf
  have hl := lv_entry ([.int y0, .int y1]) (n := 5) (Nat.le_of_ble_eq_true rfl)
  rw [lg_entry_eq]
  generalize (lg_sl ([.int y0, .int y1]) ++ List.replicate (5 - (lg_sl ([.int y0, .int y1])).length) Slot.unset).toArray = ls at hl ⊢
  have hl : lv_has ls 5 [(0, .int y0), (1, .int y1)] := hl
  unfold f_X5_common at hf
  refine lv_iload_n hx hb dX5_common_0 rfl (lv_at hl 0 rfl) ?_
  refine lv_istore_n (lv' := [(2, .int y0), (0, .int y0), (1, .int y1)]) hx hb dX5_common_1 rfl hl (by decide) rfl (fun ls hl => ?_)
  refine lv_iload_n hx hb dX5_common_2 rfl (lv_at hl 2 rfl) ?_
  refine lv_istore_n (lv' := [(3, .int y1), (2, .int y0), (0, .int y0), (1, .int y1)]) hx hb dX5_common_3 rfl hl (by decide) rfl (fun ls hl => ?_)
  exact hL4 FU y0 y1 _ (lv_sub hl [1, 0] rfl)  hf
def f_X5_commonOf_B17 (s0 : Int32) : Option Int32 :=
  some s0
def f_X5_commonOf (x0 : Int64) (x2 : Int32) : Option Int32 :=
  if x2 = 0 then (f_X5_commonOf_B17 0) else
  ck (decide (¬ x2.toInt64 = 0)) (
  bd (f_X5_common x2 ((x0 - x0 / x2.toInt64 * x2.toInt64).toInt32)) fun t3 =>
  f_X5_commonOf_B17 t3)
set_option maxHeartbeats 4000000 in
set_option maxRecDepth 100000 in
theorem c_X5_commonOf (l : Launch) (D : va_G) (cy : cyT) {H : Heap} {y0 : Int64} {y2 : Int32}  {res : Int32} (hf : f_X5_commonOf y0 y2 = some res) : Met l yX5_commonOf wsX5_commonOf ({ frames := 1, cells := 0, slots := 0, locals := 24 } : Room) (PcR D cy H [.long y0, .int y2]) (vp_Si (fun r => r = res)) 0 0 (fun _ => False) := by
  refine Met.ofW (cc := cX5_commonOf) (maxL := 3) (ret := (some .int)) (by decide) rfl ?_
  intro p e s m args below meth c s₁ B hml hv
  obtain ⟨hav, hH, hK⟩ := hv
  have hx := B.exec
  have hb := B.bytes
  have hr := B.returns
  have hts := atoms_spec (ws := wsX5_commonOf) B.pre
  have hown : s.vm.findClass RX5 = some m.cls := findClass_of_methodNamed B.named
  have hlocks := B.notSynchronized
  subst hav
  subst hH
  have F : CallFix p m c cX5_commonOf 3 s _ wsX5_commonOf RX5 := ⟨hx, hb, hml, hown, hts⟩
  have hB17 : ∀ (s0 : Int32) (ls : Array Slot), lv_has ls 3 [] → f_X5_commonOf_B17 s0 = some res → W p l e (headSpec wsX5_commonOf ({ frames := 1, cells := 0, slots := 0, locals := 24 } : Room)).room s m ([.long y0, .int y2] : List Value).toArray below meth c s.heap [] 0 0 (MQ below (vp_Si (fun r => r = res)) ([.long y0, .int y2] : List Value).toArray s 0 0 (fun _ => False)) (F0 m 17 ls [.int s0]) := by
    intro s0 ls hl hf
    unfold f_X5_commonOf_B17 at hf
    exact W.iret (v := s0) hx hb hr (fun t ht hW => ⟨_, rfl, Option.some.inj hf, ht⟩) (fun _ h => by cases h) dX5_commonOf_17
  have hl := lv_entry ([.long y0, .int y2]) (n := 3) (Nat.le_of_ble_eq_true rfl)
  rw [lg_entry_eq]
  generalize (lg_sl ([.long y0, .int y2]) ++ List.replicate (3 - (lg_sl ([.long y0, .int y2])).length) Slot.unset).toArray = ls at hl ⊢
  have hl : lv_has ls 3 [(0, .long y0), (2, .int y2)] := hl
  unfold f_X5_commonOf at hf
  refine lv_iload_n hx hb dX5_commonOf_0 rfl (lv_at hl 1 rfl) ?_
  refine lv_if_ne (tgt := 8) hx hb dX5_commonOf_1 (by decide) (fun c6 => ?_) (fun c6 => ?_)
  · have hf := it_f c6 hf
    refine lv_iload_n hx hb dX5_commonOf_8 rfl (lv_at hl 1 rfl) ?_
    refine lv_lload_n hx hb dX5_commonOf_9 rfl (lv_at hl 0 rfl) ?_
    refine lv_iload_n hx hb dX5_commonOf_10 rfl (lv_at hl 1 rfl) ?_
    refine lv_i2l hx hb dX5_commonOf_11 rfl ?_
    obtain ⟨c7, hf⟩ := ckd_some hf
    refine lv_lrem hx hb dX5_commonOf_12 c7 ?_
    refine lv_l2i hx hb dX5_commonOf_13 rfl ?_
    obtain ⟨t8, h9, hf⟩ := bd_some hf
    refine vp_callSi (va_runS (As := [.int y2, .int ((y0 - y0 / y2.toInt64 * y2.toInt64).toInt32)]) (rest := []) F (c_X5_common l D cy (H := _)  h9) (va_cwS 2 hts gX5_commonOf_X5_common rfl rfl rfl ⟨ph_X5_common.1, ph_X5_common.2, pd_X5_common⟩ ⟨Nat.le_of_ble_eq_true rfl, Nat.le_of_ble_eq_true rfl⟩) ⟨PcR.bl, PcR.in hK⟩ rfl rfl hl.1 rfl (lv_room (Nat.le_of_ble_eq_true rfl)) dX5_commonOf_14 ⟨Nat.zero_le _, Nat.zero_le _⟩).run (fun r10 er10 => ?_)
    subst r10
    exact hB17 t8 _ (lv_sub hl [] rfl)  hf
  · have hf := it_t c6 hf
    refine lv_iconst (v := 0) hx hb dX5_commonOf_4 (by decide) ?_
    refine lv_goto (tgt := 17) hx hb dX5_commonOf_5 (by decide) ?_
    exact hB17 0 _ (lv_sub hl [] rfl)  hf
def f_X5_isVoid_B30 (S : PS) (s0 : Int32) : Option Int32 :=
  ck (decide (s0 &&& 1 = s0)) (
  some s0)
def f_X5_isVoid (S : PS) (x0 : Nat) (x1 : Int32) : Option Int32 :=
  bd (f_X5_of S x0 x1 1) fun t2 =>
  bd (f_X5_of S x0 x1 0) fun t5 =>
  bd (f_X5_of S x0 x1 2) fun t8 =>
  bd (f_X5_common t5 t8) fun t11 =>
  ck (decide (¬ t11 = 0)) (
  if (t2 - t2 / t11 * t11) = 0 then (f_X5_isVoid_B30 S 0) else
  f_X5_isVoid_B30 S 1)
set_option maxHeartbeats 4000000 in
set_option maxRecDepth 100000 in
theorem c_X5_isVoid (l : Launch) (D : va_G) (cy : cyT) {H : Heap} {S : PS} (hP : va_P D vwCl (wl cy S) H) {y0 : Nat} {y1 : Int32} (v_y0 : vd S y0 5) {res : Int32} (hf : f_X5_isVoid S y0 y1 = some res) : Met l yX5_isVoid wsX5_isVoid ({ frames := 1, cells := 0, slots := 0, locals := 24 } : Room) (PcR D cy H [.ref y0, .int y1]) (vp_Si (fun r => r = res)) 0 0 (fun _ => False) := by
  refine Met.ofW (cc := cX5_isVoid) (maxL := 2) (ret := (some .boolean)) (by decide) rfl ?_
  intro p e s m args below meth c s₁ B hml hv
  obtain ⟨hav, hH, hK⟩ := hv
  have hx := B.exec
  have hb := B.bytes
  have hr := B.returns
  have hts := atoms_spec (ws := wsX5_isVoid) B.pre
  have hown : s.vm.findClass RX5 = some m.cls := findClass_of_methodNamed B.named
  have hlocks := B.notSynchronized
  subst hav
  subst hH
  have F : CallFix p m c cX5_isVoid 2 s _ wsX5_isVoid RX5 := ⟨hx, hb, hml, hown, hts⟩
  have hB30 : ∀ (s0 : Int32) (ls : Array Slot), lv_has ls 2 [] → f_X5_isVoid_B30 S s0 = some res → W p l e (headSpec wsX5_isVoid ({ frames := 1, cells := 0, slots := 0, locals := 24 } : Room)).room s m ([.ref y0, .int y1] : List Value).toArray below meth c s.heap [] 0 0 (MQ below (vp_Si (fun r => r = res)) ([.ref y0, .int y1] : List Value).toArray s 0 0 (fun _ => False)) (F0 m 30 ls [.int s0]) := by
    intro s0 ls hl hf
    unfold f_X5_isVoid_B30 at hf
    obtain ⟨c16, hf⟩ := ckd_some hf
    exact W.zret (v := s0) hx hb hr (nz c16) (fun t ht hW => ⟨_, rfl, Option.some.inj hf, ht⟩) (fun _ h => by cases h) dX5_isVoid_30
  have hl := lv_entry ([.ref y0, .int y1]) (n := 2) (Nat.le_of_ble_eq_true rfl)
  rw [lg_entry_eq]
  generalize (lg_sl ([.ref y0, .int y1]) ++ List.replicate (2 - (lg_sl ([.ref y0, .int y1])).length) Slot.unset).toArray = ls at hl ⊢
  have hl : lv_has ls 2 [(0, .ref y0), (1, .int y1)] := hl
  unfold f_X5_isVoid at hf
  refine lv_aload_n hx hb dX5_isVoid_0 rfl (lv_at hl 0 rfl) ?_
  refine lv_iload_n hx hb dX5_isVoid_1 rfl (lv_at hl 1 rfl) ?_
  refine lv_iconst (v := 1) hx hb dX5_isVoid_2 (by decide) ?_
  obtain ⟨t17, h18, hf⟩ := bd_some hf
  refine vp_callSi (va_runV (As := [.int y1, .int 1]) (rest := []) F (c_X5_of l D cy (H := _) hP v_y0 h18) (cwV 2 hts gX5_isVoid_X5_of rfl rfl rfl ⟨rfl, ph_X5_of.1, ph_X5_of.2, pd_X5_of⟩ ⟨Nat.le_of_ble_eq_true rfl, Nat.le_of_ble_eq_true rfl⟩) ⟨PcR.bl, (q_rcv hK hP v_y0.1 (pF_5 (S := S) v_y0.2) rfl), PcR.in hK⟩ rfl rfl hl.1 rfl (lv_room (Nat.le_of_ble_eq_true rfl)) dX5_isVoid_3 ⟨Nat.zero_le _, Nat.zero_le _⟩).run (fun r19 er19 => ?_)
  subst r19
  refine lv_aload_n hx hb dX5_isVoid_6 rfl (lv_at hl 0 rfl) ?_
  refine lv_iload_n hx hb dX5_isVoid_7 rfl (lv_at hl 1 rfl) ?_
  refine lv_iconst (v := 0) hx hb dX5_isVoid_8 (by decide) ?_
  obtain ⟨t20, h21, hf⟩ := bd_some hf
  refine vp_callSi (va_runV (As := [.int y1, .int 0]) (rest := [.int t17]) F (c_X5_of l D cy (H := _) hP v_y0 h21) (cwV 2 hts gX5_isVoid_X5_of rfl rfl rfl ⟨rfl, ph_X5_of.1, ph_X5_of.2, pd_X5_of⟩ ⟨Nat.le_of_ble_eq_true rfl, Nat.le_of_ble_eq_true rfl⟩) ⟨PcR.bl, (q_rcv hK hP v_y0.1 (pF_5 (S := S) v_y0.2) rfl), PcR.in hK⟩ rfl rfl hl.1 rfl (lv_room (Nat.le_of_ble_eq_true rfl)) dX5_isVoid_9 ⟨Nat.zero_le _, Nat.zero_le _⟩).run (fun r22 er22 => ?_)
  subst r22
  refine lv_aload_n hx hb dX5_isVoid_12 rfl (lv_at hl 0 rfl) ?_
  refine lv_iload_n hx hb dX5_isVoid_13 rfl (lv_at hl 1 rfl) ?_
  refine lv_iconst (v := 2) hx hb dX5_isVoid_14 (by decide) ?_
  obtain ⟨t23, h24, hf⟩ := bd_some hf
  refine vp_callSi (va_runV (As := [.int y1, .int 2]) (rest := [.int t20, .int t17]) F (c_X5_of l D cy (H := _) hP v_y0 h24) (cwV 2 hts gX5_isVoid_X5_of rfl rfl rfl ⟨rfl, ph_X5_of.1, ph_X5_of.2, pd_X5_of⟩ ⟨Nat.le_of_ble_eq_true rfl, Nat.le_of_ble_eq_true rfl⟩) ⟨PcR.bl, (q_rcv hK hP v_y0.1 (pF_5 (S := S) v_y0.2) rfl), PcR.in hK⟩ rfl rfl hl.1 rfl (lv_room (Nat.le_of_ble_eq_true rfl)) dX5_isVoid_15 ⟨Nat.zero_le _, Nat.zero_le _⟩).run (fun r25 er25 => ?_)
  subst r25
  obtain ⟨t26, h27, hf⟩ := bd_some hf
  refine vp_callSi (va_runS (As := [.int t20, .int t23]) (rest := [.int t17]) F (c_X5_common l D cy (H := _)  h27) (va_cwS 2 hts gX5_isVoid_X5_common rfl rfl rfl ⟨ph_X5_common.1, ph_X5_common.2, pd_X5_common⟩ ⟨Nat.le_of_ble_eq_true rfl, Nat.le_of_ble_eq_true rfl⟩) ⟨PcR.bl, PcR.in hK⟩ rfl rfl hl.1 rfl (lv_room (Nat.le_of_ble_eq_true rfl)) dX5_isVoid_18 ⟨Nat.zero_le _, Nat.zero_le _⟩).run (fun r28 er28 => ?_)
  subst r28
  obtain ⟨c29, hf⟩ := ckd_some hf
  refine lv_irem hx hb dX5_isVoid_21 c29 ?_
  refine lv_if_eq (tgt := 29) hx hb dX5_isVoid_22 (by decide) (fun c30 => ?_) (fun c30 => ?_)
  · have hf := it_t c30 hf
    refine lv_iconst (v := 0) hx hb dX5_isVoid_29 (by decide) ?_
    exact hB30 0 _ (lv_sub hl [] rfl)  hf
  · have hf := it_f c30 hf
    refine lv_iconst (v := 1) hx hb dX5_isVoid_25 (by decide) ?_
    refine lv_goto (tgt := 30) hx hb dX5_isVoid_26 (by decide) ?_
    exact hB30 1 _ (lv_sub hl [] rfl)  hf
def f_X5_modulus (S : PS) (x0 : Nat) (x1 : Int32) : Option Int32 :=
  bd (f_X5_of S x0 x1 2) fun t1 =>
  bd (f_X5_of S x0 x1 0) fun t4 =>
  bd (f_X5_of S x0 x1 2) fun t7 =>
  bd (f_X5_common t4 t7) fun t10 =>
  ck (decide (¬ t10 = 0)) (
  some (t1 / t10))
set_option maxHeartbeats 4000000 in
set_option maxRecDepth 100000 in
theorem c_X5_modulus (l : Launch) (D : va_G) (cy : cyT) {H : Heap} {S : PS} (hP : va_P D vwCl (wl cy S) H) {y0 : Nat} {y1 : Int32} (v_y0 : vd S y0 5) {res : Int32} (hf : f_X5_modulus S y0 y1 = some res) : Met l yX5_modulus wsX5_modulus ({ frames := 1, cells := 0, slots := 0, locals := 24 } : Room) (PcR D cy H [.ref y0, .int y1]) (vp_Si (fun r => r = res)) 0 0 (fun _ => False) := by
  refine Met.ofW (cc := cX5_modulus) (maxL := 2) (ret := (some .int)) (by decide) rfl ?_
  intro p e s m args below meth c s₁ B hml hv
  obtain ⟨hav, hH, hK⟩ := hv
  have hx := B.exec
  have hb := B.bytes
  have hr := B.returns
  have hts := atoms_spec (ws := wsX5_modulus) B.pre
  have hown : s.vm.findClass RX5 = some m.cls := findClass_of_methodNamed B.named
  have hlocks := B.notSynchronized
  subst hav
  subst hH
  have F : CallFix p m c cX5_modulus 2 s _ wsX5_modulus RX5 := ⟨hx, hb, hml, hown, hts⟩
  have hl := lv_entry ([.ref y0, .int y1]) (n := 2) (Nat.le_of_ble_eq_true rfl)
  rw [lg_entry_eq]
  generalize (lg_sl ([.ref y0, .int y1]) ++ List.replicate (2 - (lg_sl ([.ref y0, .int y1])).length) Slot.unset).toArray = ls at hl ⊢
  have hl : lv_has ls 2 [(0, .ref y0), (1, .int y1)] := hl
  unfold f_X5_modulus at hf
  refine lv_aload_n hx hb dX5_modulus_0 rfl (lv_at hl 0 rfl) ?_
  refine lv_iload_n hx hb dX5_modulus_1 rfl (lv_at hl 1 rfl) ?_
  refine lv_iconst (v := 2) hx hb dX5_modulus_2 (by decide) ?_
  obtain ⟨t14, h15, hf⟩ := bd_some hf
  refine vp_callSi (va_runV (As := [.int y1, .int 2]) (rest := []) F (c_X5_of l D cy (H := _) hP v_y0 h15) (cwV 2 hts gX5_modulus_X5_of rfl rfl rfl ⟨rfl, ph_X5_of.1, ph_X5_of.2, pd_X5_of⟩ ⟨Nat.le_of_ble_eq_true rfl, Nat.le_of_ble_eq_true rfl⟩) ⟨PcR.bl, (q_rcv hK hP v_y0.1 (pF_5 (S := S) v_y0.2) rfl), PcR.in hK⟩ rfl rfl hl.1 rfl (lv_room (Nat.le_of_ble_eq_true rfl)) dX5_modulus_3 ⟨Nat.zero_le _, Nat.zero_le _⟩).run (fun r16 er16 => ?_)
  subst r16
  refine lv_aload_n hx hb dX5_modulus_6 rfl (lv_at hl 0 rfl) ?_
  refine lv_iload_n hx hb dX5_modulus_7 rfl (lv_at hl 1 rfl) ?_
  refine lv_iconst (v := 0) hx hb dX5_modulus_8 (by decide) ?_
  obtain ⟨t17, h18, hf⟩ := bd_some hf
  refine vp_callSi (va_runV (As := [.int y1, .int 0]) (rest := [.int t14]) F (c_X5_of l D cy (H := _) hP v_y0 h18) (cwV 2 hts gX5_modulus_X5_of rfl rfl rfl ⟨rfl, ph_X5_of.1, ph_X5_of.2, pd_X5_of⟩ ⟨Nat.le_of_ble_eq_true rfl, Nat.le_of_ble_eq_true rfl⟩) ⟨PcR.bl, (q_rcv hK hP v_y0.1 (pF_5 (S := S) v_y0.2) rfl), PcR.in hK⟩ rfl rfl hl.1 rfl (lv_room (Nat.le_of_ble_eq_true rfl)) dX5_modulus_9 ⟨Nat.zero_le _, Nat.zero_le _⟩).run (fun r19 er19 => ?_)
  subst r19
  refine lv_aload_n hx hb dX5_modulus_12 rfl (lv_at hl 0 rfl) ?_
  refine lv_iload_n hx hb dX5_modulus_13 rfl (lv_at hl 1 rfl) ?_
  refine lv_iconst (v := 2) hx hb dX5_modulus_14 (by decide) ?_
  obtain ⟨t20, h21, hf⟩ := bd_some hf
  refine vp_callSi (va_runV (As := [.int y1, .int 2]) (rest := [.int t17, .int t14]) F (c_X5_of l D cy (H := _) hP v_y0 h21) (cwV 2 hts gX5_modulus_X5_of rfl rfl rfl ⟨rfl, ph_X5_of.1, ph_X5_of.2, pd_X5_of⟩ ⟨Nat.le_of_ble_eq_true rfl, Nat.le_of_ble_eq_true rfl⟩) ⟨PcR.bl, (q_rcv hK hP v_y0.1 (pF_5 (S := S) v_y0.2) rfl), PcR.in hK⟩ rfl rfl hl.1 rfl (lv_room (Nat.le_of_ble_eq_true rfl)) dX5_modulus_15 ⟨Nat.zero_le _, Nat.zero_le _⟩).run (fun r22 er22 => ?_)
  subst r22
  obtain ⟨t23, h24, hf⟩ := bd_some hf
  refine vp_callSi (va_runS (As := [.int t17, .int t20]) (rest := [.int t14]) F (c_X5_common l D cy (H := _)  h24) (va_cwS 2 hts gX5_modulus_X5_common rfl rfl rfl ⟨ph_X5_common.1, ph_X5_common.2, pd_X5_common⟩ ⟨Nat.le_of_ble_eq_true rfl, Nat.le_of_ble_eq_true rfl⟩) ⟨PcR.bl, PcR.in hK⟩ rfl rfl hl.1 rfl (lv_room (Nat.le_of_ble_eq_true rfl)) dX5_modulus_18 ⟨Nat.zero_le _, Nat.zero_le _⟩).run (fun r25 er25 => ?_)
  subst r25
  obtain ⟨c26, hf⟩ := ckd_some hf
  refine lv_idiv hx hb dX5_modulus_21 c26 ?_
  exact W.iret (v := (t14 / t23)) hx hb hr (fun t ht hW => ⟨_, rfl, Option.some.inj hf, ht⟩) (fun _ h => by cases h) dX5_modulus_22
def f_X5_rest_B33 (S : PS) (x2 : Int32) : Option Int32 :=
  some x2
def f_X5_rest_L2s (S : PS) (kL2 : Nat → Int32 → Int32 → Option Int32) (ke33 : Int32 → Option Int32) (x0 : Nat) (x1 : Int32) (x2 : Int32) : Option Int32 :=
  bd (f_X5_of S x0 x1 0) fun t1 =>
  bd (f_X5_of S x0 x1 1) fun t4 =>
  bd (f_X5_of S x0 x1 2) fun t7 =>
  ck (decide (¬ t7 = 0)) (
  if (((t1 * x2) - t4) - ((t1 * x2) - t4) / t7 * t7) = 0 then (ke33 x2) else
  kL2 x0 x1 (x2 + 1))
def f_X5_rest_L2 (S : PS) (ke33 : Int32 → Option Int32) (fu : Nat) : Nat → Int32 → Int32 → Option Int32 := fx (fun kL => f_X5_rest_L2s S kL ke33) (fun _ _ _ => none) fu
def f_X5_rest (S : PS) (x0 : Nat) (x1 : Int32) : Option Int32 :=
  f_X5_rest_L2 S (f_X5_rest_B33 S) FU x0 x1 0
set_option maxHeartbeats 4000000 in
set_option maxRecDepth 100000 in
theorem c_X5_rest (l : Launch) (D : va_G) (cy : cyT) {H : Heap} {S : PS} (hP : va_P D vwCl (wl cy S) H) {y0 : Nat} {y1 : Int32} (v_y0 : vd S y0 5) {res : Int32} (hf : f_X5_rest S y0 y1 = some res) : Met l yX5_rest wsX5_rest ({ frames := 1, cells := 0, slots := 0, locals := 22 } : Room) (PcR D cy H [.ref y0, .int y1]) (vp_Si (fun r => r = res)) 0 0 (fun _ => False) := by
  refine Met.ofW (cc := cX5_rest) (maxL := 3) (ret := (some .int)) (by decide) rfl ?_
  intro p e s m args below meth c s₁ B hml hv
  obtain ⟨hav, hH, hK⟩ := hv
  have hx := B.exec
  have hb := B.bytes
  have hr := B.returns
  have hts := atoms_spec (ws := wsX5_rest) B.pre
  have hown : s.vm.findClass RX5 = some m.cls := findClass_of_methodNamed B.named
  have hlocks := B.notSynchronized
  subst hav
  subst hH
  have F : CallFix p m c cX5_rest 3 s _ wsX5_rest RX5 := ⟨hx, hb, hml, hown, hts⟩
  have hB33 : ∀ (x2 : Int32) (ls : Array Slot), lv_has ls 3 [(2, .int x2)] → f_X5_rest_B33 S x2 = some res → W p l e (headSpec wsX5_rest ({ frames := 1, cells := 0, slots := 0, locals := 22 } : Room)).room s m ([.ref y0, .int y1] : List Value).toArray below meth c s.heap [] 0 0 (MQ below (vp_Si (fun r => r = res)) ([.ref y0, .int y1] : List Value).toArray s 0 0 (fun _ => False)) (F0 m 33 ls []) := by
    intro x2 ls hl hf
    unfold f_X5_rest_B33 at hf
    refine lv_iload_n hx hb dX5_rest_33 rfl (lv_at hl 0 rfl) ?_
    exact W.iret (v := x2) hx hb hr (fun t ht hW => ⟨_, rfl, Option.some.inj hf, ht⟩) (fun _ h => by cases h) dX5_rest_34
  have hL2 : ∀ (fu2 : Nat), ∀ (x0 : Nat) (x1 : Int32) (x2 : Int32) (ls : Array Slot), lv_has ls 3 [(0, .ref x0), (1, .int x1), (2, .int x2)] → vd S x0 5 → f_X5_rest_L2 S (f_X5_rest_B33 S) fu2 x0 x1 x2 = some res → W p l e (headSpec wsX5_rest ({ frames := 1, cells := 0, slots := 0, locals := 22 } : Room)).room s m ([.ref y0, .int y1] : List Value).toArray below meth c s.heap [] 0 0 (MQ below (vp_Si (fun r => r = res)) ([.ref y0, .int y1] : List Value).toArray s 0 0 (fun _ => False)) (F0 m 2 ls []) := by
    intro fu2
    induction fu2 with
    | zero =>
      intro x0 x1 x2 ls hl v_x0 hf
      have hf : (none : Option Int32) = some res := hf
      cases hf
    | succ fu2 ih2 =>
      intro x0 x1 x2 ls hl v_x0 hf
      have hf : f_X5_rest_L2s S (f_X5_rest_L2 S (f_X5_rest_B33 S) fu2) (f_X5_rest_B33 S) x0 x1 x2 = some res := hf
      unfold f_X5_rest_L2s at hf
      refine lv_aload_n hx hb dX5_rest_2 rfl (lv_at hl 0 rfl) ?_
      refine lv_iload_n hx hb dX5_rest_3 rfl (lv_at hl 1 rfl) ?_
      refine lv_iconst (v := 0) hx hb dX5_rest_4 (by decide) ?_
      obtain ⟨t12, h13, hf⟩ := bd_some hf
      refine vp_callSi (va_runV (As := [.int x1, .int 0]) (rest := []) F (c_X5_of l D cy (H := _) hP v_x0 h13) (cwV 2 hts gX5_rest_X5_of rfl rfl rfl ⟨rfl, ph_X5_of.1, ph_X5_of.2, pd_X5_of⟩ ⟨Nat.le_of_ble_eq_true rfl, Nat.le_of_ble_eq_true rfl⟩) ⟨PcR.bl, (q_rcv hK hP v_x0.1 (pF_5 (S := S) v_x0.2) rfl), PcR.in hK⟩ rfl rfl hl.1 rfl (lv_room (Nat.le_of_ble_eq_true rfl)) dX5_rest_5 ⟨Nat.zero_le _, Nat.zero_le _⟩).run (fun r14 er14 => ?_)
      subst r14
      refine lv_iload_n hx hb dX5_rest_8 rfl (lv_at hl 2 rfl) ?_
      refine lv_imul hx hb dX5_rest_9 ?_
      refine lv_aload_n hx hb dX5_rest_10 rfl (lv_at hl 0 rfl) ?_
      refine lv_iload_n hx hb dX5_rest_11 rfl (lv_at hl 1 rfl) ?_
      refine lv_iconst (v := 1) hx hb dX5_rest_12 (by decide) ?_
      obtain ⟨t15, h16, hf⟩ := bd_some hf
      refine vp_callSi (va_runV (As := [.int x1, .int 1]) (rest := [.int (t12 * x2)]) F (c_X5_of l D cy (H := _) hP v_x0 h16) (cwV 2 hts gX5_rest_X5_of rfl rfl rfl ⟨rfl, ph_X5_of.1, ph_X5_of.2, pd_X5_of⟩ ⟨Nat.le_of_ble_eq_true rfl, Nat.le_of_ble_eq_true rfl⟩) ⟨PcR.bl, (q_rcv hK hP v_x0.1 (pF_5 (S := S) v_x0.2) rfl), PcR.in hK⟩ rfl rfl hl.1 rfl (lv_room (Nat.le_of_ble_eq_true rfl)) dX5_rest_13 ⟨Nat.zero_le _, Nat.zero_le _⟩).run (fun r17 er17 => ?_)
      subst r17
      refine lv_isub hx hb dX5_rest_16 ?_
      refine lv_aload_n hx hb dX5_rest_17 rfl (lv_at hl 0 rfl) ?_
      refine lv_iload_n hx hb dX5_rest_18 rfl (lv_at hl 1 rfl) ?_
      refine lv_iconst (v := 2) hx hb dX5_rest_19 (by decide) ?_
      obtain ⟨t18, h19, hf⟩ := bd_some hf
      refine vp_callSi (va_runV (As := [.int x1, .int 2]) (rest := [.int ((t12 * x2) - t15)]) F (c_X5_of l D cy (H := _) hP v_x0 h19) (cwV 2 hts gX5_rest_X5_of rfl rfl rfl ⟨rfl, ph_X5_of.1, ph_X5_of.2, pd_X5_of⟩ ⟨Nat.le_of_ble_eq_true rfl, Nat.le_of_ble_eq_true rfl⟩) ⟨PcR.bl, (q_rcv hK hP v_x0.1 (pF_5 (S := S) v_x0.2) rfl), PcR.in hK⟩ rfl rfl hl.1 rfl (lv_room (Nat.le_of_ble_eq_true rfl)) dX5_rest_20 ⟨Nat.zero_le _, Nat.zero_le _⟩).run (fun r20 er20 => ?_)
      subst r20
      obtain ⟨c21, hf⟩ := ckd_some hf
      refine lv_irem hx hb dX5_rest_23 c21 ?_
      refine lv_if_eq (tgt := 33) hx hb dX5_rest_24 (by decide) (fun c22 => ?_) (fun c22 => ?_)
      · have hf := it_t c22 hf
        exact hB33 x2 _ (lv_sub hl [2] rfl)  hf
      · have hf := it_f c22 hf
        refine lv_iinc (v := x2 + 1) (lv' := [(2, .int (x2 + 1)), (0, .ref x0), (1, .int x1)]) hx hb dX5_rest_27 hl (k := 2) rfl (by rfl) (by decide) rfl (fun ls hl => ?_)
        refine lv_goto (tgt := 2) hx hb dX5_rest_30 (by decide) ?_
        exact ih2 x0 x1 (x2 + 1) _ (lv_sub hl [1, 2, 0] rfl) v_x0 hf
  have hl := lv_entry ([.ref y0, .int y1]) (n := 3) (Nat.le_of_ble_eq_true rfl)
  rw [lg_entry_eq]
  generalize (lg_sl ([.ref y0, .int y1]) ++ List.replicate (3 - (lg_sl ([.ref y0, .int y1])).length) Slot.unset).toArray = ls at hl ⊢
  have hl : lv_has ls 3 [(0, .ref y0), (1, .int y1)] := hl
  unfold f_X5_rest at hf
  refine lv_iconst (v := 0) hx hb dX5_rest_0 (by decide) ?_
  refine lv_istore_n (lv' := [(2, .int 0), (0, .ref y0), (1, .int y1)]) hx hb dX5_rest_1 rfl hl (by decide) rfl (fun ls hl => ?_)
  exact hL2 FU y0 y1 0 _ (lv_sub hl [1, 2, 0] rfl) v_y0 hf
def f_X5_goTogether_B16 (S : PS)  : Option Int32 :=
  some 0
def f_X5_goTogether_B54 (S : PS) (s0 : Int32) : Option Int32 :=
  ck (decide (s0 &&& 1 = s0)) (
  some s0)
def f_X5_goTogether (S : PS) (x0 : Nat) (x1 : Int32) (x2 : Int32) : Option Int32 :=
  bd (f_X5_isVoid S x0 x1) fun t2 =>
  if t2 = 0 then (bd (f_X5_isVoid S x0 x2) fun t6 =>
  if t6 = 0 then (bd (f_X5_modulus S x0 x1) fun t10 =>
  bd (f_X5_modulus S x0 x2) fun t13 =>
  bd (f_X5_common t10 t13) fun t16 =>
  bd (f_X5_rest S x0 x1) fun t19 =>
  ck (decide (¬ t16 = 0)) (
  bd (f_X5_rest S x0 x2) fun t23 =>
  ck (decide (¬ t16 = 0)) (
  if (t19 - t19 / t16 * t16) = (t23 - t23 / t16 * t16) then (f_X5_goTogether_B54 S 1) else
  f_X5_goTogether_B54 S 0))) else
  f_X5_goTogether_B16 S) else
  f_X5_goTogether_B16 S
set_option maxHeartbeats 4000000 in
set_option maxRecDepth 100000 in
theorem c_X5_goTogether (l : Launch) (D : va_G) (cy : cyT) {H : Heap} {S : PS} (hP : va_P D vwCl (wl cy S) H) {y0 : Nat} {y1 : Int32} {y2 : Int32} (v_y0 : vd S y0 5) {res : Int32} (hf : f_X5_goTogether S y0 y1 y2 = some res) : Met l yX5_goTogether wsX5_goTogether ({ frames := 2, cells := 0, slots := 0, locals := 45 } : Room) (PcR D cy H [.ref y0, .int y1, .int y2]) (vp_Si (fun r => r = res)) 0 0 (fun _ => False) := by
  refine Met.ofW (cc := cX5_goTogether) (maxL := 4) (ret := (some .boolean)) (by decide) rfl ?_
  intro p e s m args below meth c s₁ B hml hv
  obtain ⟨hav, hH, hK⟩ := hv
  have hx := B.exec
  have hb := B.bytes
  have hr := B.returns
  have hts := atoms_spec (ws := wsX5_goTogether) B.pre
  have hown : s.vm.findClass RX5 = some m.cls := findClass_of_methodNamed B.named
  have hlocks := B.notSynchronized
  subst hav
  subst hH
  have F : CallFix p m c cX5_goTogether 4 s _ wsX5_goTogether RX5 := ⟨hx, hb, hml, hown, hts⟩
  have hB16 : ∀  (ls : Array Slot), lv_has ls 4 [] → f_X5_goTogether_B16 S = some res → W p l e (headSpec wsX5_goTogether ({ frames := 2, cells := 0, slots := 0, locals := 45 } : Room)).room s m ([.ref y0, .int y1, .int y2] : List Value).toArray below meth c s.heap [] 0 0 (MQ below (vp_Si (fun r => r = res)) ([.ref y0, .int y1, .int y2] : List Value).toArray s 0 0 (fun _ => False)) (F0 m 16 ls []) := by
    intro ls hl hf
    unfold f_X5_goTogether_B16 at hf
    refine lv_iconst (v := 0) hx hb dX5_goTogether_16 (by decide) ?_
    exact W.zret (v := 0) hx hb hr rfl (fun t ht hW => ⟨_, rfl, Option.some.inj hf, ht⟩) (fun _ h => by cases h) dX5_goTogether_17
  have hB54 : ∀ (s0 : Int32) (ls : Array Slot), lv_has ls 4 [] → f_X5_goTogether_B54 S s0 = some res → W p l e (headSpec wsX5_goTogether ({ frames := 2, cells := 0, slots := 0, locals := 45 } : Room)).room s m ([.ref y0, .int y1, .int y2] : List Value).toArray below meth c s.heap [] 0 0 (MQ below (vp_Si (fun r => r = res)) ([.ref y0, .int y1, .int y2] : List Value).toArray s 0 0 (fun _ => False)) (F0 m 54 ls [.int s0]) := by
    intro s0 ls hl hf
    unfold f_X5_goTogether_B54 at hf
    obtain ⟨c28, hf⟩ := ckd_some hf
    exact W.zret (v := s0) hx hb hr (nz c28) (fun t ht hW => ⟨_, rfl, Option.some.inj hf, ht⟩) (fun _ h => by cases h) dX5_goTogether_54
  have hl := lv_entry ([.ref y0, .int y1, .int y2]) (n := 4) (Nat.le_of_ble_eq_true rfl)
  rw [lg_entry_eq]
  generalize (lg_sl ([.ref y0, .int y1, .int y2]) ++ List.replicate (4 - (lg_sl ([.ref y0, .int y1, .int y2])).length) Slot.unset).toArray = ls at hl ⊢
  have hl : lv_has ls 4 [(0, .ref y0), (1, .int y1), (2, .int y2)] := hl
  unfold f_X5_goTogether at hf
  refine lv_aload_n hx hb dX5_goTogether_0 rfl (lv_at hl 0 rfl) ?_
  refine lv_iload_n hx hb dX5_goTogether_1 rfl (lv_at hl 1 rfl) ?_
  obtain ⟨t29, h30, hf⟩ := bd_some hf
  refine vp_callSi (va_runV (As := [.int y1]) (rest := []) F (c_X5_isVoid l D cy (H := _) hP v_y0 h30) (cwV 1 hts gX5_goTogether_X5_isVoid rfl rfl rfl ⟨rfl, ph_X5_isVoid.1, ph_X5_isVoid.2, pd_X5_isVoid⟩ ⟨Nat.le_of_ble_eq_true rfl, Nat.le_of_ble_eq_true rfl⟩) ⟨PcR.bl, (q_rcv hK hP v_y0.1 (pF_5 (S := S) v_y0.2) rfl), PcR.in hK⟩ rfl rfl hl.1 rfl (lv_room (Nat.le_of_ble_eq_true rfl)) dX5_goTogether_2 ⟨Nat.zero_le _, Nat.zero_le _⟩).run (fun r31 er31 => ?_)
  subst r31
  refine lv_if_ne (tgt := 16) hx hb dX5_goTogether_5 (by decide) (fun c32 => ?_) (fun c32 => ?_)
  · have hf := it_f c32 hf
    exact hB16 _ (lv_sub hl [] rfl)  hf
  · have hf := it_t c32 hf
    refine lv_aload_n hx hb dX5_goTogether_8 rfl (lv_at hl 0 rfl) ?_
    refine lv_iload_n hx hb dX5_goTogether_9 rfl (lv_at hl 2 rfl) ?_
    obtain ⟨t33, h34, hf⟩ := bd_some hf
    refine vp_callSi (va_runV (As := [.int y2]) (rest := []) F (c_X5_isVoid l D cy (H := _) hP v_y0 h34) (cwV 1 hts gX5_goTogether_X5_isVoid rfl rfl rfl ⟨rfl, ph_X5_isVoid.1, ph_X5_isVoid.2, pd_X5_isVoid⟩ ⟨Nat.le_of_ble_eq_true rfl, Nat.le_of_ble_eq_true rfl⟩) ⟨PcR.bl, (q_rcv hK hP v_y0.1 (pF_5 (S := S) v_y0.2) rfl), PcR.in hK⟩ rfl rfl hl.1 rfl (lv_room (Nat.le_of_ble_eq_true rfl)) dX5_goTogether_10 ⟨Nat.zero_le _, Nat.zero_le _⟩).run (fun r35 er35 => ?_)
    subst r35
    refine lv_if_eq (tgt := 18) hx hb dX5_goTogether_13 (by decide) (fun c36 => ?_) (fun c36 => ?_)
    · have hf := it_t c36 hf
      refine lv_aload_n hx hb dX5_goTogether_18 rfl (lv_at hl 0 rfl) ?_
      refine lv_iload_n hx hb dX5_goTogether_19 rfl (lv_at hl 1 rfl) ?_
      obtain ⟨t37, h38, hf⟩ := bd_some hf
      refine vp_callSi (va_runV (As := [.int y1]) (rest := []) F (c_X5_modulus l D cy (H := _) hP v_y0 h38) (cwV 1 hts gX5_goTogether_X5_modulus rfl rfl rfl ⟨rfl, ph_X5_modulus.1, ph_X5_modulus.2, pd_X5_modulus⟩ ⟨Nat.le_of_ble_eq_true rfl, Nat.le_of_ble_eq_true rfl⟩) ⟨PcR.bl, (q_rcv hK hP v_y0.1 (pF_5 (S := S) v_y0.2) rfl), PcR.in hK⟩ rfl rfl hl.1 rfl (lv_room (Nat.le_of_ble_eq_true rfl)) dX5_goTogether_20 ⟨Nat.zero_le _, Nat.zero_le _⟩).run (fun r39 er39 => ?_)
      subst r39
      refine lv_aload_n hx hb dX5_goTogether_23 rfl (lv_at hl 0 rfl) ?_
      refine lv_iload_n hx hb dX5_goTogether_24 rfl (lv_at hl 2 rfl) ?_
      obtain ⟨t40, h41, hf⟩ := bd_some hf
      refine vp_callSi (va_runV (As := [.int y2]) (rest := [.int t37]) F (c_X5_modulus l D cy (H := _) hP v_y0 h41) (cwV 1 hts gX5_goTogether_X5_modulus rfl rfl rfl ⟨rfl, ph_X5_modulus.1, ph_X5_modulus.2, pd_X5_modulus⟩ ⟨Nat.le_of_ble_eq_true rfl, Nat.le_of_ble_eq_true rfl⟩) ⟨PcR.bl, (q_rcv hK hP v_y0.1 (pF_5 (S := S) v_y0.2) rfl), PcR.in hK⟩ rfl rfl hl.1 rfl (lv_room (Nat.le_of_ble_eq_true rfl)) dX5_goTogether_25 ⟨Nat.zero_le _, Nat.zero_le _⟩).run (fun r42 er42 => ?_)
      subst r42
      obtain ⟨t43, h44, hf⟩ := bd_some hf
      refine vp_callSi (va_runS (As := [.int t37, .int t40]) (rest := []) F (c_X5_common l D cy (H := _)  h44) (va_cwS 2 hts gX5_goTogether_X5_common rfl rfl rfl ⟨ph_X5_common.1, ph_X5_common.2, pd_X5_common⟩ ⟨Nat.le_of_ble_eq_true rfl, Nat.le_of_ble_eq_true rfl⟩) ⟨PcR.bl, PcR.in hK⟩ rfl rfl hl.1 rfl (lv_room (Nat.le_of_ble_eq_true rfl)) dX5_goTogether_28 ⟨Nat.zero_le _, Nat.zero_le _⟩).run (fun r45 er45 => ?_)
      subst r45
      refine lv_istore_n (lv' := [(3, .int t43), (0, .ref y0), (1, .int y1), (2, .int y2)]) hx hb dX5_goTogether_31 rfl hl (by decide) rfl (fun ls hl => ?_)
      refine lv_aload_n hx hb dX5_goTogether_32 rfl (lv_at hl 1 rfl) ?_
      refine lv_iload_n hx hb dX5_goTogether_33 rfl (lv_at hl 2 rfl) ?_
      obtain ⟨t46, h47, hf⟩ := bd_some hf
      refine vp_callSi (va_runV (As := [.int y1]) (rest := []) F (c_X5_rest l D cy (H := _) hP v_y0 h47) (cwV 1 hts gX5_goTogether_X5_rest rfl rfl rfl ⟨rfl, ph_X5_rest.1, ph_X5_rest.2, pd_X5_rest⟩ ⟨Nat.le_of_ble_eq_true rfl, Nat.le_of_ble_eq_true rfl⟩) ⟨PcR.bl, (q_rcv hK hP v_y0.1 (pF_5 (S := S) v_y0.2) rfl), PcR.in hK⟩ rfl rfl hl.1 rfl (lv_room (Nat.le_of_ble_eq_true rfl)) dX5_goTogether_34 ⟨Nat.zero_le _, Nat.zero_le _⟩).run (fun r48 er48 => ?_)
      subst r48
      refine lv_iload_n hx hb dX5_goTogether_37 rfl (lv_at hl 0 rfl) ?_
      obtain ⟨c49, hf⟩ := ckd_some hf
      refine lv_irem hx hb dX5_goTogether_38 c49 ?_
      refine lv_aload_n hx hb dX5_goTogether_39 rfl (lv_at hl 1 rfl) ?_
      refine lv_iload_n hx hb dX5_goTogether_40 rfl (lv_at hl 3 rfl) ?_
      obtain ⟨t50, h51, hf⟩ := bd_some hf
      refine vp_callSi (va_runV (As := [.int y2]) (rest := [.int (t46 - t46 / t43 * t43)]) F (c_X5_rest l D cy (H := _) hP v_y0 h51) (cwV 1 hts gX5_goTogether_X5_rest rfl rfl rfl ⟨rfl, ph_X5_rest.1, ph_X5_rest.2, pd_X5_rest⟩ ⟨Nat.le_of_ble_eq_true rfl, Nat.le_of_ble_eq_true rfl⟩) ⟨PcR.bl, (q_rcv hK hP v_y0.1 (pF_5 (S := S) v_y0.2) rfl), PcR.in hK⟩ rfl rfl hl.1 rfl (lv_room (Nat.le_of_ble_eq_true rfl)) dX5_goTogether_41 ⟨Nat.zero_le _, Nat.zero_le _⟩).run (fun r52 er52 => ?_)
      subst r52
      refine lv_iload_n hx hb dX5_goTogether_44 rfl (lv_at hl 0 rfl) ?_
      obtain ⟨c53, hf⟩ := ckd_some hf
      refine lv_irem hx hb dX5_goTogether_45 c53 ?_
      refine lv_icmp_ne (tgt := 53) hx hb dX5_goTogether_46 (by decide) (fun c54 => ?_) (fun c54 => ?_)
      · have hf := it_f c54 hf
        refine lv_iconst (v := 0) hx hb dX5_goTogether_53 (by decide) ?_
        exact hB54 0 _ (lv_sub hl [] rfl)  hf
      · have hf := it_t c54 hf
        refine lv_iconst (v := 1) hx hb dX5_goTogether_49 (by decide) ?_
        refine lv_goto (tgt := 54) hx hb dX5_goTogether_50 (by decide) ?_
        exact hB54 1 _ (lv_sub hl [] rfl)  hf
    · have hf := it_f c36 hf
      exact hB16 _ (lv_sub hl [] rfl)  hf
def f_X5_against_B50 (S : PS) (x2 : Int32) : Option Int32 :=
  some x2
def f_X5_against_B42 (S : PS) (kL4 : Nat → Int32 → Int32 → Int32 → Option Int32) (ke50 : Int32 → Option Int32) (x0 : Nat) (x1 : Int32) (x3 : Int32) (s0 : Int32) (s1 : Int32) : Option Int32 :=
  kL4 x0 x1 (s0 + s1) (x3 + 1)
def f_X5_against_B41 (S : PS) (kL4 : Nat → Int32 → Int32 → Int32 → Option Int32) (ke50 : Int32 → Option Int32) (x0 : Nat) (x1 : Int32) (x3 : Int32) (s0 : Int32) : Option Int32 :=
  f_X5_against_B42 S kL4 ke50 x0 x1 x3 s0 0
def f_X5_against_L4s (S : PS) (kL4 : Nat → Int32 → Int32 → Int32 → Option Int32) (ke50 : Int32 → Option Int32) (x0 : Nat) (x1 : Int32) (x2 : Int32) (x3 : Int32) : Option Int32 :=
  rq (fR S 81 x0) S 6 fun b1 =>
  ck (decide (¬ ((0 : Int32) < 0 ∨ aN S b1 ≤ (0 : Int32).toNatClampNeg))) (
  if (aI S b1 (0 : Int32).toNatClampNeg) ≤ x3 then (ke50 x2) else
  if x3 = x1 then (f_X5_against_B41 S kL4 ke50 x0 x1 x3 x2) else
  bd (f_X5_isOn S x0 x3) fun t6 =>
  if t6 = 0 then (f_X5_against_B41 S kL4 ke50 x0 x1 x3 x2) else
  bd (f_X5_goTogether S x0 x1 x3) fun t10 =>
  if t10 = 0 then (f_X5_against_B42 S kL4 ke50 x0 x1 x3 x2 1) else
  f_X5_against_B41 S kL4 ke50 x0 x1 x3 x2)
def f_X5_against_L4 (S : PS) (ke50 : Int32 → Option Int32) (fu : Nat) : Nat → Int32 → Int32 → Int32 → Option Int32 := fx (fun kL => f_X5_against_L4s S kL ke50) (fun _ _ _ _ => none) fu
def f_X5_against (S : PS) (x0 : Nat) (x1 : Int32) : Option Int32 :=
  f_X5_against_L4 S (f_X5_against_B50 S) FU x0 x1 0 0
set_option maxHeartbeats 4000000 in
set_option maxRecDepth 100000 in
theorem c_X5_against (l : Launch) (D : va_G) (cy : cyT) {H : Heap} {S : PS} (hP : va_P D vwCl (wl cy S) H) {y0 : Nat} {y1 : Int32} (v_y0 : vd S y0 5) {res : Int32} (hf : f_X5_against S y0 y1 = some res) : Met l yX5_against wsX5_against ({ frames := 3, cells := 0, slots := 0, locals := 68 } : Room) (PcR D cy H [.ref y0, .int y1]) (vp_Si (fun r => r = res)) 0 0 (fun _ => False) := by
  refine Met.ofW (cc := cX5_against) (maxL := 4) (ret := (some .int)) (by decide) rfl ?_
  intro p e s m args below meth c s₁ B hml hv
  obtain ⟨hav, hH, hK⟩ := hv
  have hx := B.exec
  have hb := B.bytes
  have hr := B.returns
  have hts := atoms_spec (ws := wsX5_against) B.pre
  have hown : s.vm.findClass RX5 = some m.cls := findClass_of_methodNamed B.named
  have hlocks := B.notSynchronized
  subst hav
  subst hH
  have F : CallFix p m c cX5_against 4 s _ wsX5_against RX5 := ⟨hx, hb, hml, hown, hts⟩
  have hB50 : ∀ (x2 : Int32) (ls : Array Slot), lv_has ls 4 [(2, .int x2)] → f_X5_against_B50 S x2 = some res → W p l e (headSpec wsX5_against ({ frames := 3, cells := 0, slots := 0, locals := 68 } : Room)).room s m ([.ref y0, .int y1] : List Value).toArray below meth c s.heap [] 0 0 (MQ below (vp_Si (fun r => r = res)) ([.ref y0, .int y1] : List Value).toArray s 0 0 (fun _ => False)) (F0 m 50 ls []) := by
    intro x2 ls hl hf
    unfold f_X5_against_B50 at hf
    refine lv_iload_n hx hb dX5_against_50 rfl (lv_at hl 0 rfl) ?_
    exact W.iret (v := x2) hx hb hr (fun t ht hW => ⟨_, rfl, Option.some.inj hf, ht⟩) (fun _ h => by cases h) dX5_against_51
  have hL4 : ∀ (fu4 : Nat), ∀ (x0 : Nat) (x1 : Int32) (x2 : Int32) (x3 : Int32) (ls : Array Slot), lv_has ls 4 [(0, .ref x0), (1, .int x1), (2, .int x2), (3, .int x3)] → vd S x0 5 → f_X5_against_L4 S (f_X5_against_B50 S) fu4 x0 x1 x2 x3 = some res → W p l e (headSpec wsX5_against ({ frames := 3, cells := 0, slots := 0, locals := 68 } : Room)).room s m ([.ref y0, .int y1] : List Value).toArray below meth c s.heap [] 0 0 (MQ below (vp_Si (fun r => r = res)) ([.ref y0, .int y1] : List Value).toArray s 0 0 (fun _ => False)) (F0 m 4 ls []) := by
    intro fu4
    induction fu4 with
    | zero =>
      intro x0 x1 x2 x3 ls hl v_x0 hf
      have hf : (none : Option Int32) = some res := hf
      cases hf
    | succ fu4 ih4 =>
      have hB42 : ∀ (x0 : Nat) (x1 : Int32) (x3 : Int32) (s0 : Int32) (s1 : Int32) (ls : Array Slot), lv_has ls 4 [(0, .ref x0), (1, .int x1), (3, .int x3)] → vd S x0 5 → f_X5_against_B42 S (f_X5_against_L4 S (f_X5_against_B50 S) fu4) (f_X5_against_B50 S) x0 x1 x3 s0 s1 = some res → W p l e (headSpec wsX5_against ({ frames := 3, cells := 0, slots := 0, locals := 68 } : Room)).room s m ([.ref y0, .int y1] : List Value).toArray below meth c s.heap [] 0 0 (MQ below (vp_Si (fun r => r = res)) ([.ref y0, .int y1] : List Value).toArray s 0 0 (fun _ => False)) (F0 m 42 ls [.int s1, .int s0]) := by
        intro x0 x1 x3 s0 s1 ls hl v_x0 hf
        unfold f_X5_against_B42 at hf
        refine lv_iadd hx hb dX5_against_42 ?_
        refine lv_istore_n (lv' := [(2, .int (s0 + s1)), (0, .ref x0), (1, .int x1), (3, .int x3)]) hx hb dX5_against_43 rfl hl (by decide) rfl (fun ls hl => ?_)
        refine lv_iinc (v := x3 + 1) (lv' := [(3, .int (x3 + 1)), (2, .int (s0 + s1)), (0, .ref x0), (1, .int x1)]) hx hb dX5_against_44 hl (k := 3) rfl (by rfl) (by decide) rfl (fun ls hl => ?_)
        refine lv_goto (tgt := 4) hx hb dX5_against_47 (by decide) ?_
        exact ih4 x0 x1 (s0 + s1) (x3 + 1) _ (lv_sub hl [2, 3, 1, 0] rfl) v_x0 hf
      have hB41 : ∀ (x0 : Nat) (x1 : Int32) (x3 : Int32) (s0 : Int32) (ls : Array Slot), lv_has ls 4 [(0, .ref x0), (1, .int x1), (3, .int x3)] → vd S x0 5 → f_X5_against_B41 S (f_X5_against_L4 S (f_X5_against_B50 S) fu4) (f_X5_against_B50 S) x0 x1 x3 s0 = some res → W p l e (headSpec wsX5_against ({ frames := 3, cells := 0, slots := 0, locals := 68 } : Room)).room s m ([.ref y0, .int y1] : List Value).toArray below meth c s.heap [] 0 0 (MQ below (vp_Si (fun r => r = res)) ([.ref y0, .int y1] : List Value).toArray s 0 0 (fun _ => False)) (F0 m 41 ls [.int s0]) := by
        intro x0 x1 x3 s0 ls hl v_x0 hf
        unfold f_X5_against_B41 at hf
        refine lv_iconst (v := 0) hx hb dX5_against_41 (by decide) ?_
        exact hB42 x0 x1 x3 s0 0 _ (lv_sub hl [0, 1, 2] rfl) v_x0 hf
      intro x0 x1 x2 x3 ls hl v_x0 hf
      have hf : f_X5_against_L4s S (f_X5_against_L4 S (f_X5_against_B50 S) fu4) (f_X5_against_B50 S) x0 x1 x2 x3 = some res := hf
      unfold f_X5_against_L4s at hf
      refine lv_iload_n hx hb dX5_against_4 rfl (lv_at hl 3 rfl) ?_
      refine lv_aload_n hx hb dX5_against_5 rfl (lv_at hl 0 rfl) ?_
      obtain ⟨b14, e15, v_b14, hf⟩ := rq_some hf
      refine q_get F hK hP v_x0.1 (pF_5 (S := S) v_x0.2) (fun w h => List.mem_cons_of_mem _ (List.mem_append_right _ h)) rfl 1 (by decide) (hts (.fieldLink RX5 7 "SharedModuliModel" "z" "[I") (List.mem_of_getElem? (i := 1) rfl)) (v := .ref b14) (congrArg (fun z => some (va_rf z)) e15) dX5_against_6 ?_
      refine lv_iconst (v := 0) hx hb dX5_against_9 (by decide) ?_
      obtain ⟨c16, hf⟩ := ckd_some hf
      refine q_iald F hK hP v_b14 c16 dX5_against_10 ?_
      refine lv_icmp_ge (tgt := 50) hx hb dX5_against_11 (by decide) (fun c17 => ?_) (fun c17 => ?_)
      · have hf := it_t c17 hf
        exact hB50 x2 _ (lv_sub hl [2] rfl)  hf
      · have hf := it_f c17 hf
        refine lv_iload_n hx hb dX5_against_14 rfl (lv_at hl 2 rfl) ?_
        refine lv_iload_n hx hb dX5_against_15 rfl (lv_at hl 3 rfl) ?_
        refine lv_iload_n hx hb dX5_against_16 rfl (lv_at hl 1 rfl) ?_
        refine lv_icmp_eq (tgt := 41) hx hb dX5_against_17 (by decide) (fun c18 => ?_) (fun c18 => ?_)
        · have hf := it_t c18 hf
          exact hB41 x0 x1 x3 x2 _ (lv_sub hl [0, 1, 3] rfl) v_x0 hf
        · have hf := it_f c18 hf
          refine lv_aload_n hx hb dX5_against_20 rfl (lv_at hl 0 rfl) ?_
          refine lv_iload_n hx hb dX5_against_21 rfl (lv_at hl 3 rfl) ?_
          obtain ⟨t19, h20, hf⟩ := bd_some hf
          refine vp_callSi (va_runV (As := [.int x3]) (rest := [.int x2]) F (c_X5_isOn l D cy (H := _) hP v_x0 h20) (cwV 1 hts gX5_against_X5_isOn rfl rfl rfl ⟨rfl, ph_X5_isOn.1, ph_X5_isOn.2, pd_X5_isOn⟩ ⟨Nat.le_of_ble_eq_true rfl, Nat.le_of_ble_eq_true rfl⟩) ⟨PcR.bl, (q_rcv hK hP v_x0.1 (pF_5 (S := S) v_x0.2) rfl), PcR.in hK⟩ rfl rfl hl.1 rfl (lv_room (Nat.le_of_ble_eq_true rfl)) dX5_against_22 ⟨Nat.zero_le _, Nat.zero_le _⟩).run (fun r21 er21 => ?_)
          subst r21
          refine lv_if_eq (tgt := 41) hx hb dX5_against_25 (by decide) (fun c22 => ?_) (fun c22 => ?_)
          · have hf := it_t c22 hf
            exact hB41 x0 x1 x3 x2 _ (lv_sub hl [0, 1, 3] rfl) v_x0 hf
          · have hf := it_f c22 hf
            refine lv_aload_n hx hb dX5_against_28 rfl (lv_at hl 0 rfl) ?_
            refine lv_iload_n hx hb dX5_against_29 rfl (lv_at hl 1 rfl) ?_
            refine lv_iload_n hx hb dX5_against_30 rfl (lv_at hl 3 rfl) ?_
            obtain ⟨t23, h24, hf⟩ := bd_some hf
            refine vp_callSi (va_runV (As := [.int x1, .int x3]) (rest := [.int x2]) F (c_X5_goTogether l D cy (H := _) hP v_x0 h24) (cwV 2 hts gX5_against_X5_goTogether rfl rfl rfl ⟨rfl, ph_X5_goTogether.1, ph_X5_goTogether.2, pd_X5_goTogether⟩ ⟨Nat.le_of_ble_eq_true rfl, Nat.le_of_ble_eq_true rfl⟩) ⟨PcR.bl, (q_rcv hK hP v_x0.1 (pF_5 (S := S) v_x0.2) rfl), PcR.in hK⟩ rfl rfl hl.1 rfl (lv_room (Nat.le_of_ble_eq_true rfl)) dX5_against_31 ⟨Nat.zero_le _, Nat.zero_le _⟩).run (fun r25 er25 => ?_)
            subst r25
            refine lv_if_ne (tgt := 41) hx hb dX5_against_34 (by decide) (fun c26 => ?_) (fun c26 => ?_)
            · have hf := it_f c26 hf
              exact hB41 x0 x1 x3 x2 _ (lv_sub hl [0, 1, 3] rfl) v_x0 hf
            · have hf := it_t c26 hf
              refine lv_iconst (v := 1) hx hb dX5_against_37 (by decide) ?_
              refine lv_goto (tgt := 42) hx hb dX5_against_38 (by decide) ?_
              exact hB42 x0 x1 x3 x2 1 _ (lv_sub hl [0, 1, 3] rfl) v_x0 hf
  have hl := lv_entry ([.ref y0, .int y1]) (n := 4) (Nat.le_of_ble_eq_true rfl)
  rw [lg_entry_eq]
  generalize (lg_sl ([.ref y0, .int y1]) ++ List.replicate (4 - (lg_sl ([.ref y0, .int y1])).length) Slot.unset).toArray = ls at hl ⊢
  have hl : lv_has ls 4 [(0, .ref y0), (1, .int y1)] := hl
  unfold f_X5_against at hf
  refine lv_iconst (v := 0) hx hb dX5_against_0 (by decide) ?_
  refine lv_istore_n (lv' := [(2, .int 0), (0, .ref y0), (1, .int y1)]) hx hb dX5_against_1 rfl hl (by decide) rfl (fun ls hl => ?_)
  refine lv_iconst (v := 0) hx hb dX5_against_2 (by decide) ?_
  refine lv_istore_n (lv' := [(3, .int 0), (2, .int 0), (0, .ref y0), (1, .int y1)]) hx hb dX5_against_3 rfl hl (by decide) rfl (fun ls hl => ?_)
  exact hL4 FU y0 y1 0 0 _ (lv_sub hl [2, 3, 1, 0] rfl) v_y0 hf
def f_X5_onSet_B38 (S : PS) (x1 : Int32) : Option Int32 :=
  some x1
def f_X5_onSet_B30 (S : PS) (kL4 : Nat → Int32 → Int32 → Option Int32) (ke38 : Int32 → Option Int32) (x0 : Nat) (x2 : Int32) (s0 : Int32) (s1 : Int32) : Option Int32 :=
  kL4 x0 (s0 ||| s1) (x2 + 1)
def f_X5_onSet_L4s (S : PS) (kL4 : Nat → Int32 → Int32 → Option Int32) (ke38 : Int32 → Option Int32) (x0 : Nat) (x1 : Int32) (x2 : Int32) : Option Int32 :=
  rq (fR S 81 x0) S 6 fun b1 =>
  ck (decide (¬ ((0 : Int32) < 0 ∨ aN S b1 ≤ (0 : Int32).toNatClampNeg))) (
  if (aI S b1 (0 : Int32).toNatClampNeg) ≤ x2 then (ke38 x1) else
  bd (f_X5_isOn S x0 x2) fun t5 =>
  if t5 = 0 then (f_X5_onSet_B30 S kL4 ke38 x0 x2 x1 0) else
  f_X5_onSet_B30 S kL4 ke38 x0 x2 x1 ((1 : Int32) <<< (x2 &&& 31)))
def f_X5_onSet_L4 (S : PS) (ke38 : Int32 → Option Int32) (fu : Nat) : Nat → Int32 → Int32 → Option Int32 := fx (fun kL => f_X5_onSet_L4s S kL ke38) (fun _ _ _ => none) fu
def f_X5_onSet (S : PS) (x0 : Nat) : Option Int32 :=
  f_X5_onSet_L4 S (f_X5_onSet_B38 S) FU x0 0 0
set_option maxHeartbeats 4000000 in
set_option maxRecDepth 100000 in
theorem c_X5_onSet (l : Launch) (D : va_G) (cy : cyT) {H : Heap} {S : PS} (hP : va_P D vwCl (wl cy S) H) {y0 : Nat} (v_y0 : vd S y0 5) {res : Int32} (hf : f_X5_onSet S y0 = some res) : Met l yX5_onSet wsX5_onSet ({ frames := 2, cells := 0, slots := 0, locals := 43 } : Room) (PcR D cy H [.ref y0]) (vp_Si (fun r => r = res)) 0 0 (fun _ => False) := by
  refine Met.ofW (cc := cX5_onSet) (maxL := 3) (ret := (some .int)) (by decide) rfl ?_
  intro p e s m args below meth c s₁ B hml hv
  obtain ⟨hav, hH, hK⟩ := hv
  have hx := B.exec
  have hb := B.bytes
  have hr := B.returns
  have hts := atoms_spec (ws := wsX5_onSet) B.pre
  have hown : s.vm.findClass RX5 = some m.cls := findClass_of_methodNamed B.named
  have hlocks := B.notSynchronized
  subst hav
  subst hH
  have F : CallFix p m c cX5_onSet 3 s _ wsX5_onSet RX5 := ⟨hx, hb, hml, hown, hts⟩
  have hB38 : ∀ (x1 : Int32) (ls : Array Slot), lv_has ls 3 [(1, .int x1)] → f_X5_onSet_B38 S x1 = some res → W p l e (headSpec wsX5_onSet ({ frames := 2, cells := 0, slots := 0, locals := 43 } : Room)).room s m ([.ref y0] : List Value).toArray below meth c s.heap [] 0 0 (MQ below (vp_Si (fun r => r = res)) ([.ref y0] : List Value).toArray s 0 0 (fun _ => False)) (F0 m 38 ls []) := by
    intro x1 ls hl hf
    unfold f_X5_onSet_B38 at hf
    refine lv_iload_n hx hb dX5_onSet_38 rfl (lv_at hl 0 rfl) ?_
    exact W.iret (v := x1) hx hb hr (fun t ht hW => ⟨_, rfl, Option.some.inj hf, ht⟩) (fun _ h => by cases h) dX5_onSet_39
  have hL4 : ∀ (fu4 : Nat), ∀ (x0 : Nat) (x1 : Int32) (x2 : Int32) (ls : Array Slot), lv_has ls 3 [(0, .ref x0), (1, .int x1), (2, .int x2)] → vd S x0 5 → f_X5_onSet_L4 S (f_X5_onSet_B38 S) fu4 x0 x1 x2 = some res → W p l e (headSpec wsX5_onSet ({ frames := 2, cells := 0, slots := 0, locals := 43 } : Room)).room s m ([.ref y0] : List Value).toArray below meth c s.heap [] 0 0 (MQ below (vp_Si (fun r => r = res)) ([.ref y0] : List Value).toArray s 0 0 (fun _ => False)) (F0 m 4 ls []) := by
    intro fu4
    induction fu4 with
    | zero =>
      intro x0 x1 x2 ls hl v_x0 hf
      have hf : (none : Option Int32) = some res := hf
      cases hf
    | succ fu4 ih4 =>
      have hB30 : ∀ (x0 : Nat) (x2 : Int32) (s0 : Int32) (s1 : Int32) (ls : Array Slot), lv_has ls 3 [(0, .ref x0), (2, .int x2)] → vd S x0 5 → f_X5_onSet_B30 S (f_X5_onSet_L4 S (f_X5_onSet_B38 S) fu4) (f_X5_onSet_B38 S) x0 x2 s0 s1 = some res → W p l e (headSpec wsX5_onSet ({ frames := 2, cells := 0, slots := 0, locals := 43 } : Room)).room s m ([.ref y0] : List Value).toArray below meth c s.heap [] 0 0 (MQ below (vp_Si (fun r => r = res)) ([.ref y0] : List Value).toArray s 0 0 (fun _ => False)) (F0 m 30 ls [.int s1, .int s0]) := by
        intro x0 x2 s0 s1 ls hl v_x0 hf
        unfold f_X5_onSet_B30 at hf
        refine lv_ior hx hb dX5_onSet_30 ?_
        refine lv_istore_n (lv' := [(1, .int (s0 ||| s1)), (0, .ref x0), (2, .int x2)]) hx hb dX5_onSet_31 rfl hl (by decide) rfl (fun ls hl => ?_)
        refine lv_iinc (v := x2 + 1) (lv' := [(2, .int (x2 + 1)), (1, .int (s0 ||| s1)), (0, .ref x0)]) hx hb dX5_onSet_32 hl (k := 2) rfl (by rfl) (by decide) rfl (fun ls hl => ?_)
        refine lv_goto (tgt := 4) hx hb dX5_onSet_35 (by decide) ?_
        exact ih4 x0 (s0 ||| s1) (x2 + 1) _ (lv_sub hl [2, 1, 0] rfl) v_x0 hf
      intro x0 x1 x2 ls hl v_x0 hf
      have hf : f_X5_onSet_L4s S (f_X5_onSet_L4 S (f_X5_onSet_B38 S) fu4) (f_X5_onSet_B38 S) x0 x1 x2 = some res := hf
      unfold f_X5_onSet_L4s at hf
      refine lv_iload_n hx hb dX5_onSet_4 rfl (lv_at hl 2 rfl) ?_
      refine lv_aload_n hx hb dX5_onSet_5 rfl (lv_at hl 0 rfl) ?_
      obtain ⟨b9, e10, v_b9, hf⟩ := rq_some hf
      refine q_get F hK hP v_x0.1 (pF_5 (S := S) v_x0.2) (fun w h => List.mem_cons_of_mem _ (List.mem_append_right _ h)) rfl 1 (by decide) (hts (.fieldLink RX5 7 "SharedModuliModel" "z" "[I") (List.mem_of_getElem? (i := 1) rfl)) (v := .ref b9) (congrArg (fun z => some (va_rf z)) e10) dX5_onSet_6 ?_
      refine lv_iconst (v := 0) hx hb dX5_onSet_9 (by decide) ?_
      obtain ⟨c11, hf⟩ := ckd_some hf
      refine q_iald F hK hP v_b9 c11 dX5_onSet_10 ?_
      refine lv_icmp_ge (tgt := 38) hx hb dX5_onSet_11 (by decide) (fun c12 => ?_) (fun c12 => ?_)
      · have hf := it_t c12 hf
        exact hB38 x1 _ (lv_sub hl [1] rfl)  hf
      · have hf := it_f c12 hf
        refine lv_iload_n hx hb dX5_onSet_14 rfl (lv_at hl 1 rfl) ?_
        refine lv_aload_n hx hb dX5_onSet_15 rfl (lv_at hl 0 rfl) ?_
        refine lv_iload_n hx hb dX5_onSet_16 rfl (lv_at hl 2 rfl) ?_
        obtain ⟨t13, h14, hf⟩ := bd_some hf
        refine vp_callSi (va_runV (As := [.int x2]) (rest := [.int x1]) F (c_X5_isOn l D cy (H := _) hP v_x0 h14) (cwV 1 hts gX5_onSet_X5_isOn rfl rfl rfl ⟨rfl, ph_X5_isOn.1, ph_X5_isOn.2, pd_X5_isOn⟩ ⟨Nat.le_of_ble_eq_true rfl, Nat.le_of_ble_eq_true rfl⟩) ⟨PcR.bl, (q_rcv hK hP v_x0.1 (pF_5 (S := S) v_x0.2) rfl), PcR.in hK⟩ rfl rfl hl.1 rfl (lv_room (Nat.le_of_ble_eq_true rfl)) dX5_onSet_17 ⟨Nat.zero_le _, Nat.zero_le _⟩).run (fun r15 er15 => ?_)
        subst r15
        refine lv_if_eq (tgt := 29) hx hb dX5_onSet_20 (by decide) (fun c16 => ?_) (fun c16 => ?_)
        · have hf := it_t c16 hf
          refine lv_iconst (v := 0) hx hb dX5_onSet_29 (by decide) ?_
          exact hB30 x0 x2 x1 0 _ (lv_sub hl [0, 2] rfl) v_x0 hf
        · have hf := it_f c16 hf
          refine lv_iconst (v := 1) hx hb dX5_onSet_23 (by decide) ?_
          refine lv_iload_n hx hb dX5_onSet_24 rfl (lv_at hl 2 rfl) ?_
          refine lv_ishl hx hb dX5_onSet_25 ?_
          refine lv_goto (tgt := 30) hx hb dX5_onSet_26 (by decide) ?_
          exact hB30 x0 x2 x1 ((1 : Int32) <<< (x2 &&& 31)) _ (lv_sub hl [0, 2] rfl) v_x0 hf
  have hl := lv_entry ([.ref y0]) (n := 3) (Nat.le_of_ble_eq_true rfl)
  rw [lg_entry_eq]
  generalize (lg_sl ([.ref y0]) ++ List.replicate (3 - (lg_sl ([.ref y0])).length) Slot.unset).toArray = ls at hl ⊢
  have hl : lv_has ls 3 [(0, .ref y0)] := hl
  unfold f_X5_onSet at hf
  refine lv_iconst (v := 0) hx hb dX5_onSet_0 (by decide) ?_
  refine lv_istore_n (lv' := [(1, .int 0), (0, .ref y0)]) hx hb dX5_onSet_1 rfl hl (by decide) rfl (fun ls hl => ?_)
  refine lv_iconst (v := 0) hx hb dX5_onSet_2 (by decide) ?_
  refine lv_istore_n (lv' := [(2, .int 0), (1, .int 0), (0, .ref y0)]) hx hb dX5_onSet_3 rfl hl (by decide) rfl (fun ls hl => ?_)
  exact hL4 FU y0 0 0 _ (lv_sub hl [2, 1, 0] rfl) v_y0 hf
def f_X5_isPossible_B86 (S : PS) (x2 : Int32) : Option Int32 :=
  ck (decide (x2 &&& 1 = x2)) (
  some x2)
def f_X5_isPossible_B80 (S : PS) (kL4 : Nat → Int32 → Int32 → Int32 → Option Int32) (ke86 : Int32 → Option Int32) (x0 : Nat) (x1 : Int32) (x2 : Int32) (x3 : Int32) : Option Int32 :=
  kL4 x0 x1 x2 (x3 + 1)
def f_X5_isPossible_B73 (S : PS) (kL17 : Nat → Int32 → Int32 → Int32 → Int32 → Option Int32) (ke80 : Nat → Int32 → Int32 → Int32 → Option Int32) (x0 : Nat) (x1 : Int32) (x3 : Int32) (x4 : Int32) (s0 : Int32) : Option Int32 :=
  kL17 x0 x1 s0 x3 (x4 + 1)
def f_X5_isPossible_B72 (S : PS) (kL17 : Nat → Int32 → Int32 → Int32 → Int32 → Option Int32) (ke80 : Nat → Int32 → Int32 → Int32 → Option Int32) (x0 : Nat) (x1 : Int32) (x3 : Int32) (x4 : Int32) : Option Int32 :=
  f_X5_isPossible_B73 S kL17 ke80 x0 x1 x3 x4 0
def f_X5_isPossible_B68 (S : PS) (kL17 : Nat → Int32 → Int32 → Int32 → Int32 → Option Int32) (ke80 : Nat → Int32 → Int32 → Int32 → Option Int32) (x0 : Nat) (x1 : Int32) (x3 : Int32) (x4 : Int32) : Option Int32 :=
  f_X5_isPossible_B73 S kL17 ke80 x0 x1 x3 x4 1
def f_X5_isPossible_B47 (S : PS) (kL17 : Nat → Int32 → Int32 → Int32 → Int32 → Option Int32) (ke80 : Nat → Int32 → Int32 → Int32 → Option Int32) (x0 : Nat) (x1 : Int32) (x2 : Int32) (x3 : Int32) (x4 : Int32) (s0 : Int32) : Option Int32 :=
  if x2 = 0 then (f_X5_isPossible_B72 S kL17 ke80 x0 x1 x3 x4) else
  if s0 = 0 then (f_X5_isPossible_B68 S kL17 ke80 x0 x1 x3 x4) else
  bd (f_X5_goTogether S x0 x3 x4) fun t4 =>
  if t4 = 0 then (f_X5_isPossible_B72 S kL17 ke80 x0 x1 x3 x4) else
  f_X5_isPossible_B68 S kL17 ke80 x0 x1 x3 x4
def f_X5_isPossible_B46 (S : PS) (kL17 : Nat → Int32 → Int32 → Int32 → Int32 → Option Int32) (ke80 : Nat → Int32 → Int32 → Int32 → Option Int32) (x0 : Nat) (x1 : Int32) (x2 : Int32) (x3 : Int32) (x4 : Int32) : Option Int32 :=
  f_X5_isPossible_B47 S kL17 ke80 x0 x1 x2 x3 x4 0
def f_X5_isPossible_L17s (S : PS) (kL17 : Nat → Int32 → Int32 → Int32 → Int32 → Option Int32) (ke80 : Nat → Int32 → Int32 → Int32 → Option Int32) (x0 : Nat) (x1 : Int32) (x2 : Int32) (x3 : Int32) (x4 : Int32) : Option Int32 :=
  if x3 < x4 then (ke80 x0 x1 x2 x3) else
  if ((x1 >>> (x3 &&& 31)) &&& (1 : Int32)) = 1 then (if ((x1 >>> (x4 &&& 31)) &&& (1 : Int32)) = 1 then (f_X5_isPossible_B47 S kL17 ke80 x0 x1 x2 x3 x4 1) else
  f_X5_isPossible_B46 S kL17 ke80 x0 x1 x2 x3 x4) else
  f_X5_isPossible_B46 S kL17 ke80 x0 x1 x2 x3 x4
def f_X5_isPossible_L17 (S : PS) (ke80 : Nat → Int32 → Int32 → Int32 → Option Int32) (fu : Nat) : Nat → Int32 → Int32 → Int32 → Int32 → Option Int32 := fx (fun kL => f_X5_isPossible_L17s S kL ke80) (fun _ _ _ _ _ => none) fu
def f_X5_isPossible_L4s (S : PS) (kL4 : Nat → Int32 → Int32 → Int32 → Option Int32) (ke86 : Int32 → Option Int32) (x0 : Nat) (x1 : Int32) (x2 : Int32) (x3 : Int32) : Option Int32 :=
  rq (fR S 81 x0) S 6 fun b11 =>
  ck (decide (¬ ((0 : Int32) < 0 ∨ aN S b11 ≤ (0 : Int32).toNatClampNeg))) (
  if (aI S b11 (0 : Int32).toNatClampNeg) < x3 then (ke86 x2) else
  f_X5_isPossible_L17 S (f_X5_isPossible_B80 S kL4 ke86) FU x0 x1 x2 x3 0)
def f_X5_isPossible_L4 (S : PS) (ke86 : Int32 → Option Int32) (fu : Nat) : Nat → Int32 → Int32 → Int32 → Option Int32 := fx (fun kL => f_X5_isPossible_L4s S kL ke86) (fun _ _ _ _ => none) fu
def f_X5_isPossible (S : PS) (x0 : Nat) (x1 : Int32) : Option Int32 :=
  f_X5_isPossible_L4 S (f_X5_isPossible_B86 S) FU x0 x1 1 0
set_option maxHeartbeats 4000000 in
set_option maxRecDepth 100000 in
theorem c_X5_isPossible (l : Launch) (D : va_G) (cy : cyT) {H : Heap} {S : PS} (hP : va_P D vwCl (wl cy S) H) {y0 : Nat} {y1 : Int32} (v_y0 : vd S y0 5) {res : Int32} (hf : f_X5_isPossible S y0 y1 = some res) : Met l yX5_isPossible wsX5_isPossible ({ frames := 3, cells := 0, slots := 0, locals := 68 } : Room) (PcR D cy H [.ref y0, .int y1]) (vp_Si (fun r => r = res)) 0 0 (fun _ => False) := by
  refine Met.ofW (cc := cX5_isPossible) (maxL := 6) (ret := (some .boolean)) (by decide) rfl ?_
  intro p e s m args below meth c s₁ B hml hv
  obtain ⟨hav, hH, hK⟩ := hv
  have hx := B.exec
  have hb := B.bytes
  have hr := B.returns
  have hts := atoms_spec (ws := wsX5_isPossible) B.pre
  have hown : s.vm.findClass RX5 = some m.cls := findClass_of_methodNamed B.named
  have hlocks := B.notSynchronized
  subst hav
  subst hH
  have F : CallFix p m c cX5_isPossible 6 s _ wsX5_isPossible RX5 := ⟨hx, hb, hml, hown, hts⟩
  have hB86 : ∀ (x2 : Int32) (ls : Array Slot), lv_has ls 6 [(2, .int x2)] → f_X5_isPossible_B86 S x2 = some res → W p l e (headSpec wsX5_isPossible ({ frames := 3, cells := 0, slots := 0, locals := 68 } : Room)).room s m ([.ref y0, .int y1] : List Value).toArray below meth c s.heap [] 0 0 (MQ below (vp_Si (fun r => r = res)) ([.ref y0, .int y1] : List Value).toArray s 0 0 (fun _ => False)) (F0 m 86 ls []) := by
    intro x2 ls hl hf
    unfold f_X5_isPossible_B86 at hf
    refine lv_iload_n hx hb dX5_isPossible_86 rfl (lv_at hl 0 rfl) ?_
    obtain ⟨c15, hf⟩ := ckd_some hf
    exact W.zret (v := x2) hx hb hr (nz c15) (fun t ht hW => ⟨_, rfl, Option.some.inj hf, ht⟩) (fun _ h => by cases h) dX5_isPossible_87
  have hL4 : ∀ (fu4 : Nat), ∀ (x0 : Nat) (x1 : Int32) (x2 : Int32) (x3 : Int32) (ls : Array Slot), lv_has ls 6 [(0, .ref x0), (1, .int x1), (2, .int x2), (3, .int x3)] → vd S x0 5 → f_X5_isPossible_L4 S (f_X5_isPossible_B86 S) fu4 x0 x1 x2 x3 = some res → W p l e (headSpec wsX5_isPossible ({ frames := 3, cells := 0, slots := 0, locals := 68 } : Room)).room s m ([.ref y0, .int y1] : List Value).toArray below meth c s.heap [] 0 0 (MQ below (vp_Si (fun r => r = res)) ([.ref y0, .int y1] : List Value).toArray s 0 0 (fun _ => False)) (F0 m 4 ls []) := by
    intro fu4
    induction fu4 with
    | zero =>
      intro x0 x1 x2 x3 ls hl v_x0 hf
      have hf : (none : Option Int32) = some res := hf
      cases hf
    | succ fu4 ih4 =>
      have hB80 : ∀ (x0 : Nat) (x1 : Int32) (x2 : Int32) (x3 : Int32) (ls : Array Slot), lv_has ls 6 [(0, .ref x0), (1, .int x1), (2, .int x2), (3, .int x3)] → vd S x0 5 → f_X5_isPossible_B80 S (f_X5_isPossible_L4 S (f_X5_isPossible_B86 S) fu4) (f_X5_isPossible_B86 S) x0 x1 x2 x3 = some res → W p l e (headSpec wsX5_isPossible ({ frames := 3, cells := 0, slots := 0, locals := 68 } : Room)).room s m ([.ref y0, .int y1] : List Value).toArray below meth c s.heap [] 0 0 (MQ below (vp_Si (fun r => r = res)) ([.ref y0, .int y1] : List Value).toArray s 0 0 (fun _ => False)) (F0 m 80 ls []) := by
        intro x0 x1 x2 x3 ls hl v_x0 hf
        unfold f_X5_isPossible_B80 at hf
        refine lv_iinc (v := x3 + 1) (lv' := [(3, .int (x3 + 1)), (0, .ref x0), (1, .int x1), (2, .int x2)]) hx hb dX5_isPossible_80 hl (k := 3) rfl (by rfl) (by decide) rfl (fun ls hl => ?_)
        refine lv_goto (tgt := 4) hx hb dX5_isPossible_83 (by decide) ?_
        exact ih4 x0 x1 x2 (x3 + 1) _ (lv_sub hl [1, 2, 3, 0] rfl) v_x0 hf
      have hL17 : ∀ (fu17 : Nat), ∀ (x0 : Nat) (x1 : Int32) (x2 : Int32) (x3 : Int32) (x4 : Int32) (ls : Array Slot), lv_has ls 6 [(0, .ref x0), (1, .int x1), (2, .int x2), (3, .int x3), (4, .int x4)] → vd S x0 5 → f_X5_isPossible_L17 S (f_X5_isPossible_B80 S (f_X5_isPossible_L4 S (f_X5_isPossible_B86 S) fu4) (f_X5_isPossible_B86 S)) fu17 x0 x1 x2 x3 x4 = some res → W p l e (headSpec wsX5_isPossible ({ frames := 3, cells := 0, slots := 0, locals := 68 } : Room)).room s m ([.ref y0, .int y1] : List Value).toArray below meth c s.heap [] 0 0 (MQ below (vp_Si (fun r => r = res)) ([.ref y0, .int y1] : List Value).toArray s 0 0 (fun _ => False)) (F0 m 17 ls []) := by
        intro fu17
        induction fu17 with
        | zero =>
          intro x0 x1 x2 x3 x4 ls hl v_x0 hf
          have hf : (none : Option Int32) = some res := hf
          cases hf
        | succ fu17 ih17 =>
          have hB73 : ∀ (x0 : Nat) (x1 : Int32) (x3 : Int32) (x4 : Int32) (s0 : Int32) (ls : Array Slot), lv_has ls 6 [(0, .ref x0), (1, .int x1), (3, .int x3), (4, .int x4)] → vd S x0 5 → f_X5_isPossible_B73 S (f_X5_isPossible_L17 S (f_X5_isPossible_B80 S (f_X5_isPossible_L4 S (f_X5_isPossible_B86 S) fu4) (f_X5_isPossible_B86 S)) fu17) (f_X5_isPossible_B80 S (f_X5_isPossible_L4 S (f_X5_isPossible_B86 S) fu4) (f_X5_isPossible_B86 S)) x0 x1 x3 x4 s0 = some res → W p l e (headSpec wsX5_isPossible ({ frames := 3, cells := 0, slots := 0, locals := 68 } : Room)).room s m ([.ref y0, .int y1] : List Value).toArray below meth c s.heap [] 0 0 (MQ below (vp_Si (fun r => r = res)) ([.ref y0, .int y1] : List Value).toArray s 0 0 (fun _ => False)) (F0 m 73 ls [.int s0]) := by
            intro x0 x1 x3 x4 s0 ls hl v_x0 hf
            unfold f_X5_isPossible_B73 at hf
            refine lv_istore_n (lv' := [(2, .int s0), (0, .ref x0), (1, .int x1), (3, .int x3), (4, .int x4)]) hx hb dX5_isPossible_73 rfl hl (by decide) rfl (fun ls hl => ?_)
            refine lv_iinc (v := x4 + 1) (lv' := [(4, .int (x4 + 1)), (2, .int s0), (0, .ref x0), (1, .int x1), (3, .int x3)]) hx hb dX5_isPossible_74 hl (k := 4) rfl (by rfl) (by decide) rfl (fun ls hl => ?_)
            refine lv_goto (tgt := 17) hx hb dX5_isPossible_77 (by decide) ?_
            exact ih17 x0 x1 s0 x3 (x4 + 1) _ (lv_sub hl [2, 3, 1, 4, 0] rfl) v_x0 hf
          have hB72 : ∀ (x0 : Nat) (x1 : Int32) (x3 : Int32) (x4 : Int32) (ls : Array Slot), lv_has ls 6 [(0, .ref x0), (1, .int x1), (3, .int x3), (4, .int x4)] → vd S x0 5 → f_X5_isPossible_B72 S (f_X5_isPossible_L17 S (f_X5_isPossible_B80 S (f_X5_isPossible_L4 S (f_X5_isPossible_B86 S) fu4) (f_X5_isPossible_B86 S)) fu17) (f_X5_isPossible_B80 S (f_X5_isPossible_L4 S (f_X5_isPossible_B86 S) fu4) (f_X5_isPossible_B86 S)) x0 x1 x3 x4 = some res → W p l e (headSpec wsX5_isPossible ({ frames := 3, cells := 0, slots := 0, locals := 68 } : Room)).room s m ([.ref y0, .int y1] : List Value).toArray below meth c s.heap [] 0 0 (MQ below (vp_Si (fun r => r = res)) ([.ref y0, .int y1] : List Value).toArray s 0 0 (fun _ => False)) (F0 m 72 ls []) := by
            intro x0 x1 x3 x4 ls hl v_x0 hf
            unfold f_X5_isPossible_B72 at hf
            refine lv_iconst (v := 0) hx hb dX5_isPossible_72 (by decide) ?_
            exact hB73 x0 x1 x3 x4 0 _ (lv_sub hl [0, 1, 2, 3] rfl) v_x0 hf
          have hB68 : ∀ (x0 : Nat) (x1 : Int32) (x3 : Int32) (x4 : Int32) (ls : Array Slot), lv_has ls 6 [(0, .ref x0), (1, .int x1), (3, .int x3), (4, .int x4)] → vd S x0 5 → f_X5_isPossible_B68 S (f_X5_isPossible_L17 S (f_X5_isPossible_B80 S (f_X5_isPossible_L4 S (f_X5_isPossible_B86 S) fu4) (f_X5_isPossible_B86 S)) fu17) (f_X5_isPossible_B80 S (f_X5_isPossible_L4 S (f_X5_isPossible_B86 S) fu4) (f_X5_isPossible_B86 S)) x0 x1 x3 x4 = some res → W p l e (headSpec wsX5_isPossible ({ frames := 3, cells := 0, slots := 0, locals := 68 } : Room)).room s m ([.ref y0, .int y1] : List Value).toArray below meth c s.heap [] 0 0 (MQ below (vp_Si (fun r => r = res)) ([.ref y0, .int y1] : List Value).toArray s 0 0 (fun _ => False)) (F0 m 68 ls []) := by
            intro x0 x1 x3 x4 ls hl v_x0 hf
            unfold f_X5_isPossible_B68 at hf
            refine lv_iconst (v := 1) hx hb dX5_isPossible_68 (by decide) ?_
            refine lv_goto (tgt := 73) hx hb dX5_isPossible_69 (by decide) ?_
            exact hB73 x0 x1 x3 x4 1 _ (lv_sub hl [0, 1, 2, 3] rfl) v_x0 hf
          have hB47 : ∀ (x0 : Nat) (x1 : Int32) (x2 : Int32) (x3 : Int32) (x4 : Int32) (s0 : Int32) (ls : Array Slot), lv_has ls 6 [(0, .ref x0), (1, .int x1), (2, .int x2), (3, .int x3), (4, .int x4)] → vd S x0 5 → f_X5_isPossible_B47 S (f_X5_isPossible_L17 S (f_X5_isPossible_B80 S (f_X5_isPossible_L4 S (f_X5_isPossible_B86 S) fu4) (f_X5_isPossible_B86 S)) fu17) (f_X5_isPossible_B80 S (f_X5_isPossible_L4 S (f_X5_isPossible_B86 S) fu4) (f_X5_isPossible_B86 S)) x0 x1 x2 x3 x4 s0 = some res → W p l e (headSpec wsX5_isPossible ({ frames := 3, cells := 0, slots := 0, locals := 68 } : Room)).room s m ([.ref y0, .int y1] : List Value).toArray below meth c s.heap [] 0 0 (MQ below (vp_Si (fun r => r = res)) ([.ref y0, .int y1] : List Value).toArray s 0 0 (fun _ => False)) (F0 m 47 ls [.int s0]) := by
            intro x0 x1 x2 x3 x4 s0 ls hl v_x0 hf
            unfold f_X5_isPossible_B47 at hf
            refine lv_istore (lv' := [(5, .int s0), (0, .ref x0), (1, .int x1), (2, .int x2), (3, .int x3), (4, .int x4)]) hx hb dX5_isPossible_47 hl (by decide) rfl (fun ls hl => ?_)
            refine lv_iload_n hx hb dX5_isPossible_49 rfl (lv_at hl 3 rfl) ?_
            refine lv_if_eq (tgt := 72) hx hb dX5_isPossible_50 (by decide) (fun c16 => ?_) (fun c16 => ?_)
            · have hf := it_t c16 hf
              exact hB72 x0 x1 x3 x4 _ (lv_sub hl [1, 2, 4, 5] rfl) v_x0 hf
            · have hf := it_f c16 hf
              refine lv_iload hx hb dX5_isPossible_53 (lv_at hl 0 rfl) ?_
              refine lv_if_eq (tgt := 68) hx hb dX5_isPossible_55 (by decide) (fun c17 => ?_) (fun c17 => ?_)
              · have hf := it_t c17 hf
                exact hB68 x0 x1 x3 x4 _ (lv_sub hl [1, 2, 4, 5] rfl) v_x0 hf
              · have hf := it_f c17 hf
                refine lv_aload_n hx hb dX5_isPossible_58 rfl (lv_at hl 1 rfl) ?_
                refine lv_iload_n hx hb dX5_isPossible_59 rfl (lv_at hl 4 rfl) ?_
                refine lv_iload hx hb dX5_isPossible_60 (lv_at hl 5 rfl) ?_
                obtain ⟨t18, h19, hf⟩ := bd_some hf
                refine vp_callSi (va_runV (As := [.int x3, .int x4]) (rest := []) F (c_X5_goTogether l D cy (H := _) hP v_x0 h19) (cwV 2 hts gX5_isPossible_X5_goTogether rfl rfl rfl ⟨rfl, ph_X5_goTogether.1, ph_X5_goTogether.2, pd_X5_goTogether⟩ ⟨Nat.le_of_ble_eq_true rfl, Nat.le_of_ble_eq_true rfl⟩) ⟨PcR.bl, (q_rcv hK hP v_x0.1 (pF_5 (S := S) v_x0.2) rfl), PcR.in hK⟩ rfl rfl hl.1 rfl (lv_room (Nat.le_of_ble_eq_true rfl)) dX5_isPossible_62 ⟨Nat.zero_le _, Nat.zero_le _⟩).run (fun r20 er20 => ?_)
                subst r20
                refine lv_if_eq (tgt := 72) hx hb dX5_isPossible_65 (by decide) (fun c21 => ?_) (fun c21 => ?_)
                · have hf := it_t c21 hf
                  exact hB72 x0 x1 x3 x4 _ (lv_sub hl [1, 2, 4, 5] rfl) v_x0 hf
                · have hf := it_f c21 hf
                  exact hB68 x0 x1 x3 x4 _ (lv_sub hl [1, 2, 4, 5] rfl) v_x0 hf
          have hB46 : ∀ (x0 : Nat) (x1 : Int32) (x2 : Int32) (x3 : Int32) (x4 : Int32) (ls : Array Slot), lv_has ls 6 [(0, .ref x0), (1, .int x1), (2, .int x2), (3, .int x3), (4, .int x4)] → vd S x0 5 → f_X5_isPossible_B46 S (f_X5_isPossible_L17 S (f_X5_isPossible_B80 S (f_X5_isPossible_L4 S (f_X5_isPossible_B86 S) fu4) (f_X5_isPossible_B86 S)) fu17) (f_X5_isPossible_B80 S (f_X5_isPossible_L4 S (f_X5_isPossible_B86 S) fu4) (f_X5_isPossible_B86 S)) x0 x1 x2 x3 x4 = some res → W p l e (headSpec wsX5_isPossible ({ frames := 3, cells := 0, slots := 0, locals := 68 } : Room)).room s m ([.ref y0, .int y1] : List Value).toArray below meth c s.heap [] 0 0 (MQ below (vp_Si (fun r => r = res)) ([.ref y0, .int y1] : List Value).toArray s 0 0 (fun _ => False)) (F0 m 46 ls []) := by
            intro x0 x1 x2 x3 x4 ls hl v_x0 hf
            unfold f_X5_isPossible_B46 at hf
            refine lv_iconst (v := 0) hx hb dX5_isPossible_46 (by decide) ?_
            exact hB47 x0 x1 x2 x3 x4 0 _ (lv_sub hl [0, 1, 2, 3, 4] rfl) v_x0 hf
          intro x0 x1 x2 x3 x4 ls hl v_x0 hf
          have hf : f_X5_isPossible_L17s S (f_X5_isPossible_L17 S (f_X5_isPossible_B80 S (f_X5_isPossible_L4 S (f_X5_isPossible_B86 S) fu4) (f_X5_isPossible_B86 S)) fu17) (f_X5_isPossible_B80 S (f_X5_isPossible_L4 S (f_X5_isPossible_B86 S) fu4) (f_X5_isPossible_B86 S)) x0 x1 x2 x3 x4 = some res := hf
          unfold f_X5_isPossible_L17s at hf
          refine lv_iload hx hb dX5_isPossible_17 (lv_at hl 4 rfl) ?_
          refine lv_iload_n hx hb dX5_isPossible_19 rfl (lv_at hl 3 rfl) ?_
          refine lv_icmp_gt (tgt := 80) hx hb dX5_isPossible_20 (by decide) (fun c22 => ?_) (fun c22 => ?_)
          · have hf := it_t c22 hf
            exact hB80 x0 x1 x2 x3 _ (lv_sub hl [0, 1, 2, 3] rfl) v_x0 hf
          · have hf := it_f c22 hf
            refine lv_iload_n hx hb dX5_isPossible_23 rfl (lv_at hl 1 rfl) ?_
            refine lv_iload_n hx hb dX5_isPossible_24 rfl (lv_at hl 3 rfl) ?_
            refine lv_ishr hx hb dX5_isPossible_25 ?_
            refine lv_iconst (v := 1) hx hb dX5_isPossible_26 (by decide) ?_
            refine lv_iand hx hb dX5_isPossible_27 ?_
            refine lv_iconst (v := 1) hx hb dX5_isPossible_28 (by decide) ?_
            refine lv_icmp_ne (tgt := 46) hx hb dX5_isPossible_29 (by decide) (fun c23 => ?_) (fun c23 => ?_)
            · have hf := it_f c23 hf
              exact hB46 x0 x1 x2 x3 x4 _ (lv_sub hl [0, 1, 2, 3, 4] rfl) v_x0 hf
            · have hf := it_t c23 hf
              refine lv_iload_n hx hb dX5_isPossible_32 rfl (lv_at hl 1 rfl) ?_
              refine lv_iload hx hb dX5_isPossible_33 (lv_at hl 4 rfl) ?_
              refine lv_ishr hx hb dX5_isPossible_35 ?_
              refine lv_iconst (v := 1) hx hb dX5_isPossible_36 (by decide) ?_
              refine lv_iand hx hb dX5_isPossible_37 ?_
              refine lv_iconst (v := 1) hx hb dX5_isPossible_38 (by decide) ?_
              refine lv_icmp_ne (tgt := 46) hx hb dX5_isPossible_39 (by decide) (fun c24 => ?_) (fun c24 => ?_)
              · have hf := it_f c24 hf
                exact hB46 x0 x1 x2 x3 x4 _ (lv_sub hl [0, 1, 2, 3, 4] rfl) v_x0 hf
              · have hf := it_t c24 hf
                refine lv_iconst (v := 1) hx hb dX5_isPossible_42 (by decide) ?_
                refine lv_goto (tgt := 47) hx hb dX5_isPossible_43 (by decide) ?_
                exact hB47 x0 x1 x2 x3 x4 1 _ (lv_sub hl [0, 1, 2, 3, 4] rfl) v_x0 hf
      intro x0 x1 x2 x3 ls hl v_x0 hf
      have hf : f_X5_isPossible_L4s S (f_X5_isPossible_L4 S (f_X5_isPossible_B86 S) fu4) (f_X5_isPossible_B86 S) x0 x1 x2 x3 = some res := hf
      unfold f_X5_isPossible_L4s at hf
      refine lv_iload_n hx hb dX5_isPossible_4 rfl (lv_at hl 3 rfl) ?_
      refine lv_aload_n hx hb dX5_isPossible_5 rfl (lv_at hl 0 rfl) ?_
      obtain ⟨b25, e26, v_b25, hf⟩ := rq_some hf
      refine q_get F hK hP v_x0.1 (pF_5 (S := S) v_x0.2) (fun w h => List.mem_cons_of_mem _ (List.mem_append_right _ h)) rfl 1 (by decide) (hts (.fieldLink RX5 7 "SharedModuliModel" "z" "[I") (List.mem_of_getElem? (i := 1) rfl)) (v := .ref b25) (congrArg (fun z => some (va_rf z)) e26) dX5_isPossible_6 ?_
      refine lv_iconst (v := 0) hx hb dX5_isPossible_9 (by decide) ?_
      obtain ⟨c27, hf⟩ := ckd_some hf
      refine q_iald F hK hP v_b25 c27 dX5_isPossible_10 ?_
      refine lv_icmp_gt (tgt := 86) hx hb dX5_isPossible_11 (by decide) (fun c28 => ?_) (fun c28 => ?_)
      · have hf := it_t c28 hf
        exact hB86 x2 _ (lv_sub hl [2] rfl)  hf
      · have hf := it_f c28 hf
        refine lv_iconst (v := 0) hx hb dX5_isPossible_14 (by decide) ?_
        refine lv_istore (lv' := [(4, .int 0), (0, .ref x0), (1, .int x1), (2, .int x2), (3, .int x3)]) hx hb dX5_isPossible_15 hl (by decide) rfl (fun ls hl => ?_)
        exact hL17 FU x0 x1 x2 x3 0 _ (lv_sub hl [1, 2, 3, 4, 0] rfl) v_x0 hf
  have hl := lv_entry ([.ref y0, .int y1]) (n := 6) (Nat.le_of_ble_eq_true rfl)
  rw [lg_entry_eq]
  generalize (lg_sl ([.ref y0, .int y1]) ++ List.replicate (6 - (lg_sl ([.ref y0, .int y1])).length) Slot.unset).toArray = ls at hl ⊢
  have hl : lv_has ls 6 [(0, .ref y0), (1, .int y1)] := hl
  unfold f_X5_isPossible at hf
  refine lv_iconst (v := 1) hx hb dX5_isPossible_0 (by decide) ?_
  refine lv_istore_n (lv' := [(2, .int 1), (0, .ref y0), (1, .int y1)]) hx hb dX5_isPossible_1 rfl hl (by decide) rfl (fun ls hl => ?_)
  refine lv_iconst (v := 0) hx hb dX5_isPossible_2 (by decide) ?_
  refine lv_istore_n (lv' := [(3, .int 0), (2, .int 1), (0, .ref y0), (1, .int y1)]) hx hb dX5_isPossible_3 rfl hl (by decide) rfl (fun ls hl => ?_)
  exact hL4 FU y0 y1 1 0 _ (lv_sub hl [2, 3, 1, 0] rfl) v_y0 hf
def f_X5_joinOne_B51 (S : PS) (x0 : Nat) (x2 : Int32) (x4 : Int32) (x5 : Int64) : Option PS :=
  ck (decide (¬ x4.toInt64 = 0)) (
  some (sL (sL S 87 x0 x5) 86 x0 (((fL (sL S 87 x0 x5) 86 x0) / x4.toInt64) * x2.toInt64)))
def f_X5_joinOne_L28s (kL28 : PS → Nat → Int32 → Int32 → Int32 → Int64 → Option PS) (ke51 : PS → Nat → Int32 → Int32 → Int64 → Option PS) (S : PS) (x0 : Nat) (x2 : Int32) (x3 : Int32) (x4 : Int32) (x5 : Int64) : Option PS :=
  ck (decide (¬ x2.toInt64 = 0)) (
  if (x5 - x5 / x2.toInt64 * x2.toInt64) = x3.toInt64 then (ke51 S x0 x2 x4 x5) else
  kL28 S x0 x2 x3 x4 (x5 + (fL S 86 x0)))
def f_X5_joinOne_L28 (ke51 : PS → Nat → Int32 → Int32 → Int64 → Option PS) (fu : Nat) : PS → Nat → Int32 → Int32 → Int32 → Int64 → Option PS := fx (fun kL => f_X5_joinOne_L28s kL ke51) (fun _ _ _ _ _ _ => none) fu
def f_X5_joinOne (S : PS) (x0 : Nat) (x1 : Int32) : Option PS :=
  bd (f_X5_modulus S x0 x1) fun t4 =>
  bd (f_X5_rest S x0 x1) fun t7 =>
  bd (f_X5_commonOf (fL S 86 x0) t4) fun t10 =>
  f_X5_joinOne_L28 f_X5_joinOne_B51 FU S x0 t4 t7 t10 (fL S 87 x0)
set_option maxHeartbeats 4000000 in
set_option maxRecDepth 100000 in
theorem c_X5_joinOne (l : Launch) (D : va_G) (cy : cyT) {S : PS} {n : Nat} {y0 : Nat} {y1 : Int32} (v_y0 : vd S y0 5) {res : PS} (hf : f_X5_joinOne S y0 y1 = some res) : Met l yX5_joinOne wsX5_joinOne ({ frames := 2, cells := 0, slots := 0, locals := 46 } : Room) (PcW False D cy S n [.ref y0, .int y1]) (va_Qv (fun (u : PS × Nat) => u = (res, n)) (BW D cy S n) (AA cy S n)) 0 0 (AA cy S n) := by
  refine Met.ofW (cc := cX5_joinOne) (maxL := 7) (ret := none) (by decide) rfl ?_
  intro p e s m args below meth c s₁ B hml hv
  obtain ⟨hav, hsz, hP0, hD0, hK, hZ0⟩ := hv
  have hx := B.exec
  have hb := B.bytes
  have hr := B.returns
  have hts := atoms_spec (ws := wsX5_joinOne) B.pre
  have hown : s.vm.findClass RX5 = some m.cls := findClass_of_methodNamed B.named
  have hlocks := B.notSynchronized
  subst hav
  have hw : Hw D cy (AA cy S n) s.heap S n s.heap [] := Hw.start hsz hP0 hD0
  have hA : ∀ q, s.heap.size ≤ q → AA cy S n q := fun q h => Or.inr (hsz ▸ h)
  have hE : EX S S := EX.rf
  have F : CallFix p m c cX5_joinOne 7 s _ wsX5_joinOne RX5 := ⟨hx, hb, hml, hown, hts⟩
  have hB51 : ∀ (Sb : PS) (H1 : Heap) (lo1 : List Loc) (x0 : Nat) (x2 : Int32) (x4 : Int32) (x5 : Int64) (ls : Array Slot), lv_has ls 7 [(0, .ref x0), (2, .int x2), (4, .int x4), (5, .long x5)] → Hw D cy (AA cy S n) s.heap Sb n H1 lo1 → EX S Sb → vd Sb x0 5 → f_X5_joinOne_B51 Sb x0 x2 x4 x5 = some res → W p l e (headSpec wsX5_joinOne ({ frames := 2, cells := 0, slots := 0, locals := 46 } : Room)).room s m ([.ref y0, .int y1] : List Value).toArray below meth c H1 lo1 0 0 (MQ below (va_Qv (fun (u : PS × Nat) => u = (res, n)) (BW D cy S n) (AA cy S n)) ([.ref y0, .int y1] : List Value).toArray s 0 0 (AA cy S n)) (F0 m 51 ls []) := by
    intro Sb H1 lo1 x0 x2 x4 x5 ls hl hw hE v_x0 hf
    unfold f_X5_joinOne_B51 at hf
    refine lv_aload_n hx hb dX5_joinOne_51 rfl (lv_at hl 0 rfl) ?_
    refine lv_lload hx hb dX5_joinOne_52 (lv_at hl 3 rfl) ?_
    refine q_put F hK hw v_x0.1 (pF_5 (S := Sb) v_x0.2) (fun w h => List.mem_cons_of_mem _ (List.mem_append_right _ h)) tyX5 tyX5_ok nmX5 rfl 7 (by decide) (hts (.fieldLink RX5 64 "SharedModuliModel" "\x72" "J") (List.mem_of_getElem? (i := 2) rfl)) (Or.inl rfl) (tyX5_ok 7 (by decide)) rfl rfl (Nat.le_of_ble_eq_true rfl) (S1 := sL Sb 87 x0 x5) (st_87 (S := Sb) v_x0.2 x5) dX5_joinOne_54 (fun H locs hw => ?_)
    refine lv_aload_n hx hb dX5_joinOne_57 rfl (lv_at hl 0 rfl) ?_
    refine lv_aload_n hx hb dX5_joinOne_58 rfl (lv_at hl 0 rfl) ?_
    refine q_get F hK hw.1 v_x0.1 (pF_5 (S := sL Sb 87 x0 x5) v_x0.2) (fun w h => List.mem_cons_of_mem _ (List.mem_append_right _ h)) rfl 6 (by decide) (hts (.fieldLink RX5 56 "SharedModuliModel" "n" "J") (List.mem_of_getElem? (i := 1) rfl)) (v := .long (fL (sL Sb 87 x0 x5) 86 x0)) rfl dX5_joinOne_59 ?_
    refine lv_iload hx hb dX5_joinOne_62 (lv_at hl 2 rfl) ?_
    refine lv_i2l hx hb dX5_joinOne_64 rfl ?_
    obtain ⟨c13, hf⟩ := ckd_some hf
    refine lv_ldiv hx hb dX5_joinOne_65 c13 ?_
    refine lv_iload_n hx hb dX5_joinOne_66 rfl (lv_at hl 1 rfl) ?_
    refine lv_i2l hx hb dX5_joinOne_67 rfl ?_
    refine lv_lmul hx hb dX5_joinOne_68 ?_
    refine q_put F hK hw v_x0.1 (pF_5 (S := sL Sb 87 x0 x5) v_x0.2) (fun w h => List.mem_cons_of_mem _ (List.mem_append_right _ h)) tyX5 tyX5_ok nmX5 rfl 6 (by decide) (hts (.fieldLink RX5 56 "SharedModuliModel" "n" "J") (List.mem_of_getElem? (i := 1) rfl)) (Or.inl rfl) (tyX5_ok 6 (by decide)) rfl rfl (Nat.le_of_ble_eq_true rfl) (S1 := sL (sL Sb 87 x0 x5) 86 x0 (((fL (sL Sb 87 x0 x5) 86 x0) / x4.toInt64) * x2.toInt64)) (st_86 (S := sL Sb 87 x0 x5) v_x0.2 (((fL (sL Sb 87 x0 x5) 86 x0) / x4.toInt64) * x2.toInt64)) dX5_joinOne_69 (fun H locs hw => ?_)
    exact W.vret hx hb hr (fun t ht hW => ⟨⟨(sL (sL Sb 87 x0 x5) 86 x0 (((fL (sL Sb 87 x0 x5) 86 x0) / x4.toInt64) * x2.toInt64), n), rfl, po1 hf, BW.of hw hE ht⟩, hw.2.2.1.F ht⟩) hw.2.2.1.2.2 dX5_joinOne_72
  have hL28 : ∀ (fu28 : Nat), ∀ (Sb : PS) (H1 : Heap) (lo1 : List Loc) (x0 : Nat) (x2 : Int32) (x3 : Int32) (x4 : Int32) (x5 : Int64) (ls : Array Slot), lv_has ls 7 [(0, .ref x0), (2, .int x2), (3, .int x3), (4, .int x4), (5, .long x5)] → Hw D cy (AA cy S n) s.heap Sb n H1 lo1 → EX S Sb → vd Sb x0 5 → f_X5_joinOne_L28 f_X5_joinOne_B51 fu28 Sb x0 x2 x3 x4 x5 = some res → W p l e (headSpec wsX5_joinOne ({ frames := 2, cells := 0, slots := 0, locals := 46 } : Room)).room s m ([.ref y0, .int y1] : List Value).toArray below meth c H1 lo1 0 0 (MQ below (va_Qv (fun (u : PS × Nat) => u = (res, n)) (BW D cy S n) (AA cy S n)) ([.ref y0, .int y1] : List Value).toArray s 0 0 (AA cy S n)) (F0 m 28 ls []) := by
    intro fu28
    induction fu28 with
    | zero =>
      intro Sb H1 lo1 x0 x2 x3 x4 x5 ls hl hw hE v_x0 hf
      have hf : (none : Option PS) = some res := hf
      cases hf
    | succ fu28 ih28 =>
      intro Sb H1 lo1 x0 x2 x3 x4 x5 ls hl hw hE v_x0 hf
      have hf : f_X5_joinOne_L28s (f_X5_joinOne_L28 f_X5_joinOne_B51 fu28) f_X5_joinOne_B51 Sb x0 x2 x3 x4 x5 = some res := hf
      unfold f_X5_joinOne_L28s at hf
      refine lv_lload hx hb dX5_joinOne_28 (lv_at hl 4 rfl) ?_
      refine lv_iload_n hx hb dX5_joinOne_30 rfl (lv_at hl 1 rfl) ?_
      refine lv_i2l hx hb dX5_joinOne_31 rfl ?_
      obtain ⟨c14, hf⟩ := ckd_some hf
      refine lv_lrem hx hb dX5_joinOne_32 c14 ?_
      refine lv_iload_n hx hb dX5_joinOne_33 rfl (lv_at hl 2 rfl) ?_
      refine lv_i2l hx hb dX5_joinOne_34 rfl ?_
      refine W.lcmp hx hb dX5_joinOne_35 ?_
      refine lv_if_eq (tgt := 51) hx hb dX5_joinOne_36 (by decide) (fun c15 => ?_) (fun c15 => ?_)
      · have hf := it_t ((lq_eq _ _).mp c15) hf
        exact hB51 Sb _ _ x0 x2 x4 x5 _ (lv_sub hl [0, 1, 3, 4] rfl) hw hE v_x0 hf
      · have hf := it_f (fun z => c15 ((lq_eq _ _).mpr z)) hf
        refine lv_lload hx hb dX5_joinOne_39 (lv_at hl 4 rfl) ?_
        refine lv_aload_n hx hb dX5_joinOne_41 rfl (lv_at hl 0 rfl) ?_
        refine q_get F hK hw.1 v_x0.1 (pF_5 (S := Sb) v_x0.2) (fun w h => List.mem_cons_of_mem _ (List.mem_append_right _ h)) rfl 6 (by decide) (hts (.fieldLink RX5 56 "SharedModuliModel" "n" "J") (List.mem_of_getElem? (i := 1) rfl)) (v := .long (fL Sb 86 x0)) rfl dX5_joinOne_42 ?_
        refine lv_ladd hx hb dX5_joinOne_45 ?_
        refine lv_lstore (lv' := [(5, .long (x5 + (fL Sb 86 x0))), (0, .ref x0), (2, .int x2), (3, .int x3), (4, .int x4)]) hx hb dX5_joinOne_46 hl (by decide) rfl (fun ls hl => ?_)
        refine lv_goto (tgt := 28) hx hb dX5_joinOne_48 (by decide) ?_
        exact ih28 Sb _ _ x0 x2 x3 x4 (x5 + (fL Sb 86 x0)) _ (lv_sub hl [1, 2, 3, 4, 0] rfl) hw hE v_x0 hf
  have hl := lv_entry ([.ref y0, .int y1]) (n := 7) (Nat.le_of_ble_eq_true rfl)
  rw [lg_entry_eq]
  generalize (lg_sl ([.ref y0, .int y1]) ++ List.replicate (7 - (lg_sl ([.ref y0, .int y1])).length) Slot.unset).toArray = ls at hl ⊢
  have hl : lv_has ls 7 [(0, .ref y0), (1, .int y1)] := hl
  unfold f_X5_joinOne at hf
  refine lv_aload_n hx hb dX5_joinOne_0 rfl (lv_at hl 0 rfl) ?_
  refine lv_iload_n hx hb dX5_joinOne_1 rfl (lv_at hl 1 rfl) ?_
  obtain ⟨t16, h17, hf⟩ := bd_some hf
  refine vp_callSi (va_runV (As := [.int y1]) (rest := []) F (c_X5_modulus l D cy (H := _) hw.1 v_y0 h17) (cwV 1 hts gX5_joinOne_X5_modulus rfl rfl rfl ⟨rfl, ph_X5_modulus.1, ph_X5_modulus.2, pd_X5_modulus⟩ ⟨Nat.le_of_ble_eq_true rfl, Nat.le_of_ble_eq_true rfl⟩) ⟨PcR.bl, (q_rcv hK hw.1 v_y0.1 (pF_5 (S := S) v_y0.2) rfl), PcR.in hK⟩ rfl rfl hl.1 rfl (lv_room (Nat.le_of_ble_eq_true rfl)) dX5_joinOne_2 ⟨Nat.zero_le _, Nat.zero_le _⟩).run (fun r18 er18 => ?_)
  subst r18
  refine lv_istore_n (lv' := [(2, .int t16), (0, .ref y0), (1, .int y1)]) hx hb dX5_joinOne_5 rfl hl (by decide) rfl (fun ls hl => ?_)
  refine lv_aload_n hx hb dX5_joinOne_6 rfl (lv_at hl 1 rfl) ?_
  refine lv_iload_n hx hb dX5_joinOne_7 rfl (lv_at hl 2 rfl) ?_
  obtain ⟨t19, h20, hf⟩ := bd_some hf
  refine vp_callSi (va_runV (As := [.int y1]) (rest := []) F (c_X5_rest l D cy (H := _) hw.1 v_y0 h20) (cwV 1 hts gX5_joinOne_X5_rest rfl rfl rfl ⟨rfl, ph_X5_rest.1, ph_X5_rest.2, pd_X5_rest⟩ ⟨Nat.le_of_ble_eq_true rfl, Nat.le_of_ble_eq_true rfl⟩) ⟨PcR.bl, (q_rcv hK hw.1 v_y0.1 (pF_5 (S := S) v_y0.2) rfl), PcR.in hK⟩ rfl rfl hl.1 rfl (lv_room (Nat.le_of_ble_eq_true rfl)) dX5_joinOne_8 ⟨Nat.zero_le _, Nat.zero_le _⟩).run (fun r21 er21 => ?_)
  subst r21
  refine lv_istore_n (lv' := [(3, .int t19), (2, .int t16), (0, .ref y0), (1, .int y1)]) hx hb dX5_joinOne_11 rfl hl (by decide) rfl (fun ls hl => ?_)
  refine lv_aload_n hx hb dX5_joinOne_12 rfl (lv_at hl 2 rfl) ?_
  refine q_get F hK hw.1 v_y0.1 (pF_5 (S := S) v_y0.2) (fun w h => List.mem_cons_of_mem _ (List.mem_append_right _ h)) rfl 6 (by decide) (hts (.fieldLink RX5 56 "SharedModuliModel" "n" "J") (List.mem_of_getElem? (i := 1) rfl)) (v := .long (fL S 86 y0)) rfl dX5_joinOne_13 ?_
  refine lv_iload_n hx hb dX5_joinOne_16 rfl (lv_at hl 1 rfl) ?_
  obtain ⟨t22, h23, hf⟩ := bd_some hf
  refine vp_callSi (va_runS (As := [.long (fL S 86 y0), .int t16]) (rest := []) F (c_X5_commonOf l D cy (H := _)  h23) (va_cwS 2 hts gX5_joinOne_X5_commonOf rfl rfl rfl ⟨ph_X5_commonOf.1, ph_X5_commonOf.2, pd_X5_commonOf⟩ ⟨Nat.le_of_ble_eq_true rfl, Nat.le_of_ble_eq_true rfl⟩) ⟨PcR.bl, PcR.in hK⟩ rfl rfl hl.1 rfl (lv_room (Nat.le_of_ble_eq_true rfl)) dX5_joinOne_17 ⟨Nat.zero_le _, Nat.zero_le _⟩).run (fun r24 er24 => ?_)
  subst r24
  refine lv_istore (lv' := [(4, .int t22), (3, .int t19), (2, .int t16), (0, .ref y0), (1, .int y1)]) hx hb dX5_joinOne_20 hl (by decide) rfl (fun ls hl => ?_)
  refine lv_aload_n hx hb dX5_joinOne_22 rfl (lv_at hl 3 rfl) ?_
  refine q_get F hK hw.1 v_y0.1 (pF_5 (S := S) v_y0.2) (fun w h => List.mem_cons_of_mem _ (List.mem_append_right _ h)) rfl 7 (by decide) (hts (.fieldLink RX5 64 "SharedModuliModel" "\x72" "J") (List.mem_of_getElem? (i := 2) rfl)) (v := .long (fL S 87 y0)) rfl dX5_joinOne_23 ?_
  refine lv_lstore (lv' := [(5, .long (fL S 87 y0)), (4, .int t22), (3, .int t19), (2, .int t16), (0, .ref y0), (1, .int y1)]) hx hb dX5_joinOne_26 hl (by decide) rfl (fun ls hl => ?_)
  exact hL28 FU S _ _ y0 t16 t19 t22 (fL S 87 y0) _ (lv_sub hl [4, 3, 2, 1, 0] rfl) hw hE v_y0 hf
def f_X5_join_B52 (S : PS) : Option (Int32 × PS) :=
  some (1, S)
def f_X5_join_B46 (kL22 : PS → Nat → Int32 → Int32 → Option (Int32 × PS)) (ke52 : PS → Option (Int32 × PS)) (S : PS) (x0 : Nat) (x1 : Int32) (x2 : Int32) : Option (Int32 × PS) :=
  kL22 S x0 x1 (x2 + 1)
def f_X5_join_L22s (kL22 : PS → Nat → Int32 → Int32 → Option (Int32 × PS)) (ke52 : PS → Option (Int32 × PS)) (S : PS) (x0 : Nat) (x1 : Int32) (x2 : Int32) : Option (Int32 × PS) :=
  rq (fR S 81 x0) S 6 fun b1 =>
  ck (decide (¬ ((0 : Int32) < 0 ∨ aN S b1 ≤ (0 : Int32).toNatClampNeg))) (
  if (aI S b1 (0 : Int32).toNatClampNeg) < x2 then (ke52 S) else
  if ((x1 >>> (x2 &&& 31)) &&& (1 : Int32)) = 1 then (bd (f_X5_joinOne S x0 x2) fun t6 =>
  f_X5_join_B46 kL22 ke52 t6 x0 x1 x2) else
  f_X5_join_B46 kL22 ke52 S x0 x1 x2)
def f_X5_join_L22 (ke52 : PS → Option (Int32 × PS)) (fu : Nat) : PS → Nat → Int32 → Int32 → Option (Int32 × PS) := fx (fun kL => f_X5_join_L22s kL ke52) (fun _ _ _ _ => none) fu
def f_X5_join (S : PS) (x0 : Nat) (x1 : Int32) : Option (Int32 × PS) :=
  bd (f_X5_isPossible (sL (sL S 86 x0 1) 87 x0 0) x0 x1) fun t8 =>
  if t8 = 0 then (some (0, sL (sL S 86 x0 1) 87 x0 0)) else
  f_X5_join_L22 f_X5_join_B52 FU (sL (sL S 86 x0 1) 87 x0 0) x0 x1 0
set_option maxHeartbeats 4000000 in
set_option maxRecDepth 100000 in
theorem c_X5_join (l : Launch) (D : va_G) (cy : cyT) {S : PS} {n : Nat} {y0 : Nat} {y1 : Int32} (v_y0 : vd S y0 5) {res : Int32 × PS} (hf : f_X5_join S y0 y1 = some res) : Met l yX5_join wsX5_join ({ frames := 4, cells := 0, slots := 0, locals := 93 } : Room) (PcW False D cy S n [.ref y0, .int y1]) (va_Qi (fun (r : Int32) (u : PS × Nat) => r = res.1 ∧ u = (res.2, n)) (BW D cy S n) (AA cy S n)) 0 0 (AA cy S n) := by
  refine Met.ofW (cc := cX5_join) (maxL := 3) (ret := (some .boolean)) (by decide) rfl ?_
  intro p e s m args below meth c s₁ B hml hv
  obtain ⟨hav, hsz, hP0, hD0, hK, hZ0⟩ := hv
  have hx := B.exec
  have hb := B.bytes
  have hr := B.returns
  have hts := atoms_spec (ws := wsX5_join) B.pre
  have hown : s.vm.findClass RX5 = some m.cls := findClass_of_methodNamed B.named
  have hlocks := B.notSynchronized
  subst hav
  have hw : Hw D cy (AA cy S n) s.heap S n s.heap [] := Hw.start hsz hP0 hD0
  have hA : ∀ q, s.heap.size ≤ q → AA cy S n q := fun q h => Or.inr (hsz ▸ h)
  have hE : EX S S := EX.rf
  have F : CallFix p m c cX5_join 3 s _ wsX5_join RX5 := ⟨hx, hb, hml, hown, hts⟩
  have hB52 : ∀ (Sb : PS) (H1 : Heap) (lo1 : List Loc)  (ls : Array Slot), lv_has ls 3 [] → Hw D cy (AA cy S n) s.heap Sb n H1 lo1 → EX S Sb → f_X5_join_B52 Sb = some res → W p l e (headSpec wsX5_join ({ frames := 4, cells := 0, slots := 0, locals := 93 } : Room)).room s m ([.ref y0, .int y1] : List Value).toArray below meth c H1 lo1 0 0 (MQ below (va_Qi (fun (r : Int32) (u : PS × Nat) => r = res.1 ∧ u = (res.2, n)) (BW D cy S n) (AA cy S n)) ([.ref y0, .int y1] : List Value).toArray s 0 0 (AA cy S n)) (F0 m 52 ls []) := by
    intro Sb H1 lo1 ls hl hw hE hf
    unfold f_X5_join_B52 at hf
    refine lv_iconst (v := 1) hx hb dX5_join_52 (by decide) ?_
    exact W.zret (v := 1) hx hb hr rfl (fun t ht hW => ⟨⟨_, (Sb, n), rfl, po2 hf, BW.of hw hE ht⟩, hw.2.2.1.F ht⟩) hw.2.2.1.2.2 dX5_join_53
  have hL22 : ∀ (fu22 : Nat), ∀ (Sb : PS) (H1 : Heap) (lo1 : List Loc) (x0 : Nat) (x1 : Int32) (x2 : Int32) (ls : Array Slot), lv_has ls 3 [(0, .ref x0), (1, .int x1), (2, .int x2)] → Hw D cy (AA cy S n) s.heap Sb n H1 lo1 → EX S Sb → vd Sb x0 5 → f_X5_join_L22 f_X5_join_B52 fu22 Sb x0 x1 x2 = some res → W p l e (headSpec wsX5_join ({ frames := 4, cells := 0, slots := 0, locals := 93 } : Room)).room s m ([.ref y0, .int y1] : List Value).toArray below meth c H1 lo1 0 0 (MQ below (va_Qi (fun (r : Int32) (u : PS × Nat) => r = res.1 ∧ u = (res.2, n)) (BW D cy S n) (AA cy S n)) ([.ref y0, .int y1] : List Value).toArray s 0 0 (AA cy S n)) (F0 m 22 ls []) := by
    intro fu22
    induction fu22 with
    | zero =>
      intro Sb H1 lo1 x0 x1 x2 ls hl hw hE v_x0 hf
      have hf : (none : Option (Int32 × PS)) = some res := hf
      cases hf
    | succ fu22 ih22 =>
      have hB46 : ∀ (Sb : PS) (H1 : Heap) (lo1 : List Loc) (x0 : Nat) (x1 : Int32) (x2 : Int32) (ls : Array Slot), lv_has ls 3 [(0, .ref x0), (1, .int x1), (2, .int x2)] → Hw D cy (AA cy S n) s.heap Sb n H1 lo1 → EX S Sb → vd Sb x0 5 → f_X5_join_B46 (f_X5_join_L22 f_X5_join_B52 fu22) f_X5_join_B52 Sb x0 x1 x2 = some res → W p l e (headSpec wsX5_join ({ frames := 4, cells := 0, slots := 0, locals := 93 } : Room)).room s m ([.ref y0, .int y1] : List Value).toArray below meth c H1 lo1 0 0 (MQ below (va_Qi (fun (r : Int32) (u : PS × Nat) => r = res.1 ∧ u = (res.2, n)) (BW D cy S n) (AA cy S n)) ([.ref y0, .int y1] : List Value).toArray s 0 0 (AA cy S n)) (F0 m 46 ls []) := by
        intro Sb H1 lo1 x0 x1 x2 ls hl hw hE v_x0 hf
        unfold f_X5_join_B46 at hf
        refine lv_iinc (v := x2 + 1) (lv' := [(2, .int (x2 + 1)), (0, .ref x0), (1, .int x1)]) hx hb dX5_join_46 hl (k := 2) rfl (by rfl) (by decide) rfl (fun ls hl => ?_)
        refine lv_goto (tgt := 22) hx hb dX5_join_49 (by decide) ?_
        exact ih22 Sb _ _ x0 x1 (x2 + 1) _ (lv_sub hl [1, 2, 0] rfl) hw hE v_x0 hf
      intro Sb H1 lo1 x0 x1 x2 ls hl hw hE v_x0 hf
      have hf : f_X5_join_L22s (f_X5_join_L22 f_X5_join_B52 fu22) f_X5_join_B52 Sb x0 x1 x2 = some res := hf
      unfold f_X5_join_L22s at hf
      refine lv_iload_n hx hb dX5_join_22 rfl (lv_at hl 2 rfl) ?_
      refine lv_aload_n hx hb dX5_join_23 rfl (lv_at hl 0 rfl) ?_
      obtain ⟨b12, e13, v_b12, hf⟩ := rq_some hf
      refine q_get F hK hw.1 v_x0.1 (pF_5 (S := Sb) v_x0.2) (fun w h => List.mem_cons_of_mem _ (List.mem_append_right _ h)) rfl 1 (by decide) (hts (.fieldLink RX5 7 "SharedModuliModel" "z" "[I") (List.mem_of_getElem? (i := 3) rfl)) (v := .ref b12) (congrArg (fun z => some (va_rf z)) e13) dX5_join_24 ?_
      refine lv_iconst (v := 0) hx hb dX5_join_27 (by decide) ?_
      obtain ⟨c14, hf⟩ := ckd_some hf
      refine q_iald F hK hw.1 v_b12 c14 dX5_join_28 ?_
      refine lv_icmp_gt (tgt := 52) hx hb dX5_join_29 (by decide) (fun c15 => ?_) (fun c15 => ?_)
      · have hf := it_t c15 hf
        exact hB52 Sb _ _ _ (lv_sub hl [] rfl) hw hE  hf
      · have hf := it_f c15 hf
        refine lv_iload_n hx hb dX5_join_32 rfl (lv_at hl 1 rfl) ?_
        refine lv_iload_n hx hb dX5_join_33 rfl (lv_at hl 2 rfl) ?_
        refine lv_ishr hx hb dX5_join_34 ?_
        refine lv_iconst (v := 1) hx hb dX5_join_35 (by decide) ?_
        refine lv_iand hx hb dX5_join_36 ?_
        refine lv_iconst (v := 1) hx hb dX5_join_37 (by decide) ?_
        refine lv_icmp_ne (tgt := 46) hx hb dX5_join_38 (by decide) (fun c16 => ?_) (fun c16 => ?_)
        · have hf := it_f c16 hf
          exact hB46 Sb _ _ x0 x1 x2 _ (lv_sub hl [0, 1, 2] rfl) hw hE v_x0 hf
        · have hf := it_t c16 hf
          refine lv_aload_n hx hb dX5_join_41 rfl (lv_at hl 0 rfl) ?_
          refine lv_iload_n hx hb dX5_join_42 rfl (lv_at hl 2 rfl) ?_
          obtain ⟨t17, h18, hf⟩ := bd_some hf
          refine q_callv (va_runV (As := [.int x2]) (rest := []) F (c_X5_joinOne l D cy (S := Sb) v_x0 h18) (cwV 1 hts gX5_join_X5_joinOne rfl rfl rfl ⟨rfl, ph_X5_joinOne.1, ph_X5_joinOne.2, pd_X5_joinOne⟩ ⟨Nat.le_of_ble_eq_true rfl, Nat.le_of_ble_eq_true rfl⟩) ⟨PcW.bl, (q_rcv hK hw.1 v_x0.1 (pF_5 (S := Sb) v_x0.2) rfl), PcW.in hK hw hA (fun z => z.elim)⟩ rfl rfl hl.1 rfl (lv_room (Nat.le_of_ble_eq_true rfl)) dX5_join_43 ⟨Nat.zero_le _, Nat.zero_le _⟩) hw hA (fun H locs hw hX => ?_)
          have hE := hE.tr hX
          have v_x0 := hX _ _ v_x0
          have v_b12 := hX _ _ v_b12
          exact hB46 t17 _ _ x0 x1 x2 _ (lv_sub hl [0, 1, 2] rfl) hw hE v_x0 hf
  have hl := lv_entry ([.ref y0, .int y1]) (n := 3) (Nat.le_of_ble_eq_true rfl)
  rw [lg_entry_eq]
  generalize (lg_sl ([.ref y0, .int y1]) ++ List.replicate (3 - (lg_sl ([.ref y0, .int y1])).length) Slot.unset).toArray = ls at hl ⊢
  have hl : lv_has ls 3 [(0, .ref y0), (1, .int y1)] := hl
  unfold f_X5_join at hf
  refine lv_aload_n hx hb dX5_join_0 rfl (lv_at hl 0 rfl) ?_
  refine lv_lconst (v := 1) hx hb dX5_join_1 (by decide) ?_
  refine q_put F hK hw v_y0.1 (pF_5 (S := S) v_y0.2) (fun w h => List.mem_cons_of_mem _ (List.mem_append_right _ h)) tyX5 tyX5_ok nmX5 rfl 6 (by decide) (hts (.fieldLink RX5 56 "SharedModuliModel" "n" "J") (List.mem_of_getElem? (i := 1) rfl)) (Or.inl rfl) (tyX5_ok 6 (by decide)) rfl rfl (Nat.le_of_ble_eq_true rfl) (S1 := sL S 86 y0 1) (st_86 (S := S) v_y0.2 1) dX5_join_2 (fun H locs hw => ?_)
  refine lv_aload_n hx hb dX5_join_5 rfl (lv_at hl 0 rfl) ?_
  refine lv_lconst (v := 0) hx hb dX5_join_6 (by decide) ?_
  refine q_put F hK hw v_y0.1 (pF_5 (S := sL S 86 y0 1) v_y0.2) (fun w h => List.mem_cons_of_mem _ (List.mem_append_right _ h)) tyX5 tyX5_ok nmX5 rfl 7 (by decide) (hts (.fieldLink RX5 64 "SharedModuliModel" "\x72" "J") (List.mem_of_getElem? (i := 2) rfl)) (Or.inl rfl) (tyX5_ok 7 (by decide)) rfl rfl (Nat.le_of_ble_eq_true rfl) (S1 := sL (sL S 86 y0 1) 87 y0 0) (st_87 (S := sL S 86 y0 1) v_y0.2 0) dX5_join_7 (fun H locs hw => ?_)
  refine lv_aload_n hx hb dX5_join_10 rfl (lv_at hl 0 rfl) ?_
  refine lv_iload_n hx hb dX5_join_11 rfl (lv_at hl 1 rfl) ?_
  obtain ⟨t19, h20, hf⟩ := bd_some hf
  refine vp_callSi (va_runV (As := [.int y1]) (rest := []) F (c_X5_isPossible l D cy (H := _) hw.1 v_y0 h20) (cwV 1 hts gX5_join_X5_isPossible rfl rfl rfl ⟨rfl, ph_X5_isPossible.1, ph_X5_isPossible.2, pd_X5_isPossible⟩ ⟨Nat.le_of_ble_eq_true rfl, Nat.le_of_ble_eq_true rfl⟩) ⟨PcR.bl, (q_rcv hK hw.1 v_y0.1 (pF_5 (S := sL (sL S 86 y0 1) 87 y0 0) v_y0.2) rfl), PcR.in hK⟩ rfl rfl hl.1 rfl (lv_room (Nat.le_of_ble_eq_true rfl)) dX5_join_12 ⟨Nat.zero_le _, Nat.zero_le _⟩).run (fun r21 er21 => ?_)
  subst r21
  refine lv_if_ne (tgt := 20) hx hb dX5_join_15 (by decide) (fun c22 => ?_) (fun c22 => ?_)
  · have hf := it_f c22 hf
    refine lv_iconst (v := 0) hx hb dX5_join_20 (by decide) ?_
    refine lv_istore_n (lv' := [(2, .int 0), (0, .ref y0), (1, .int y1)]) hx hb dX5_join_21 rfl hl (by decide) rfl (fun ls hl => ?_)
    exact hL22 FU (sL (sL S 86 y0 1) 87 y0 0) _ _ y0 y1 0 _ (lv_sub hl [1, 2, 0] rfl) hw hE v_y0 hf
  · have hf := it_t c22 hf
    refine lv_iconst (v := 0) hx hb dX5_join_18 (by decide) ?_
    exact W.zret (v := 0) hx hb hr rfl (fun t ht hW => ⟨⟨_, (sL (sL S 86 y0 1) 87 y0 0, n), rfl, po2 hf, BW.of hw hE ht⟩, hw.2.2.1.F ht⟩) hw.2.2.1.2.2 dX5_join_19
def f_X5_isTooGreat_B84 (S : PS) (s0 : Int32) : Option Int32 :=
  ck (decide (s0 &&& 1 = s0)) (
  some s0)
def f_X5_isTooGreat_B71 (S : PS) (x2 : Int64) : Option Int32 :=
  if x2 ≤ 1000000000000000 then (f_X5_isTooGreat_B84 S 0) else
  f_X5_isTooGreat_B84 S 1
def f_X5_isTooGreat_B65 (S : PS) (kL5 : Nat → Int32 → Int64 → Int32 → Option Int32) (ke71 : Int64 → Option Int32) (x0 : Nat) (x1 : Int32) (x2 : Int64) (x4 : Int32) : Option Int32 :=
  kL5 x0 x1 x2 (x4 + 1)
def f_X5_isTooGreat_L5s (S : PS) (kL5 : Nat → Int32 → Int64 → Int32 → Option Int32) (ke71 : Int64 → Option Int32) (x0 : Nat) (x1 : Int32) (x2 : Int64) (x4 : Int32) : Option Int32 :=
  rq (fR S 81 x0) S 6 fun b3 =>
  ck (decide (¬ ((0 : Int32) < 0 ∨ aN S b3 ≤ (0 : Int32).toNatClampNeg))) (
  if (aI S b3 (0 : Int32).toNatClampNeg) < x4 then (ke71 x2) else
  if ((x1 >>> (x4 &&& 31)) &&& (1 : Int32)) = 1 then (bd (f_X5_isVoid S x0 x4) fun t8 =>
  if t8 = 0 then (if 1000000000000000 < x2 then (f_X5_isTooGreat_B65 S kL5 ke71 x0 x1 x2 x4) else
  bd (f_X5_modulus S x0 x4) fun t13 =>
  bd (f_X5_commonOf x2 t13) fun t16 =>
  ck (decide (¬ t16.toInt64 = 0)) (
  bd (f_X5_modulus S x0 x4) fun t20 =>
  f_X5_isTooGreat_B65 S kL5 ke71 x0 x1 ((x2 / t16.toInt64) * t20.toInt64) x4)) else
  f_X5_isTooGreat_B65 S kL5 ke71 x0 x1 x2 x4) else
  f_X5_isTooGreat_B65 S kL5 ke71 x0 x1 x2 x4)
def f_X5_isTooGreat_L5 (S : PS) (ke71 : Int64 → Option Int32) (fu : Nat) : Nat → Int32 → Int64 → Int32 → Option Int32 := fx (fun kL => f_X5_isTooGreat_L5s S kL ke71) (fun _ _ _ _ => none) fu
def f_X5_isTooGreat (S : PS) (x0 : Nat) (x1 : Int32) : Option Int32 :=
  f_X5_isTooGreat_L5 S (f_X5_isTooGreat_B71 S) FU x0 x1 1 0
set_option maxHeartbeats 4000000 in
set_option maxRecDepth 100000 in
theorem c_X5_isTooGreat (l : Launch) (D : va_G) (cy : cyT) {H : Heap} {S : PS} (hP : va_P D vwCl (wl cy S) H) {y0 : Nat} {y1 : Int32} (v_y0 : vd S y0 5) {res : Int32} (hf : f_X5_isTooGreat S y0 y1 = some res) : Met l yX5_isTooGreat wsX5_isTooGreat ({ frames := 2, cells := 0, slots := 0, locals := 46 } : Room) (PcR D cy H [.ref y0, .int y1]) (vp_Si (fun r => r = res)) 0 0 (fun _ => False) := by
  refine Met.ofW (cc := cX5_isTooGreat) (maxL := 5) (ret := (some .boolean)) (by decide) rfl ?_
  intro p e s m args below meth c s₁ B hml hv
  obtain ⟨hav, hH, hK⟩ := hv
  have hx := B.exec
  have hb := B.bytes
  have hr := B.returns
  have hts := atoms_spec (ws := wsX5_isTooGreat) B.pre
  have hown : s.vm.findClass RX5 = some m.cls := findClass_of_methodNamed B.named
  have hlocks := B.notSynchronized
  subst hav
  subst hH
  have F : CallFix p m c cX5_isTooGreat 5 s _ wsX5_isTooGreat RX5 := ⟨hx, hb, hml, hown, hts⟩
  have hB84 : ∀ (s0 : Int32) (ls : Array Slot), lv_has ls 5 [] → f_X5_isTooGreat_B84 S s0 = some res → W p l e (headSpec wsX5_isTooGreat ({ frames := 2, cells := 0, slots := 0, locals := 46 } : Room)).room s m ([.ref y0, .int y1] : List Value).toArray below meth c s.heap [] 0 0 (MQ below (vp_Si (fun r => r = res)) ([.ref y0, .int y1] : List Value).toArray s 0 0 (fun _ => False)) (F0 m 84 ls [.int s0]) := by
    intro s0 ls hl hf
    unfold f_X5_isTooGreat_B84 at hf
    obtain ⟨c23, hf⟩ := ckd_some hf
    exact W.zret (v := s0) hx hb hr (nz c23) (fun t ht hW => ⟨_, rfl, Option.some.inj hf, ht⟩) (fun _ h => by cases h) dX5_isTooGreat_84
  have hB71 : ∀ (x2 : Int64) (ls : Array Slot), lv_has ls 5 [(2, .long x2)] → f_X5_isTooGreat_B71 S x2 = some res → W p l e (headSpec wsX5_isTooGreat ({ frames := 2, cells := 0, slots := 0, locals := 46 } : Room)).room s m ([.ref y0, .int y1] : List Value).toArray below meth c s.heap [] 0 0 (MQ below (vp_Si (fun r => r = res)) ([.ref y0, .int y1] : List Value).toArray s 0 0 (fun _ => False)) (F0 m 71 ls []) := by
    intro x2 ls hl hf
    unfold f_X5_isTooGreat_B71 at hf
    refine lv_lload_n hx hb dX5_isTooGreat_71 rfl (lv_at hl 0 rfl) ?_
    refine lv_ldc2 hx hb hown (hts (.constantLong RX5 30 1000000000000000) (List.mem_of_getElem? (i := 2) rfl)) dX5_isTooGreat_72 ?_
    refine W.lcmp hx hb dX5_isTooGreat_75 ?_
    refine lv_if_le (tgt := 83) hx hb dX5_isTooGreat_76 (by decide) (fun c24 => ?_) (fun c24 => ?_)
    · have hf := it_t ((lq_le _ _).mp c24) hf
      refine lv_iconst (v := 0) hx hb dX5_isTooGreat_83 (by decide) ?_
      exact hB84 0 _ (lv_sub hl [] rfl)  hf
    · have hf := it_f (fun z => c24 ((lq_le _ _).mpr z)) hf
      refine lv_iconst (v := 1) hx hb dX5_isTooGreat_79 (by decide) ?_
      refine lv_goto (tgt := 84) hx hb dX5_isTooGreat_80 (by decide) ?_
      exact hB84 1 _ (lv_sub hl [] rfl)  hf
  have hL5 : ∀ (fu5 : Nat), ∀ (x0 : Nat) (x1 : Int32) (x2 : Int64) (x4 : Int32) (ls : Array Slot), lv_has ls 5 [(0, .ref x0), (1, .int x1), (2, .long x2), (4, .int x4)] → vd S x0 5 → f_X5_isTooGreat_L5 S (f_X5_isTooGreat_B71 S) fu5 x0 x1 x2 x4 = some res → W p l e (headSpec wsX5_isTooGreat ({ frames := 2, cells := 0, slots := 0, locals := 46 } : Room)).room s m ([.ref y0, .int y1] : List Value).toArray below meth c s.heap [] 0 0 (MQ below (vp_Si (fun r => r = res)) ([.ref y0, .int y1] : List Value).toArray s 0 0 (fun _ => False)) (F0 m 5 ls []) := by
    intro fu5
    induction fu5 with
    | zero =>
      intro x0 x1 x2 x4 ls hl v_x0 hf
      have hf : (none : Option Int32) = some res := hf
      cases hf
    | succ fu5 ih5 =>
      have hB65 : ∀ (x0 : Nat) (x1 : Int32) (x2 : Int64) (x4 : Int32) (ls : Array Slot), lv_has ls 5 [(0, .ref x0), (1, .int x1), (2, .long x2), (4, .int x4)] → vd S x0 5 → f_X5_isTooGreat_B65 S (f_X5_isTooGreat_L5 S (f_X5_isTooGreat_B71 S) fu5) (f_X5_isTooGreat_B71 S) x0 x1 x2 x4 = some res → W p l e (headSpec wsX5_isTooGreat ({ frames := 2, cells := 0, slots := 0, locals := 46 } : Room)).room s m ([.ref y0, .int y1] : List Value).toArray below meth c s.heap [] 0 0 (MQ below (vp_Si (fun r => r = res)) ([.ref y0, .int y1] : List Value).toArray s 0 0 (fun _ => False)) (F0 m 65 ls []) := by
        intro x0 x1 x2 x4 ls hl v_x0 hf
        unfold f_X5_isTooGreat_B65 at hf
        refine lv_iinc (v := x4 + 1) (lv' := [(4, .int (x4 + 1)), (0, .ref x0), (1, .int x1), (2, .long x2)]) hx hb dX5_isTooGreat_65 hl (k := 3) rfl (by rfl) (by decide) rfl (fun ls hl => ?_)
        refine lv_goto (tgt := 5) hx hb dX5_isTooGreat_68 (by decide) ?_
        exact ih5 x0 x1 x2 (x4 + 1) _ (lv_sub hl [1, 2, 3, 0] rfl) v_x0 hf
      intro x0 x1 x2 x4 ls hl v_x0 hf
      have hf : f_X5_isTooGreat_L5s S (f_X5_isTooGreat_L5 S (f_X5_isTooGreat_B71 S) fu5) (f_X5_isTooGreat_B71 S) x0 x1 x2 x4 = some res := hf
      unfold f_X5_isTooGreat_L5s at hf
      refine lv_iload hx hb dX5_isTooGreat_5 (lv_at hl 3 rfl) ?_
      refine lv_aload_n hx hb dX5_isTooGreat_7 rfl (lv_at hl 0 rfl) ?_
      obtain ⟨b25, e26, v_b25, hf⟩ := rq_some hf
      refine q_get F hK hP v_x0.1 (pF_5 (S := S) v_x0.2) (fun w h => List.mem_cons_of_mem _ (List.mem_append_right _ h)) rfl 1 (by decide) (hts (.fieldLink RX5 7 "SharedModuliModel" "z" "[I") (List.mem_of_getElem? (i := 1) rfl)) (v := .ref b25) (congrArg (fun z => some (va_rf z)) e26) dX5_isTooGreat_8 ?_
      refine lv_iconst (v := 0) hx hb dX5_isTooGreat_11 (by decide) ?_
      obtain ⟨c27, hf⟩ := ckd_some hf
      refine q_iald F hK hP v_b25 c27 dX5_isTooGreat_12 ?_
      refine lv_icmp_gt (tgt := 71) hx hb dX5_isTooGreat_13 (by decide) (fun c28 => ?_) (fun c28 => ?_)
      · have hf := it_t c28 hf
        exact hB71 x2 _ (lv_sub hl [2] rfl)  hf
      · have hf := it_f c28 hf
        refine lv_iload_n hx hb dX5_isTooGreat_16 rfl (lv_at hl 1 rfl) ?_
        refine lv_iload hx hb dX5_isTooGreat_17 (lv_at hl 3 rfl) ?_
        refine lv_ishr hx hb dX5_isTooGreat_19 ?_
        refine lv_iconst (v := 1) hx hb dX5_isTooGreat_20 (by decide) ?_
        refine lv_iand hx hb dX5_isTooGreat_21 ?_
        refine lv_iconst (v := 1) hx hb dX5_isTooGreat_22 (by decide) ?_
        refine lv_icmp_ne (tgt := 65) hx hb dX5_isTooGreat_23 (by decide) (fun c29 => ?_) (fun c29 => ?_)
        · have hf := it_f c29 hf
          exact hB65 x0 x1 x2 x4 _ (lv_sub hl [0, 1, 2, 3] rfl) v_x0 hf
        · have hf := it_t c29 hf
          refine lv_aload_n hx hb dX5_isTooGreat_26 rfl (lv_at hl 0 rfl) ?_
          refine lv_iload hx hb dX5_isTooGreat_27 (lv_at hl 3 rfl) ?_
          obtain ⟨t30, h31, hf⟩ := bd_some hf
          refine vp_callSi (va_runV (As := [.int x4]) (rest := []) F (c_X5_isVoid l D cy (H := _) hP v_x0 h31) (cwV 1 hts gX5_isTooGreat_X5_isVoid rfl rfl rfl ⟨rfl, ph_X5_isVoid.1, ph_X5_isVoid.2, pd_X5_isVoid⟩ ⟨Nat.le_of_ble_eq_true rfl, Nat.le_of_ble_eq_true rfl⟩) ⟨PcR.bl, (q_rcv hK hP v_x0.1 (pF_5 (S := S) v_x0.2) rfl), PcR.in hK⟩ rfl rfl hl.1 rfl (lv_room (Nat.le_of_ble_eq_true rfl)) dX5_isTooGreat_29 ⟨Nat.zero_le _, Nat.zero_le _⟩).run (fun r32 er32 => ?_)
          subst r32
          refine lv_if_ne (tgt := 65) hx hb dX5_isTooGreat_32 (by decide) (fun c33 => ?_) (fun c33 => ?_)
          · have hf := it_f c33 hf
            exact hB65 x0 x1 x2 x4 _ (lv_sub hl [0, 1, 2, 3] rfl) v_x0 hf
          · have hf := it_t c33 hf
            refine lv_lload_n hx hb dX5_isTooGreat_35 rfl (lv_at hl 2 rfl) ?_
            refine lv_ldc2 hx hb hown (hts (.constantLong RX5 30 1000000000000000) (List.mem_of_getElem? (i := 2) rfl)) dX5_isTooGreat_36 ?_
            refine W.lcmp hx hb dX5_isTooGreat_39 ?_
            refine lv_if_gt (tgt := 65) hx hb dX5_isTooGreat_40 (by decide) (fun c34 => ?_) (fun c34 => ?_)
            · have hf := it_t ((lq_gt _ _).mp c34) hf
              exact hB65 x0 x1 x2 x4 _ (lv_sub hl [0, 1, 2, 3] rfl) v_x0 hf
            · have hf := it_f (fun z => c34 ((lq_gt _ _).mpr z)) hf
              refine lv_lload_n hx hb dX5_isTooGreat_43 rfl (lv_at hl 2 rfl) ?_
              refine lv_lload_n hx hb dX5_isTooGreat_44 rfl (lv_at hl 2 rfl) ?_
              refine lv_aload_n hx hb dX5_isTooGreat_45 rfl (lv_at hl 0 rfl) ?_
              refine lv_iload hx hb dX5_isTooGreat_46 (lv_at hl 3 rfl) ?_
              obtain ⟨t35, h36, hf⟩ := bd_some hf
              refine vp_callSi (va_runV (As := [.int x4]) (rest := [.long x2, .long x2]) F (c_X5_modulus l D cy (H := _) hP v_x0 h36) (cwV 1 hts gX5_isTooGreat_X5_modulus rfl rfl rfl ⟨rfl, ph_X5_modulus.1, ph_X5_modulus.2, pd_X5_modulus⟩ ⟨Nat.le_of_ble_eq_true rfl, Nat.le_of_ble_eq_true rfl⟩) ⟨PcR.bl, (q_rcv hK hP v_x0.1 (pF_5 (S := S) v_x0.2) rfl), PcR.in hK⟩ rfl rfl hl.1 rfl (lv_room (Nat.le_of_ble_eq_true rfl)) dX5_isTooGreat_48 ⟨Nat.zero_le _, Nat.zero_le _⟩).run (fun r37 er37 => ?_)
              subst r37
              obtain ⟨t38, h39, hf⟩ := bd_some hf
              refine vp_callSi (va_runS (As := [.long x2, .int t35]) (rest := [.long x2]) F (c_X5_commonOf l D cy (H := _)  h39) (va_cwS 2 hts gX5_isTooGreat_X5_commonOf rfl rfl rfl ⟨ph_X5_commonOf.1, ph_X5_commonOf.2, pd_X5_commonOf⟩ ⟨Nat.le_of_ble_eq_true rfl, Nat.le_of_ble_eq_true rfl⟩) ⟨PcR.bl, PcR.in hK⟩ rfl rfl hl.1 rfl (lv_room (Nat.le_of_ble_eq_true rfl)) dX5_isTooGreat_51 ⟨Nat.zero_le _, Nat.zero_le _⟩).run (fun r40 er40 => ?_)
              subst r40
              refine lv_i2l hx hb dX5_isTooGreat_54 rfl ?_
              obtain ⟨c41, hf⟩ := ckd_some hf
              refine lv_ldiv hx hb dX5_isTooGreat_55 c41 ?_
              refine lv_aload_n hx hb dX5_isTooGreat_56 rfl (lv_at hl 0 rfl) ?_
              refine lv_iload hx hb dX5_isTooGreat_57 (lv_at hl 3 rfl) ?_
              obtain ⟨t42, h43, hf⟩ := bd_some hf
              refine vp_callSi (va_runV (As := [.int x4]) (rest := [.long (x2 / t38.toInt64)]) F (c_X5_modulus l D cy (H := _) hP v_x0 h43) (cwV 1 hts gX5_isTooGreat_X5_modulus rfl rfl rfl ⟨rfl, ph_X5_modulus.1, ph_X5_modulus.2, pd_X5_modulus⟩ ⟨Nat.le_of_ble_eq_true rfl, Nat.le_of_ble_eq_true rfl⟩) ⟨PcR.bl, (q_rcv hK hP v_x0.1 (pF_5 (S := S) v_x0.2) rfl), PcR.in hK⟩ rfl rfl hl.1 rfl (lv_room (Nat.le_of_ble_eq_true rfl)) dX5_isTooGreat_59 ⟨Nat.zero_le _, Nat.zero_le _⟩).run (fun r44 er44 => ?_)
              subst r44
              refine lv_i2l hx hb dX5_isTooGreat_62 rfl ?_
              refine lv_lmul hx hb dX5_isTooGreat_63 ?_
              refine lv_lstore_n (lv' := [(2, .long ((x2 / t38.toInt64) * t42.toInt64)), (0, .ref x0), (1, .int x1), (4, .int x4)]) hx hb dX5_isTooGreat_64 rfl hl (by decide) rfl (fun ls hl => ?_)
              exact hB65 x0 x1 ((x2 / t38.toInt64) * t42.toInt64) x4 _ (lv_sub hl [1, 2, 0, 3] rfl) v_x0 hf
  have hl := lv_entry ([.ref y0, .int y1]) (n := 5) (Nat.le_of_ble_eq_true rfl)
  rw [lg_entry_eq]
  generalize (lg_sl ([.ref y0, .int y1]) ++ List.replicate (5 - (lg_sl ([.ref y0, .int y1])).length) Slot.unset).toArray = ls at hl ⊢
  have hl : lv_has ls 5 [(0, .ref y0), (1, .int y1)] := hl
  unfold f_X5_isTooGreat at hf
  refine lv_lconst (v := 1) hx hb dX5_isTooGreat_0 (by decide) ?_
  refine lv_lstore_n (lv' := [(2, .long 1), (0, .ref y0), (1, .int y1)]) hx hb dX5_isTooGreat_1 rfl hl (by decide) rfl (fun ls hl => ?_)
  refine lv_iconst (v := 0) hx hb dX5_isTooGreat_2 (by decide) ?_
  refine lv_istore (lv' := [(4, .int 0), (2, .long 1), (0, .ref y0), (1, .int y1)]) hx hb dX5_isTooGreat_3 hl (by decide) rfl (fun ls hl => ?_)
  exact hL5 FU y0 y1 1 0 _ (lv_sub hl [2, 3, 1, 0] rfl) v_y0 hf
def f_X5_tells_B58 (S : PS) (s0 : Int32) : Option (Int32 × PS) :=
  ck (decide (s0 &&& 1 = s0)) (
  some (s0, S))
def f_X5_tells_B57 (S : PS) : Option (Int32 × PS) :=
  f_X5_tells_B58 S 0
def f_X5_tells (S : PS) (x0 : Nat) (x1 : Int32) (x2 : Int32) : Option (Int32 × PS) :=
  bd (f_X5_join S x0 x1) fun t2 =>
  if t2.1 = 0 then (f_X5_tells_B57 t2.2) else
  bd (f_X5_isVoid t2.2 x0 x2) fun t5 =>
  if t5 = 0 then (bd (f_X5_modulus t2.2 x0 x2) fun t9 =>
  ck (decide (¬ t9.toInt64 = 0)) (
  if ((fL t2.2 86 x0) - (fL t2.2 86 x0) / t9.toInt64 * t9.toInt64) = 0 then (bd (f_X5_modulus t2.2 x0 x2) fun t14 =>
  ck (decide (¬ t14.toInt64 = 0)) (
  bd (f_X5_rest t2.2 x0 x2) fun t18 =>
  if ((fL t2.2 87 x0) - (fL t2.2 87 x0) / t14.toInt64 * t14.toInt64) = t18.toInt64 then (f_X5_tells_B58 t2.2 1) else
  f_X5_tells_B57 t2.2)) else
  f_X5_tells_B57 t2.2)) else
  f_X5_tells_B57 t2.2
set_option maxHeartbeats 4000000 in
set_option maxRecDepth 100000 in
theorem c_X5_tells (l : Launch) (D : va_G) (cy : cyT) {S : PS} {n : Nat} {y0 : Nat} {y1 : Int32} {y2 : Int32} (v_y0 : vd S y0 5) {res : Int32 × PS} (hf : f_X5_tells S y0 y1 y2 = some res) : Met l yX5_tells wsX5_tells ({ frames := 5, cells := 0, slots := 0, locals := 115 } : Room) (PcW False D cy S n [.ref y0, .int y1, .int y2]) (va_Qi (fun (r : Int32) (u : PS × Nat) => r = res.1 ∧ u = (res.2, n)) (BW D cy S n) (AA cy S n)) 0 0 (AA cy S n) := by
  refine Met.ofW (cc := cX5_tells) (maxL := 3) (ret := (some .boolean)) (by decide) rfl ?_
  intro p e s m args below meth c s₁ B hml hv
  obtain ⟨hav, hsz, hP0, hD0, hK, hZ0⟩ := hv
  have hx := B.exec
  have hb := B.bytes
  have hr := B.returns
  have hts := atoms_spec (ws := wsX5_tells) B.pre
  have hown : s.vm.findClass RX5 = some m.cls := findClass_of_methodNamed B.named
  have hlocks := B.notSynchronized
  subst hav
  have hw : Hw D cy (AA cy S n) s.heap S n s.heap [] := Hw.start hsz hP0 hD0
  have hA : ∀ q, s.heap.size ≤ q → AA cy S n q := fun q h => Or.inr (hsz ▸ h)
  have hE : EX S S := EX.rf
  have F : CallFix p m c cX5_tells 3 s _ wsX5_tells RX5 := ⟨hx, hb, hml, hown, hts⟩
  have hB58 : ∀ (Sb : PS) (H1 : Heap) (lo1 : List Loc) (s0 : Int32) (ls : Array Slot), lv_has ls 3 [] → Hw D cy (AA cy S n) s.heap Sb n H1 lo1 → EX S Sb → f_X5_tells_B58 Sb s0 = some res → W p l e (headSpec wsX5_tells ({ frames := 5, cells := 0, slots := 0, locals := 115 } : Room)).room s m ([.ref y0, .int y1, .int y2] : List Value).toArray below meth c H1 lo1 0 0 (MQ below (va_Qi (fun (r : Int32) (u : PS × Nat) => r = res.1 ∧ u = (res.2, n)) (BW D cy S n) (AA cy S n)) ([.ref y0, .int y1, .int y2] : List Value).toArray s 0 0 (AA cy S n)) (F0 m 58 ls [.int s0]) := by
    intro Sb H1 lo1 s0 ls hl hw hE hf
    unfold f_X5_tells_B58 at hf
    obtain ⟨c22, hf⟩ := ckd_some hf
    exact W.zret (v := s0) hx hb hr (nz c22) (fun t ht hW => ⟨⟨_, (Sb, n), rfl, po2 hf, BW.of hw hE ht⟩, hw.2.2.1.F ht⟩) hw.2.2.1.2.2 dX5_tells_58
  have hB57 : ∀ (Sb : PS) (H1 : Heap) (lo1 : List Loc)  (ls : Array Slot), lv_has ls 3 [] → Hw D cy (AA cy S n) s.heap Sb n H1 lo1 → EX S Sb → f_X5_tells_B57 Sb = some res → W p l e (headSpec wsX5_tells ({ frames := 5, cells := 0, slots := 0, locals := 115 } : Room)).room s m ([.ref y0, .int y1, .int y2] : List Value).toArray below meth c H1 lo1 0 0 (MQ below (va_Qi (fun (r : Int32) (u : PS × Nat) => r = res.1 ∧ u = (res.2, n)) (BW D cy S n) (AA cy S n)) ([.ref y0, .int y1, .int y2] : List Value).toArray s 0 0 (AA cy S n)) (F0 m 57 ls []) := by
    intro Sb H1 lo1 ls hl hw hE hf
    unfold f_X5_tells_B57 at hf
    refine lv_iconst (v := 0) hx hb dX5_tells_57 (by decide) ?_
    exact hB58 Sb _ _ 0 _ (lv_sub hl [] rfl) hw hE  hf
  have hl := lv_entry ([.ref y0, .int y1, .int y2]) (n := 3) (Nat.le_of_ble_eq_true rfl)
  rw [lg_entry_eq]
  generalize (lg_sl ([.ref y0, .int y1, .int y2]) ++ List.replicate (3 - (lg_sl ([.ref y0, .int y1, .int y2])).length) Slot.unset).toArray = ls at hl ⊢
  have hl : lv_has ls 3 [(0, .ref y0), (1, .int y1), (2, .int y2)] := hl
  unfold f_X5_tells at hf
  refine lv_aload_n hx hb dX5_tells_0 rfl (lv_at hl 0 rfl) ?_
  refine lv_iload_n hx hb dX5_tells_1 rfl (lv_at hl 1 rfl) ?_
  obtain ⟨t23, h24, hf⟩ := bd_some hf
  refine q_calli (va_runV (As := [.int y1]) (rest := []) F (c_X5_join l D cy (S := S) v_y0 h24) (cwV 1 hts gX5_tells_X5_join rfl rfl rfl ⟨rfl, ph_X5_join.1, ph_X5_join.2, pd_X5_join⟩ ⟨Nat.le_of_ble_eq_true rfl, Nat.le_of_ble_eq_true rfl⟩) ⟨PcW.bl, (q_rcv hK hw.1 v_y0.1 (pF_5 (S := S) v_y0.2) rfl), PcW.in hK hw hA (fun z => z.elim)⟩ rfl rfl hl.1 rfl (lv_room (Nat.le_of_ble_eq_true rfl)) dX5_tells_2 ⟨Nat.zero_le _, Nat.zero_le _⟩) hw hA (fun H locs hw hX => ?_)
  have hE := hE.tr hX
  have v_y0 := hX _ _ v_y0
  refine lv_if_eq (tgt := 57) hx hb dX5_tells_5 (by decide) (fun c25 => ?_) (fun c25 => ?_)
  · have hf := it_t c25 hf
    exact hB57 t23.2 _ _ _ (lv_sub hl [] rfl) hw hE  hf
  · have hf := it_f c25 hf
    refine lv_aload_n hx hb dX5_tells_8 rfl (lv_at hl 0 rfl) ?_
    refine lv_iload_n hx hb dX5_tells_9 rfl (lv_at hl 2 rfl) ?_
    obtain ⟨t26, h27, hf⟩ := bd_some hf
    refine vp_callSi (va_runV (As := [.int y2]) (rest := []) F (c_X5_isVoid l D cy (H := _) hw.1 v_y0 h27) (cwV 1 hts gX5_tells_X5_isVoid rfl rfl rfl ⟨rfl, ph_X5_isVoid.1, ph_X5_isVoid.2, pd_X5_isVoid⟩ ⟨Nat.le_of_ble_eq_true rfl, Nat.le_of_ble_eq_true rfl⟩) ⟨PcR.bl, (q_rcv hK hw.1 v_y0.1 (pF_5 (S := t23.2) v_y0.2) rfl), PcR.in hK⟩ rfl rfl hl.1 rfl (lv_room (Nat.le_of_ble_eq_true rfl)) dX5_tells_10 ⟨Nat.zero_le _, Nat.zero_le _⟩).run (fun r28 er28 => ?_)
    subst r28
    refine lv_if_ne (tgt := 57) hx hb dX5_tells_13 (by decide) (fun c29 => ?_) (fun c29 => ?_)
    · have hf := it_f c29 hf
      exact hB57 t23.2 _ _ _ (lv_sub hl [] rfl) hw hE  hf
    · have hf := it_t c29 hf
      refine lv_aload_n hx hb dX5_tells_16 rfl (lv_at hl 0 rfl) ?_
      refine q_get F hK hw.1 v_y0.1 (pF_5 (S := t23.2) v_y0.2) (fun w h => List.mem_cons_of_mem _ (List.mem_append_right _ h)) rfl 6 (by decide) (hts (.fieldLink RX5 56 "SharedModuliModel" "n" "J") (List.mem_of_getElem? (i := 1) rfl)) (v := .long (fL t23.2 86 y0)) rfl dX5_tells_17 ?_
      refine lv_aload_n hx hb dX5_tells_20 rfl (lv_at hl 0 rfl) ?_
      refine lv_iload_n hx hb dX5_tells_21 rfl (lv_at hl 2 rfl) ?_
      obtain ⟨t30, h31, hf⟩ := bd_some hf
      refine vp_callSi (va_runV (As := [.int y2]) (rest := [.long (fL t23.2 86 y0)]) F (c_X5_modulus l D cy (H := _) hw.1 v_y0 h31) (cwV 1 hts gX5_tells_X5_modulus rfl rfl rfl ⟨rfl, ph_X5_modulus.1, ph_X5_modulus.2, pd_X5_modulus⟩ ⟨Nat.le_of_ble_eq_true rfl, Nat.le_of_ble_eq_true rfl⟩) ⟨PcR.bl, (q_rcv hK hw.1 v_y0.1 (pF_5 (S := t23.2) v_y0.2) rfl), PcR.in hK⟩ rfl rfl hl.1 rfl (lv_room (Nat.le_of_ble_eq_true rfl)) dX5_tells_22 ⟨Nat.zero_le _, Nat.zero_le _⟩).run (fun r32 er32 => ?_)
      subst r32
      refine lv_i2l hx hb dX5_tells_25 rfl ?_
      obtain ⟨c33, hf⟩ := ckd_some hf
      refine lv_lrem hx hb dX5_tells_26 c33 ?_
      refine lv_lconst (v := 0) hx hb dX5_tells_27 (by decide) ?_
      refine W.lcmp hx hb dX5_tells_28 ?_
      refine lv_if_ne (tgt := 57) hx hb dX5_tells_29 (by decide) (fun c34 => ?_) (fun c34 => ?_)
      · have hf := it_f (fun z => c34 ((lq_eq _ _).mpr z)) hf
        exact hB57 t23.2 _ _ _ (lv_sub hl [] rfl) hw hE  hf
      · have hf := it_t ((lq_eq _ _).mp c34) hf
        refine lv_aload_n hx hb dX5_tells_32 rfl (lv_at hl 0 rfl) ?_
        refine q_get F hK hw.1 v_y0.1 (pF_5 (S := t23.2) v_y0.2) (fun w h => List.mem_cons_of_mem _ (List.mem_append_right _ h)) rfl 7 (by decide) (hts (.fieldLink RX5 64 "SharedModuliModel" "\x72" "J") (List.mem_of_getElem? (i := 2) rfl)) (v := .long (fL t23.2 87 y0)) rfl dX5_tells_33 ?_
        refine lv_aload_n hx hb dX5_tells_36 rfl (lv_at hl 0 rfl) ?_
        refine lv_iload_n hx hb dX5_tells_37 rfl (lv_at hl 2 rfl) ?_
        obtain ⟨t35, h36, hf⟩ := bd_some hf
        refine vp_callSi (va_runV (As := [.int y2]) (rest := [.long (fL t23.2 87 y0)]) F (c_X5_modulus l D cy (H := _) hw.1 v_y0 h36) (cwV 1 hts gX5_tells_X5_modulus rfl rfl rfl ⟨rfl, ph_X5_modulus.1, ph_X5_modulus.2, pd_X5_modulus⟩ ⟨Nat.le_of_ble_eq_true rfl, Nat.le_of_ble_eq_true rfl⟩) ⟨PcR.bl, (q_rcv hK hw.1 v_y0.1 (pF_5 (S := t23.2) v_y0.2) rfl), PcR.in hK⟩ rfl rfl hl.1 rfl (lv_room (Nat.le_of_ble_eq_true rfl)) dX5_tells_38 ⟨Nat.zero_le _, Nat.zero_le _⟩).run (fun r37 er37 => ?_)
        subst r37
        refine lv_i2l hx hb dX5_tells_41 rfl ?_
        obtain ⟨c38, hf⟩ := ckd_some hf
        refine lv_lrem hx hb dX5_tells_42 c38 ?_
        refine lv_aload_n hx hb dX5_tells_43 rfl (lv_at hl 0 rfl) ?_
        refine lv_iload_n hx hb dX5_tells_44 rfl (lv_at hl 2 rfl) ?_
        obtain ⟨t39, h40, hf⟩ := bd_some hf
        refine vp_callSi (va_runV (As := [.int y2]) (rest := [.long ((fL t23.2 87 y0) - (fL t23.2 87 y0) / t35.toInt64 * t35.toInt64)]) F (c_X5_rest l D cy (H := _) hw.1 v_y0 h40) (cwV 1 hts gX5_tells_X5_rest rfl rfl rfl ⟨rfl, ph_X5_rest.1, ph_X5_rest.2, pd_X5_rest⟩ ⟨Nat.le_of_ble_eq_true rfl, Nat.le_of_ble_eq_true rfl⟩) ⟨PcR.bl, (q_rcv hK hw.1 v_y0.1 (pF_5 (S := t23.2) v_y0.2) rfl), PcR.in hK⟩ rfl rfl hl.1 rfl (lv_room (Nat.le_of_ble_eq_true rfl)) dX5_tells_45 ⟨Nat.zero_le _, Nat.zero_le _⟩).run (fun r41 er41 => ?_)
        subst r41
        refine lv_i2l hx hb dX5_tells_48 rfl ?_
        refine W.lcmp hx hb dX5_tells_49 ?_
        refine lv_if_ne (tgt := 57) hx hb dX5_tells_50 (by decide) (fun c42 => ?_) (fun c42 => ?_)
        · have hf := it_f (fun z => c42 ((lq_eq _ _).mpr z)) hf
          exact hB57 t23.2 _ _ _ (lv_sub hl [] rfl) hw hE  hf
        · have hf := it_t ((lq_eq _ _).mp c42) hf
          refine lv_iconst (v := 1) hx hb dX5_tells_53 (by decide) ?_
          refine lv_goto (tgt := 58) hx hb dX5_tells_54 (by decide) ?_
          exact hB58 t23.2 _ _ 1 _ (lv_sub hl [] rfl) hw hE  hf
def f_X5_isTold_B31 (S : PS) (s0 : Int32) : Option (Int32 × PS) :=
  ck (decide (s0 &&& 1 = s0)) (
  some (s0, S))
def f_X5_isTold_B30 (S : PS) : Option (Int32 × PS) :=
  f_X5_isTold_B31 S 0
def f_X5_isTold (S : PS) (x0 : Nat) (x1 : Int32) : Option (Int32 × PS) :=
  bd (f_X5_isOn S x0 x1) fun t2 =>
  if t2 = 0 then (f_X5_isTold_B30 S) else
  bd (f_X5_onSet S x0) fun t6 =>
  bd (f_X5_tells S x0 (t6 &&& (((1 : Int32) <<< (x1 &&& 31)) ^^^ ((-1) : Int32))) x1) fun t9 =>
  if t9.1 = 0 then (f_X5_isTold_B30 t9.2) else
  f_X5_isTold_B31 t9.2 1
set_option maxHeartbeats 4000000 in
set_option maxRecDepth 100000 in
theorem c_X5_isTold (l : Launch) (D : va_G) (cy : cyT) {S : PS} {n : Nat} {y0 : Nat} {y1 : Int32} (v_y0 : vd S y0 5) {res : Int32 × PS} (hf : f_X5_isTold S y0 y1 = some res) : Met l yX5_isTold wsX5_isTold ({ frames := 6, cells := 0, slots := 0, locals := 137 } : Room) (PcW False D cy S n [.ref y0, .int y1]) (va_Qi (fun (r : Int32) (u : PS × Nat) => r = res.1 ∧ u = (res.2, n)) (BW D cy S n) (AA cy S n)) 0 0 (AA cy S n) := by
  refine Met.ofW (cc := cX5_isTold) (maxL := 2) (ret := (some .boolean)) (by decide) rfl ?_
  intro p e s m args below meth c s₁ B hml hv
  obtain ⟨hav, hsz, hP0, hD0, hK, hZ0⟩ := hv
  have hx := B.exec
  have hb := B.bytes
  have hr := B.returns
  have hts := atoms_spec (ws := wsX5_isTold) B.pre
  have hown : s.vm.findClass RX5 = some m.cls := findClass_of_methodNamed B.named
  have hlocks := B.notSynchronized
  subst hav
  have hw : Hw D cy (AA cy S n) s.heap S n s.heap [] := Hw.start hsz hP0 hD0
  have hA : ∀ q, s.heap.size ≤ q → AA cy S n q := fun q h => Or.inr (hsz ▸ h)
  have hE : EX S S := EX.rf
  have F : CallFix p m c cX5_isTold 2 s _ wsX5_isTold RX5 := ⟨hx, hb, hml, hown, hts⟩
  have hB31 : ∀ (Sb : PS) (H1 : Heap) (lo1 : List Loc) (s0 : Int32) (ls : Array Slot), lv_has ls 2 [] → Hw D cy (AA cy S n) s.heap Sb n H1 lo1 → EX S Sb → f_X5_isTold_B31 Sb s0 = some res → W p l e (headSpec wsX5_isTold ({ frames := 6, cells := 0, slots := 0, locals := 137 } : Room)).room s m ([.ref y0, .int y1] : List Value).toArray below meth c H1 lo1 0 0 (MQ below (va_Qi (fun (r : Int32) (u : PS × Nat) => r = res.1 ∧ u = (res.2, n)) (BW D cy S n) (AA cy S n)) ([.ref y0, .int y1] : List Value).toArray s 0 0 (AA cy S n)) (F0 m 31 ls [.int s0]) := by
    intro Sb H1 lo1 s0 ls hl hw hE hf
    unfold f_X5_isTold_B31 at hf
    obtain ⟨c12, hf⟩ := ckd_some hf
    exact W.zret (v := s0) hx hb hr (nz c12) (fun t ht hW => ⟨⟨_, (Sb, n), rfl, po2 hf, BW.of hw hE ht⟩, hw.2.2.1.F ht⟩) hw.2.2.1.2.2 dX5_isTold_31
  have hB30 : ∀ (Sb : PS) (H1 : Heap) (lo1 : List Loc)  (ls : Array Slot), lv_has ls 2 [] → Hw D cy (AA cy S n) s.heap Sb n H1 lo1 → EX S Sb → f_X5_isTold_B30 Sb = some res → W p l e (headSpec wsX5_isTold ({ frames := 6, cells := 0, slots := 0, locals := 137 } : Room)).room s m ([.ref y0, .int y1] : List Value).toArray below meth c H1 lo1 0 0 (MQ below (va_Qi (fun (r : Int32) (u : PS × Nat) => r = res.1 ∧ u = (res.2, n)) (BW D cy S n) (AA cy S n)) ([.ref y0, .int y1] : List Value).toArray s 0 0 (AA cy S n)) (F0 m 30 ls []) := by
    intro Sb H1 lo1 ls hl hw hE hf
    unfold f_X5_isTold_B30 at hf
    refine lv_iconst (v := 0) hx hb dX5_isTold_30 (by decide) ?_
    exact hB31 Sb _ _ 0 _ (lv_sub hl [] rfl) hw hE  hf
  have hl := lv_entry ([.ref y0, .int y1]) (n := 2) (Nat.le_of_ble_eq_true rfl)
  rw [lg_entry_eq]
  generalize (lg_sl ([.ref y0, .int y1]) ++ List.replicate (2 - (lg_sl ([.ref y0, .int y1])).length) Slot.unset).toArray = ls at hl ⊢
  have hl : lv_has ls 2 [(0, .ref y0), (1, .int y1)] := hl
  unfold f_X5_isTold at hf
  refine lv_aload_n hx hb dX5_isTold_0 rfl (lv_at hl 0 rfl) ?_
  refine lv_iload_n hx hb dX5_isTold_1 rfl (lv_at hl 1 rfl) ?_
  obtain ⟨t13, h14, hf⟩ := bd_some hf
  refine vp_callSi (va_runV (As := [.int y1]) (rest := []) F (c_X5_isOn l D cy (H := _) hw.1 v_y0 h14) (cwV 1 hts gX5_isTold_X5_isOn rfl rfl rfl ⟨rfl, ph_X5_isOn.1, ph_X5_isOn.2, pd_X5_isOn⟩ ⟨Nat.le_of_ble_eq_true rfl, Nat.le_of_ble_eq_true rfl⟩) ⟨PcR.bl, (q_rcv hK hw.1 v_y0.1 (pF_5 (S := S) v_y0.2) rfl), PcR.in hK⟩ rfl rfl hl.1 rfl (lv_room (Nat.le_of_ble_eq_true rfl)) dX5_isTold_2 ⟨Nat.zero_le _, Nat.zero_le _⟩).run (fun r15 er15 => ?_)
  subst r15
  refine lv_if_eq (tgt := 30) hx hb dX5_isTold_5 (by decide) (fun c16 => ?_) (fun c16 => ?_)
  · have hf := it_t c16 hf
    exact hB30 S _ _ _ (lv_sub hl [] rfl) hw hE  hf
  · have hf := it_f c16 hf
    refine lv_aload_n hx hb dX5_isTold_8 rfl (lv_at hl 0 rfl) ?_
    refine lv_aload_n hx hb dX5_isTold_9 rfl (lv_at hl 0 rfl) ?_
    obtain ⟨t17, h18, hf⟩ := bd_some hf
    refine vp_callSi (va_runV (As := []) (rest := [.ref y0]) F (c_X5_onSet l D cy (H := _) hw.1 v_y0 h18) (cwV 0 hts gX5_isTold_X5_onSet rfl rfl rfl ⟨rfl, ph_X5_onSet.1, ph_X5_onSet.2, pd_X5_onSet⟩ ⟨Nat.le_of_ble_eq_true rfl, Nat.le_of_ble_eq_true rfl⟩) ⟨PcR.bl, (q_rcv hK hw.1 v_y0.1 (pF_5 (S := S) v_y0.2) rfl), PcR.in hK⟩ rfl rfl hl.1 rfl (lv_room (Nat.le_of_ble_eq_true rfl)) dX5_isTold_10 ⟨Nat.zero_le _, Nat.zero_le _⟩).run (fun r19 er19 => ?_)
    subst r19
    refine lv_iconst (v := 1) hx hb dX5_isTold_13 (by decide) ?_
    refine lv_iload_n hx hb dX5_isTold_14 rfl (lv_at hl 1 rfl) ?_
    refine lv_ishl hx hb dX5_isTold_15 ?_
    refine lv_iconst (v := (-1)) hx hb dX5_isTold_16 (by decide) ?_
    refine lv_ixor hx hb dX5_isTold_17 ?_
    refine lv_iand hx hb dX5_isTold_18 ?_
    refine lv_iload_n hx hb dX5_isTold_19 rfl (lv_at hl 1 rfl) ?_
    obtain ⟨t20, h21, hf⟩ := bd_some hf
    refine q_calli (va_runV (As := [.int (t17 &&& (((1 : Int32) <<< (y1 &&& 31)) ^^^ ((-1) : Int32))), .int y1]) (rest := []) F (c_X5_tells l D cy (S := S) v_y0 h21) (cwV 2 hts gX5_isTold_X5_tells rfl rfl rfl ⟨rfl, ph_X5_tells.1, ph_X5_tells.2, pd_X5_tells⟩ ⟨Nat.le_of_ble_eq_true rfl, Nat.le_of_ble_eq_true rfl⟩) ⟨PcW.bl, (q_rcv hK hw.1 v_y0.1 (pF_5 (S := S) v_y0.2) rfl), PcW.in hK hw hA (fun z => z.elim)⟩ rfl rfl hl.1 rfl (lv_room (Nat.le_of_ble_eq_true rfl)) dX5_isTold_20 ⟨Nat.zero_le _, Nat.zero_le _⟩) hw hA (fun H locs hw hX => ?_)
    have hE := hE.tr hX
    have v_y0 := hX _ _ v_y0
    refine lv_if_eq (tgt := 30) hx hb dX5_isTold_23 (by decide) (fun c22 => ?_) (fun c22 => ?_)
    · have hf := it_t c22 hf
      exact hB30 t20.2 _ _ _ (lv_sub hl [] rfl) hw hE  hf
    · have hf := it_f c22 hf
      refine lv_iconst (v := 1) hx hb dX5_isTold_26 (by decide) ?_
      refine lv_goto (tgt := 31) hx hb dX5_isTold_27 (by decide) ?_
      exact hB31 t20.2 _ _ 1 _ (lv_sub hl [] rfl) hw hE  hf
def f_X5_layNext (S : PS) (x0 : Nat) (x1 : Int32) (x2 : Int32) (x3 : Int32) : Option PS :=
  rq (fR S 81 x0) S 6 fun b1 =>
  ck (decide (¬ ((0 : Int32) < 0 ∨ aN S b1 ≤ (0 : Int32).toNatClampNeg))) (
  rq (fR S 81 x0) S 6 fun b4 =>
  ck (decide (¬ (((1 : Int32) + ((4 : Int32) * (aI S b1 (0 : Int32).toNatClampNeg))) < 0 ∨ aN S b4 ≤ ((1 : Int32) + ((4 : Int32) * (aI S b1 (0 : Int32).toNatClampNeg))).toNatClampNeg))) (
  rq (fR (sA S b4 ((1 : Int32) + ((4 : Int32) * (aI S b1 (0 : Int32).toNatClampNeg))) x1) 81 x0) (sA S b4 ((1 : Int32) + ((4 : Int32) * (aI S b1 (0 : Int32).toNatClampNeg))) x1) 6 fun b7 =>
  ck (decide (¬ ((((1 : Int32) + ((4 : Int32) * (aI S b1 (0 : Int32).toNatClampNeg))) + (1 : Int32)) < 0 ∨ aN (sA S b4 ((1 : Int32) + ((4 : Int32) * (aI S b1 (0 : Int32).toNatClampNeg))) x1) b7 ≤ (((1 : Int32) + ((4 : Int32) * (aI S b1 (0 : Int32).toNatClampNeg))) + (1 : Int32)).toNatClampNeg))) (
  rq (fR (sA (sA S b4 ((1 : Int32) + ((4 : Int32) * (aI S b1 (0 : Int32).toNatClampNeg))) x1) b7 (((1 : Int32) + ((4 : Int32) * (aI S b1 (0 : Int32).toNatClampNeg))) + (1 : Int32)) x2) 81 x0) (sA (sA S b4 ((1 : Int32) + ((4 : Int32) * (aI S b1 (0 : Int32).toNatClampNeg))) x1) b7 (((1 : Int32) + ((4 : Int32) * (aI S b1 (0 : Int32).toNatClampNeg))) + (1 : Int32)) x2) 6 fun b10 =>
  ck (decide (¬ ((((1 : Int32) + ((4 : Int32) * (aI S b1 (0 : Int32).toNatClampNeg))) + (2 : Int32)) < 0 ∨ aN (sA (sA S b4 ((1 : Int32) + ((4 : Int32) * (aI S b1 (0 : Int32).toNatClampNeg))) x1) b7 (((1 : Int32) + ((4 : Int32) * (aI S b1 (0 : Int32).toNatClampNeg))) + (1 : Int32)) x2) b10 ≤ (((1 : Int32) + ((4 : Int32) * (aI S b1 (0 : Int32).toNatClampNeg))) + (2 : Int32)).toNatClampNeg))) (
  rq (fR (sA (sA (sA S b4 ((1 : Int32) + ((4 : Int32) * (aI S b1 (0 : Int32).toNatClampNeg))) x1) b7 (((1 : Int32) + ((4 : Int32) * (aI S b1 (0 : Int32).toNatClampNeg))) + (1 : Int32)) x2) b10 (((1 : Int32) + ((4 : Int32) * (aI S b1 (0 : Int32).toNatClampNeg))) + (2 : Int32)) x3) 81 x0) (sA (sA (sA S b4 ((1 : Int32) + ((4 : Int32) * (aI S b1 (0 : Int32).toNatClampNeg))) x1) b7 (((1 : Int32) + ((4 : Int32) * (aI S b1 (0 : Int32).toNatClampNeg))) + (1 : Int32)) x2) b10 (((1 : Int32) + ((4 : Int32) * (aI S b1 (0 : Int32).toNatClampNeg))) + (2 : Int32)) x3) 6 fun b13 =>
  ck (decide (¬ ((((1 : Int32) + ((4 : Int32) * (aI S b1 (0 : Int32).toNatClampNeg))) + (3 : Int32)) < 0 ∨ aN (sA (sA (sA S b4 ((1 : Int32) + ((4 : Int32) * (aI S b1 (0 : Int32).toNatClampNeg))) x1) b7 (((1 : Int32) + ((4 : Int32) * (aI S b1 (0 : Int32).toNatClampNeg))) + (1 : Int32)) x2) b10 (((1 : Int32) + ((4 : Int32) * (aI S b1 (0 : Int32).toNatClampNeg))) + (2 : Int32)) x3) b13 ≤ (((1 : Int32) + ((4 : Int32) * (aI S b1 (0 : Int32).toNatClampNeg))) + (3 : Int32)).toNatClampNeg))) (
  some (sA (sA (sA (sA S b4 ((1 : Int32) + ((4 : Int32) * (aI S b1 (0 : Int32).toNatClampNeg))) x1) b7 (((1 : Int32) + ((4 : Int32) * (aI S b1 (0 : Int32).toNatClampNeg))) + (1 : Int32)) x2) b10 (((1 : Int32) + ((4 : Int32) * (aI S b1 (0 : Int32).toNatClampNeg))) + (2 : Int32)) x3) b13 (((1 : Int32) + ((4 : Int32) * (aI S b1 (0 : Int32).toNatClampNeg))) + (3 : Int32)) 1))))))
set_option maxHeartbeats 4000000 in
set_option maxRecDepth 100000 in
theorem c_X5_layNext (l : Launch) (D : va_G) (cy : cyT) {S : PS} {n : Nat} {y0 : Nat} {y1 : Int32} {y2 : Int32} {y3 : Int32} (v_y0 : vd S y0 5) {res : PS} (hf : f_X5_layNext S y0 y1 y2 y3 = some res) : Met l yX5_layNext wsX5_layNext ({ frames := 0, cells := 0, slots := 0, locals := 0 } : Room) (PcW False D cy S n [.ref y0, .int y1, .int y2, .int y3]) (va_Qv (fun (u : PS × Nat) => u = (res, n)) (BW D cy S n) (AA cy S n)) 0 0 (AA cy S n) := by
  refine Met.ofW (cc := cX5_layNext) (maxL := 5) (ret := none) (by decide) rfl ?_
  intro p e s m args below meth c s₁ B hml hv
  obtain ⟨hav, hsz, hP0, hD0, hK, hZ0⟩ := hv
  have hx := B.exec
  have hb := B.bytes
  have hr := B.returns
  have hts := atoms_spec (ws := wsX5_layNext) B.pre
  have hown : s.vm.findClass RX5 = some m.cls := findClass_of_methodNamed B.named
  have hlocks := B.notSynchronized
  subst hav
  have hw : Hw D cy (AA cy S n) s.heap S n s.heap [] := Hw.start hsz hP0 hD0
  have hA : ∀ q, s.heap.size ≤ q → AA cy S n q := fun q h => Or.inr (hsz ▸ h)
  have hE : EX S S := EX.rf
  have F : CallFix p m c cX5_layNext 5 s _ wsX5_layNext RX5 := ⟨hx, hb, hml, hown, hts⟩
  have hl := lv_entry ([.ref y0, .int y1, .int y2, .int y3]) (n := 5) (Nat.le_of_ble_eq_true rfl)
  rw [lg_entry_eq]
  generalize (lg_sl ([.ref y0, .int y1, .int y2, .int y3]) ++ List.replicate (5 - (lg_sl ([.ref y0, .int y1, .int y2, .int y3])).length) Slot.unset).toArray = ls at hl ⊢
  have hl : lv_has ls 5 [(0, .ref y0), (1, .int y1), (2, .int y2), (3, .int y3)] := hl
  unfold f_X5_layNext at hf
  refine lv_iconst (v := 1) hx hb dX5_layNext_0 (by decide) ?_
  refine lv_iconst (v := 4) hx hb dX5_layNext_1 (by decide) ?_
  refine lv_aload_n hx hb dX5_layNext_2 rfl (lv_at hl 0 rfl) ?_
  obtain ⟨b16, e17, v_b16, hf⟩ := rq_some hf
  refine q_get F hK hw.1 v_y0.1 (pF_5 (S := S) v_y0.2) (fun w h => List.mem_cons_of_mem _ (List.mem_append_right _ h)) rfl 1 (by decide) (hts (.fieldLink RX5 7 "SharedModuliModel" "z" "[I") (List.mem_of_getElem? (i := 1) rfl)) (v := .ref b16) (congrArg (fun z => some (va_rf z)) e17) dX5_layNext_3 ?_
  refine lv_iconst (v := 0) hx hb dX5_layNext_6 (by decide) ?_
  obtain ⟨c18, hf⟩ := ckd_some hf
  refine q_iald F hK hw.1 v_b16 c18 dX5_layNext_7 ?_
  refine lv_imul hx hb dX5_layNext_8 ?_
  refine lv_iadd hx hb dX5_layNext_9 ?_
  refine lv_istore (lv' := [(4, .int ((1 : Int32) + ((4 : Int32) * (aI S b16 (0 : Int32).toNatClampNeg)))), (0, .ref y0), (1, .int y1), (2, .int y2), (3, .int y3)]) hx hb dX5_layNext_10 hl (by decide) rfl (fun ls hl => ?_)
  refine lv_aload_n hx hb dX5_layNext_12 rfl (lv_at hl 1 rfl) ?_
  obtain ⟨b19, e20, v_b19, hf⟩ := rq_some hf
  refine q_get F hK hw.1 v_y0.1 (pF_5 (S := S) v_y0.2) (fun w h => List.mem_cons_of_mem _ (List.mem_append_right _ h)) rfl 1 (by decide) (hts (.fieldLink RX5 7 "SharedModuliModel" "z" "[I") (List.mem_of_getElem? (i := 1) rfl)) (v := .ref b19) (congrArg (fun z => some (va_rf z)) e20) dX5_layNext_13 ?_
  refine lv_iload hx hb dX5_layNext_16 (lv_at hl 0 rfl) ?_
  refine lv_iload_n hx hb dX5_layNext_18 rfl (lv_at hl 2 rfl) ?_
  obtain ⟨c21, hf⟩ := ckd_some hf
  refine q_iast F hK hw v_b19 c21 dX5_layNext_19 (fun H locs hw => ?_)
  refine lv_aload_n hx hb dX5_layNext_20 rfl (lv_at hl 1 rfl) ?_
  obtain ⟨b22, e23, v_b22, hf⟩ := rq_some hf
  refine q_get F hK hw.1 v_y0.1 (pF_5 (S := sA S b19 ((1 : Int32) + ((4 : Int32) * (aI S b16 (0 : Int32).toNatClampNeg))) y1) v_y0.2) (fun w h => List.mem_cons_of_mem _ (List.mem_append_right _ h)) rfl 1 (by decide) (hts (.fieldLink RX5 7 "SharedModuliModel" "z" "[I") (List.mem_of_getElem? (i := 1) rfl)) (v := .ref b22) (congrArg (fun z => some (va_rf z)) e23) dX5_layNext_21 ?_
  refine lv_iload hx hb dX5_layNext_24 (lv_at hl 0 rfl) ?_
  refine lv_iconst (v := 1) hx hb dX5_layNext_26 (by decide) ?_
  refine lv_iadd hx hb dX5_layNext_27 ?_
  refine lv_iload_n hx hb dX5_layNext_28 rfl (lv_at hl 3 rfl) ?_
  obtain ⟨c24, hf⟩ := ckd_some hf
  refine q_iast F hK hw v_b22 c24 dX5_layNext_29 (fun H locs hw => ?_)
  refine lv_aload_n hx hb dX5_layNext_30 rfl (lv_at hl 1 rfl) ?_
  obtain ⟨b25, e26, v_b25, hf⟩ := rq_some hf
  refine q_get F hK hw.1 v_y0.1 (pF_5 (S := sA (sA S b19 ((1 : Int32) + ((4 : Int32) * (aI S b16 (0 : Int32).toNatClampNeg))) y1) b22 (((1 : Int32) + ((4 : Int32) * (aI S b16 (0 : Int32).toNatClampNeg))) + (1 : Int32)) y2) v_y0.2) (fun w h => List.mem_cons_of_mem _ (List.mem_append_right _ h)) rfl 1 (by decide) (hts (.fieldLink RX5 7 "SharedModuliModel" "z" "[I") (List.mem_of_getElem? (i := 1) rfl)) (v := .ref b25) (congrArg (fun z => some (va_rf z)) e26) dX5_layNext_31 ?_
  refine lv_iload hx hb dX5_layNext_34 (lv_at hl 0 rfl) ?_
  refine lv_iconst (v := 2) hx hb dX5_layNext_36 (by decide) ?_
  refine lv_iadd hx hb dX5_layNext_37 ?_
  refine lv_iload_n hx hb dX5_layNext_38 rfl (lv_at hl 4 rfl) ?_
  obtain ⟨c27, hf⟩ := ckd_some hf
  refine q_iast F hK hw v_b25 c27 dX5_layNext_39 (fun H locs hw => ?_)
  refine lv_aload_n hx hb dX5_layNext_40 rfl (lv_at hl 1 rfl) ?_
  obtain ⟨b28, e29, v_b28, hf⟩ := rq_some hf
  refine q_get F hK hw.1 v_y0.1 (pF_5 (S := sA (sA (sA S b19 ((1 : Int32) + ((4 : Int32) * (aI S b16 (0 : Int32).toNatClampNeg))) y1) b22 (((1 : Int32) + ((4 : Int32) * (aI S b16 (0 : Int32).toNatClampNeg))) + (1 : Int32)) y2) b25 (((1 : Int32) + ((4 : Int32) * (aI S b16 (0 : Int32).toNatClampNeg))) + (2 : Int32)) y3) v_y0.2) (fun w h => List.mem_cons_of_mem _ (List.mem_append_right _ h)) rfl 1 (by decide) (hts (.fieldLink RX5 7 "SharedModuliModel" "z" "[I") (List.mem_of_getElem? (i := 1) rfl)) (v := .ref b28) (congrArg (fun z => some (va_rf z)) e29) dX5_layNext_41 ?_
  refine lv_iload hx hb dX5_layNext_44 (lv_at hl 0 rfl) ?_
  refine lv_iconst (v := 3) hx hb dX5_layNext_46 (by decide) ?_
  refine lv_iadd hx hb dX5_layNext_47 ?_
  refine lv_iconst (v := 1) hx hb dX5_layNext_48 (by decide) ?_
  obtain ⟨c30, hf⟩ := ckd_some hf
  refine q_iast F hK hw v_b28 c30 dX5_layNext_49 (fun H locs hw => ?_)
  exact W.vret hx hb hr (fun t ht hW => ⟨⟨(sA (sA (sA (sA S b19 ((1 : Int32) + ((4 : Int32) * (aI S b16 (0 : Int32).toNatClampNeg))) y1) b22 (((1 : Int32) + ((4 : Int32) * (aI S b16 (0 : Int32).toNatClampNeg))) + (1 : Int32)) y2) b25 (((1 : Int32) + ((4 : Int32) * (aI S b16 (0 : Int32).toNatClampNeg))) + (2 : Int32)) y3) b28 (((1 : Int32) + ((4 : Int32) * (aI S b16 (0 : Int32).toNatClampNeg))) + (3 : Int32)) 1, n), rfl, po1 hf, BW.of hw hE ht⟩, hw.2.2.1.F ht⟩) hw.2.2.1.2.2 dX5_layNext_50
def f_X5_clearNext_B40 (S : PS) : Option PS :=
  some (S)
def f_X5_clearNext_L11s (kL11 : PS → Nat → Int32 → Option PS) (ke40 : PS → Option PS) (S : PS) (x0 : Nat) (x1 : Int32) : Option PS :=
  rq (fR S 81 x0) S 6 fun b1 =>
  ck (decide (¬ ((0 : Int32) < 0 ∨ aN S b1 ≤ (0 : Int32).toNatClampNeg))) (
  if (((1 : Int32) + ((4 : Int32) * (aI S b1 (0 : Int32).toNatClampNeg))) + (4 : Int32)) ≤ x1 then (ke40 S) else
  rq (fR S 81 x0) S 6 fun b5 =>
  ck (decide (¬ (x1 < 0 ∨ aN S b5 ≤ x1.toNatClampNeg))) (
  kL11 (sA S b5 x1 0) x0 (x1 + 1)))
def f_X5_clearNext_L11 (ke40 : PS → Option PS) (fu : Nat) : PS → Nat → Int32 → Option PS := fx (fun kL => f_X5_clearNext_L11s kL ke40) (fun _ _ _ => none) fu
def f_X5_clearNext (S : PS) (x0 : Nat) : Option PS :=
  rq (fR S 81 x0) S 6 fun b8 =>
  ck (decide (¬ ((0 : Int32) < 0 ∨ aN S b8 ≤ (0 : Int32).toNatClampNeg))) (
  f_X5_clearNext_L11 f_X5_clearNext_B40 FU S x0 ((1 : Int32) + ((4 : Int32) * (aI S b8 (0 : Int32).toNatClampNeg))))
set_option maxHeartbeats 4000000 in
set_option maxRecDepth 100000 in
theorem c_X5_clearNext (l : Launch) (D : va_G) (cy : cyT) {S : PS} {n : Nat} {y0 : Nat} (v_y0 : vd S y0 5) {res : PS} (hf : f_X5_clearNext S y0 = some res) : Met l yX5_clearNext wsX5_clearNext ({ frames := 0, cells := 0, slots := 0, locals := 0 } : Room) (PcW False D cy S n [.ref y0]) (va_Qv (fun (u : PS × Nat) => u = (res, n)) (BW D cy S n) (AA cy S n)) 0 0 (AA cy S n) := by
  refine Met.ofW (cc := cX5_clearNext) (maxL := 2) (ret := none) (by decide) rfl ?_
  intro p e s m args below meth c s₁ B hml hv
  obtain ⟨hav, hsz, hP0, hD0, hK, hZ0⟩ := hv
  have hx := B.exec
  have hb := B.bytes
  have hr := B.returns
  have hts := atoms_spec (ws := wsX5_clearNext) B.pre
  have hown : s.vm.findClass RX5 = some m.cls := findClass_of_methodNamed B.named
  have hlocks := B.notSynchronized
  subst hav
  have hw : Hw D cy (AA cy S n) s.heap S n s.heap [] := Hw.start hsz hP0 hD0
  have hA : ∀ q, s.heap.size ≤ q → AA cy S n q := fun q h => Or.inr (hsz ▸ h)
  have hE : EX S S := EX.rf
  have F : CallFix p m c cX5_clearNext 2 s _ wsX5_clearNext RX5 := ⟨hx, hb, hml, hown, hts⟩
  have hB40 : ∀ (Sb : PS) (H1 : Heap) (lo1 : List Loc)  (ls : Array Slot), lv_has ls 2 [] → Hw D cy (AA cy S n) s.heap Sb n H1 lo1 → EX S Sb → f_X5_clearNext_B40 Sb = some res → W p l e (headSpec wsX5_clearNext ({ frames := 0, cells := 0, slots := 0, locals := 0 } : Room)).room s m ([.ref y0] : List Value).toArray below meth c H1 lo1 0 0 (MQ below (va_Qv (fun (u : PS × Nat) => u = (res, n)) (BW D cy S n) (AA cy S n)) ([.ref y0] : List Value).toArray s 0 0 (AA cy S n)) (F0 m 40 ls []) := by
    intro Sb H1 lo1 ls hl hw hE hf
    unfold f_X5_clearNext_B40 at hf
    exact W.vret hx hb hr (fun t ht hW => ⟨⟨(Sb, n), rfl, po1 hf, BW.of hw hE ht⟩, hw.2.2.1.F ht⟩) hw.2.2.1.2.2 dX5_clearNext_40
  have hL11 : ∀ (fu11 : Nat), ∀ (Sb : PS) (H1 : Heap) (lo1 : List Loc) (x0 : Nat) (x1 : Int32) (ls : Array Slot), lv_has ls 2 [(0, .ref x0), (1, .int x1)] → Hw D cy (AA cy S n) s.heap Sb n H1 lo1 → EX S Sb → vd Sb x0 5 → f_X5_clearNext_L11 f_X5_clearNext_B40 fu11 Sb x0 x1 = some res → W p l e (headSpec wsX5_clearNext ({ frames := 0, cells := 0, slots := 0, locals := 0 } : Room)).room s m ([.ref y0] : List Value).toArray below meth c H1 lo1 0 0 (MQ below (va_Qv (fun (u : PS × Nat) => u = (res, n)) (BW D cy S n) (AA cy S n)) ([.ref y0] : List Value).toArray s 0 0 (AA cy S n)) (F0 m 11 ls []) := by
    intro fu11
    induction fu11 with
    | zero =>
      intro Sb H1 lo1 x0 x1 ls hl hw hE v_x0 hf
      have hf : (none : Option PS) = some res := hf
      cases hf
    | succ fu11 ih11 =>
      intro Sb H1 lo1 x0 x1 ls hl hw hE v_x0 hf
      have hf : f_X5_clearNext_L11s (f_X5_clearNext_L11 f_X5_clearNext_B40 fu11) f_X5_clearNext_B40 Sb x0 x1 = some res := hf
      unfold f_X5_clearNext_L11s at hf
      refine lv_iload_n hx hb dX5_clearNext_11 rfl (lv_at hl 1 rfl) ?_
      refine lv_iconst (v := 1) hx hb dX5_clearNext_12 (by decide) ?_
      refine lv_iconst (v := 4) hx hb dX5_clearNext_13 (by decide) ?_
      refine lv_aload_n hx hb dX5_clearNext_14 rfl (lv_at hl 0 rfl) ?_
      obtain ⟨b11, e12, v_b11, hf⟩ := rq_some hf
      refine q_get F hK hw.1 v_x0.1 (pF_5 (S := Sb) v_x0.2) (fun w h => List.mem_cons_of_mem _ (List.mem_append_right _ h)) rfl 1 (by decide) (hts (.fieldLink RX5 7 "SharedModuliModel" "z" "[I") (List.mem_of_getElem? (i := 1) rfl)) (v := .ref b11) (congrArg (fun z => some (va_rf z)) e12) dX5_clearNext_15 ?_
      refine lv_iconst (v := 0) hx hb dX5_clearNext_18 (by decide) ?_
      obtain ⟨c13, hf⟩ := ckd_some hf
      refine q_iald F hK hw.1 v_b11 c13 dX5_clearNext_19 ?_
      refine lv_imul hx hb dX5_clearNext_20 ?_
      refine lv_iadd hx hb dX5_clearNext_21 ?_
      refine lv_iconst (v := 4) hx hb dX5_clearNext_22 (by decide) ?_
      refine lv_iadd hx hb dX5_clearNext_23 ?_
      refine lv_icmp_ge (tgt := 40) hx hb dX5_clearNext_24 (by decide) (fun c14 => ?_) (fun c14 => ?_)
      · have hf := it_t c14 hf
        exact hB40 Sb _ _ _ (lv_sub hl [] rfl) hw hE  hf
      · have hf := it_f c14 hf
        refine lv_aload_n hx hb dX5_clearNext_27 rfl (lv_at hl 0 rfl) ?_
        obtain ⟨b15, e16, v_b15, hf⟩ := rq_some hf
        refine q_get F hK hw.1 v_x0.1 (pF_5 (S := Sb) v_x0.2) (fun w h => List.mem_cons_of_mem _ (List.mem_append_right _ h)) rfl 1 (by decide) (hts (.fieldLink RX5 7 "SharedModuliModel" "z" "[I") (List.mem_of_getElem? (i := 1) rfl)) (v := .ref b15) (congrArg (fun z => some (va_rf z)) e16) dX5_clearNext_28 ?_
        refine lv_iload_n hx hb dX5_clearNext_31 rfl (lv_at hl 1 rfl) ?_
        refine lv_iconst (v := 0) hx hb dX5_clearNext_32 (by decide) ?_
        obtain ⟨c17, hf⟩ := ckd_some hf
        refine q_iast F hK hw v_b15 c17 dX5_clearNext_33 (fun H locs hw => ?_)
        refine lv_iinc (v := x1 + 1) (lv' := [(1, .int (x1 + 1)), (0, .ref x0)]) hx hb dX5_clearNext_34 hl (k := 1) rfl (by rfl) (by decide) rfl (fun ls hl => ?_)
        refine lv_goto (tgt := 11) hx hb dX5_clearNext_37 (by decide) ?_
        exact ih11 (sA Sb b15 x1 0) _ _ x0 (x1 + 1) _ (lv_sub hl [1, 0] rfl) hw hE v_x0 hf
  have hl := lv_entry ([.ref y0]) (n := 2) (Nat.le_of_ble_eq_true rfl)
  rw [lg_entry_eq]
  generalize (lg_sl ([.ref y0]) ++ List.replicate (2 - (lg_sl ([.ref y0])).length) Slot.unset).toArray = ls at hl ⊢
  have hl : lv_has ls 2 [(0, .ref y0)] := hl
  unfold f_X5_clearNext at hf
  refine lv_iconst (v := 1) hx hb dX5_clearNext_0 (by decide) ?_
  refine lv_iconst (v := 4) hx hb dX5_clearNext_1 (by decide) ?_
  refine lv_aload_n hx hb dX5_clearNext_2 rfl (lv_at hl 0 rfl) ?_
  obtain ⟨b18, e19, v_b18, hf⟩ := rq_some hf
  refine q_get F hK hw.1 v_y0.1 (pF_5 (S := S) v_y0.2) (fun w h => List.mem_cons_of_mem _ (List.mem_append_right _ h)) rfl 1 (by decide) (hts (.fieldLink RX5 7 "SharedModuliModel" "z" "[I") (List.mem_of_getElem? (i := 1) rfl)) (v := .ref b18) (congrArg (fun z => some (va_rf z)) e19) dX5_clearNext_3 ?_
  refine lv_iconst (v := 0) hx hb dX5_clearNext_6 (by decide) ?_
  obtain ⟨c20, hf⟩ := ckd_some hf
  refine q_iald F hK hw.1 v_b18 c20 dX5_clearNext_7 ?_
  refine lv_imul hx hb dX5_clearNext_8 ?_
  refine lv_iadd hx hb dX5_clearNext_9 ?_
  refine lv_istore_n (lv' := [(1, .int ((1 : Int32) + ((4 : Int32) * (aI S b18 (0 : Int32).toNatClampNeg)))), (0, .ref y0)]) hx hb dX5_clearNext_10 rfl hl (by decide) rfl (fun ls hl => ?_)
  exact hL11 FU S _ _ y0 ((1 : Int32) + ((4 : Int32) * (aI S b18 (0 : Int32).toNatClampNeg))) _ (lv_sub hl [1, 0] rfl) hw hE v_y0 hf
def f_X5_areGood_B38 (s0 : Int32) : Option Int32 :=
  ck (decide (s0 &&& 1 = s0)) (
  some s0)
def f_X5_areGood_B37  : Option Int32 :=
  f_X5_areGood_B38 0
def f_X5_areGood (x0 : Int32) (x1 : Int32) (x2 : Int32) : Option Int32 :=
  bd (f_X5_in x0 1 999) fun t2 =>
  if t2 = 0 then (f_X5_areGood_B37) else
  bd (f_X5_in x1 0 999) fun t6 =>
  if t6 = 0 then (f_X5_areGood_B37) else
  bd (f_X5_in x2 1 999) fun t10 =>
  if t10 = 0 then (f_X5_areGood_B37) else
  f_X5_areGood_B38 1
set_option maxHeartbeats 4000000 in
set_option maxRecDepth 100000 in
theorem c_X5_areGood (l : Launch) (D : va_G) (cy : cyT) {H : Heap} {y0 : Int32} {y1 : Int32} {y2 : Int32}  {res : Int32} (hf : f_X5_areGood y0 y1 y2 = some res) : Met l yX5_areGood wsX5_areGood ({ frames := 1, cells := 0, slots := 0, locals := 22 } : Room) (PcR D cy H [.int y0, .int y1, .int y2]) (vp_Si (fun r => r = res)) 0 0 (fun _ => False) := by
  refine Met.ofW (cc := cX5_areGood) (maxL := 3) (ret := (some .boolean)) (by decide) rfl ?_
  intro p e s m args below meth c s₁ B hml hv
  obtain ⟨hav, hH, hK⟩ := hv
  have hx := B.exec
  have hb := B.bytes
  have hr := B.returns
  have hts := atoms_spec (ws := wsX5_areGood) B.pre
  have hown : s.vm.findClass RX5 = some m.cls := findClass_of_methodNamed B.named
  have hlocks := B.notSynchronized
  subst hav
  subst hH
  have F : CallFix p m c cX5_areGood 3 s _ wsX5_areGood RX5 := ⟨hx, hb, hml, hown, hts⟩
  have hB38 : ∀ (s0 : Int32) (ls : Array Slot), lv_has ls 3 [] → f_X5_areGood_B38 s0 = some res → W p l e (headSpec wsX5_areGood ({ frames := 1, cells := 0, slots := 0, locals := 22 } : Room)).room s m ([.int y0, .int y1, .int y2] : List Value).toArray below meth c s.heap [] 0 0 (MQ below (vp_Si (fun r => r = res)) ([.int y0, .int y1, .int y2] : List Value).toArray s 0 0 (fun _ => False)) (F0 m 38 ls [.int s0]) := by
    intro s0 ls hl hf
    unfold f_X5_areGood_B38 at hf
    obtain ⟨c14, hf⟩ := ckd_some hf
    exact W.zret (v := s0) hx hb hr (nz c14) (fun t ht hW => ⟨_, rfl, Option.some.inj hf, ht⟩) (fun _ h => by cases h) dX5_areGood_38
  have hB37 : ∀  (ls : Array Slot), lv_has ls 3 [] → f_X5_areGood_B37 = some res → W p l e (headSpec wsX5_areGood ({ frames := 1, cells := 0, slots := 0, locals := 22 } : Room)).room s m ([.int y0, .int y1, .int y2] : List Value).toArray below meth c s.heap [] 0 0 (MQ below (vp_Si (fun r => r = res)) ([.int y0, .int y1, .int y2] : List Value).toArray s 0 0 (fun _ => False)) (F0 m 37 ls []) := by
    intro ls hl hf
    unfold f_X5_areGood_B37 at hf
    refine lv_iconst (v := 0) hx hb dX5_areGood_37 (by decide) ?_
    exact hB38 0 _ (lv_sub hl [] rfl)  hf
  have hl := lv_entry ([.int y0, .int y1, .int y2]) (n := 3) (Nat.le_of_ble_eq_true rfl)
  rw [lg_entry_eq]
  generalize (lg_sl ([.int y0, .int y1, .int y2]) ++ List.replicate (3 - (lg_sl ([.int y0, .int y1, .int y2])).length) Slot.unset).toArray = ls at hl ⊢
  have hl : lv_has ls 3 [(0, .int y0), (1, .int y1), (2, .int y2)] := hl
  unfold f_X5_areGood at hf
  refine lv_iload_n hx hb dX5_areGood_0 rfl (lv_at hl 0 rfl) ?_
  refine lv_iconst (v := 1) hx hb dX5_areGood_1 (by decide) ?_
  refine lv_sipush (v := 999) hx hb dX5_areGood_2 (by decide) ?_
  obtain ⟨t15, h16, hf⟩ := bd_some hf
  refine vp_callSi (va_runS (As := [.int y0, .int 1, .int 999]) (rest := []) F (c_X5_in l D cy (H := _)  h16) (va_cwS 3 hts gX5_areGood_X5_in rfl rfl rfl ⟨ph_X5_in.1, ph_X5_in.2, pd_X5_in⟩ ⟨Nat.le_of_ble_eq_true rfl, Nat.le_of_ble_eq_true rfl⟩) ⟨PcR.bl, PcR.in hK⟩ rfl rfl hl.1 rfl (lv_room (Nat.le_of_ble_eq_true rfl)) dX5_areGood_5 ⟨Nat.zero_le _, Nat.zero_le _⟩).run (fun r17 er17 => ?_)
  subst r17
  refine lv_if_eq (tgt := 37) hx hb dX5_areGood_8 (by decide) (fun c18 => ?_) (fun c18 => ?_)
  · have hf := it_t c18 hf
    exact hB37 _ (lv_sub hl [] rfl)  hf
  · have hf := it_f c18 hf
    refine lv_iload_n hx hb dX5_areGood_11 rfl (lv_at hl 1 rfl) ?_
    refine lv_iconst (v := 0) hx hb dX5_areGood_12 (by decide) ?_
    refine lv_sipush (v := 999) hx hb dX5_areGood_13 (by decide) ?_
    obtain ⟨t19, h20, hf⟩ := bd_some hf
    refine vp_callSi (va_runS (As := [.int y1, .int 0, .int 999]) (rest := []) F (c_X5_in l D cy (H := _)  h20) (va_cwS 3 hts gX5_areGood_X5_in rfl rfl rfl ⟨ph_X5_in.1, ph_X5_in.2, pd_X5_in⟩ ⟨Nat.le_of_ble_eq_true rfl, Nat.le_of_ble_eq_true rfl⟩) ⟨PcR.bl, PcR.in hK⟩ rfl rfl hl.1 rfl (lv_room (Nat.le_of_ble_eq_true rfl)) dX5_areGood_16 ⟨Nat.zero_le _, Nat.zero_le _⟩).run (fun r21 er21 => ?_)
    subst r21
    refine lv_if_eq (tgt := 37) hx hb dX5_areGood_19 (by decide) (fun c22 => ?_) (fun c22 => ?_)
    · have hf := it_t c22 hf
      exact hB37 _ (lv_sub hl [] rfl)  hf
    · have hf := it_f c22 hf
      refine lv_iload_n hx hb dX5_areGood_22 rfl (lv_at hl 2 rfl) ?_
      refine lv_iconst (v := 1) hx hb dX5_areGood_23 (by decide) ?_
      refine lv_sipush (v := 999) hx hb dX5_areGood_24 (by decide) ?_
      obtain ⟨t23, h24, hf⟩ := bd_some hf
      refine vp_callSi (va_runS (As := [.int y2, .int 1, .int 999]) (rest := []) F (c_X5_in l D cy (H := _)  h24) (va_cwS 3 hts gX5_areGood_X5_in rfl rfl rfl ⟨ph_X5_in.1, ph_X5_in.2, pd_X5_in⟩ ⟨Nat.le_of_ble_eq_true rfl, Nat.le_of_ble_eq_true rfl⟩) ⟨PcR.bl, PcR.in hK⟩ rfl rfl hl.1 rfl (lv_room (Nat.le_of_ble_eq_true rfl)) dX5_areGood_27 ⟨Nat.zero_le _, Nat.zero_le _⟩).run (fun r25 er25 => ?_)
      subst r25
      refine lv_if_eq (tgt := 37) hx hb dX5_areGood_30 (by decide) (fun c26 => ?_) (fun c26 => ?_)
      · have hf := it_t c26 hf
        exact hB37 _ (lv_sub hl [] rfl)  hf
      · have hf := it_f c26 hf
        refine lv_iconst (v := 1) hx hb dX5_areGood_33 (by decide) ?_
        refine lv_goto (tgt := 38) hx hb dX5_areGood_34 (by decide) ?_
        exact hB38 1 _ (lv_sub hl [] rfl)  hf
def f_X5_canAdd_B56 (S : PS) (x4 : Int32) : Option (Int32 × PS) :=
  ck (decide (x4 &&& 1 = x4)) (
  some (x4, S))
def f_X5_canAdd_B45 (S : PS) (x0 : Nat) (s0 : Int32) : Option (Int32 × PS) :=
  if s0 = 0 then (bd (f_X5_clearNext S x0) fun t3 =>
  f_X5_canAdd_B56 t3 s0) else
  f_X5_canAdd_B56 S s0
def f_X5_canAdd (S : PS) (x0 : Nat) (x1 : Int32) (x2 : Int32) (x3 : Int32) : Option (Int32 × PS) :=
  rq (fR S 81 x0) S 6 fun b5 =>
  ck (decide (¬ ((0 : Int32) < 0 ∨ aN S b5 ≤ (0 : Int32).toNatClampNeg))) (
  if (aI S b5 (0 : Int32).toNatClampNeg) = 10 then (some (0, S)) else
  bd (f_X5_layNext S x0 x1 x2 x3) fun t9 =>
  bd (f_X5_onSet t9 x0) fun t11 =>
  rq (fR t9 81 x0) t9 6 fun b14 =>
  ck (decide (¬ ((0 : Int32) < 0 ∨ aN t9 b14 ≤ (0 : Int32).toNatClampNeg))) (
  bd (f_X5_isTooGreat t9 x0 (t11 ||| ((1 : Int32) <<< ((aI t9 b14 (0 : Int32).toNatClampNeg) &&& 31)))) fun t17 =>
  if t17 = 0 then (f_X5_canAdd_B45 t9 x0 1) else
  f_X5_canAdd_B45 t9 x0 0))
set_option maxHeartbeats 4000000 in
set_option maxRecDepth 100000 in
theorem c_X5_canAdd (l : Launch) (D : va_G) (cy : cyT) {S : PS} {n : Nat} {y0 : Nat} {y1 : Int32} {y2 : Int32} {y3 : Int32} (v_y0 : vd S y0 5) {res : Int32 × PS} (hf : f_X5_canAdd S y0 y1 y2 y3 = some res) : Met l yX5_canAdd wsX5_canAdd ({ frames := 3, cells := 0, slots := 0, locals := 70 } : Room) (PcW False D cy S n [.ref y0, .int y1, .int y2, .int y3]) (va_Qi (fun (r : Int32) (u : PS × Nat) => r = res.1 ∧ u = (res.2, n)) (BW D cy S n) (AA cy S n)) 0 0 (AA cy S n) := by
  refine Met.ofW (cc := cX5_canAdd) (maxL := 5) (ret := (some .boolean)) (by decide) rfl ?_
  intro p e s m args below meth c s₁ B hml hv
  obtain ⟨hav, hsz, hP0, hD0, hK, hZ0⟩ := hv
  have hx := B.exec
  have hb := B.bytes
  have hr := B.returns
  have hts := atoms_spec (ws := wsX5_canAdd) B.pre
  have hown : s.vm.findClass RX5 = some m.cls := findClass_of_methodNamed B.named
  have hlocks := B.notSynchronized
  subst hav
  have hw : Hw D cy (AA cy S n) s.heap S n s.heap [] := Hw.start hsz hP0 hD0
  have hA : ∀ q, s.heap.size ≤ q → AA cy S n q := fun q h => Or.inr (hsz ▸ h)
  have hE : EX S S := EX.rf
  have F : CallFix p m c cX5_canAdd 5 s _ wsX5_canAdd RX5 := ⟨hx, hb, hml, hown, hts⟩
  have hB56 : ∀ (Sb : PS) (H1 : Heap) (lo1 : List Loc) (x4 : Int32) (ls : Array Slot), lv_has ls 5 [(4, .int x4)] → Hw D cy (AA cy S n) s.heap Sb n H1 lo1 → EX S Sb → f_X5_canAdd_B56 Sb x4 = some res → W p l e (headSpec wsX5_canAdd ({ frames := 3, cells := 0, slots := 0, locals := 70 } : Room)).room s m ([.ref y0, .int y1, .int y2, .int y3] : List Value).toArray below meth c H1 lo1 0 0 (MQ below (va_Qi (fun (r : Int32) (u : PS × Nat) => r = res.1 ∧ u = (res.2, n)) (BW D cy S n) (AA cy S n)) ([.ref y0, .int y1, .int y2, .int y3] : List Value).toArray s 0 0 (AA cy S n)) (F0 m 56 ls []) := by
    intro Sb H1 lo1 x4 ls hl hw hE hf
    unfold f_X5_canAdd_B56 at hf
    refine lv_iload hx hb dX5_canAdd_56 (lv_at hl 0 rfl) ?_
    obtain ⟨c21, hf⟩ := ckd_some hf
    exact W.zret (v := x4) hx hb hr (nz c21) (fun t ht hW => ⟨⟨_, (Sb, n), rfl, po2 hf, BW.of hw hE ht⟩, hw.2.2.1.F ht⟩) hw.2.2.1.2.2 dX5_canAdd_58
  have hB45 : ∀ (Sb : PS) (H1 : Heap) (lo1 : List Loc) (x0 : Nat) (s0 : Int32) (ls : Array Slot), lv_has ls 5 [(0, .ref x0)] → Hw D cy (AA cy S n) s.heap Sb n H1 lo1 → EX S Sb → vd Sb x0 5 → f_X5_canAdd_B45 Sb x0 s0 = some res → W p l e (headSpec wsX5_canAdd ({ frames := 3, cells := 0, slots := 0, locals := 70 } : Room)).room s m ([.ref y0, .int y1, .int y2, .int y3] : List Value).toArray below meth c H1 lo1 0 0 (MQ below (va_Qi (fun (r : Int32) (u : PS × Nat) => r = res.1 ∧ u = (res.2, n)) (BW D cy S n) (AA cy S n)) ([.ref y0, .int y1, .int y2, .int y3] : List Value).toArray s 0 0 (AA cy S n)) (F0 m 45 ls [.int s0]) := by
    intro Sb H1 lo1 x0 s0 ls hl hw hE v_x0 hf
    unfold f_X5_canAdd_B45 at hf
    refine lv_istore (lv' := [(4, .int s0), (0, .ref x0)]) hx hb dX5_canAdd_45 hl (by decide) rfl (fun ls hl => ?_)
    refine lv_iload hx hb dX5_canAdd_47 (lv_at hl 0 rfl) ?_
    refine lv_if_ne (tgt := 56) hx hb dX5_canAdd_49 (by decide) (fun c22 => ?_) (fun c22 => ?_)
    · have hf := it_f c22 hf
      exact hB56 Sb _ _ s0 _ (lv_sub hl [0] rfl) hw hE  hf
    · have hf := it_t c22 hf
      refine lv_aload_n hx hb dX5_canAdd_52 rfl (lv_at hl 1 rfl) ?_
      obtain ⟨t23, h24, hf⟩ := bd_some hf
      refine q_callv (va_runV (As := []) (rest := []) F (c_X5_clearNext l D cy (S := Sb) v_x0 h24) (cwV 0 hts gX5_canAdd_X5_clearNext rfl rfl rfl ⟨rfl, ph_X5_clearNext.1, ph_X5_clearNext.2, pd_X5_clearNext⟩ ⟨Nat.le_of_ble_eq_true rfl, Nat.le_of_ble_eq_true rfl⟩) ⟨PcW.bl, (q_rcv hK hw.1 v_x0.1 (pF_5 (S := Sb) v_x0.2) rfl), PcW.in hK hw hA (fun z => z.elim)⟩ rfl rfl hl.1 rfl (lv_room (Nat.le_of_ble_eq_true rfl)) dX5_canAdd_53 ⟨Nat.zero_le _, Nat.zero_le _⟩) hw hA (fun H locs hw hX => ?_)
      have hE := hE.tr hX
      have v_x0 := hX _ _ v_x0
      exact hB56 t23 _ _ s0 _ (lv_sub hl [0] rfl) hw hE  hf
  have hl := lv_entry ([.ref y0, .int y1, .int y2, .int y3]) (n := 5) (Nat.le_of_ble_eq_true rfl)
  rw [lg_entry_eq]
  generalize (lg_sl ([.ref y0, .int y1, .int y2, .int y3]) ++ List.replicate (5 - (lg_sl ([.ref y0, .int y1, .int y2, .int y3])).length) Slot.unset).toArray = ls at hl ⊢
  have hl : lv_has ls 5 [(0, .ref y0), (1, .int y1), (2, .int y2), (3, .int y3)] := hl
  unfold f_X5_canAdd at hf
  refine lv_aload_n hx hb dX5_canAdd_0 rfl (lv_at hl 0 rfl) ?_
  obtain ⟨b25, e26, v_b25, hf⟩ := rq_some hf
  refine q_get F hK hw.1 v_y0.1 (pF_5 (S := S) v_y0.2) (fun w h => List.mem_cons_of_mem _ (List.mem_append_right _ h)) rfl 1 (by decide) (hts (.fieldLink RX5 7 "SharedModuliModel" "z" "[I") (List.mem_of_getElem? (i := 1) rfl)) (v := .ref b25) (congrArg (fun z => some (va_rf z)) e26) dX5_canAdd_1 ?_
  refine lv_iconst (v := 0) hx hb dX5_canAdd_4 (by decide) ?_
  obtain ⟨c27, hf⟩ := ckd_some hf
  refine q_iald F hK hw.1 v_b25 c27 dX5_canAdd_5 ?_
  refine lv_bipush (v := 10) hx hb dX5_canAdd_6 (by decide) ?_
  refine lv_icmp_ne (tgt := 13) hx hb dX5_canAdd_8 (by decide) (fun c28 => ?_) (fun c28 => ?_)
  · have hf := it_f c28 hf
    refine lv_aload_n hx hb dX5_canAdd_13 rfl (lv_at hl 0 rfl) ?_
    refine lv_iload_n hx hb dX5_canAdd_14 rfl (lv_at hl 1 rfl) ?_
    refine lv_iload_n hx hb dX5_canAdd_15 rfl (lv_at hl 2 rfl) ?_
    refine lv_iload_n hx hb dX5_canAdd_16 rfl (lv_at hl 3 rfl) ?_
    obtain ⟨t29, h30, hf⟩ := bd_some hf
    refine q_callv (va_runV (As := [.int y1, .int y2, .int y3]) (rest := []) F (c_X5_layNext l D cy (S := S) v_y0 h30) (cwV 3 hts gX5_canAdd_X5_layNext rfl rfl rfl ⟨rfl, ph_X5_layNext.1, ph_X5_layNext.2, pd_X5_layNext⟩ ⟨Nat.le_of_ble_eq_true rfl, Nat.le_of_ble_eq_true rfl⟩) ⟨PcW.bl, (q_rcv hK hw.1 v_y0.1 (pF_5 (S := S) v_y0.2) rfl), PcW.in hK hw hA (fun z => z.elim)⟩ rfl rfl hl.1 rfl (lv_room (Nat.le_of_ble_eq_true rfl)) dX5_canAdd_17 ⟨Nat.zero_le _, Nat.zero_le _⟩) hw hA (fun H locs hw hX => ?_)
    have hE := hE.tr hX
    have v_y0 := hX _ _ v_y0
    have v_b25 := hX _ _ v_b25
    refine lv_aload_n hx hb dX5_canAdd_20 rfl (lv_at hl 0 rfl) ?_
    refine lv_aload_n hx hb dX5_canAdd_21 rfl (lv_at hl 0 rfl) ?_
    obtain ⟨t31, h32, hf⟩ := bd_some hf
    refine vp_callSi (va_runV (As := []) (rest := [.ref y0]) F (c_X5_onSet l D cy (H := _) hw.1 v_y0 h32) (cwV 0 hts gX5_canAdd_X5_onSet rfl rfl rfl ⟨rfl, ph_X5_onSet.1, ph_X5_onSet.2, pd_X5_onSet⟩ ⟨Nat.le_of_ble_eq_true rfl, Nat.le_of_ble_eq_true rfl⟩) ⟨PcR.bl, (q_rcv hK hw.1 v_y0.1 (pF_5 (S := t29) v_y0.2) rfl), PcR.in hK⟩ rfl rfl hl.1 rfl (lv_room (Nat.le_of_ble_eq_true rfl)) dX5_canAdd_22 ⟨Nat.zero_le _, Nat.zero_le _⟩).run (fun r33 er33 => ?_)
    subst r33
    refine lv_iconst (v := 1) hx hb dX5_canAdd_25 (by decide) ?_
    refine lv_aload_n hx hb dX5_canAdd_26 rfl (lv_at hl 0 rfl) ?_
    obtain ⟨b34, e35, v_b34, hf⟩ := rq_some hf
    refine q_get F hK hw.1 v_y0.1 (pF_5 (S := t29) v_y0.2) (fun w h => List.mem_cons_of_mem _ (List.mem_append_right _ h)) rfl 1 (by decide) (hts (.fieldLink RX5 7 "SharedModuliModel" "z" "[I") (List.mem_of_getElem? (i := 1) rfl)) (v := .ref b34) (congrArg (fun z => some (va_rf z)) e35) dX5_canAdd_27 ?_
    refine lv_iconst (v := 0) hx hb dX5_canAdd_30 (by decide) ?_
    obtain ⟨c36, hf⟩ := ckd_some hf
    refine q_iald F hK hw.1 v_b34 c36 dX5_canAdd_31 ?_
    refine lv_ishl hx hb dX5_canAdd_32 ?_
    refine lv_ior hx hb dX5_canAdd_33 ?_
    obtain ⟨t37, h38, hf⟩ := bd_some hf
    refine vp_callSi (va_runV (As := [.int (t31 ||| ((1 : Int32) <<< ((aI t29 b34 (0 : Int32).toNatClampNeg) &&& 31)))]) (rest := []) F (c_X5_isTooGreat l D cy (H := _) hw.1 v_y0 h38) (cwV 1 hts gX5_canAdd_X5_isTooGreat rfl rfl rfl ⟨rfl, ph_X5_isTooGreat.1, ph_X5_isTooGreat.2, pd_X5_isTooGreat⟩ ⟨Nat.le_of_ble_eq_true rfl, Nat.le_of_ble_eq_true rfl⟩) ⟨PcR.bl, (q_rcv hK hw.1 v_y0.1 (pF_5 (S := t29) v_y0.2) rfl), PcR.in hK⟩ rfl rfl hl.1 rfl (lv_room (Nat.le_of_ble_eq_true rfl)) dX5_canAdd_34 ⟨Nat.zero_le _, Nat.zero_le _⟩).run (fun r39 er39 => ?_)
    subst r39
    refine lv_if_ne (tgt := 44) hx hb dX5_canAdd_37 (by decide) (fun c40 => ?_) (fun c40 => ?_)
    · have hf := it_f c40 hf
      refine lv_iconst (v := 0) hx hb dX5_canAdd_44 (by decide) ?_
      exact hB45 t29 _ _ y0 0 _ (lv_sub hl [0] rfl) hw hE v_y0 hf
    · have hf := it_t c40 hf
      refine lv_iconst (v := 1) hx hb dX5_canAdd_40 (by decide) ?_
      refine lv_goto (tgt := 45) hx hb dX5_canAdd_41 (by decide) ?_
      exact hB45 t29 _ _ y0 1 _ (lv_sub hl [0] rfl) hw hE v_y0 hf
  · have hf := it_t c28 hf
    refine lv_iconst (v := 0) hx hb dX5_canAdd_11 (by decide) ?_
    exact W.zret (v := 0) hx hb hr rfl (fun t ht hW => ⟨⟨_, (S, n), rfl, po2 hf, BW.of hw hE ht⟩, hw.2.2.1.F ht⟩) hw.2.2.1.2.2 dX5_canAdd_12
def f_X5_add_B50 (S : PS) (x0 : Nat) (x1 : Int32) (x2 : Int32) (x3 : Int32) (s0 : Nat) (s1 : Int32) : Option (Int32 × PS) :=
  if (fI (sI S 80 s0 s1) 80 x0) ≤ 0 then (bd (f_X5_clearNext (sI S 80 s0 s1) x0) fun t2 =>
  bd (f_X5_save t2 x0) fun t4 =>
  bd (f_X5_layNext t4 x0 x1 x2 x3) fun t6 =>
  rq (fR t6 81 x0) t6 6 fun b8 =>
  ck (decide (¬ ((0 : Int32) < 0 ∨ aN t6 b8 ≤ (0 : Int32).toNatClampNeg))) (
  ck (decide (¬ ((0 : Int32) < 0 ∨ aN t6 b8 ≤ (0 : Int32).toNatClampNeg))) (
  rq (fR (sA t6 b8 0 ((aI t6 b8 (0 : Int32).toNatClampNeg) + (1 : Int32))) 81 x0) (sA t6 b8 0 ((aI t6 b8 (0 : Int32).toNatClampNeg) + (1 : Int32))) 6 fun b12 =>
  ck (decide (¬ ((0 : Int32) < 0 ∨ aN (sA t6 b8 0 ((aI t6 b8 (0 : Int32).toNatClampNeg) + (1 : Int32))) b12 ≤ (0 : Int32).toNatClampNeg))) (
  some (((aI (sA t6 b8 0 ((aI t6 b8 (0 : Int32).toNatClampNeg) + (1 : Int32))) b12 (0 : Int32).toNatClampNeg) - (1 : Int32)), sA t6 b8 0 ((aI t6 b8 (0 : Int32).toNatClampNeg) + (1 : Int32))))))) else
  some (0, sI S 80 s0 s1)
def f_X5_add_B28 (S : PS) (x0 : Nat) (x1 : Int32) (x2 : Int32) (x3 : Int32) (x4 : Int32) (s0 : Int32) : Option (Int32 × PS) :=
  if x4 = 0 then (f_X5_add_B50 S x0 x1 x2 x3 x0 1) else
  if s0 = 0 then (f_X5_add_B50 S x0 x1 x2 x3 x0 2) else
  f_X5_add_B50 S x0 x1 x2 x3 x0 0
def f_X5_add_B27 (S : PS) (x0 : Nat) (x1 : Int32) (x2 : Int32) (x3 : Int32) (x4 : Int32) : Option (Int32 × PS) :=
  f_X5_add_B28 S x0 x1 x2 x3 x4 0
def f_X5_add (S : PS) (x0 : Nat) (x1 : Int32) (x2 : Int32) (x3 : Int32) : Option (Int32 × PS) :=
  bd (f_X5_areGood x1 x2 x3) fun t17 =>
  if t17 = 0 then (f_X5_add_B27 S x0 x1 x2 x3 t17) else
  bd (f_X5_canAdd S x0 x1 x2 x3) fun t21 =>
  if t21.1 = 0 then (f_X5_add_B27 t21.2 x0 x1 x2 x3 t17) else
  f_X5_add_B28 t21.2 x0 x1 x2 x3 t17 1
set_option maxHeartbeats 4000000 in
set_option maxRecDepth 100000 in
theorem c_X5_add (l : Launch) (D : va_G) (cy : cyT) {S : PS} {n : Nat} {y0 : Nat} {y1 : Int32} {y2 : Int32} {y3 : Int32} (v_y0 : vd S y0 5) {res : Int32 × PS} (hf : f_X5_add S y0 y1 y2 y3 = some res) : Met l yX5_add wsX5_add ({ frames := 4, cells := 0, slots := 0, locals := 94 } : Room) (PcW False D cy S n [.ref y0, .int y1, .int y2, .int y3]) (va_Qi (fun (r : Int32) (u : PS × Nat) => r = res.1 ∧ u = (res.2, n)) (BW D cy S n) (AA cy S n)) 0 0 (AA cy S n) := by
  refine Met.ofW (cc := cX5_add) (maxL := 6) (ret := (some .int)) (by decide) rfl ?_
  intro p e s m args below meth c s₁ B hml hv
  obtain ⟨hav, hsz, hP0, hD0, hK, hZ0⟩ := hv
  have hx := B.exec
  have hb := B.bytes
  have hr := B.returns
  have hts := atoms_spec (ws := wsX5_add) B.pre
  have hown : s.vm.findClass RX5 = some m.cls := findClass_of_methodNamed B.named
  have hlocks := B.notSynchronized
  subst hav
  have hw : Hw D cy (AA cy S n) s.heap S n s.heap [] := Hw.start hsz hP0 hD0
  have hA : ∀ q, s.heap.size ≤ q → AA cy S n q := fun q h => Or.inr (hsz ▸ h)
  have hE : EX S S := EX.rf
  have F : CallFix p m c cX5_add 6 s _ wsX5_add RX5 := ⟨hx, hb, hml, hown, hts⟩
  have hB50 : ∀ (Sb : PS) (H1 : Heap) (lo1 : List Loc) (x0 : Nat) (x1 : Int32) (x2 : Int32) (x3 : Int32) (s0 : Nat) (s1 : Int32) (ls : Array Slot), lv_has ls 6 [(0, .ref x0), (1, .int x1), (2, .int x2), (3, .int x3)] → Hw D cy (AA cy S n) s.heap Sb n H1 lo1 → EX S Sb → vd Sb x0 5 → vd Sb s0 5 → f_X5_add_B50 Sb x0 x1 x2 x3 s0 s1 = some res → W p l e (headSpec wsX5_add ({ frames := 4, cells := 0, slots := 0, locals := 94 } : Room)).room s m ([.ref y0, .int y1, .int y2, .int y3] : List Value).toArray below meth c H1 lo1 0 0 (MQ below (va_Qi (fun (r : Int32) (u : PS × Nat) => r = res.1 ∧ u = (res.2, n)) (BW D cy S n) (AA cy S n)) ([.ref y0, .int y1, .int y2, .int y3] : List Value).toArray s 0 0 (AA cy S n)) (F0 m 50 ls [.int s1, .ref s0]) := by
    intro Sb H1 lo1 x0 x1 x2 x3 s0 s1 ls hl hw hE v_x0 v_s0 hf
    unfold f_X5_add_B50 at hf
    refine q_put F hK hw v_s0.1 (pF_5 (S := Sb) v_s0.2) (fun w h => List.mem_cons_of_mem _ (List.mem_append_right _ h)) tyX5 tyX5_ok nmX5 rfl 0 (by decide) (hts (.fieldLink RX5 22 "SharedModuliModel" "thrown" "I") (List.mem_of_getElem? (i := 1) rfl)) (Or.inl rfl) (tyX5_ok 0 (by decide)) rfl rfl (Nat.le_of_ble_eq_true rfl) (S1 := sI Sb 80 s0 s1) (st_80 (S := Sb) v_s0.2 s1) dX5_add_50 (fun H locs hw => ?_)
    refine lv_aload_n hx hb dX5_add_53 rfl (lv_at hl 0 rfl) ?_
    refine q_get F hK hw.1 v_x0.1 (pF_5 (S := sI Sb 80 s0 s1) v_x0.2) (fun w h => List.mem_cons_of_mem _ (List.mem_append_right _ h)) rfl 0 (by decide) (hts (.fieldLink RX5 22 "SharedModuliModel" "thrown" "I") (List.mem_of_getElem? (i := 1) rfl)) (v := .int (fI (sI Sb 80 s0 s1) 80 x0)) rfl dX5_add_54 ?_
    refine lv_if_le (tgt := 62) hx hb dX5_add_57 (by decide) (fun c24 => ?_) (fun c24 => ?_)
    · have hf := it_t c24 hf
      refine lv_aload_n hx hb dX5_add_62 rfl (lv_at hl 0 rfl) ?_
      obtain ⟨t25, h26, hf⟩ := bd_some hf
      refine q_callv (va_runV (As := []) (rest := []) F (c_X5_clearNext l D cy (S := sI Sb 80 s0 s1) v_x0 h26) (cwV 0 hts gX5_add_X5_clearNext rfl rfl rfl ⟨rfl, ph_X5_clearNext.1, ph_X5_clearNext.2, pd_X5_clearNext⟩ ⟨Nat.le_of_ble_eq_true rfl, Nat.le_of_ble_eq_true rfl⟩) ⟨PcW.bl, (q_rcv hK hw.1 v_x0.1 (pF_5 (S := sI Sb 80 s0 s1) v_x0.2) rfl), PcW.in hK hw hA (fun z => z.elim)⟩ rfl rfl hl.1 rfl (lv_room (Nat.le_of_ble_eq_true rfl)) dX5_add_63 ⟨Nat.zero_le _, Nat.zero_le _⟩) hw hA (fun H locs hw hX => ?_)
      have hE := hE.tr hX
      have v_x0 := hX _ _ v_x0
      have v_s0 := hX _ _ v_s0
      refine lv_aload_n hx hb dX5_add_66 rfl (lv_at hl 0 rfl) ?_
      obtain ⟨t27, h28, hf⟩ := bd_some hf
      refine q_callv (va_runV (As := []) (rest := []) F (c_X5_save l D cy (S := t25) v_x0 h28) (cwV 0 hts gX5_add_X5_save rfl rfl rfl ⟨rfl, ph_X5_save.1, ph_X5_save.2, pd_X5_save⟩ ⟨Nat.le_of_ble_eq_true rfl, Nat.le_of_ble_eq_true rfl⟩) ⟨PcW.bl, (q_rcv hK hw.1 v_x0.1 (pF_5 (S := t25) v_x0.2) rfl), PcW.in hK hw hA (fun z => z.elim)⟩ rfl rfl hl.1 rfl (lv_room (Nat.le_of_ble_eq_true rfl)) dX5_add_67 ⟨Nat.zero_le _, Nat.zero_le _⟩) hw hA (fun H locs hw hX => ?_)
      have hE := hE.tr hX
      have v_x0 := hX _ _ v_x0
      have v_s0 := hX _ _ v_s0
      refine lv_aload_n hx hb dX5_add_70 rfl (lv_at hl 0 rfl) ?_
      refine lv_iload_n hx hb dX5_add_71 rfl (lv_at hl 1 rfl) ?_
      refine lv_iload_n hx hb dX5_add_72 rfl (lv_at hl 2 rfl) ?_
      refine lv_iload_n hx hb dX5_add_73 rfl (lv_at hl 3 rfl) ?_
      obtain ⟨t29, h30, hf⟩ := bd_some hf
      refine q_callv (va_runV (As := [.int x1, .int x2, .int x3]) (rest := []) F (c_X5_layNext l D cy (S := t27) v_x0 h30) (cwV 3 hts gX5_add_X5_layNext rfl rfl rfl ⟨rfl, ph_X5_layNext.1, ph_X5_layNext.2, pd_X5_layNext⟩ ⟨Nat.le_of_ble_eq_true rfl, Nat.le_of_ble_eq_true rfl⟩) ⟨PcW.bl, (q_rcv hK hw.1 v_x0.1 (pF_5 (S := t27) v_x0.2) rfl), PcW.in hK hw hA (fun z => z.elim)⟩ rfl rfl hl.1 rfl (lv_room (Nat.le_of_ble_eq_true rfl)) dX5_add_74 ⟨Nat.zero_le _, Nat.zero_le _⟩) hw hA (fun H locs hw hX => ?_)
      have hE := hE.tr hX
      have v_x0 := hX _ _ v_x0
      have v_s0 := hX _ _ v_s0
      refine lv_aload_n hx hb dX5_add_77 rfl (lv_at hl 0 rfl) ?_
      obtain ⟨b31, e32, v_b31, hf⟩ := rq_some hf
      refine q_get F hK hw.1 v_x0.1 (pF_5 (S := t29) v_x0.2) (fun w h => List.mem_cons_of_mem _ (List.mem_append_right _ h)) rfl 1 (by decide) (hts (.fieldLink RX5 7 "SharedModuliModel" "z" "[I") (List.mem_of_getElem? (i := 2) rfl)) (v := .ref b31) (congrArg (fun z => some (va_rf z)) e32) dX5_add_78 ?_
      refine lv_iconst (v := 0) hx hb dX5_add_81 (by decide) ?_
      refine lv_dup2_11 hx hb dX5_add_82 rfl rfl ?_
      obtain ⟨c33, hf⟩ := ckd_some hf
      refine q_iald F hK hw.1 v_b31 c33 dX5_add_83 ?_
      refine lv_iconst (v := 1) hx hb dX5_add_84 (by decide) ?_
      refine lv_iadd hx hb dX5_add_85 ?_
      obtain ⟨c34, hf⟩ := ckd_some hf
      refine q_iast F hK hw v_b31 c34 dX5_add_86 (fun H locs hw => ?_)
      refine lv_aload_n hx hb dX5_add_87 rfl (lv_at hl 0 rfl) ?_
      obtain ⟨b35, e36, v_b35, hf⟩ := rq_some hf
      refine q_get F hK hw.1 v_x0.1 (pF_5 (S := sA t29 b31 0 ((aI t29 b31 (0 : Int32).toNatClampNeg) + (1 : Int32))) v_x0.2) (fun w h => List.mem_cons_of_mem _ (List.mem_append_right _ h)) rfl 1 (by decide) (hts (.fieldLink RX5 7 "SharedModuliModel" "z" "[I") (List.mem_of_getElem? (i := 2) rfl)) (v := .ref b35) (congrArg (fun z => some (va_rf z)) e36) dX5_add_88 ?_
      refine lv_iconst (v := 0) hx hb dX5_add_91 (by decide) ?_
      obtain ⟨c37, hf⟩ := ckd_some hf
      refine q_iald F hK hw.1 v_b35 c37 dX5_add_92 ?_
      refine lv_iconst (v := 1) hx hb dX5_add_93 (by decide) ?_
      refine lv_isub hx hb dX5_add_94 ?_
      exact W.iret (v := ((aI (sA t29 b31 0 ((aI t29 b31 (0 : Int32).toNatClampNeg) + (1 : Int32))) b35 (0 : Int32).toNatClampNeg) - (1 : Int32))) hx hb hr (fun t ht hW => ⟨⟨_, (sA t29 b31 0 ((aI t29 b31 (0 : Int32).toNatClampNeg) + (1 : Int32)), n), rfl, po2 hf, BW.of hw hE ht⟩, hw.2.2.1.F ht⟩) hw.2.2.1.2.2 dX5_add_95
    · have hf := it_f c24 hf
      refine lv_iconst (v := 0) hx hb dX5_add_60 (by decide) ?_
      exact W.iret (v := 0) hx hb hr (fun t ht hW => ⟨⟨_, (sI Sb 80 s0 s1, n), rfl, po2 hf, BW.of hw hE ht⟩, hw.2.2.1.F ht⟩) hw.2.2.1.2.2 dX5_add_61
  have hB28 : ∀ (Sb : PS) (H1 : Heap) (lo1 : List Loc) (x0 : Nat) (x1 : Int32) (x2 : Int32) (x3 : Int32) (x4 : Int32) (s0 : Int32) (ls : Array Slot), lv_has ls 6 [(0, .ref x0), (1, .int x1), (2, .int x2), (3, .int x3), (4, .int x4)] → Hw D cy (AA cy S n) s.heap Sb n H1 lo1 → EX S Sb → vd Sb x0 5 → f_X5_add_B28 Sb x0 x1 x2 x3 x4 s0 = some res → W p l e (headSpec wsX5_add ({ frames := 4, cells := 0, slots := 0, locals := 94 } : Room)).room s m ([.ref y0, .int y1, .int y2, .int y3] : List Value).toArray below meth c H1 lo1 0 0 (MQ below (va_Qi (fun (r : Int32) (u : PS × Nat) => r = res.1 ∧ u = (res.2, n)) (BW D cy S n) (AA cy S n)) ([.ref y0, .int y1, .int y2, .int y3] : List Value).toArray s 0 0 (AA cy S n)) (F0 m 28 ls [.int s0]) := by
    intro Sb H1 lo1 x0 x1 x2 x3 x4 s0 ls hl hw hE v_x0 hf
    unfold f_X5_add_B28 at hf
    refine lv_istore (lv' := [(5, .int s0), (0, .ref x0), (1, .int x1), (2, .int x2), (3, .int x3), (4, .int x4)]) hx hb dX5_add_28 hl (by decide) rfl (fun ls hl => ?_)
    refine lv_aload_n hx hb dX5_add_30 rfl (lv_at hl 1 rfl) ?_
    refine lv_iload hx hb dX5_add_31 (lv_at hl 5 rfl) ?_
    refine lv_if_ne (tgt := 40) hx hb dX5_add_33 (by decide) (fun c38 => ?_) (fun c38 => ?_)
    · have hf := it_f c38 hf
      refine lv_iload hx hb dX5_add_40 (lv_at hl 0 rfl) ?_
      refine lv_if_eq (tgt := 49) hx hb dX5_add_42 (by decide) (fun c39 => ?_) (fun c39 => ?_)
      · have hf := it_t c39 hf
        refine lv_iconst (v := 2) hx hb dX5_add_49 (by decide) ?_
        exact hB50 Sb _ _ x0 x1 x2 x3 x0 2 _ (lv_sub hl [1, 2, 3, 4] rfl) hw hE v_x0 v_x0 hf
      · have hf := it_f c39 hf
        refine lv_iconst (v := 0) hx hb dX5_add_45 (by decide) ?_
        refine lv_goto (tgt := 50) hx hb dX5_add_46 (by decide) ?_
        exact hB50 Sb _ _ x0 x1 x2 x3 x0 0 _ (lv_sub hl [1, 2, 3, 4] rfl) hw hE v_x0 v_x0 hf
    · have hf := it_t c38 hf
      refine lv_iconst (v := 1) hx hb dX5_add_36 (by decide) ?_
      refine lv_goto (tgt := 50) hx hb dX5_add_37 (by decide) ?_
      exact hB50 Sb _ _ x0 x1 x2 x3 x0 1 _ (lv_sub hl [1, 2, 3, 4] rfl) hw hE v_x0 v_x0 hf
  have hB27 : ∀ (Sb : PS) (H1 : Heap) (lo1 : List Loc) (x0 : Nat) (x1 : Int32) (x2 : Int32) (x3 : Int32) (x4 : Int32) (ls : Array Slot), lv_has ls 6 [(0, .ref x0), (1, .int x1), (2, .int x2), (3, .int x3), (4, .int x4)] → Hw D cy (AA cy S n) s.heap Sb n H1 lo1 → EX S Sb → vd Sb x0 5 → f_X5_add_B27 Sb x0 x1 x2 x3 x4 = some res → W p l e (headSpec wsX5_add ({ frames := 4, cells := 0, slots := 0, locals := 94 } : Room)).room s m ([.ref y0, .int y1, .int y2, .int y3] : List Value).toArray below meth c H1 lo1 0 0 (MQ below (va_Qi (fun (r : Int32) (u : PS × Nat) => r = res.1 ∧ u = (res.2, n)) (BW D cy S n) (AA cy S n)) ([.ref y0, .int y1, .int y2, .int y3] : List Value).toArray s 0 0 (AA cy S n)) (F0 m 27 ls []) := by
    intro Sb H1 lo1 x0 x1 x2 x3 x4 ls hl hw hE v_x0 hf
    unfold f_X5_add_B27 at hf
    refine lv_iconst (v := 0) hx hb dX5_add_27 (by decide) ?_
    exact hB28 Sb _ _ x0 x1 x2 x3 x4 0 _ (lv_sub hl [0, 1, 2, 3, 4] rfl) hw hE v_x0 hf
  have hl := lv_entry ([.ref y0, .int y1, .int y2, .int y3]) (n := 6) (Nat.le_of_ble_eq_true rfl)
  rw [lg_entry_eq]
  generalize (lg_sl ([.ref y0, .int y1, .int y2, .int y3]) ++ List.replicate (6 - (lg_sl ([.ref y0, .int y1, .int y2, .int y3])).length) Slot.unset).toArray = ls at hl ⊢
  have hl : lv_has ls 6 [(0, .ref y0), (1, .int y1), (2, .int y2), (3, .int y3)] := hl
  unfold f_X5_add at hf
  refine lv_iload_n hx hb dX5_add_0 rfl (lv_at hl 1 rfl) ?_
  refine lv_iload_n hx hb dX5_add_1 rfl (lv_at hl 2 rfl) ?_
  refine lv_iload_n hx hb dX5_add_2 rfl (lv_at hl 3 rfl) ?_
  obtain ⟨t40, h41, hf⟩ := bd_some hf
  refine vp_callSi (va_runS (As := [.int y1, .int y2, .int y3]) (rest := []) F (c_X5_areGood l D cy (H := _)  h41) (va_cwS 3 hts gX5_add_X5_areGood rfl rfl rfl ⟨ph_X5_areGood.1, ph_X5_areGood.2, pd_X5_areGood⟩ ⟨Nat.le_of_ble_eq_true rfl, Nat.le_of_ble_eq_true rfl⟩) ⟨PcR.bl, PcR.in hK⟩ rfl rfl hl.1 rfl (lv_room (Nat.le_of_ble_eq_true rfl)) dX5_add_3 ⟨Nat.zero_le _, Nat.zero_le _⟩).run (fun r42 er42 => ?_)
  subst r42
  refine lv_istore (lv' := [(4, .int t40), (0, .ref y0), (1, .int y1), (2, .int y2), (3, .int y3)]) hx hb dX5_add_6 hl (by decide) rfl (fun ls hl => ?_)
  refine lv_iload hx hb dX5_add_8 (lv_at hl 0 rfl) ?_
  refine lv_if_eq (tgt := 27) hx hb dX5_add_10 (by decide) (fun c43 => ?_) (fun c43 => ?_)
  · have hf := it_t c43 hf
    exact hB27 S _ _ y0 y1 y2 y3 t40 _ (lv_sub hl [1, 2, 3, 4, 0] rfl) hw hE v_y0 hf
  · have hf := it_f c43 hf
    refine lv_aload_n hx hb dX5_add_13 rfl (lv_at hl 1 rfl) ?_
    refine lv_iload_n hx hb dX5_add_14 rfl (lv_at hl 2 rfl) ?_
    refine lv_iload_n hx hb dX5_add_15 rfl (lv_at hl 3 rfl) ?_
    refine lv_iload_n hx hb dX5_add_16 rfl (lv_at hl 4 rfl) ?_
    obtain ⟨t44, h45, hf⟩ := bd_some hf
    refine q_calli (va_runV (As := [.int y1, .int y2, .int y3]) (rest := []) F (c_X5_canAdd l D cy (S := S) v_y0 h45) (cwV 3 hts gX5_add_X5_canAdd rfl rfl rfl ⟨rfl, ph_X5_canAdd.1, ph_X5_canAdd.2, pd_X5_canAdd⟩ ⟨Nat.le_of_ble_eq_true rfl, Nat.le_of_ble_eq_true rfl⟩) ⟨PcW.bl, (q_rcv hK hw.1 v_y0.1 (pF_5 (S := S) v_y0.2) rfl), PcW.in hK hw hA (fun z => z.elim)⟩ rfl rfl hl.1 rfl (lv_room (Nat.le_of_ble_eq_true rfl)) dX5_add_17 ⟨Nat.zero_le _, Nat.zero_le _⟩) hw hA (fun H locs hw hX => ?_)
    have hE := hE.tr hX
    have v_y0 := hX _ _ v_y0
    refine lv_if_eq (tgt := 27) hx hb dX5_add_20 (by decide) (fun c46 => ?_) (fun c46 => ?_)
    · have hf := it_t c46 hf
      exact hB27 t44.2 _ _ y0 y1 y2 y3 t40 _ (lv_sub hl [1, 2, 3, 4, 0] rfl) hw hE v_y0 hf
    · have hf := it_f c46 hf
      refine lv_iconst (v := 1) hx hb dX5_add_23 (by decide) ?_
      refine lv_goto (tgt := 28) hx hb dX5_add_24 (by decide) ?_
      exact hB28 t44.2 _ _ y0 y1 y2 y3 t40 1 _ (lv_sub hl [1, 2, 3, 4, 0] rfl) hw hE v_y0 hf
def f_X5_remove_B80 (S : PS) (x0 : Nat) : Option (Int32 × PS) :=
  bd (f_X5_clearNext S x0) fun t1 =>
  rq (fR t1 81 x0) t1 6 fun b3 =>
  ck (decide (¬ ((0 : Int32) < 0 ∨ aN t1 b3 ≤ (0 : Int32).toNatClampNeg))) (
  some ((aI t1 b3 (0 : Int32).toNatClampNeg), t1))
def f_X5_remove_L46s (kL46 : PS → Nat → Int32 → Option (Int32 × PS)) (ke80 : PS → Nat → Option (Int32 × PS)) (S : PS) (x0 : Nat) (x2 : Int32) : Option (Int32 × PS) :=
  rq (fR S 81 x0) S 6 fun b6 =>
  ck (decide (¬ ((0 : Int32) < 0 ∨ aN S b6 ≤ (0 : Int32).toNatClampNeg))) (
  if ((1 : Int32) + ((4 : Int32) * (aI S b6 (0 : Int32).toNatClampNeg))) ≤ x2 then (ke80 S x0) else
  rq (fR S 81 x0) S 6 fun b10 =>
  rq (fR S 81 x0) S 6 fun b12 =>
  ck (decide (¬ ((x2 + (4 : Int32)) < 0 ∨ aN S b12 ≤ (x2 + (4 : Int32)).toNatClampNeg))) (
  ck (decide (¬ (x2 < 0 ∨ aN S b10 ≤ x2.toNatClampNeg))) (
  kL46 (sA S b10 x2 (aI S b12 (x2 + (4 : Int32)).toNatClampNeg)) x0 (x2 + 1))))
def f_X5_remove_L46 (ke80 : PS → Nat → Option (Int32 × PS)) (fu : Nat) : PS → Nat → Int32 → Option (Int32 × PS) := fx (fun kL => f_X5_remove_L46s kL ke80) (fun _ _ _ => none) fu
def f_X5_remove_B14 (S : PS) (x0 : Nat) (x1 : Int32) (s0 : Nat) (s1 : Int32) : Option (Int32 × PS) :=
  if (fI (sI S 80 s0 s1) 80 x0) ≤ 0 then (bd (f_X5_save (sI S 80 s0 s1) x0) fun t17 =>
  rq (fR t17 81 x0) t17 6 fun b19 =>
  ck (decide (¬ ((0 : Int32) < 0 ∨ aN t17 b19 ≤ (0 : Int32).toNatClampNeg))) (
  ck (decide (¬ ((0 : Int32) < 0 ∨ aN t17 b19 ≤ (0 : Int32).toNatClampNeg))) (
  f_X5_remove_L46 f_X5_remove_B80 FU (sA t17 b19 0 ((aI t17 b19 (0 : Int32).toNatClampNeg) - (1 : Int32))) x0 ((1 : Int32) + ((4 : Int32) * x1))))) else
  some (0, sI S 80 s0 s1)
def f_X5_remove (S : PS) (x0 : Nat) (x1 : Int32) : Option (Int32 × PS) :=
  bd (f_X5_isThere S x0 x1) fun t23 =>
  if t23 = 0 then (f_X5_remove_B14 S x0 x1 x0 1) else
  f_X5_remove_B14 S x0 x1 x0 0
set_option maxHeartbeats 4000000 in
set_option maxRecDepth 100000 in
theorem c_X5_remove (l : Launch) (D : va_G) (cy : cyT) {S : PS} {n : Nat} {y0 : Nat} {y1 : Int32} (v_y0 : vd S y0 5) {res : Int32 × PS} (hf : f_X5_remove S y0 y1 = some res) : Met l yX5_remove wsX5_remove ({ frames := 1, cells := 0, slots := 0, locals := 21 } : Room) (PcW False D cy S n [.ref y0, .int y1]) (va_Qi (fun (r : Int32) (u : PS × Nat) => r = res.1 ∧ u = (res.2, n)) (BW D cy S n) (AA cy S n)) 0 0 (AA cy S n) := by
  refine Met.ofW (cc := cX5_remove) (maxL := 3) (ret := (some .int)) (by decide) rfl ?_
  intro p e s m args below meth c s₁ B hml hv
  obtain ⟨hav, hsz, hP0, hD0, hK, hZ0⟩ := hv
  have hx := B.exec
  have hb := B.bytes
  have hr := B.returns
  have hts := atoms_spec (ws := wsX5_remove) B.pre
  have hown : s.vm.findClass RX5 = some m.cls := findClass_of_methodNamed B.named
  have hlocks := B.notSynchronized
  subst hav
  have hw : Hw D cy (AA cy S n) s.heap S n s.heap [] := Hw.start hsz hP0 hD0
  have hA : ∀ q, s.heap.size ≤ q → AA cy S n q := fun q h => Or.inr (hsz ▸ h)
  have hE : EX S S := EX.rf
  have F : CallFix p m c cX5_remove 3 s _ wsX5_remove RX5 := ⟨hx, hb, hml, hown, hts⟩
  have hB80 : ∀ (Sb : PS) (H1 : Heap) (lo1 : List Loc) (x0 : Nat) (ls : Array Slot), lv_has ls 3 [(0, .ref x0)] → Hw D cy (AA cy S n) s.heap Sb n H1 lo1 → EX S Sb → vd Sb x0 5 → f_X5_remove_B80 Sb x0 = some res → W p l e (headSpec wsX5_remove ({ frames := 1, cells := 0, slots := 0, locals := 21 } : Room)).room s m ([.ref y0, .int y1] : List Value).toArray below meth c H1 lo1 0 0 (MQ below (va_Qi (fun (r : Int32) (u : PS × Nat) => r = res.1 ∧ u = (res.2, n)) (BW D cy S n) (AA cy S n)) ([.ref y0, .int y1] : List Value).toArray s 0 0 (AA cy S n)) (F0 m 80 ls []) := by
    intro Sb H1 lo1 x0 ls hl hw hE v_x0 hf
    unfold f_X5_remove_B80 at hf
    refine lv_aload_n hx hb dX5_remove_80 rfl (lv_at hl 0 rfl) ?_
    obtain ⟨t27, h28, hf⟩ := bd_some hf
    refine q_callv (va_runV (As := []) (rest := []) F (c_X5_clearNext l D cy (S := Sb) v_x0 h28) (cwV 0 hts gX5_remove_X5_clearNext rfl rfl rfl ⟨rfl, ph_X5_clearNext.1, ph_X5_clearNext.2, pd_X5_clearNext⟩ ⟨Nat.le_of_ble_eq_true rfl, Nat.le_of_ble_eq_true rfl⟩) ⟨PcW.bl, (q_rcv hK hw.1 v_x0.1 (pF_5 (S := Sb) v_x0.2) rfl), PcW.in hK hw hA (fun z => z.elim)⟩ rfl rfl hl.1 rfl (lv_room (Nat.le_of_ble_eq_true rfl)) dX5_remove_81 ⟨Nat.zero_le _, Nat.zero_le _⟩) hw hA (fun H locs hw hX => ?_)
    have hE := hE.tr hX
    have v_x0 := hX _ _ v_x0
    refine lv_aload_n hx hb dX5_remove_84 rfl (lv_at hl 0 rfl) ?_
    obtain ⟨b29, e30, v_b29, hf⟩ := rq_some hf
    refine q_get F hK hw.1 v_x0.1 (pF_5 (S := t27) v_x0.2) (fun w h => List.mem_cons_of_mem _ (List.mem_append_right _ h)) rfl 1 (by decide) (hts (.fieldLink RX5 7 "SharedModuliModel" "z" "[I") (List.mem_of_getElem? (i := 2) rfl)) (v := .ref b29) (congrArg (fun z => some (va_rf z)) e30) dX5_remove_85 ?_
    refine lv_iconst (v := 0) hx hb dX5_remove_88 (by decide) ?_
    obtain ⟨c31, hf⟩ := ckd_some hf
    refine q_iald F hK hw.1 v_b29 c31 dX5_remove_89 ?_
    exact W.iret (v := (aI t27 b29 (0 : Int32).toNatClampNeg)) hx hb hr (fun t ht hW => ⟨⟨_, (t27, n), rfl, po2 hf, BW.of hw hE ht⟩, hw.2.2.1.F ht⟩) hw.2.2.1.2.2 dX5_remove_90
  have hL46 : ∀ (fu46 : Nat), ∀ (Sb : PS) (H1 : Heap) (lo1 : List Loc) (x0 : Nat) (x2 : Int32) (ls : Array Slot), lv_has ls 3 [(0, .ref x0), (2, .int x2)] → Hw D cy (AA cy S n) s.heap Sb n H1 lo1 → EX S Sb → vd Sb x0 5 → f_X5_remove_L46 f_X5_remove_B80 fu46 Sb x0 x2 = some res → W p l e (headSpec wsX5_remove ({ frames := 1, cells := 0, slots := 0, locals := 21 } : Room)).room s m ([.ref y0, .int y1] : List Value).toArray below meth c H1 lo1 0 0 (MQ below (va_Qi (fun (r : Int32) (u : PS × Nat) => r = res.1 ∧ u = (res.2, n)) (BW D cy S n) (AA cy S n)) ([.ref y0, .int y1] : List Value).toArray s 0 0 (AA cy S n)) (F0 m 46 ls []) := by
    intro fu46
    induction fu46 with
    | zero =>
      intro Sb H1 lo1 x0 x2 ls hl hw hE v_x0 hf
      have hf : (none : Option (Int32 × PS)) = some res := hf
      cases hf
    | succ fu46 ih46 =>
      intro Sb H1 lo1 x0 x2 ls hl hw hE v_x0 hf
      have hf : f_X5_remove_L46s (f_X5_remove_L46 f_X5_remove_B80 fu46) f_X5_remove_B80 Sb x0 x2 = some res := hf
      unfold f_X5_remove_L46s at hf
      refine lv_iload_n hx hb dX5_remove_46 rfl (lv_at hl 1 rfl) ?_
      refine lv_iconst (v := 1) hx hb dX5_remove_47 (by decide) ?_
      refine lv_iconst (v := 4) hx hb dX5_remove_48 (by decide) ?_
      refine lv_aload_n hx hb dX5_remove_49 rfl (lv_at hl 0 rfl) ?_
      obtain ⟨b32, e33, v_b32, hf⟩ := rq_some hf
      refine q_get F hK hw.1 v_x0.1 (pF_5 (S := Sb) v_x0.2) (fun w h => List.mem_cons_of_mem _ (List.mem_append_right _ h)) rfl 1 (by decide) (hts (.fieldLink RX5 7 "SharedModuliModel" "z" "[I") (List.mem_of_getElem? (i := 2) rfl)) (v := .ref b32) (congrArg (fun z => some (va_rf z)) e33) dX5_remove_50 ?_
      refine lv_iconst (v := 0) hx hb dX5_remove_53 (by decide) ?_
      obtain ⟨c34, hf⟩ := ckd_some hf
      refine q_iald F hK hw.1 v_b32 c34 dX5_remove_54 ?_
      refine lv_imul hx hb dX5_remove_55 ?_
      refine lv_iadd hx hb dX5_remove_56 ?_
      refine lv_icmp_ge (tgt := 80) hx hb dX5_remove_57 (by decide) (fun c35 => ?_) (fun c35 => ?_)
      · have hf := it_t c35 hf
        exact hB80 Sb _ _ x0 _ (lv_sub hl [0] rfl) hw hE v_x0 hf
      · have hf := it_f c35 hf
        refine lv_aload_n hx hb dX5_remove_60 rfl (lv_at hl 0 rfl) ?_
        obtain ⟨b36, e37, v_b36, hf⟩ := rq_some hf
        refine q_get F hK hw.1 v_x0.1 (pF_5 (S := Sb) v_x0.2) (fun w h => List.mem_cons_of_mem _ (List.mem_append_right _ h)) rfl 1 (by decide) (hts (.fieldLink RX5 7 "SharedModuliModel" "z" "[I") (List.mem_of_getElem? (i := 2) rfl)) (v := .ref b36) (congrArg (fun z => some (va_rf z)) e37) dX5_remove_61 ?_
        refine lv_iload_n hx hb dX5_remove_64 rfl (lv_at hl 1 rfl) ?_
        refine lv_aload_n hx hb dX5_remove_65 rfl (lv_at hl 0 rfl) ?_
        obtain ⟨b38, e39, v_b38, hf⟩ := rq_some hf
        refine q_get F hK hw.1 v_x0.1 (pF_5 (S := Sb) v_x0.2) (fun w h => List.mem_cons_of_mem _ (List.mem_append_right _ h)) rfl 1 (by decide) (hts (.fieldLink RX5 7 "SharedModuliModel" "z" "[I") (List.mem_of_getElem? (i := 2) rfl)) (v := .ref b38) (congrArg (fun z => some (va_rf z)) e39) dX5_remove_66 ?_
        refine lv_iload_n hx hb dX5_remove_69 rfl (lv_at hl 1 rfl) ?_
        refine lv_iconst (v := 4) hx hb dX5_remove_70 (by decide) ?_
        refine lv_iadd hx hb dX5_remove_71 ?_
        obtain ⟨c40, hf⟩ := ckd_some hf
        refine q_iald F hK hw.1 v_b38 c40 dX5_remove_72 ?_
        obtain ⟨c41, hf⟩ := ckd_some hf
        refine q_iast F hK hw v_b36 c41 dX5_remove_73 (fun H locs hw => ?_)
        refine lv_iinc (v := x2 + 1) (lv' := [(2, .int (x2 + 1)), (0, .ref x0)]) hx hb dX5_remove_74 hl (k := 1) rfl (by rfl) (by decide) rfl (fun ls hl => ?_)
        refine lv_goto (tgt := 46) hx hb dX5_remove_77 (by decide) ?_
        exact ih46 (sA Sb b36 x2 (aI Sb b38 (x2 + (4 : Int32)).toNatClampNeg)) _ _ x0 (x2 + 1) _ (lv_sub hl [1, 0] rfl) hw hE v_x0 hf
  have hB14 : ∀ (Sb : PS) (H1 : Heap) (lo1 : List Loc) (x0 : Nat) (x1 : Int32) (s0 : Nat) (s1 : Int32) (ls : Array Slot), lv_has ls 3 [(0, .ref x0), (1, .int x1)] → Hw D cy (AA cy S n) s.heap Sb n H1 lo1 → EX S Sb → vd Sb x0 5 → vd Sb s0 5 → f_X5_remove_B14 Sb x0 x1 s0 s1 = some res → W p l e (headSpec wsX5_remove ({ frames := 1, cells := 0, slots := 0, locals := 21 } : Room)).room s m ([.ref y0, .int y1] : List Value).toArray below meth c H1 lo1 0 0 (MQ below (va_Qi (fun (r : Int32) (u : PS × Nat) => r = res.1 ∧ u = (res.2, n)) (BW D cy S n) (AA cy S n)) ([.ref y0, .int y1] : List Value).toArray s 0 0 (AA cy S n)) (F0 m 14 ls [.int s1, .ref s0]) := by
    intro Sb H1 lo1 x0 x1 s0 s1 ls hl hw hE v_x0 v_s0 hf
    unfold f_X5_remove_B14 at hf
    refine q_put F hK hw v_s0.1 (pF_5 (S := Sb) v_s0.2) (fun w h => List.mem_cons_of_mem _ (List.mem_append_right _ h)) tyX5 tyX5_ok nmX5 rfl 0 (by decide) (hts (.fieldLink RX5 22 "SharedModuliModel" "thrown" "I") (List.mem_of_getElem? (i := 1) rfl)) (Or.inl rfl) (tyX5_ok 0 (by decide)) rfl rfl (Nat.le_of_ble_eq_true rfl) (S1 := sI Sb 80 s0 s1) (st_80 (S := Sb) v_s0.2 s1) dX5_remove_14 (fun H locs hw => ?_)
    refine lv_aload_n hx hb dX5_remove_17 rfl (lv_at hl 0 rfl) ?_
    refine q_get F hK hw.1 v_x0.1 (pF_5 (S := sI Sb 80 s0 s1) v_x0.2) (fun w h => List.mem_cons_of_mem _ (List.mem_append_right _ h)) rfl 0 (by decide) (hts (.fieldLink RX5 22 "SharedModuliModel" "thrown" "I") (List.mem_of_getElem? (i := 1) rfl)) (v := .int (fI (sI Sb 80 s0 s1) 80 x0)) rfl dX5_remove_18 ?_
    refine lv_if_le (tgt := 26) hx hb dX5_remove_21 (by decide) (fun c42 => ?_) (fun c42 => ?_)
    · have hf := it_t c42 hf
      refine lv_aload_n hx hb dX5_remove_26 rfl (lv_at hl 0 rfl) ?_
      obtain ⟨t43, h44, hf⟩ := bd_some hf
      refine q_callv (va_runV (As := []) (rest := []) F (c_X5_save l D cy (S := sI Sb 80 s0 s1) v_x0 h44) (cwV 0 hts gX5_remove_X5_save rfl rfl rfl ⟨rfl, ph_X5_save.1, ph_X5_save.2, pd_X5_save⟩ ⟨Nat.le_of_ble_eq_true rfl, Nat.le_of_ble_eq_true rfl⟩) ⟨PcW.bl, (q_rcv hK hw.1 v_x0.1 (pF_5 (S := sI Sb 80 s0 s1) v_x0.2) rfl), PcW.in hK hw hA (fun z => z.elim)⟩ rfl rfl hl.1 rfl (lv_room (Nat.le_of_ble_eq_true rfl)) dX5_remove_27 ⟨Nat.zero_le _, Nat.zero_le _⟩) hw hA (fun H locs hw hX => ?_)
      have hE := hE.tr hX
      have v_x0 := hX _ _ v_x0
      have v_s0 := hX _ _ v_s0
      refine lv_aload_n hx hb dX5_remove_30 rfl (lv_at hl 0 rfl) ?_
      obtain ⟨b45, e46, v_b45, hf⟩ := rq_some hf
      refine q_get F hK hw.1 v_x0.1 (pF_5 (S := t43) v_x0.2) (fun w h => List.mem_cons_of_mem _ (List.mem_append_right _ h)) rfl 1 (by decide) (hts (.fieldLink RX5 7 "SharedModuliModel" "z" "[I") (List.mem_of_getElem? (i := 2) rfl)) (v := .ref b45) (congrArg (fun z => some (va_rf z)) e46) dX5_remove_31 ?_
      refine lv_iconst (v := 0) hx hb dX5_remove_34 (by decide) ?_
      refine lv_dup2_11 hx hb dX5_remove_35 rfl rfl ?_
      obtain ⟨c47, hf⟩ := ckd_some hf
      refine q_iald F hK hw.1 v_b45 c47 dX5_remove_36 ?_
      refine lv_iconst (v := 1) hx hb dX5_remove_37 (by decide) ?_
      refine lv_isub hx hb dX5_remove_38 ?_
      obtain ⟨c48, hf⟩ := ckd_some hf
      refine q_iast F hK hw v_b45 c48 dX5_remove_39 (fun H locs hw => ?_)
      refine lv_iconst (v := 1) hx hb dX5_remove_40 (by decide) ?_
      refine lv_iconst (v := 4) hx hb dX5_remove_41 (by decide) ?_
      refine lv_iload_n hx hb dX5_remove_42 rfl (lv_at hl 1 rfl) ?_
      refine lv_imul hx hb dX5_remove_43 ?_
      refine lv_iadd hx hb dX5_remove_44 ?_
      refine lv_istore_n (lv' := [(2, .int ((1 : Int32) + ((4 : Int32) * x1))), (0, .ref x0), (1, .int x1)]) hx hb dX5_remove_45 rfl hl (by decide) rfl (fun ls hl => ?_)
      exact hL46 FU (sA t43 b45 0 ((aI t43 b45 (0 : Int32).toNatClampNeg) - (1 : Int32))) _ _ x0 ((1 : Int32) + ((4 : Int32) * x1)) _ (lv_sub hl [1, 0] rfl) hw hE v_x0 hf
    · have hf := it_f c42 hf
      refine lv_iconst (v := 0) hx hb dX5_remove_24 (by decide) ?_
      exact W.iret (v := 0) hx hb hr (fun t ht hW => ⟨⟨_, (sI Sb 80 s0 s1, n), rfl, po2 hf, BW.of hw hE ht⟩, hw.2.2.1.F ht⟩) hw.2.2.1.2.2 dX5_remove_25
  have hl := lv_entry ([.ref y0, .int y1]) (n := 3) (Nat.le_of_ble_eq_true rfl)
  rw [lg_entry_eq]
  generalize (lg_sl ([.ref y0, .int y1]) ++ List.replicate (3 - (lg_sl ([.ref y0, .int y1])).length) Slot.unset).toArray = ls at hl ⊢
  have hl : lv_has ls 3 [(0, .ref y0), (1, .int y1)] := hl
  unfold f_X5_remove at hf
  refine lv_aload_n hx hb dX5_remove_0 rfl (lv_at hl 0 rfl) ?_
  refine lv_aload_n hx hb dX5_remove_1 rfl (lv_at hl 0 rfl) ?_
  refine lv_iload_n hx hb dX5_remove_2 rfl (lv_at hl 1 rfl) ?_
  obtain ⟨t49, h50, hf⟩ := bd_some hf
  refine vp_callSi (va_runV (As := [.int y1]) (rest := [.ref y0]) F (c_X5_isThere l D cy (H := _) hw.1 v_y0 h50) (cwV 1 hts gX5_remove_X5_isThere rfl rfl rfl ⟨rfl, ph_X5_isThere.1, ph_X5_isThere.2, pd_X5_isThere⟩ ⟨Nat.le_of_ble_eq_true rfl, Nat.le_of_ble_eq_true rfl⟩) ⟨PcR.bl, (q_rcv hK hw.1 v_y0.1 (pF_5 (S := S) v_y0.2) rfl), PcR.in hK⟩ rfl rfl hl.1 rfl (lv_room (Nat.le_of_ble_eq_true rfl)) dX5_remove_3 ⟨Nat.zero_le _, Nat.zero_le _⟩).run (fun r51 er51 => ?_)
  subst r51
  refine lv_if_eq (tgt := 13) hx hb dX5_remove_6 (by decide) (fun c52 => ?_) (fun c52 => ?_)
  · have hf := it_t c52 hf
    refine lv_iconst (v := 1) hx hb dX5_remove_13 (by decide) ?_
    exact hB14 S _ _ y0 y1 y0 1 _ (lv_sub hl [0, 1] rfl) hw hE v_y0 v_y0 hf
  · have hf := it_f c52 hf
    refine lv_iconst (v := 0) hx hb dX5_remove_9 (by decide) ?_
    refine lv_goto (tgt := 14) hx hb dX5_remove_10 (by decide) ?_
    exact hB14 S _ _ y0 y1 y0 0 _ (lv_sub hl [0, 1] rfl) hw hE v_y0 v_y0 hf
def f_X5_toggle_B43 (S : PS) (x0 : Nat) (x1 : Int32) (s0 : Nat) (s1 : Int32) : Option (Int32 × PS) :=
  if (fI (sI S 80 s0 s1) 80 x0) ≤ 0 then (bd (f_X5_save (sI S 80 s0 s1) x0) fun t2 =>
  rq (fR t2 81 x0) t2 6 fun b4 =>
  bd (f_X5_of t2 x0 x1 3) fun t6 =>
  ck (decide (¬ ((((1 : Int32) + ((4 : Int32) * x1)) + (3 : Int32)) < 0 ∨ aN t2 b4 ≤ (((1 : Int32) + ((4 : Int32) * x1)) + (3 : Int32)).toNatClampNeg))) (
  bd (f_X5_of (sA t2 b4 (((1 : Int32) + ((4 : Int32) * x1)) + (3 : Int32)) ((1 : Int32) - t6)) x0 x1 3) fun t10 =>
  some (t10, sA t2 b4 (((1 : Int32) + ((4 : Int32) * x1)) + (3 : Int32)) ((1 : Int32) - t6)))) else
  some (0, sI S 80 s0 s1)
def f_X5_toggle_B42 (S : PS) (x0 : Nat) (x1 : Int32) (s0 : Nat) : Option (Int32 × PS) :=
  f_X5_toggle_B43 S x0 x1 s0 0
def f_X5_toggle (S : PS) (x0 : Nat) (x1 : Int32) : Option (Int32 × PS) :=
  bd (f_X5_isThere S x0 x1) fun t13 =>
  if t13 = 0 then (f_X5_toggle_B43 S x0 x1 x0 1) else
  bd (f_X5_isOn S x0 x1) fun t17 =>
  if t17 = 0 then (bd (f_X5_onSet S x0) fun t21 =>
  bd (f_X5_isTooGreat S x0 (t21 ||| ((1 : Int32) <<< (x1 &&& 31)))) fun t24 =>
  if t24 = 0 then (f_X5_toggle_B42 S x0 x1 x0) else
  f_X5_toggle_B43 S x0 x1 x0 2) else
  f_X5_toggle_B42 S x0 x1 x0
set_option maxHeartbeats 4000000 in
set_option maxRecDepth 100000 in
theorem c_X5_toggle (l : Launch) (D : va_G) (cy : cyT) {S : PS} {n : Nat} {y0 : Nat} {y1 : Int32} (v_y0 : vd S y0 5) {res : Int32 × PS} (hf : f_X5_toggle S y0 y1 = some res) : Met l yX5_toggle wsX5_toggle ({ frames := 3, cells := 0, slots := 0, locals := 70 } : Room) (PcW False D cy S n [.ref y0, .int y1]) (va_Qi (fun (r : Int32) (u : PS × Nat) => r = res.1 ∧ u = (res.2, n)) (BW D cy S n) (AA cy S n)) 0 0 (AA cy S n) := by
  refine Met.ofW (cc := cX5_toggle) (maxL := 3) (ret := (some .int)) (by decide) rfl ?_
  intro p e s m args below meth c s₁ B hml hv
  obtain ⟨hav, hsz, hP0, hD0, hK, hZ0⟩ := hv
  have hx := B.exec
  have hb := B.bytes
  have hr := B.returns
  have hts := atoms_spec (ws := wsX5_toggle) B.pre
  have hown : s.vm.findClass RX5 = some m.cls := findClass_of_methodNamed B.named
  have hlocks := B.notSynchronized
  subst hav
  have hw : Hw D cy (AA cy S n) s.heap S n s.heap [] := Hw.start hsz hP0 hD0
  have hA : ∀ q, s.heap.size ≤ q → AA cy S n q := fun q h => Or.inr (hsz ▸ h)
  have hE : EX S S := EX.rf
  have F : CallFix p m c cX5_toggle 3 s _ wsX5_toggle RX5 := ⟨hx, hb, hml, hown, hts⟩
  have hB43 : ∀ (Sb : PS) (H1 : Heap) (lo1 : List Loc) (x0 : Nat) (x1 : Int32) (s0 : Nat) (s1 : Int32) (ls : Array Slot), lv_has ls 3 [(0, .ref x0), (1, .int x1)] → Hw D cy (AA cy S n) s.heap Sb n H1 lo1 → EX S Sb → vd Sb x0 5 → vd Sb s0 5 → f_X5_toggle_B43 Sb x0 x1 s0 s1 = some res → W p l e (headSpec wsX5_toggle ({ frames := 3, cells := 0, slots := 0, locals := 70 } : Room)).room s m ([.ref y0, .int y1] : List Value).toArray below meth c H1 lo1 0 0 (MQ below (va_Qi (fun (r : Int32) (u : PS × Nat) => r = res.1 ∧ u = (res.2, n)) (BW D cy S n) (AA cy S n)) ([.ref y0, .int y1] : List Value).toArray s 0 0 (AA cy S n)) (F0 m 43 ls [.int s1, .ref s0]) := by
    intro Sb H1 lo1 x0 x1 s0 s1 ls hl hw hE v_x0 v_s0 hf
    unfold f_X5_toggle_B43 at hf
    refine q_put F hK hw v_s0.1 (pF_5 (S := Sb) v_s0.2) (fun w h => List.mem_cons_of_mem _ (List.mem_append_right _ h)) tyX5 tyX5_ok nmX5 rfl 0 (by decide) (hts (.fieldLink RX5 22 "SharedModuliModel" "thrown" "I") (List.mem_of_getElem? (i := 1) rfl)) (Or.inl rfl) (tyX5_ok 0 (by decide)) rfl rfl (Nat.le_of_ble_eq_true rfl) (S1 := sI Sb 80 s0 s1) (st_80 (S := Sb) v_s0.2 s1) dX5_toggle_43 (fun H locs hw => ?_)
    refine lv_aload_n hx hb dX5_toggle_46 rfl (lv_at hl 0 rfl) ?_
    refine q_get F hK hw.1 v_x0.1 (pF_5 (S := sI Sb 80 s0 s1) v_x0.2) (fun w h => List.mem_cons_of_mem _ (List.mem_append_right _ h)) rfl 0 (by decide) (hts (.fieldLink RX5 22 "SharedModuliModel" "thrown" "I") (List.mem_of_getElem? (i := 1) rfl)) (v := .int (fI (sI Sb 80 s0 s1) 80 x0)) rfl dX5_toggle_47 ?_
    refine lv_if_le (tgt := 55) hx hb dX5_toggle_50 (by decide) (fun c28 => ?_) (fun c28 => ?_)
    · have hf := it_t c28 hf
      refine lv_aload_n hx hb dX5_toggle_55 rfl (lv_at hl 0 rfl) ?_
      obtain ⟨t29, h30, hf⟩ := bd_some hf
      refine q_callv (va_runV (As := []) (rest := []) F (c_X5_save l D cy (S := sI Sb 80 s0 s1) v_x0 h30) (cwV 0 hts gX5_toggle_X5_save rfl rfl rfl ⟨rfl, ph_X5_save.1, ph_X5_save.2, pd_X5_save⟩ ⟨Nat.le_of_ble_eq_true rfl, Nat.le_of_ble_eq_true rfl⟩) ⟨PcW.bl, (q_rcv hK hw.1 v_x0.1 (pF_5 (S := sI Sb 80 s0 s1) v_x0.2) rfl), PcW.in hK hw hA (fun z => z.elim)⟩ rfl rfl hl.1 rfl (lv_room (Nat.le_of_ble_eq_true rfl)) dX5_toggle_56 ⟨Nat.zero_le _, Nat.zero_le _⟩) hw hA (fun H locs hw hX => ?_)
      have hE := hE.tr hX
      have v_x0 := hX _ _ v_x0
      have v_s0 := hX _ _ v_s0
      refine lv_aload_n hx hb dX5_toggle_59 rfl (lv_at hl 0 rfl) ?_
      obtain ⟨b31, e32, v_b31, hf⟩ := rq_some hf
      refine q_get F hK hw.1 v_x0.1 (pF_5 (S := t29) v_x0.2) (fun w h => List.mem_cons_of_mem _ (List.mem_append_right _ h)) rfl 1 (by decide) (hts (.fieldLink RX5 7 "SharedModuliModel" "z" "[I") (List.mem_of_getElem? (i := 2) rfl)) (v := .ref b31) (congrArg (fun z => some (va_rf z)) e32) dX5_toggle_60 ?_
      refine lv_iconst (v := 1) hx hb dX5_toggle_63 (by decide) ?_
      refine lv_iconst (v := 4) hx hb dX5_toggle_64 (by decide) ?_
      refine lv_iload_n hx hb dX5_toggle_65 rfl (lv_at hl 1 rfl) ?_
      refine lv_imul hx hb dX5_toggle_66 ?_
      refine lv_iadd hx hb dX5_toggle_67 ?_
      refine lv_iconst (v := 3) hx hb dX5_toggle_68 (by decide) ?_
      refine lv_iadd hx hb dX5_toggle_69 ?_
      refine lv_iconst (v := 1) hx hb dX5_toggle_70 (by decide) ?_
      refine lv_aload_n hx hb dX5_toggle_71 rfl (lv_at hl 0 rfl) ?_
      refine lv_iload_n hx hb dX5_toggle_72 rfl (lv_at hl 1 rfl) ?_
      refine lv_iconst (v := 3) hx hb dX5_toggle_73 (by decide) ?_
      obtain ⟨t33, h34, hf⟩ := bd_some hf
      refine vp_callSi (va_runV (As := [.int x1, .int 3]) (rest := [.int 1, .int (((1 : Int32) + ((4 : Int32) * x1)) + (3 : Int32)), .ref b31]) F (c_X5_of l D cy (H := _) hw.1 v_x0 h34) (cwV 2 hts gX5_toggle_X5_of rfl rfl rfl ⟨rfl, ph_X5_of.1, ph_X5_of.2, pd_X5_of⟩ ⟨Nat.le_of_ble_eq_true rfl, Nat.le_of_ble_eq_true rfl⟩) ⟨PcR.bl, (q_rcv hK hw.1 v_x0.1 (pF_5 (S := t29) v_x0.2) rfl), PcR.in hK⟩ rfl rfl hl.1 rfl (lv_room (Nat.le_of_ble_eq_true rfl)) dX5_toggle_74 ⟨Nat.zero_le _, Nat.zero_le _⟩).run (fun r35 er35 => ?_)
      subst r35
      refine lv_isub hx hb dX5_toggle_77 ?_
      obtain ⟨c36, hf⟩ := ckd_some hf
      refine q_iast F hK hw v_b31 c36 dX5_toggle_78 (fun H locs hw => ?_)
      refine lv_aload_n hx hb dX5_toggle_79 rfl (lv_at hl 0 rfl) ?_
      refine lv_iload_n hx hb dX5_toggle_80 rfl (lv_at hl 1 rfl) ?_
      refine lv_iconst (v := 3) hx hb dX5_toggle_81 (by decide) ?_
      obtain ⟨t37, h38, hf⟩ := bd_some hf
      refine vp_callSi (va_runV (As := [.int x1, .int 3]) (rest := []) F (c_X5_of l D cy (H := _) hw.1 v_x0 h38) (cwV 2 hts gX5_toggle_X5_of rfl rfl rfl ⟨rfl, ph_X5_of.1, ph_X5_of.2, pd_X5_of⟩ ⟨Nat.le_of_ble_eq_true rfl, Nat.le_of_ble_eq_true rfl⟩) ⟨PcR.bl, (q_rcv hK hw.1 v_x0.1 (pF_5 (S := sA t29 b31 (((1 : Int32) + ((4 : Int32) * x1)) + (3 : Int32)) ((1 : Int32) - t33)) v_x0.2) rfl), PcR.in hK⟩ rfl rfl hl.1 rfl (lv_room (Nat.le_of_ble_eq_true rfl)) dX5_toggle_82 ⟨Nat.zero_le _, Nat.zero_le _⟩).run (fun r39 er39 => ?_)
      subst r39
      exact W.iret (v := t37) hx hb hr (fun t ht hW => ⟨⟨_, (sA t29 b31 (((1 : Int32) + ((4 : Int32) * x1)) + (3 : Int32)) ((1 : Int32) - t33), n), rfl, po2 hf, BW.of hw hE ht⟩, hw.2.2.1.F ht⟩) hw.2.2.1.2.2 dX5_toggle_85
    · have hf := it_f c28 hf
      refine lv_iconst (v := 0) hx hb dX5_toggle_53 (by decide) ?_
      exact W.iret (v := 0) hx hb hr (fun t ht hW => ⟨⟨_, (sI Sb 80 s0 s1, n), rfl, po2 hf, BW.of hw hE ht⟩, hw.2.2.1.F ht⟩) hw.2.2.1.2.2 dX5_toggle_54
  have hB42 : ∀ (Sb : PS) (H1 : Heap) (lo1 : List Loc) (x0 : Nat) (x1 : Int32) (s0 : Nat) (ls : Array Slot), lv_has ls 3 [(0, .ref x0), (1, .int x1)] → Hw D cy (AA cy S n) s.heap Sb n H1 lo1 → EX S Sb → vd Sb x0 5 → vd Sb s0 5 → f_X5_toggle_B42 Sb x0 x1 s0 = some res → W p l e (headSpec wsX5_toggle ({ frames := 3, cells := 0, slots := 0, locals := 70 } : Room)).room s m ([.ref y0, .int y1] : List Value).toArray below meth c H1 lo1 0 0 (MQ below (va_Qi (fun (r : Int32) (u : PS × Nat) => r = res.1 ∧ u = (res.2, n)) (BW D cy S n) (AA cy S n)) ([.ref y0, .int y1] : List Value).toArray s 0 0 (AA cy S n)) (F0 m 42 ls [.ref s0]) := by
    intro Sb H1 lo1 x0 x1 s0 ls hl hw hE v_x0 v_s0 hf
    unfold f_X5_toggle_B42 at hf
    refine lv_iconst (v := 0) hx hb dX5_toggle_42 (by decide) ?_
    exact hB43 Sb _ _ x0 x1 s0 0 _ (lv_sub hl [0, 1] rfl) hw hE v_x0 v_s0 hf
  have hl := lv_entry ([.ref y0, .int y1]) (n := 3) (Nat.le_of_ble_eq_true rfl)
  rw [lg_entry_eq]
  generalize (lg_sl ([.ref y0, .int y1]) ++ List.replicate (3 - (lg_sl ([.ref y0, .int y1])).length) Slot.unset).toArray = ls at hl ⊢
  have hl : lv_has ls 3 [(0, .ref y0), (1, .int y1)] := hl
  unfold f_X5_toggle at hf
  refine lv_aload_n hx hb dX5_toggle_0 rfl (lv_at hl 0 rfl) ?_
  refine lv_iload_n hx hb dX5_toggle_1 rfl (lv_at hl 1 rfl) ?_
  obtain ⟨t40, h41, hf⟩ := bd_some hf
  refine vp_callSi (va_runV (As := [.int y1]) (rest := []) F (c_X5_isThere l D cy (H := _) hw.1 v_y0 h41) (cwV 1 hts gX5_toggle_X5_isThere rfl rfl rfl ⟨rfl, ph_X5_isThere.1, ph_X5_isThere.2, pd_X5_isThere⟩ ⟨Nat.le_of_ble_eq_true rfl, Nat.le_of_ble_eq_true rfl⟩) ⟨PcR.bl, (q_rcv hK hw.1 v_y0.1 (pF_5 (S := S) v_y0.2) rfl), PcR.in hK⟩ rfl rfl hl.1 rfl (lv_room (Nat.le_of_ble_eq_true rfl)) dX5_toggle_2 ⟨Nat.zero_le _, Nat.zero_le _⟩).run (fun r42 er42 => ?_)
  subst r42
  refine lv_istore_n (lv' := [(2, .int t40), (0, .ref y0), (1, .int y1)]) hx hb dX5_toggle_5 rfl hl (by decide) rfl (fun ls hl => ?_)
  refine lv_aload_n hx hb dX5_toggle_6 rfl (lv_at hl 1 rfl) ?_
  refine lv_iload_n hx hb dX5_toggle_7 rfl (lv_at hl 0 rfl) ?_
  refine lv_if_ne (tgt := 15) hx hb dX5_toggle_8 (by decide) (fun c43 => ?_) (fun c43 => ?_)
  · have hf := it_f c43 hf
    refine lv_aload_n hx hb dX5_toggle_15 rfl (lv_at hl 1 rfl) ?_
    refine lv_iload_n hx hb dX5_toggle_16 rfl (lv_at hl 2 rfl) ?_
    obtain ⟨t44, h45, hf⟩ := bd_some hf
    refine vp_callSi (va_runV (As := [.int y1]) (rest := [.ref y0]) F (c_X5_isOn l D cy (H := _) hw.1 v_y0 h45) (cwV 1 hts gX5_toggle_X5_isOn rfl rfl rfl ⟨rfl, ph_X5_isOn.1, ph_X5_isOn.2, pd_X5_isOn⟩ ⟨Nat.le_of_ble_eq_true rfl, Nat.le_of_ble_eq_true rfl⟩) ⟨PcR.bl, (q_rcv hK hw.1 v_y0.1 (pF_5 (S := S) v_y0.2) rfl), PcR.in hK⟩ rfl rfl hl.1 rfl (lv_room (Nat.le_of_ble_eq_true rfl)) dX5_toggle_17 ⟨Nat.zero_le _, Nat.zero_le _⟩).run (fun r46 er46 => ?_)
    subst r46
    refine lv_if_ne (tgt := 42) hx hb dX5_toggle_20 (by decide) (fun c47 => ?_) (fun c47 => ?_)
    · have hf := it_f c47 hf
      exact hB42 S _ _ y0 y1 y0 _ (lv_sub hl [1, 2] rfl) hw hE v_y0 v_y0 hf
    · have hf := it_t c47 hf
      refine lv_aload_n hx hb dX5_toggle_23 rfl (lv_at hl 1 rfl) ?_
      refine lv_aload_n hx hb dX5_toggle_24 rfl (lv_at hl 1 rfl) ?_
      obtain ⟨t48, h49, hf⟩ := bd_some hf
      refine vp_callSi (va_runV (As := []) (rest := [.ref y0, .ref y0]) F (c_X5_onSet l D cy (H := _) hw.1 v_y0 h49) (cwV 0 hts gX5_toggle_X5_onSet rfl rfl rfl ⟨rfl, ph_X5_onSet.1, ph_X5_onSet.2, pd_X5_onSet⟩ ⟨Nat.le_of_ble_eq_true rfl, Nat.le_of_ble_eq_true rfl⟩) ⟨PcR.bl, (q_rcv hK hw.1 v_y0.1 (pF_5 (S := S) v_y0.2) rfl), PcR.in hK⟩ rfl rfl hl.1 rfl (lv_room (Nat.le_of_ble_eq_true rfl)) dX5_toggle_25 ⟨Nat.zero_le _, Nat.zero_le _⟩).run (fun r50 er50 => ?_)
      subst r50
      refine lv_iconst (v := 1) hx hb dX5_toggle_28 (by decide) ?_
      refine lv_iload_n hx hb dX5_toggle_29 rfl (lv_at hl 2 rfl) ?_
      refine lv_ishl hx hb dX5_toggle_30 ?_
      refine lv_ior hx hb dX5_toggle_31 ?_
      obtain ⟨t51, h52, hf⟩ := bd_some hf
      refine vp_callSi (va_runV (As := [.int (t48 ||| ((1 : Int32) <<< (y1 &&& 31)))]) (rest := [.ref y0]) F (c_X5_isTooGreat l D cy (H := _) hw.1 v_y0 h52) (cwV 1 hts gX5_toggle_X5_isTooGreat rfl rfl rfl ⟨rfl, ph_X5_isTooGreat.1, ph_X5_isTooGreat.2, pd_X5_isTooGreat⟩ ⟨Nat.le_of_ble_eq_true rfl, Nat.le_of_ble_eq_true rfl⟩) ⟨PcR.bl, (q_rcv hK hw.1 v_y0.1 (pF_5 (S := S) v_y0.2) rfl), PcR.in hK⟩ rfl rfl hl.1 rfl (lv_room (Nat.le_of_ble_eq_true rfl)) dX5_toggle_32 ⟨Nat.zero_le _, Nat.zero_le _⟩).run (fun r53 er53 => ?_)
      subst r53
      refine lv_if_eq (tgt := 42) hx hb dX5_toggle_35 (by decide) (fun c54 => ?_) (fun c54 => ?_)
      · have hf := it_t c54 hf
        exact hB42 S _ _ y0 y1 y0 _ (lv_sub hl [1, 2] rfl) hw hE v_y0 v_y0 hf
      · have hf := it_f c54 hf
        refine lv_iconst (v := 2) hx hb dX5_toggle_38 (by decide) ?_
        refine lv_goto (tgt := 43) hx hb dX5_toggle_39 (by decide) ?_
        exact hB43 S _ _ y0 y1 y0 2 _ (lv_sub hl [1, 2] rfl) hw hE v_y0 v_y0 hf
  · have hf := it_t c43 hf
    refine lv_iconst (v := 1) hx hb dX5_toggle_11 (by decide) ?_
    refine lv_goto (tgt := 43) hx hb dX5_toggle_12 (by decide) ?_
    exact hB43 S _ _ y0 y1 y0 1 _ (lv_sub hl [1, 2] rfl) hw hE v_y0 v_y0 hf
def f_X5_bare_B26 (S : PS) (x0 : Nat) (x1 : Int32) (s0 : Nat) (s1 : Int32) : Option (Int32 × PS) :=
  if (fI (sI S 80 s0 s1) 80 x0) ≤ 0 then (bd (f_X5_save (sI S 80 s0 s1) x0) fun t2 =>
  bd (f_X5_rest t2 x0 x1) fun t4 =>
  bd (f_X5_modulus t2 x0 x1) fun t7 =>
  rq (fR t2 81 x0) t2 6 fun b10 =>
  ck (decide (¬ ((((1 : Int32) + ((4 : Int32) * x1)) + (0 : Int32)) < 0 ∨ aN t2 b10 ≤ (((1 : Int32) + ((4 : Int32) * x1)) + (0 : Int32)).toNatClampNeg))) (
  rq (fR (sA t2 b10 (((1 : Int32) + ((4 : Int32) * x1)) + (0 : Int32)) 1) 81 x0) (sA t2 b10 (((1 : Int32) + ((4 : Int32) * x1)) + (0 : Int32)) 1) 6 fun b13 =>
  ck (decide (¬ ((((1 : Int32) + ((4 : Int32) * x1)) + (1 : Int32)) < 0 ∨ aN (sA t2 b10 (((1 : Int32) + ((4 : Int32) * x1)) + (0 : Int32)) 1) b13 ≤ (((1 : Int32) + ((4 : Int32) * x1)) + (1 : Int32)).toNatClampNeg))) (
  rq (fR (sA (sA t2 b10 (((1 : Int32) + ((4 : Int32) * x1)) + (0 : Int32)) 1) b13 (((1 : Int32) + ((4 : Int32) * x1)) + (1 : Int32)) t4) 81 x0) (sA (sA t2 b10 (((1 : Int32) + ((4 : Int32) * x1)) + (0 : Int32)) 1) b13 (((1 : Int32) + ((4 : Int32) * x1)) + (1 : Int32)) t4) 6 fun b16 =>
  ck (decide (¬ ((((1 : Int32) + ((4 : Int32) * x1)) + (2 : Int32)) < 0 ∨ aN (sA (sA t2 b10 (((1 : Int32) + ((4 : Int32) * x1)) + (0 : Int32)) 1) b13 (((1 : Int32) + ((4 : Int32) * x1)) + (1 : Int32)) t4) b16 ≤ (((1 : Int32) + ((4 : Int32) * x1)) + (2 : Int32)).toNatClampNeg))) (
  some (t7, sA (sA (sA t2 b10 (((1 : Int32) + ((4 : Int32) * x1)) + (0 : Int32)) 1) b13 (((1 : Int32) + ((4 : Int32) * x1)) + (1 : Int32)) t4) b16 (((1 : Int32) + ((4 : Int32) * x1)) + (2 : Int32)) t7))))) else
  some (0, sI S 80 s0 s1)
def f_X5_bare (S : PS) (x0 : Nat) (x1 : Int32) : Option (Int32 × PS) :=
  bd (f_X5_isThere S x0 x1) fun t19 =>
  if t19 = 0 then (f_X5_bare_B26 S x0 x1 x0 1) else
  bd (f_X5_isVoid S x0 x1) fun t23 =>
  if t23 = 0 then (f_X5_bare_B26 S x0 x1 x0 0) else
  f_X5_bare_B26 S x0 x1 x0 2
set_option maxHeartbeats 4000000 in
set_option maxRecDepth 100000 in
theorem c_X5_bare (l : Launch) (D : va_G) (cy : cyT) {S : PS} {n : Nat} {y0 : Nat} {y1 : Int32} (v_y0 : vd S y0 5) {res : Int32 × PS} (hf : f_X5_bare S y0 y1 = some res) : Met l yX5_bare wsX5_bare ({ frames := 2, cells := 0, slots := 0, locals := 45 } : Room) (PcW False D cy S n [.ref y0, .int y1]) (va_Qi (fun (r : Int32) (u : PS × Nat) => r = res.1 ∧ u = (res.2, n)) (BW D cy S n) (AA cy S n)) 0 0 (AA cy S n) := by
  refine Met.ofW (cc := cX5_bare) (maxL := 4) (ret := (some .int)) (by decide) rfl ?_
  intro p e s m args below meth c s₁ B hml hv
  obtain ⟨hav, hsz, hP0, hD0, hK, hZ0⟩ := hv
  have hx := B.exec
  have hb := B.bytes
  have hr := B.returns
  have hts := atoms_spec (ws := wsX5_bare) B.pre
  have hown : s.vm.findClass RX5 = some m.cls := findClass_of_methodNamed B.named
  have hlocks := B.notSynchronized
  subst hav
  have hw : Hw D cy (AA cy S n) s.heap S n s.heap [] := Hw.start hsz hP0 hD0
  have hA : ∀ q, s.heap.size ≤ q → AA cy S n q := fun q h => Or.inr (hsz ▸ h)
  have hE : EX S S := EX.rf
  have F : CallFix p m c cX5_bare 4 s _ wsX5_bare RX5 := ⟨hx, hb, hml, hown, hts⟩
  have hB26 : ∀ (Sb : PS) (H1 : Heap) (lo1 : List Loc) (x0 : Nat) (x1 : Int32) (s0 : Nat) (s1 : Int32) (ls : Array Slot), lv_has ls 4 [(0, .ref x0), (1, .int x1)] → Hw D cy (AA cy S n) s.heap Sb n H1 lo1 → EX S Sb → vd Sb x0 5 → vd Sb s0 5 → f_X5_bare_B26 Sb x0 x1 s0 s1 = some res → W p l e (headSpec wsX5_bare ({ frames := 2, cells := 0, slots := 0, locals := 45 } : Room)).room s m ([.ref y0, .int y1] : List Value).toArray below meth c H1 lo1 0 0 (MQ below (va_Qi (fun (r : Int32) (u : PS × Nat) => r = res.1 ∧ u = (res.2, n)) (BW D cy S n) (AA cy S n)) ([.ref y0, .int y1] : List Value).toArray s 0 0 (AA cy S n)) (F0 m 26 ls [.int s1, .ref s0]) := by
    intro Sb H1 lo1 x0 x1 s0 s1 ls hl hw hE v_x0 v_s0 hf
    unfold f_X5_bare_B26 at hf
    refine q_put F hK hw v_s0.1 (pF_5 (S := Sb) v_s0.2) (fun w h => List.mem_cons_of_mem _ (List.mem_append_right _ h)) tyX5 tyX5_ok nmX5 rfl 0 (by decide) (hts (.fieldLink RX5 22 "SharedModuliModel" "thrown" "I") (List.mem_of_getElem? (i := 1) rfl)) (Or.inl rfl) (tyX5_ok 0 (by decide)) rfl rfl (Nat.le_of_ble_eq_true rfl) (S1 := sI Sb 80 s0 s1) (st_80 (S := Sb) v_s0.2 s1) dX5_bare_26 (fun H locs hw => ?_)
    refine lv_aload_n hx hb dX5_bare_29 rfl (lv_at hl 0 rfl) ?_
    refine q_get F hK hw.1 v_x0.1 (pF_5 (S := sI Sb 80 s0 s1) v_x0.2) (fun w h => List.mem_cons_of_mem _ (List.mem_append_right _ h)) rfl 0 (by decide) (hts (.fieldLink RX5 22 "SharedModuliModel" "thrown" "I") (List.mem_of_getElem? (i := 1) rfl)) (v := .int (fI (sI Sb 80 s0 s1) 80 x0)) rfl dX5_bare_30 ?_
    refine lv_if_le (tgt := 38) hx hb dX5_bare_33 (by decide) (fun c27 => ?_) (fun c27 => ?_)
    · have hf := it_t c27 hf
      refine lv_aload_n hx hb dX5_bare_38 rfl (lv_at hl 0 rfl) ?_
      obtain ⟨t28, h29, hf⟩ := bd_some hf
      refine q_callv (va_runV (As := []) (rest := []) F (c_X5_save l D cy (S := sI Sb 80 s0 s1) v_x0 h29) (cwV 0 hts gX5_bare_X5_save rfl rfl rfl ⟨rfl, ph_X5_save.1, ph_X5_save.2, pd_X5_save⟩ ⟨Nat.le_of_ble_eq_true rfl, Nat.le_of_ble_eq_true rfl⟩) ⟨PcW.bl, (q_rcv hK hw.1 v_x0.1 (pF_5 (S := sI Sb 80 s0 s1) v_x0.2) rfl), PcW.in hK hw hA (fun z => z.elim)⟩ rfl rfl hl.1 rfl (lv_room (Nat.le_of_ble_eq_true rfl)) dX5_bare_39 ⟨Nat.zero_le _, Nat.zero_le _⟩) hw hA (fun H locs hw hX => ?_)
      have hE := hE.tr hX
      have v_x0 := hX _ _ v_x0
      have v_s0 := hX _ _ v_s0
      refine lv_aload_n hx hb dX5_bare_42 rfl (lv_at hl 0 rfl) ?_
      refine lv_iload_n hx hb dX5_bare_43 rfl (lv_at hl 1 rfl) ?_
      obtain ⟨t30, h31, hf⟩ := bd_some hf
      refine vp_callSi (va_runV (As := [.int x1]) (rest := []) F (c_X5_rest l D cy (H := _) hw.1 v_x0 h31) (cwV 1 hts gX5_bare_X5_rest rfl rfl rfl ⟨rfl, ph_X5_rest.1, ph_X5_rest.2, pd_X5_rest⟩ ⟨Nat.le_of_ble_eq_true rfl, Nat.le_of_ble_eq_true rfl⟩) ⟨PcR.bl, (q_rcv hK hw.1 v_x0.1 (pF_5 (S := t28) v_x0.2) rfl), PcR.in hK⟩ rfl rfl hl.1 rfl (lv_room (Nat.le_of_ble_eq_true rfl)) dX5_bare_44 ⟨Nat.zero_le _, Nat.zero_le _⟩).run (fun r32 er32 => ?_)
      subst r32
      refine lv_istore_n (lv' := [(2, .int t30), (0, .ref x0), (1, .int x1)]) hx hb dX5_bare_47 rfl hl (by decide) rfl (fun ls hl => ?_)
      refine lv_aload_n hx hb dX5_bare_48 rfl (lv_at hl 1 rfl) ?_
      refine lv_iload_n hx hb dX5_bare_49 rfl (lv_at hl 2 rfl) ?_
      obtain ⟨t33, h34, hf⟩ := bd_some hf
      refine vp_callSi (va_runV (As := [.int x1]) (rest := []) F (c_X5_modulus l D cy (H := _) hw.1 v_x0 h34) (cwV 1 hts gX5_bare_X5_modulus rfl rfl rfl ⟨rfl, ph_X5_modulus.1, ph_X5_modulus.2, pd_X5_modulus⟩ ⟨Nat.le_of_ble_eq_true rfl, Nat.le_of_ble_eq_true rfl⟩) ⟨PcR.bl, (q_rcv hK hw.1 v_x0.1 (pF_5 (S := t28) v_x0.2) rfl), PcR.in hK⟩ rfl rfl hl.1 rfl (lv_room (Nat.le_of_ble_eq_true rfl)) dX5_bare_50 ⟨Nat.zero_le _, Nat.zero_le _⟩).run (fun r35 er35 => ?_)
      subst r35
      refine lv_istore_n (lv' := [(3, .int t33), (2, .int t30), (0, .ref x0), (1, .int x1)]) hx hb dX5_bare_53 rfl hl (by decide) rfl (fun ls hl => ?_)
      refine lv_aload_n hx hb dX5_bare_54 rfl (lv_at hl 2 rfl) ?_
      obtain ⟨b36, e37, v_b36, hf⟩ := rq_some hf
      refine q_get F hK hw.1 v_x0.1 (pF_5 (S := t28) v_x0.2) (fun w h => List.mem_cons_of_mem _ (List.mem_append_right _ h)) rfl 1 (by decide) (hts (.fieldLink RX5 7 "SharedModuliModel" "z" "[I") (List.mem_of_getElem? (i := 2) rfl)) (v := .ref b36) (congrArg (fun z => some (va_rf z)) e37) dX5_bare_55 ?_
      refine lv_iconst (v := 1) hx hb dX5_bare_58 (by decide) ?_
      refine lv_iconst (v := 4) hx hb dX5_bare_59 (by decide) ?_
      refine lv_iload_n hx hb dX5_bare_60 rfl (lv_at hl 3 rfl) ?_
      refine lv_imul hx hb dX5_bare_61 ?_
      refine lv_iadd hx hb dX5_bare_62 ?_
      refine lv_iconst (v := 0) hx hb dX5_bare_63 (by decide) ?_
      refine lv_iadd hx hb dX5_bare_64 ?_
      refine lv_iconst (v := 1) hx hb dX5_bare_65 (by decide) ?_
      obtain ⟨c38, hf⟩ := ckd_some hf
      refine q_iast F hK hw v_b36 c38 dX5_bare_66 (fun H locs hw => ?_)
      refine lv_aload_n hx hb dX5_bare_67 rfl (lv_at hl 2 rfl) ?_
      obtain ⟨b39, e40, v_b39, hf⟩ := rq_some hf
      refine q_get F hK hw.1 v_x0.1 (pF_5 (S := sA t28 b36 (((1 : Int32) + ((4 : Int32) * x1)) + (0 : Int32)) 1) v_x0.2) (fun w h => List.mem_cons_of_mem _ (List.mem_append_right _ h)) rfl 1 (by decide) (hts (.fieldLink RX5 7 "SharedModuliModel" "z" "[I") (List.mem_of_getElem? (i := 2) rfl)) (v := .ref b39) (congrArg (fun z => some (va_rf z)) e40) dX5_bare_68 ?_
      refine lv_iconst (v := 1) hx hb dX5_bare_71 (by decide) ?_
      refine lv_iconst (v := 4) hx hb dX5_bare_72 (by decide) ?_
      refine lv_iload_n hx hb dX5_bare_73 rfl (lv_at hl 3 rfl) ?_
      refine lv_imul hx hb dX5_bare_74 ?_
      refine lv_iadd hx hb dX5_bare_75 ?_
      refine lv_iconst (v := 1) hx hb dX5_bare_76 (by decide) ?_
      refine lv_iadd hx hb dX5_bare_77 ?_
      refine lv_iload_n hx hb dX5_bare_78 rfl (lv_at hl 1 rfl) ?_
      obtain ⟨c41, hf⟩ := ckd_some hf
      refine q_iast F hK hw v_b39 c41 dX5_bare_79 (fun H locs hw => ?_)
      refine lv_aload_n hx hb dX5_bare_80 rfl (lv_at hl 2 rfl) ?_
      obtain ⟨b42, e43, v_b42, hf⟩ := rq_some hf
      refine q_get F hK hw.1 v_x0.1 (pF_5 (S := sA (sA t28 b36 (((1 : Int32) + ((4 : Int32) * x1)) + (0 : Int32)) 1) b39 (((1 : Int32) + ((4 : Int32) * x1)) + (1 : Int32)) t30) v_x0.2) (fun w h => List.mem_cons_of_mem _ (List.mem_append_right _ h)) rfl 1 (by decide) (hts (.fieldLink RX5 7 "SharedModuliModel" "z" "[I") (List.mem_of_getElem? (i := 2) rfl)) (v := .ref b42) (congrArg (fun z => some (va_rf z)) e43) dX5_bare_81 ?_
      refine lv_iconst (v := 1) hx hb dX5_bare_84 (by decide) ?_
      refine lv_iconst (v := 4) hx hb dX5_bare_85 (by decide) ?_
      refine lv_iload_n hx hb dX5_bare_86 rfl (lv_at hl 3 rfl) ?_
      refine lv_imul hx hb dX5_bare_87 ?_
      refine lv_iadd hx hb dX5_bare_88 ?_
      refine lv_iconst (v := 2) hx hb dX5_bare_89 (by decide) ?_
      refine lv_iadd hx hb dX5_bare_90 ?_
      refine lv_iload_n hx hb dX5_bare_91 rfl (lv_at hl 0 rfl) ?_
      obtain ⟨c44, hf⟩ := ckd_some hf
      refine q_iast F hK hw v_b42 c44 dX5_bare_92 (fun H locs hw => ?_)
      refine lv_iload_n hx hb dX5_bare_93 rfl (lv_at hl 0 rfl) ?_
      exact W.iret (v := t33) hx hb hr (fun t ht hW => ⟨⟨_, (sA (sA (sA t28 b36 (((1 : Int32) + ((4 : Int32) * x1)) + (0 : Int32)) 1) b39 (((1 : Int32) + ((4 : Int32) * x1)) + (1 : Int32)) t30) b42 (((1 : Int32) + ((4 : Int32) * x1)) + (2 : Int32)) t33, n), rfl, po2 hf, BW.of hw hE ht⟩, hw.2.2.1.F ht⟩) hw.2.2.1.2.2 dX5_bare_94
    · have hf := it_f c27 hf
      refine lv_iconst (v := 0) hx hb dX5_bare_36 (by decide) ?_
      exact W.iret (v := 0) hx hb hr (fun t ht hW => ⟨⟨_, (sI Sb 80 s0 s1, n), rfl, po2 hf, BW.of hw hE ht⟩, hw.2.2.1.F ht⟩) hw.2.2.1.2.2 dX5_bare_37
  have hl := lv_entry ([.ref y0, .int y1]) (n := 4) (Nat.le_of_ble_eq_true rfl)
  rw [lg_entry_eq]
  generalize (lg_sl ([.ref y0, .int y1]) ++ List.replicate (4 - (lg_sl ([.ref y0, .int y1])).length) Slot.unset).toArray = ls at hl ⊢
  have hl : lv_has ls 4 [(0, .ref y0), (1, .int y1)] := hl
  unfold f_X5_bare at hf
  refine lv_aload_n hx hb dX5_bare_0 rfl (lv_at hl 0 rfl) ?_
  refine lv_aload_n hx hb dX5_bare_1 rfl (lv_at hl 0 rfl) ?_
  refine lv_iload_n hx hb dX5_bare_2 rfl (lv_at hl 1 rfl) ?_
  obtain ⟨t45, h46, hf⟩ := bd_some hf
  refine vp_callSi (va_runV (As := [.int y1]) (rest := [.ref y0]) F (c_X5_isThere l D cy (H := _) hw.1 v_y0 h46) (cwV 1 hts gX5_bare_X5_isThere rfl rfl rfl ⟨rfl, ph_X5_isThere.1, ph_X5_isThere.2, pd_X5_isThere⟩ ⟨Nat.le_of_ble_eq_true rfl, Nat.le_of_ble_eq_true rfl⟩) ⟨PcR.bl, (q_rcv hK hw.1 v_y0.1 (pF_5 (S := S) v_y0.2) rfl), PcR.in hK⟩ rfl rfl hl.1 rfl (lv_room (Nat.le_of_ble_eq_true rfl)) dX5_bare_3 ⟨Nat.zero_le _, Nat.zero_le _⟩).run (fun r47 er47 => ?_)
  subst r47
  refine lv_if_ne (tgt := 13) hx hb dX5_bare_6 (by decide) (fun c48 => ?_) (fun c48 => ?_)
  · have hf := it_f c48 hf
    refine lv_aload_n hx hb dX5_bare_13 rfl (lv_at hl 0 rfl) ?_
    refine lv_iload_n hx hb dX5_bare_14 rfl (lv_at hl 1 rfl) ?_
    obtain ⟨t49, h50, hf⟩ := bd_some hf
    refine vp_callSi (va_runV (As := [.int y1]) (rest := [.ref y0]) F (c_X5_isVoid l D cy (H := _) hw.1 v_y0 h50) (cwV 1 hts gX5_bare_X5_isVoid rfl rfl rfl ⟨rfl, ph_X5_isVoid.1, ph_X5_isVoid.2, pd_X5_isVoid⟩ ⟨Nat.le_of_ble_eq_true rfl, Nat.le_of_ble_eq_true rfl⟩) ⟨PcR.bl, (q_rcv hK hw.1 v_y0.1 (pF_5 (S := S) v_y0.2) rfl), PcR.in hK⟩ rfl rfl hl.1 rfl (lv_room (Nat.le_of_ble_eq_true rfl)) dX5_bare_15 ⟨Nat.zero_le _, Nat.zero_le _⟩).run (fun r51 er51 => ?_)
    subst r51
    refine lv_if_eq (tgt := 25) hx hb dX5_bare_18 (by decide) (fun c52 => ?_) (fun c52 => ?_)
    · have hf := it_t c52 hf
      refine lv_iconst (v := 0) hx hb dX5_bare_25 (by decide) ?_
      exact hB26 S _ _ y0 y1 y0 0 _ (lv_sub hl [0, 1] rfl) hw hE v_y0 v_y0 hf
    · have hf := it_f c52 hf
      refine lv_iconst (v := 2) hx hb dX5_bare_21 (by decide) ?_
      refine lv_goto (tgt := 26) hx hb dX5_bare_22 (by decide) ?_
      exact hB26 S _ _ y0 y1 y0 2 _ (lv_sub hl [0, 1] rfl) hw hE v_y0 v_y0 hf
  · have hf := it_t c48 hf
    refine lv_iconst (v := 1) hx hb dX5_bare_9 (by decide) ?_
    refine lv_goto (tgt := 26) hx hb dX5_bare_10 (by decide) ?_
    exact hB26 S _ _ y0 y1 y0 1 _ (lv_sub hl [0, 1] rfl) hw hE v_y0 v_y0 hf
def f_X5_thin_B77 (S : PS) (x1 : Int32) : Option (Int32 × PS) :=
  some (x1, S)
def f_X5_thin_B71 (kL37 : PS → Nat → Int32 → Int32 → Option (Int32 × PS)) (ke77 : PS → Int32 → Option (Int32 × PS)) (S : PS) (x0 : Nat) (x1 : Int32) (x2 : Int32) : Option (Int32 × PS) :=
  kL37 S x0 x1 (x2 + 1)
def f_X5_thin_L37s (kL37 : PS → Nat → Int32 → Int32 → Option (Int32 × PS)) (ke77 : PS → Int32 → Option (Int32 × PS)) (S : PS) (x0 : Nat) (x1 : Int32) (x2 : Int32) : Option (Int32 × PS) :=
  rq (fR S 81 x0) S 6 fun b1 =>
  ck (decide (¬ ((0 : Int32) < 0 ∨ aN S b1 ≤ (0 : Int32).toNatClampNeg))) (
  if (aI S b1 (0 : Int32).toNatClampNeg) ≤ x2 then (ke77 S x1) else
  bd (f_X5_isTold S x0 x2) fun t5 =>
  if t5.1 = 0 then (f_X5_thin_B71 kL37 ke77 t5.2 x0 x1 x2) else
  rq (fR t5.2 81 x0) t5.2 6 fun b8 =>
  ck (decide (¬ ((((1 : Int32) + ((4 : Int32) * x2)) + (3 : Int32)) < 0 ∨ aN t5.2 b8 ≤ (((1 : Int32) + ((4 : Int32) * x2)) + (3 : Int32)).toNatClampNeg))) (
  f_X5_thin_B71 kL37 ke77 (sA t5.2 b8 (((1 : Int32) + ((4 : Int32) * x2)) + (3 : Int32)) 0) x0 (x1 + 1) x2))
def f_X5_thin_L37 (ke77 : PS → Int32 → Option (Int32 × PS)) (fu : Nat) : PS → Nat → Int32 → Int32 → Option (Int32 × PS) := fx (fun kL => f_X5_thin_L37s kL ke77) (fun _ _ _ _ => none) fu
def f_X5_thin_B17 (S : PS) (x0 : Nat) (s0 : Nat) (s1 : Int32) : Option (Int32 × PS) :=
  if (fI (sI S 80 s0 s1) 80 x0) ≤ 0 then (bd (f_X5_save (sI S 80 s0 s1) x0) fun t12 =>
  f_X5_thin_L37 f_X5_thin_B77 FU t12 x0 0 0) else
  some (0, sI S 80 s0 s1)
def f_X5_thin (S : PS) (x0 : Nat) : Option (Int32 × PS) :=
  bd (f_X5_onSet S x0) fun t14 =>
  bd (f_X5_isPossible S x0 t14) fun t17 =>
  if t17 = 0 then (f_X5_thin_B17 S x0 x0 1) else
  f_X5_thin_B17 S x0 x0 0
set_option maxHeartbeats 4000000 in
set_option maxRecDepth 100000 in
theorem c_X5_thin (l : Launch) (D : va_G) (cy : cyT) {S : PS} {n : Nat} {y0 : Nat} (v_y0 : vd S y0 5) {res : Int32 × PS} (hf : f_X5_thin S y0 = some res) : Met l yX5_thin wsX5_thin ({ frames := 7, cells := 0, slots := 0, locals := 158 } : Room) (PcW False D cy S n [.ref y0]) (va_Qi (fun (r : Int32) (u : PS × Nat) => r = res.1 ∧ u = (res.2, n)) (BW D cy S n) (AA cy S n)) 0 0 (AA cy S n) := by
  refine Met.ofW (cc := cX5_thin) (maxL := 3) (ret := (some .int)) (by decide) rfl ?_
  intro p e s m args below meth c s₁ B hml hv
  obtain ⟨hav, hsz, hP0, hD0, hK, hZ0⟩ := hv
  have hx := B.exec
  have hb := B.bytes
  have hr := B.returns
  have hts := atoms_spec (ws := wsX5_thin) B.pre
  have hown : s.vm.findClass RX5 = some m.cls := findClass_of_methodNamed B.named
  have hlocks := B.notSynchronized
  subst hav
  have hw : Hw D cy (AA cy S n) s.heap S n s.heap [] := Hw.start hsz hP0 hD0
  have hA : ∀ q, s.heap.size ≤ q → AA cy S n q := fun q h => Or.inr (hsz ▸ h)
  have hE : EX S S := EX.rf
  have F : CallFix p m c cX5_thin 3 s _ wsX5_thin RX5 := ⟨hx, hb, hml, hown, hts⟩
  have hB77 : ∀ (Sb : PS) (H1 : Heap) (lo1 : List Loc) (x1 : Int32) (ls : Array Slot), lv_has ls 3 [(1, .int x1)] → Hw D cy (AA cy S n) s.heap Sb n H1 lo1 → EX S Sb → f_X5_thin_B77 Sb x1 = some res → W p l e (headSpec wsX5_thin ({ frames := 7, cells := 0, slots := 0, locals := 158 } : Room)).room s m ([.ref y0] : List Value).toArray below meth c H1 lo1 0 0 (MQ below (va_Qi (fun (r : Int32) (u : PS × Nat) => r = res.1 ∧ u = (res.2, n)) (BW D cy S n) (AA cy S n)) ([.ref y0] : List Value).toArray s 0 0 (AA cy S n)) (F0 m 77 ls []) := by
    intro Sb H1 lo1 x1 ls hl hw hE hf
    unfold f_X5_thin_B77 at hf
    refine lv_iload_n hx hb dX5_thin_77 rfl (lv_at hl 0 rfl) ?_
    exact W.iret (v := x1) hx hb hr (fun t ht hW => ⟨⟨_, (Sb, n), rfl, po2 hf, BW.of hw hE ht⟩, hw.2.2.1.F ht⟩) hw.2.2.1.2.2 dX5_thin_78
  have hL37 : ∀ (fu37 : Nat), ∀ (Sb : PS) (H1 : Heap) (lo1 : List Loc) (x0 : Nat) (x1 : Int32) (x2 : Int32) (ls : Array Slot), lv_has ls 3 [(0, .ref x0), (1, .int x1), (2, .int x2)] → Hw D cy (AA cy S n) s.heap Sb n H1 lo1 → EX S Sb → vd Sb x0 5 → f_X5_thin_L37 f_X5_thin_B77 fu37 Sb x0 x1 x2 = some res → W p l e (headSpec wsX5_thin ({ frames := 7, cells := 0, slots := 0, locals := 158 } : Room)).room s m ([.ref y0] : List Value).toArray below meth c H1 lo1 0 0 (MQ below (va_Qi (fun (r : Int32) (u : PS × Nat) => r = res.1 ∧ u = (res.2, n)) (BW D cy S n) (AA cy S n)) ([.ref y0] : List Value).toArray s 0 0 (AA cy S n)) (F0 m 37 ls []) := by
    intro fu37
    induction fu37 with
    | zero =>
      intro Sb H1 lo1 x0 x1 x2 ls hl hw hE v_x0 hf
      have hf : (none : Option (Int32 × PS)) = some res := hf
      cases hf
    | succ fu37 ih37 =>
      have hB71 : ∀ (Sb : PS) (H1 : Heap) (lo1 : List Loc) (x0 : Nat) (x1 : Int32) (x2 : Int32) (ls : Array Slot), lv_has ls 3 [(0, .ref x0), (1, .int x1), (2, .int x2)] → Hw D cy (AA cy S n) s.heap Sb n H1 lo1 → EX S Sb → vd Sb x0 5 → f_X5_thin_B71 (f_X5_thin_L37 f_X5_thin_B77 fu37) f_X5_thin_B77 Sb x0 x1 x2 = some res → W p l e (headSpec wsX5_thin ({ frames := 7, cells := 0, slots := 0, locals := 158 } : Room)).room s m ([.ref y0] : List Value).toArray below meth c H1 lo1 0 0 (MQ below (va_Qi (fun (r : Int32) (u : PS × Nat) => r = res.1 ∧ u = (res.2, n)) (BW D cy S n) (AA cy S n)) ([.ref y0] : List Value).toArray s 0 0 (AA cy S n)) (F0 m 71 ls []) := by
        intro Sb H1 lo1 x0 x1 x2 ls hl hw hE v_x0 hf
        unfold f_X5_thin_B71 at hf
        refine lv_iinc (v := x2 + 1) (lv' := [(2, .int (x2 + 1)), (0, .ref x0), (1, .int x1)]) hx hb dX5_thin_71 hl (k := 2) rfl (by rfl) (by decide) rfl (fun ls hl => ?_)
        refine lv_goto (tgt := 37) hx hb dX5_thin_74 (by decide) ?_
        exact ih37 Sb _ _ x0 x1 (x2 + 1) _ (lv_sub hl [1, 2, 0] rfl) hw hE v_x0 hf
      intro Sb H1 lo1 x0 x1 x2 ls hl hw hE v_x0 hf
      have hf : f_X5_thin_L37s (f_X5_thin_L37 f_X5_thin_B77 fu37) f_X5_thin_B77 Sb x0 x1 x2 = some res := hf
      unfold f_X5_thin_L37s at hf
      refine lv_iload_n hx hb dX5_thin_37 rfl (lv_at hl 2 rfl) ?_
      refine lv_aload_n hx hb dX5_thin_38 rfl (lv_at hl 0 rfl) ?_
      obtain ⟨b21, e22, v_b21, hf⟩ := rq_some hf
      refine q_get F hK hw.1 v_x0.1 (pF_5 (S := Sb) v_x0.2) (fun w h => List.mem_cons_of_mem _ (List.mem_append_right _ h)) rfl 1 (by decide) (hts (.fieldLink RX5 7 "SharedModuliModel" "z" "[I") (List.mem_of_getElem? (i := 2) rfl)) (v := .ref b21) (congrArg (fun z => some (va_rf z)) e22) dX5_thin_39 ?_
      refine lv_iconst (v := 0) hx hb dX5_thin_42 (by decide) ?_
      obtain ⟨c23, hf⟩ := ckd_some hf
      refine q_iald F hK hw.1 v_b21 c23 dX5_thin_43 ?_
      refine lv_icmp_ge (tgt := 77) hx hb dX5_thin_44 (by decide) (fun c24 => ?_) (fun c24 => ?_)
      · have hf := it_t c24 hf
        exact hB77 Sb _ _ x1 _ (lv_sub hl [1] rfl) hw hE  hf
      · have hf := it_f c24 hf
        refine lv_aload_n hx hb dX5_thin_47 rfl (lv_at hl 0 rfl) ?_
        refine lv_iload_n hx hb dX5_thin_48 rfl (lv_at hl 2 rfl) ?_
        obtain ⟨t25, h26, hf⟩ := bd_some hf
        refine q_calli (va_runV (As := [.int x2]) (rest := []) F (c_X5_isTold l D cy (S := Sb) v_x0 h26) (cwV 1 hts gX5_thin_X5_isTold rfl rfl rfl ⟨rfl, ph_X5_isTold.1, ph_X5_isTold.2, pd_X5_isTold⟩ ⟨Nat.le_of_ble_eq_true rfl, Nat.le_of_ble_eq_true rfl⟩) ⟨PcW.bl, (q_rcv hK hw.1 v_x0.1 (pF_5 (S := Sb) v_x0.2) rfl), PcW.in hK hw hA (fun z => z.elim)⟩ rfl rfl hl.1 rfl (lv_room (Nat.le_of_ble_eq_true rfl)) dX5_thin_49 ⟨Nat.zero_le _, Nat.zero_le _⟩) hw hA (fun H locs hw hX => ?_)
        have hE := hE.tr hX
        have v_x0 := hX _ _ v_x0
        have v_b21 := hX _ _ v_b21
        refine lv_if_eq (tgt := 71) hx hb dX5_thin_52 (by decide) (fun c27 => ?_) (fun c27 => ?_)
        · have hf := it_t c27 hf
          exact hB71 t25.2 _ _ x0 x1 x2 _ (lv_sub hl [0, 1, 2] rfl) hw hE v_x0 hf
        · have hf := it_f c27 hf
          refine lv_aload_n hx hb dX5_thin_55 rfl (lv_at hl 0 rfl) ?_
          obtain ⟨b28, e29, v_b28, hf⟩ := rq_some hf
          refine q_get F hK hw.1 v_x0.1 (pF_5 (S := t25.2) v_x0.2) (fun w h => List.mem_cons_of_mem _ (List.mem_append_right _ h)) rfl 1 (by decide) (hts (.fieldLink RX5 7 "SharedModuliModel" "z" "[I") (List.mem_of_getElem? (i := 2) rfl)) (v := .ref b28) (congrArg (fun z => some (va_rf z)) e29) dX5_thin_56 ?_
          refine lv_iconst (v := 1) hx hb dX5_thin_59 (by decide) ?_
          refine lv_iconst (v := 4) hx hb dX5_thin_60 (by decide) ?_
          refine lv_iload_n hx hb dX5_thin_61 rfl (lv_at hl 2 rfl) ?_
          refine lv_imul hx hb dX5_thin_62 ?_
          refine lv_iadd hx hb dX5_thin_63 ?_
          refine lv_iconst (v := 3) hx hb dX5_thin_64 (by decide) ?_
          refine lv_iadd hx hb dX5_thin_65 ?_
          refine lv_iconst (v := 0) hx hb dX5_thin_66 (by decide) ?_
          obtain ⟨c30, hf⟩ := ckd_some hf
          refine q_iast F hK hw v_b28 c30 dX5_thin_67 (fun H locs hw => ?_)
          refine lv_iinc (v := x1 + 1) (lv' := [(1, .int (x1 + 1)), (0, .ref x0), (2, .int x2)]) hx hb dX5_thin_68 hl (k := 1) rfl (by rfl) (by decide) rfl (fun ls hl => ?_)
          exact hB71 (sA t25.2 b28 (((1 : Int32) + ((4 : Int32) * x2)) + (3 : Int32)) 0) _ _ x0 (x1 + 1) x2 _ (lv_sub hl [1, 0, 2] rfl) hw hE v_x0 hf
  have hB17 : ∀ (Sb : PS) (H1 : Heap) (lo1 : List Loc) (x0 : Nat) (s0 : Nat) (s1 : Int32) (ls : Array Slot), lv_has ls 3 [(0, .ref x0)] → Hw D cy (AA cy S n) s.heap Sb n H1 lo1 → EX S Sb → vd Sb x0 5 → vd Sb s0 5 → f_X5_thin_B17 Sb x0 s0 s1 = some res → W p l e (headSpec wsX5_thin ({ frames := 7, cells := 0, slots := 0, locals := 158 } : Room)).room s m ([.ref y0] : List Value).toArray below meth c H1 lo1 0 0 (MQ below (va_Qi (fun (r : Int32) (u : PS × Nat) => r = res.1 ∧ u = (res.2, n)) (BW D cy S n) (AA cy S n)) ([.ref y0] : List Value).toArray s 0 0 (AA cy S n)) (F0 m 17 ls [.int s1, .ref s0]) := by
    intro Sb H1 lo1 x0 s0 s1 ls hl hw hE v_x0 v_s0 hf
    unfold f_X5_thin_B17 at hf
    refine q_put F hK hw v_s0.1 (pF_5 (S := Sb) v_s0.2) (fun w h => List.mem_cons_of_mem _ (List.mem_append_right _ h)) tyX5 tyX5_ok nmX5 rfl 0 (by decide) (hts (.fieldLink RX5 22 "SharedModuliModel" "thrown" "I") (List.mem_of_getElem? (i := 1) rfl)) (Or.inl rfl) (tyX5_ok 0 (by decide)) rfl rfl (Nat.le_of_ble_eq_true rfl) (S1 := sI Sb 80 s0 s1) (st_80 (S := Sb) v_s0.2 s1) dX5_thin_17 (fun H locs hw => ?_)
    refine lv_aload_n hx hb dX5_thin_20 rfl (lv_at hl 0 rfl) ?_
    refine q_get F hK hw.1 v_x0.1 (pF_5 (S := sI Sb 80 s0 s1) v_x0.2) (fun w h => List.mem_cons_of_mem _ (List.mem_append_right _ h)) rfl 0 (by decide) (hts (.fieldLink RX5 22 "SharedModuliModel" "thrown" "I") (List.mem_of_getElem? (i := 1) rfl)) (v := .int (fI (sI Sb 80 s0 s1) 80 x0)) rfl dX5_thin_21 ?_
    refine lv_if_le (tgt := 29) hx hb dX5_thin_24 (by decide) (fun c31 => ?_) (fun c31 => ?_)
    · have hf := it_t c31 hf
      refine lv_aload_n hx hb dX5_thin_29 rfl (lv_at hl 0 rfl) ?_
      obtain ⟨t32, h33, hf⟩ := bd_some hf
      refine q_callv (va_runV (As := []) (rest := []) F (c_X5_save l D cy (S := sI Sb 80 s0 s1) v_x0 h33) (cwV 0 hts gX5_thin_X5_save rfl rfl rfl ⟨rfl, ph_X5_save.1, ph_X5_save.2, pd_X5_save⟩ ⟨Nat.le_of_ble_eq_true rfl, Nat.le_of_ble_eq_true rfl⟩) ⟨PcW.bl, (q_rcv hK hw.1 v_x0.1 (pF_5 (S := sI Sb 80 s0 s1) v_x0.2) rfl), PcW.in hK hw hA (fun z => z.elim)⟩ rfl rfl hl.1 rfl (lv_room (Nat.le_of_ble_eq_true rfl)) dX5_thin_30 ⟨Nat.zero_le _, Nat.zero_le _⟩) hw hA (fun H locs hw hX => ?_)
      have hE := hE.tr hX
      have v_x0 := hX _ _ v_x0
      have v_s0 := hX _ _ v_s0
      refine lv_iconst (v := 0) hx hb dX5_thin_33 (by decide) ?_
      refine lv_istore_n (lv' := [(1, .int 0), (0, .ref x0)]) hx hb dX5_thin_34 rfl hl (by decide) rfl (fun ls hl => ?_)
      refine lv_iconst (v := 0) hx hb dX5_thin_35 (by decide) ?_
      refine lv_istore_n (lv' := [(2, .int 0), (1, .int 0), (0, .ref x0)]) hx hb dX5_thin_36 rfl hl (by decide) rfl (fun ls hl => ?_)
      exact hL37 FU t32 _ _ x0 0 0 _ (lv_sub hl [2, 1, 0] rfl) hw hE v_x0 hf
    · have hf := it_f c31 hf
      refine lv_iconst (v := 0) hx hb dX5_thin_27 (by decide) ?_
      exact W.iret (v := 0) hx hb hr (fun t ht hW => ⟨⟨_, (sI Sb 80 s0 s1, n), rfl, po2 hf, BW.of hw hE ht⟩, hw.2.2.1.F ht⟩) hw.2.2.1.2.2 dX5_thin_28
  have hl := lv_entry ([.ref y0]) (n := 3) (Nat.le_of_ble_eq_true rfl)
  rw [lg_entry_eq]
  generalize (lg_sl ([.ref y0]) ++ List.replicate (3 - (lg_sl ([.ref y0])).length) Slot.unset).toArray = ls at hl ⊢
  have hl : lv_has ls 3 [(0, .ref y0)] := hl
  unfold f_X5_thin at hf
  refine lv_aload_n hx hb dX5_thin_0 rfl (lv_at hl 0 rfl) ?_
  refine lv_aload_n hx hb dX5_thin_1 rfl (lv_at hl 0 rfl) ?_
  refine lv_aload_n hx hb dX5_thin_2 rfl (lv_at hl 0 rfl) ?_
  obtain ⟨t34, h35, hf⟩ := bd_some hf
  refine vp_callSi (va_runV (As := []) (rest := [.ref y0, .ref y0]) F (c_X5_onSet l D cy (H := _) hw.1 v_y0 h35) (cwV 0 hts gX5_thin_X5_onSet rfl rfl rfl ⟨rfl, ph_X5_onSet.1, ph_X5_onSet.2, pd_X5_onSet⟩ ⟨Nat.le_of_ble_eq_true rfl, Nat.le_of_ble_eq_true rfl⟩) ⟨PcR.bl, (q_rcv hK hw.1 v_y0.1 (pF_5 (S := S) v_y0.2) rfl), PcR.in hK⟩ rfl rfl hl.1 rfl (lv_room (Nat.le_of_ble_eq_true rfl)) dX5_thin_3 ⟨Nat.zero_le _, Nat.zero_le _⟩).run (fun r36 er36 => ?_)
  subst r36
  obtain ⟨t37, h38, hf⟩ := bd_some hf
  refine vp_callSi (va_runV (As := [.int t34]) (rest := [.ref y0]) F (c_X5_isPossible l D cy (H := _) hw.1 v_y0 h38) (cwV 1 hts gX5_thin_X5_isPossible rfl rfl rfl ⟨rfl, ph_X5_isPossible.1, ph_X5_isPossible.2, pd_X5_isPossible⟩ ⟨Nat.le_of_ble_eq_true rfl, Nat.le_of_ble_eq_true rfl⟩) ⟨PcR.bl, (q_rcv hK hw.1 v_y0.1 (pF_5 (S := S) v_y0.2) rfl), PcR.in hK⟩ rfl rfl hl.1 rfl (lv_room (Nat.le_of_ble_eq_true rfl)) dX5_thin_6 ⟨Nat.zero_le _, Nat.zero_le _⟩).run (fun r39 er39 => ?_)
  subst r39
  refine lv_if_eq (tgt := 16) hx hb dX5_thin_9 (by decide) (fun c40 => ?_) (fun c40 => ?_)
  · have hf := it_t c40 hf
    refine lv_iconst (v := 1) hx hb dX5_thin_16 (by decide) ?_
    exact hB17 S _ _ y0 y0 1 _ (lv_sub hl [0] rfl) hw hE v_y0 v_y0 hf
  · have hf := it_f c40 hf
    refine lv_iconst (v := 0) hx hb dX5_thin_12 (by decide) ?_
    refine lv_goto (tgt := 17) hx hb dX5_thin_13 (by decide) ?_
    exact hB17 S _ _ y0 y0 0 _ (lv_sub hl [0] rfl) hw hE v_y0 v_y0 hf
def f_X5_bits_B20 (x1 : Int32) : Option Int32 :=
  some x1
def f_X5_bits_L4s (kL4 : Int32 → Int32 → Option Int32) (ke20 : Int32 → Option Int32) (x1 : Int32) (x2 : Int32) : Option Int32 :=
  if x2 = 0 then (ke20 x1) else
  kL4 (x1 + 1) (x2 &&& (x2 - (1 : Int32)))
def f_X5_bits_L4 (ke20 : Int32 → Option Int32) (fu : Nat) : Int32 → Int32 → Option Int32 := fx (fun kL => f_X5_bits_L4s kL ke20) (fun _ _ => none) fu
def f_X5_bits (x0 : Int32) : Option Int32 :=
  f_X5_bits_L4 f_X5_bits_B20 FU 0 x0
set_option maxHeartbeats 4000000 in
set_option maxRecDepth 100000 in
theorem c_X5_bits (l : Launch) (D : va_G) (cy : cyT) {H : Heap} {y0 : Int32}  {res : Int32} (hf : f_X5_bits y0 = some res) : Met l yX5_bits wsX5_bits ({ frames := 0, cells := 0, slots := 0, locals := 0 } : Room) (PcR D cy H [.int y0]) (vp_Si (fun r => r = res)) 0 0 (fun _ => False) := by
  refine Met.ofW (cc := cX5_bits) (maxL := 3) (ret := (some .int)) (by decide) rfl ?_
  intro p e s m args below meth c s₁ B hml hv
  obtain ⟨hav, hH, hK⟩ := hv
  have hx := B.exec
  have hb := B.bytes
  have hr := B.returns
  have hts := atoms_spec (ws := wsX5_bits) B.pre
  have hown : s.vm.findClass RX5 = some m.cls := findClass_of_methodNamed B.named
  have hlocks := B.notSynchronized
  subst hav
  subst hH
  have F : CallFix p m c cX5_bits 3 s _ wsX5_bits RX5 := ⟨hx, hb, hml, hown, hts⟩
  have hB20 : ∀ (x1 : Int32) (ls : Array Slot), lv_has ls 3 [(1, .int x1)] → f_X5_bits_B20 x1 = some res → W p l e (headSpec wsX5_bits ({ frames := 0, cells := 0, slots := 0, locals := 0 } : Room)).room s m ([.int y0] : List Value).toArray below meth c s.heap [] 0 0 (MQ below (vp_Si (fun r => r = res)) ([.int y0] : List Value).toArray s 0 0 (fun _ => False)) (F0 m 20 ls []) := by
    intro x1 ls hl hf
    unfold f_X5_bits_B20 at hf
    refine lv_iload_n hx hb dX5_bits_20 rfl (lv_at hl 0 rfl) ?_
    exact W.iret (v := x1) hx hb hr (fun t ht hW => ⟨_, rfl, Option.some.inj hf, ht⟩) (fun _ h => by cases h) dX5_bits_21
  have hL4 : ∀ (fu4 : Nat), ∀ (x1 : Int32) (x2 : Int32) (ls : Array Slot), lv_has ls 3 [(1, .int x1), (2, .int x2)] → f_X5_bits_L4 f_X5_bits_B20 fu4 x1 x2 = some res → W p l e (headSpec wsX5_bits ({ frames := 0, cells := 0, slots := 0, locals := 0 } : Room)).room s m ([.int y0] : List Value).toArray below meth c s.heap [] 0 0 (MQ below (vp_Si (fun r => r = res)) ([.int y0] : List Value).toArray s 0 0 (fun _ => False)) (F0 m 4 ls []) := by
    intro fu4
    induction fu4 with
    | zero =>
      intro x1 x2 ls hl hf
      have hf : (none : Option Int32) = some res := hf
      cases hf
    | succ fu4 ih4 =>
      intro x1 x2 ls hl hf
      have hf : f_X5_bits_L4s (f_X5_bits_L4 f_X5_bits_B20 fu4) f_X5_bits_B20 x1 x2 = some res := hf
      unfold f_X5_bits_L4s at hf
      refine lv_iload_n hx hb dX5_bits_4 rfl (lv_at hl 1 rfl) ?_
      refine lv_if_eq (tgt := 20) hx hb dX5_bits_5 (by decide) (fun c2 => ?_) (fun c2 => ?_)
      · have hf := it_t c2 hf
        exact hB20 x1 _ (lv_sub hl [0] rfl)  hf
      · have hf := it_f c2 hf
        refine lv_iinc (v := x1 + 1) (lv' := [(1, .int (x1 + 1)), (2, .int x2)]) hx hb dX5_bits_8 hl (k := 0) rfl (by rfl) (by decide) rfl (fun ls hl => ?_)
        refine lv_iload_n hx hb dX5_bits_11 rfl (lv_at hl 1 rfl) ?_
        refine lv_iload_n hx hb dX5_bits_12 rfl (lv_at hl 1 rfl) ?_
        refine lv_iconst (v := 1) hx hb dX5_bits_13 (by decide) ?_
        refine lv_isub hx hb dX5_bits_14 ?_
        refine lv_iand hx hb dX5_bits_15 ?_
        refine lv_istore_n (lv' := [(2, .int (x2 &&& (x2 - (1 : Int32)))), (1, .int (x1 + 1))]) hx hb dX5_bits_16 rfl hl (by decide) rfl (fun ls hl => ?_)
        refine lv_goto (tgt := 4) hx hb dX5_bits_17 (by decide) ?_
        exact ih4 (x1 + 1) (x2 &&& (x2 - (1 : Int32))) _ (lv_sub hl [1, 0] rfl)  hf
  have hl := lv_entry ([.int y0]) (n := 3) (Nat.le_of_ble_eq_true rfl)
  rw [lg_entry_eq]
  generalize (lg_sl ([.int y0]) ++ List.replicate (3 - (lg_sl ([.int y0])).length) Slot.unset).toArray = ls at hl ⊢
  have hl : lv_has ls 3 [(0, .int y0)] := hl
  unfold f_X5_bits at hf
  refine lv_iconst (v := 0) hx hb dX5_bits_0 (by decide) ?_
  refine lv_istore_n (lv' := [(1, .int 0), (0, .int y0)]) hx hb dX5_bits_1 rfl hl (by decide) rfl (fun ls hl => ?_)
  refine lv_iload_n hx hb dX5_bits_2 rfl (lv_at hl 1 rfl) ?_
  refine lv_istore_n (lv' := [(2, .int y0), (1, .int 0), (0, .int y0)]) hx hb dX5_bits_3 rfl hl (by decide) rfl (fun ls hl => ?_)
  exact hL4 FU 0 y0 _ (lv_sub hl [1, 0] rfl)  hf
def f_X5_mostTogether_B47 (S : PS) (x1 : Int32) : Option Int32 :=
  some x1
def f_X5_mostTogether_B40 (S : PS) (kL4 : Nat → Int32 → Int32 → Option Int32) (ke47 : Int32 → Option Int32) (x0 : Nat) (x2 : Int32) (s0 : Int32) : Option Int32 :=
  kL4 x0 s0 (x2 + 1)
def f_X5_mostTogether_B39 (S : PS) (kL4 : Nat → Int32 → Int32 → Option Int32) (ke47 : Int32 → Option Int32) (x0 : Nat) (x1 : Int32) (x2 : Int32) : Option Int32 :=
  f_X5_mostTogether_B40 S kL4 ke47 x0 x2 x1
def f_X5_mostTogether_L4s (S : PS) (kL4 : Nat → Int32 → Int32 → Option Int32) (ke47 : Int32 → Option Int32) (x0 : Nat) (x1 : Int32) (x2 : Int32) : Option Int32 :=
  rq (fR S 81 x0) S 6 fun b1 =>
  ck (decide (¬ ((0 : Int32) < 0 ∨ aN S b1 ≤ (0 : Int32).toNatClampNeg))) (
  if ((1 : Int32) <<< ((aI S b1 (0 : Int32).toNatClampNeg) &&& 31)) ≤ x2 then (ke47 x1) else
  bd (f_X5_bits x2) fun t5 =>
  bd (f_X5_bits x1) fun t8 =>
  if t5 ≤ t8 then (f_X5_mostTogether_B39 S kL4 ke47 x0 x1 x2) else
  bd (f_X5_isPossible S x0 x2) fun t12 =>
  if t12 = 0 then (f_X5_mostTogether_B39 S kL4 ke47 x0 x1 x2) else
  f_X5_mostTogether_B40 S kL4 ke47 x0 x2 x2)
def f_X5_mostTogether_L4 (S : PS) (ke47 : Int32 → Option Int32) (fu : Nat) : Nat → Int32 → Int32 → Option Int32 := fx (fun kL => f_X5_mostTogether_L4s S kL ke47) (fun _ _ _ => none) fu
def f_X5_mostTogether (S : PS) (x0 : Nat) : Option Int32 :=
  f_X5_mostTogether_L4 S (f_X5_mostTogether_B47 S) FU x0 0 1
set_option maxHeartbeats 4000000 in
set_option maxRecDepth 100000 in
theorem c_X5_mostTogether (l : Launch) (D : va_G) (cy : cyT) {H : Heap} {S : PS} (hP : va_P D vwCl (wl cy S) H) {y0 : Nat} (v_y0 : vd S y0 5) {res : Int32} (hf : f_X5_mostTogether S y0 = some res) : Met l yX5_mostTogether wsX5_mostTogether ({ frames := 4, cells := 0, slots := 0, locals := 93 } : Room) (PcR D cy H [.ref y0]) (vp_Si (fun r => r = res)) 0 0 (fun _ => False) := by
  refine Met.ofW (cc := cX5_mostTogether) (maxL := 3) (ret := (some .int)) (by decide) rfl ?_
  intro p e s m args below meth c s₁ B hml hv
  obtain ⟨hav, hH, hK⟩ := hv
  have hx := B.exec
  have hb := B.bytes
  have hr := B.returns
  have hts := atoms_spec (ws := wsX5_mostTogether) B.pre
  have hown : s.vm.findClass RX5 = some m.cls := findClass_of_methodNamed B.named
  have hlocks := B.notSynchronized
  subst hav
  subst hH
  have F : CallFix p m c cX5_mostTogether 3 s _ wsX5_mostTogether RX5 := ⟨hx, hb, hml, hown, hts⟩
  have hB47 : ∀ (x1 : Int32) (ls : Array Slot), lv_has ls 3 [(1, .int x1)] → f_X5_mostTogether_B47 S x1 = some res → W p l e (headSpec wsX5_mostTogether ({ frames := 4, cells := 0, slots := 0, locals := 93 } : Room)).room s m ([.ref y0] : List Value).toArray below meth c s.heap [] 0 0 (MQ below (vp_Si (fun r => r = res)) ([.ref y0] : List Value).toArray s 0 0 (fun _ => False)) (F0 m 47 ls []) := by
    intro x1 ls hl hf
    unfold f_X5_mostTogether_B47 at hf
    refine lv_iload_n hx hb dX5_mostTogether_47 rfl (lv_at hl 0 rfl) ?_
    exact W.iret (v := x1) hx hb hr (fun t ht hW => ⟨_, rfl, Option.some.inj hf, ht⟩) (fun _ h => by cases h) dX5_mostTogether_48
  have hL4 : ∀ (fu4 : Nat), ∀ (x0 : Nat) (x1 : Int32) (x2 : Int32) (ls : Array Slot), lv_has ls 3 [(0, .ref x0), (1, .int x1), (2, .int x2)] → vd S x0 5 → f_X5_mostTogether_L4 S (f_X5_mostTogether_B47 S) fu4 x0 x1 x2 = some res → W p l e (headSpec wsX5_mostTogether ({ frames := 4, cells := 0, slots := 0, locals := 93 } : Room)).room s m ([.ref y0] : List Value).toArray below meth c s.heap [] 0 0 (MQ below (vp_Si (fun r => r = res)) ([.ref y0] : List Value).toArray s 0 0 (fun _ => False)) (F0 m 4 ls []) := by
    intro fu4
    induction fu4 with
    | zero =>
      intro x0 x1 x2 ls hl v_x0 hf
      have hf : (none : Option Int32) = some res := hf
      cases hf
    | succ fu4 ih4 =>
      have hB40 : ∀ (x0 : Nat) (x2 : Int32) (s0 : Int32) (ls : Array Slot), lv_has ls 3 [(0, .ref x0), (2, .int x2)] → vd S x0 5 → f_X5_mostTogether_B40 S (f_X5_mostTogether_L4 S (f_X5_mostTogether_B47 S) fu4) (f_X5_mostTogether_B47 S) x0 x2 s0 = some res → W p l e (headSpec wsX5_mostTogether ({ frames := 4, cells := 0, slots := 0, locals := 93 } : Room)).room s m ([.ref y0] : List Value).toArray below meth c s.heap [] 0 0 (MQ below (vp_Si (fun r => r = res)) ([.ref y0] : List Value).toArray s 0 0 (fun _ => False)) (F0 m 40 ls [.int s0]) := by
        intro x0 x2 s0 ls hl v_x0 hf
        unfold f_X5_mostTogether_B40 at hf
        refine lv_istore_n (lv' := [(1, .int s0), (0, .ref x0), (2, .int x2)]) hx hb dX5_mostTogether_40 rfl hl (by decide) rfl (fun ls hl => ?_)
        refine lv_iinc (v := x2 + 1) (lv' := [(2, .int (x2 + 1)), (1, .int s0), (0, .ref x0)]) hx hb dX5_mostTogether_41 hl (k := 2) rfl (by rfl) (by decide) rfl (fun ls hl => ?_)
        refine lv_goto (tgt := 4) hx hb dX5_mostTogether_44 (by decide) ?_
        exact ih4 x0 s0 (x2 + 1) _ (lv_sub hl [2, 1, 0] rfl) v_x0 hf
      have hB39 : ∀ (x0 : Nat) (x1 : Int32) (x2 : Int32) (ls : Array Slot), lv_has ls 3 [(0, .ref x0), (1, .int x1), (2, .int x2)] → vd S x0 5 → f_X5_mostTogether_B39 S (f_X5_mostTogether_L4 S (f_X5_mostTogether_B47 S) fu4) (f_X5_mostTogether_B47 S) x0 x1 x2 = some res → W p l e (headSpec wsX5_mostTogether ({ frames := 4, cells := 0, slots := 0, locals := 93 } : Room)).room s m ([.ref y0] : List Value).toArray below meth c s.heap [] 0 0 (MQ below (vp_Si (fun r => r = res)) ([.ref y0] : List Value).toArray s 0 0 (fun _ => False)) (F0 m 39 ls []) := by
        intro x0 x1 x2 ls hl v_x0 hf
        unfold f_X5_mostTogether_B39 at hf
        refine lv_iload_n hx hb dX5_mostTogether_39 rfl (lv_at hl 1 rfl) ?_
        exact hB40 x0 x2 x1 _ (lv_sub hl [0, 2] rfl) v_x0 hf
      intro x0 x1 x2 ls hl v_x0 hf
      have hf : f_X5_mostTogether_L4s S (f_X5_mostTogether_L4 S (f_X5_mostTogether_B47 S) fu4) (f_X5_mostTogether_B47 S) x0 x1 x2 = some res := hf
      unfold f_X5_mostTogether_L4s at hf
      refine lv_iload_n hx hb dX5_mostTogether_4 rfl (lv_at hl 2 rfl) ?_
      refine lv_iconst (v := 1) hx hb dX5_mostTogether_5 (by decide) ?_
      refine lv_aload_n hx hb dX5_mostTogether_6 rfl (lv_at hl 0 rfl) ?_
      obtain ⟨b16, e17, v_b16, hf⟩ := rq_some hf
      refine q_get F hK hP v_x0.1 (pF_5 (S := S) v_x0.2) (fun w h => List.mem_cons_of_mem _ (List.mem_append_right _ h)) rfl 1 (by decide) (hts (.fieldLink RX5 7 "SharedModuliModel" "z" "[I") (List.mem_of_getElem? (i := 1) rfl)) (v := .ref b16) (congrArg (fun z => some (va_rf z)) e17) dX5_mostTogether_7 ?_
      refine lv_iconst (v := 0) hx hb dX5_mostTogether_10 (by decide) ?_
      obtain ⟨c18, hf⟩ := ckd_some hf
      refine q_iald F hK hP v_b16 c18 dX5_mostTogether_11 ?_
      refine lv_ishl hx hb dX5_mostTogether_12 ?_
      refine lv_icmp_ge (tgt := 47) hx hb dX5_mostTogether_13 (by decide) (fun c19 => ?_) (fun c19 => ?_)
      · have hf := it_t c19 hf
        exact hB47 x1 _ (lv_sub hl [1] rfl)  hf
      · have hf := it_f c19 hf
        refine lv_iload_n hx hb dX5_mostTogether_16 rfl (lv_at hl 2 rfl) ?_
        obtain ⟨t20, h21, hf⟩ := bd_some hf
        refine vp_callSi (va_runS (As := [.int x2]) (rest := []) F (c_X5_bits l D cy (H := _)  h21) (va_cwS 1 hts gX5_mostTogether_X5_bits rfl rfl rfl ⟨ph_X5_bits.1, ph_X5_bits.2, pd_X5_bits⟩ ⟨Nat.le_of_ble_eq_true rfl, Nat.le_of_ble_eq_true rfl⟩) ⟨PcR.bl, PcR.in hK⟩ rfl rfl hl.1 rfl (lv_room (Nat.le_of_ble_eq_true rfl)) dX5_mostTogether_17 ⟨Nat.zero_le _, Nat.zero_le _⟩).run (fun r22 er22 => ?_)
        subst r22
        refine lv_iload_n hx hb dX5_mostTogether_20 rfl (lv_at hl 1 rfl) ?_
        obtain ⟨t23, h24, hf⟩ := bd_some hf
        refine vp_callSi (va_runS (As := [.int x1]) (rest := [.int t20]) F (c_X5_bits l D cy (H := _)  h24) (va_cwS 1 hts gX5_mostTogether_X5_bits rfl rfl rfl ⟨ph_X5_bits.1, ph_X5_bits.2, pd_X5_bits⟩ ⟨Nat.le_of_ble_eq_true rfl, Nat.le_of_ble_eq_true rfl⟩) ⟨PcR.bl, PcR.in hK⟩ rfl rfl hl.1 rfl (lv_room (Nat.le_of_ble_eq_true rfl)) dX5_mostTogether_21 ⟨Nat.zero_le _, Nat.zero_le _⟩).run (fun r25 er25 => ?_)
        subst r25
        refine lv_icmp_le (tgt := 39) hx hb dX5_mostTogether_24 (by decide) (fun c26 => ?_) (fun c26 => ?_)
        · have hf := it_t c26 hf
          exact hB39 x0 x1 x2 _ (lv_sub hl [0, 1, 2] rfl) v_x0 hf
        · have hf := it_f c26 hf
          refine lv_aload_n hx hb dX5_mostTogether_27 rfl (lv_at hl 0 rfl) ?_
          refine lv_iload_n hx hb dX5_mostTogether_28 rfl (lv_at hl 2 rfl) ?_
          obtain ⟨t27, h28, hf⟩ := bd_some hf
          refine vp_callSi (va_runV (As := [.int x2]) (rest := []) F (c_X5_isPossible l D cy (H := _) hP v_x0 h28) (cwV 1 hts gX5_mostTogether_X5_isPossible rfl rfl rfl ⟨rfl, ph_X5_isPossible.1, ph_X5_isPossible.2, pd_X5_isPossible⟩ ⟨Nat.le_of_ble_eq_true rfl, Nat.le_of_ble_eq_true rfl⟩) ⟨PcR.bl, (q_rcv hK hP v_x0.1 (pF_5 (S := S) v_x0.2) rfl), PcR.in hK⟩ rfl rfl hl.1 rfl (lv_room (Nat.le_of_ble_eq_true rfl)) dX5_mostTogether_29 ⟨Nat.zero_le _, Nat.zero_le _⟩).run (fun r29 er29 => ?_)
          subst r29
          refine lv_if_eq (tgt := 39) hx hb dX5_mostTogether_32 (by decide) (fun c30 => ?_) (fun c30 => ?_)
          · have hf := it_t c30 hf
            exact hB39 x0 x1 x2 _ (lv_sub hl [0, 1, 2] rfl) v_x0 hf
          · have hf := it_f c30 hf
            refine lv_iload_n hx hb dX5_mostTogether_35 rfl (lv_at hl 2 rfl) ?_
            refine lv_goto (tgt := 40) hx hb dX5_mostTogether_36 (by decide) ?_
            exact hB40 x0 x2 x2 _ (lv_sub hl [0, 2] rfl) v_x0 hf
  have hl := lv_entry ([.ref y0]) (n := 3) (Nat.le_of_ble_eq_true rfl)
  rw [lg_entry_eq]
  generalize (lg_sl ([.ref y0]) ++ List.replicate (3 - (lg_sl ([.ref y0])).length) Slot.unset).toArray = ls at hl ⊢
  have hl : lv_has ls 3 [(0, .ref y0)] := hl
  unfold f_X5_mostTogether at hf
  refine lv_iconst (v := 0) hx hb dX5_mostTogether_0 (by decide) ?_
  refine lv_istore_n (lv' := [(1, .int 0), (0, .ref y0)]) hx hb dX5_mostTogether_1 rfl hl (by decide) rfl (fun ls hl => ?_)
  refine lv_iconst (v := 1) hx hb dX5_mostTogether_2 (by decide) ?_
  refine lv_istore_n (lv' := [(2, .int 1), (1, .int 0), (0, .ref y0)]) hx hb dX5_mostTogether_3 rfl hl (by decide) rfl (fun ls hl => ?_)
  exact hL4 FU y0 0 1 _ (lv_sub hl [2, 1, 0] rfl) v_y0 hf
def f_X5_agree_B70 (S : PS) (x1 : Int32) : Option (Int32 × PS) :=
  bd (f_X5_bits x1) fun t1 =>
  some (t1, S)
def f_X5_agree_L37s (kL37 : PS → Nat → Int32 → Int32 → Option (Int32 × PS)) (ke70 : PS → Int32 → Option (Int32 × PS)) (S : PS) (x0 : Nat) (x1 : Int32) (x2 : Int32) : Option (Int32 × PS) :=
  rq (fR S 81 x0) S 6 fun b4 =>
  ck (decide (¬ ((0 : Int32) < 0 ∨ aN S b4 ≤ (0 : Int32).toNatClampNeg))) (
  if (aI S b4 (0 : Int32).toNatClampNeg) ≤ x2 then (ke70 S x1) else
  rq (fR S 81 x0) S 6 fun b8 =>
  ck (decide (¬ ((((1 : Int32) + ((4 : Int32) * x2)) + (3 : Int32)) < 0 ∨ aN S b8 ≤ (((1 : Int32) + ((4 : Int32) * x2)) + (3 : Int32)).toNatClampNeg))) (
  kL37 (sA S b8 (((1 : Int32) + ((4 : Int32) * x2)) + (3 : Int32)) ((x1 >>> (x2 &&& 31)) &&& (1 : Int32))) x0 x1 (x2 + 1)))
def f_X5_agree_L37 (ke70 : PS → Int32 → Option (Int32 × PS)) (fu : Nat) : PS → Nat → Int32 → Int32 → Option (Int32 × PS) := fx (fun kL => f_X5_agree_L37s kL ke70) (fun _ _ _ _ => none) fu
def f_X5_agree_B19 (S : PS) (x0 : Nat) (x1 : Int32) (s0 : Nat) (s1 : Int32) : Option (Int32 × PS) :=
  if (fI (sI S 80 s0 s1) 80 x0) ≤ 0 then (bd (f_X5_save (sI S 80 s0 s1) x0) fun t12 =>
  f_X5_agree_L37 f_X5_agree_B70 FU t12 x0 x1 0) else
  some (0, sI S 80 s0 s1)
def f_X5_agree (S : PS) (x0 : Nat) : Option (Int32 × PS) :=
  bd (f_X5_mostTogether S x0) fun t14 =>
  bd (f_X5_isTooGreat S x0 t14) fun t17 =>
  if t17 = 0 then (f_X5_agree_B19 S x0 t14 x0 0) else
  f_X5_agree_B19 S x0 t14 x0 1
set_option maxHeartbeats 4000000 in
set_option maxRecDepth 100000 in
theorem c_X5_agree (l : Launch) (D : va_G) (cy : cyT) {S : PS} {n : Nat} {y0 : Nat} (v_y0 : vd S y0 5) {res : Int32 × PS} (hf : f_X5_agree S y0 = some res) : Met l yX5_agree wsX5_agree ({ frames := 5, cells := 0, slots := 0, locals := 115 } : Room) (PcW False D cy S n [.ref y0]) (va_Qi (fun (r : Int32) (u : PS × Nat) => r = res.1 ∧ u = (res.2, n)) (BW D cy S n) (AA cy S n)) 0 0 (AA cy S n) := by
  refine Met.ofW (cc := cX5_agree) (maxL := 3) (ret := (some .int)) (by decide) rfl ?_
  intro p e s m args below meth c s₁ B hml hv
  obtain ⟨hav, hsz, hP0, hD0, hK, hZ0⟩ := hv
  have hx := B.exec
  have hb := B.bytes
  have hr := B.returns
  have hts := atoms_spec (ws := wsX5_agree) B.pre
  have hown : s.vm.findClass RX5 = some m.cls := findClass_of_methodNamed B.named
  have hlocks := B.notSynchronized
  subst hav
  have hw : Hw D cy (AA cy S n) s.heap S n s.heap [] := Hw.start hsz hP0 hD0
  have hA : ∀ q, s.heap.size ≤ q → AA cy S n q := fun q h => Or.inr (hsz ▸ h)
  have hE : EX S S := EX.rf
  have F : CallFix p m c cX5_agree 3 s _ wsX5_agree RX5 := ⟨hx, hb, hml, hown, hts⟩
  have hB70 : ∀ (Sb : PS) (H1 : Heap) (lo1 : List Loc) (x1 : Int32) (ls : Array Slot), lv_has ls 3 [(1, .int x1)] → Hw D cy (AA cy S n) s.heap Sb n H1 lo1 → EX S Sb → f_X5_agree_B70 Sb x1 = some res → W p l e (headSpec wsX5_agree ({ frames := 5, cells := 0, slots := 0, locals := 115 } : Room)).room s m ([.ref y0] : List Value).toArray below meth c H1 lo1 0 0 (MQ below (va_Qi (fun (r : Int32) (u : PS × Nat) => r = res.1 ∧ u = (res.2, n)) (BW D cy S n) (AA cy S n)) ([.ref y0] : List Value).toArray s 0 0 (AA cy S n)) (F0 m 70 ls []) := by
    intro Sb H1 lo1 x1 ls hl hw hE hf
    unfold f_X5_agree_B70 at hf
    refine lv_iload_n hx hb dX5_agree_70 rfl (lv_at hl 0 rfl) ?_
    obtain ⟨t21, h22, hf⟩ := bd_some hf
    refine vp_callSi (va_runS (As := [.int x1]) (rest := []) F (c_X5_bits l D cy (H := _)  h22) (va_cwS 1 hts gX5_agree_X5_bits rfl rfl rfl ⟨ph_X5_bits.1, ph_X5_bits.2, pd_X5_bits⟩ ⟨Nat.le_of_ble_eq_true rfl, Nat.le_of_ble_eq_true rfl⟩) ⟨PcR.bl, PcR.in hK⟩ rfl rfl hl.1 rfl (lv_room (Nat.le_of_ble_eq_true rfl)) dX5_agree_71 ⟨Nat.zero_le _, Nat.zero_le _⟩).run (fun r23 er23 => ?_)
    subst r23
    exact W.iret (v := t21) hx hb hr (fun t ht hW => ⟨⟨_, (Sb, n), rfl, po2 hf, BW.of hw hE ht⟩, hw.2.2.1.F ht⟩) hw.2.2.1.2.2 dX5_agree_74
  have hL37 : ∀ (fu37 : Nat), ∀ (Sb : PS) (H1 : Heap) (lo1 : List Loc) (x0 : Nat) (x1 : Int32) (x2 : Int32) (ls : Array Slot), lv_has ls 3 [(0, .ref x0), (1, .int x1), (2, .int x2)] → Hw D cy (AA cy S n) s.heap Sb n H1 lo1 → EX S Sb → vd Sb x0 5 → f_X5_agree_L37 f_X5_agree_B70 fu37 Sb x0 x1 x2 = some res → W p l e (headSpec wsX5_agree ({ frames := 5, cells := 0, slots := 0, locals := 115 } : Room)).room s m ([.ref y0] : List Value).toArray below meth c H1 lo1 0 0 (MQ below (va_Qi (fun (r : Int32) (u : PS × Nat) => r = res.1 ∧ u = (res.2, n)) (BW D cy S n) (AA cy S n)) ([.ref y0] : List Value).toArray s 0 0 (AA cy S n)) (F0 m 37 ls []) := by
    intro fu37
    induction fu37 with
    | zero =>
      intro Sb H1 lo1 x0 x1 x2 ls hl hw hE v_x0 hf
      have hf : (none : Option (Int32 × PS)) = some res := hf
      cases hf
    | succ fu37 ih37 =>
      intro Sb H1 lo1 x0 x1 x2 ls hl hw hE v_x0 hf
      have hf : f_X5_agree_L37s (f_X5_agree_L37 f_X5_agree_B70 fu37) f_X5_agree_B70 Sb x0 x1 x2 = some res := hf
      unfold f_X5_agree_L37s at hf
      refine lv_iload_n hx hb dX5_agree_37 rfl (lv_at hl 2 rfl) ?_
      refine lv_aload_n hx hb dX5_agree_38 rfl (lv_at hl 0 rfl) ?_
      obtain ⟨b24, e25, v_b24, hf⟩ := rq_some hf
      refine q_get F hK hw.1 v_x0.1 (pF_5 (S := Sb) v_x0.2) (fun w h => List.mem_cons_of_mem _ (List.mem_append_right _ h)) rfl 1 (by decide) (hts (.fieldLink RX5 7 "SharedModuliModel" "z" "[I") (List.mem_of_getElem? (i := 2) rfl)) (v := .ref b24) (congrArg (fun z => some (va_rf z)) e25) dX5_agree_39 ?_
      refine lv_iconst (v := 0) hx hb dX5_agree_42 (by decide) ?_
      obtain ⟨c26, hf⟩ := ckd_some hf
      refine q_iald F hK hw.1 v_b24 c26 dX5_agree_43 ?_
      refine lv_icmp_ge (tgt := 70) hx hb dX5_agree_44 (by decide) (fun c27 => ?_) (fun c27 => ?_)
      · have hf := it_t c27 hf
        exact hB70 Sb _ _ x1 _ (lv_sub hl [1] rfl) hw hE  hf
      · have hf := it_f c27 hf
        refine lv_aload_n hx hb dX5_agree_47 rfl (lv_at hl 0 rfl) ?_
        obtain ⟨b28, e29, v_b28, hf⟩ := rq_some hf
        refine q_get F hK hw.1 v_x0.1 (pF_5 (S := Sb) v_x0.2) (fun w h => List.mem_cons_of_mem _ (List.mem_append_right _ h)) rfl 1 (by decide) (hts (.fieldLink RX5 7 "SharedModuliModel" "z" "[I") (List.mem_of_getElem? (i := 2) rfl)) (v := .ref b28) (congrArg (fun z => some (va_rf z)) e29) dX5_agree_48 ?_
        refine lv_iconst (v := 1) hx hb dX5_agree_51 (by decide) ?_
        refine lv_iconst (v := 4) hx hb dX5_agree_52 (by decide) ?_
        refine lv_iload_n hx hb dX5_agree_53 rfl (lv_at hl 2 rfl) ?_
        refine lv_imul hx hb dX5_agree_54 ?_
        refine lv_iadd hx hb dX5_agree_55 ?_
        refine lv_iconst (v := 3) hx hb dX5_agree_56 (by decide) ?_
        refine lv_iadd hx hb dX5_agree_57 ?_
        refine lv_iload_n hx hb dX5_agree_58 rfl (lv_at hl 1 rfl) ?_
        refine lv_iload_n hx hb dX5_agree_59 rfl (lv_at hl 2 rfl) ?_
        refine lv_ishr hx hb dX5_agree_60 ?_
        refine lv_iconst (v := 1) hx hb dX5_agree_61 (by decide) ?_
        refine lv_iand hx hb dX5_agree_62 ?_
        obtain ⟨c30, hf⟩ := ckd_some hf
        refine q_iast F hK hw v_b28 c30 dX5_agree_63 (fun H locs hw => ?_)
        refine lv_iinc (v := x2 + 1) (lv' := [(2, .int (x2 + 1)), (0, .ref x0), (1, .int x1)]) hx hb dX5_agree_64 hl (k := 2) rfl (by rfl) (by decide) rfl (fun ls hl => ?_)
        refine lv_goto (tgt := 37) hx hb dX5_agree_67 (by decide) ?_
        exact ih37 (sA Sb b28 (((1 : Int32) + ((4 : Int32) * x2)) + (3 : Int32)) ((x1 >>> (x2 &&& 31)) &&& (1 : Int32))) _ _ x0 x1 (x2 + 1) _ (lv_sub hl [1, 2, 0] rfl) hw hE v_x0 hf
  have hB19 : ∀ (Sb : PS) (H1 : Heap) (lo1 : List Loc) (x0 : Nat) (x1 : Int32) (s0 : Nat) (s1 : Int32) (ls : Array Slot), lv_has ls 3 [(0, .ref x0), (1, .int x1)] → Hw D cy (AA cy S n) s.heap Sb n H1 lo1 → EX S Sb → vd Sb x0 5 → vd Sb s0 5 → f_X5_agree_B19 Sb x0 x1 s0 s1 = some res → W p l e (headSpec wsX5_agree ({ frames := 5, cells := 0, slots := 0, locals := 115 } : Room)).room s m ([.ref y0] : List Value).toArray below meth c H1 lo1 0 0 (MQ below (va_Qi (fun (r : Int32) (u : PS × Nat) => r = res.1 ∧ u = (res.2, n)) (BW D cy S n) (AA cy S n)) ([.ref y0] : List Value).toArray s 0 0 (AA cy S n)) (F0 m 19 ls [.int s1, .ref s0]) := by
    intro Sb H1 lo1 x0 x1 s0 s1 ls hl hw hE v_x0 v_s0 hf
    unfold f_X5_agree_B19 at hf
    refine q_put F hK hw v_s0.1 (pF_5 (S := Sb) v_s0.2) (fun w h => List.mem_cons_of_mem _ (List.mem_append_right _ h)) tyX5 tyX5_ok nmX5 rfl 0 (by decide) (hts (.fieldLink RX5 22 "SharedModuliModel" "thrown" "I") (List.mem_of_getElem? (i := 1) rfl)) (Or.inl rfl) (tyX5_ok 0 (by decide)) rfl rfl (Nat.le_of_ble_eq_true rfl) (S1 := sI Sb 80 s0 s1) (st_80 (S := Sb) v_s0.2 s1) dX5_agree_19 (fun H locs hw => ?_)
    refine lv_aload_n hx hb dX5_agree_22 rfl (lv_at hl 0 rfl) ?_
    refine q_get F hK hw.1 v_x0.1 (pF_5 (S := sI Sb 80 s0 s1) v_x0.2) (fun w h => List.mem_cons_of_mem _ (List.mem_append_right _ h)) rfl 0 (by decide) (hts (.fieldLink RX5 22 "SharedModuliModel" "thrown" "I") (List.mem_of_getElem? (i := 1) rfl)) (v := .int (fI (sI Sb 80 s0 s1) 80 x0)) rfl dX5_agree_23 ?_
    refine lv_if_le (tgt := 31) hx hb dX5_agree_26 (by decide) (fun c31 => ?_) (fun c31 => ?_)
    · have hf := it_t c31 hf
      refine lv_aload_n hx hb dX5_agree_31 rfl (lv_at hl 0 rfl) ?_
      obtain ⟨t32, h33, hf⟩ := bd_some hf
      refine q_callv (va_runV (As := []) (rest := []) F (c_X5_save l D cy (S := sI Sb 80 s0 s1) v_x0 h33) (cwV 0 hts gX5_agree_X5_save rfl rfl rfl ⟨rfl, ph_X5_save.1, ph_X5_save.2, pd_X5_save⟩ ⟨Nat.le_of_ble_eq_true rfl, Nat.le_of_ble_eq_true rfl⟩) ⟨PcW.bl, (q_rcv hK hw.1 v_x0.1 (pF_5 (S := sI Sb 80 s0 s1) v_x0.2) rfl), PcW.in hK hw hA (fun z => z.elim)⟩ rfl rfl hl.1 rfl (lv_room (Nat.le_of_ble_eq_true rfl)) dX5_agree_32 ⟨Nat.zero_le _, Nat.zero_le _⟩) hw hA (fun H locs hw hX => ?_)
      have hE := hE.tr hX
      have v_x0 := hX _ _ v_x0
      have v_s0 := hX _ _ v_s0
      refine lv_iconst (v := 0) hx hb dX5_agree_35 (by decide) ?_
      refine lv_istore_n (lv' := [(2, .int 0), (0, .ref x0), (1, .int x1)]) hx hb dX5_agree_36 rfl hl (by decide) rfl (fun ls hl => ?_)
      exact hL37 FU t32 _ _ x0 x1 0 _ (lv_sub hl [1, 2, 0] rfl) hw hE v_x0 hf
    · have hf := it_f c31 hf
      refine lv_iconst (v := 0) hx hb dX5_agree_29 (by decide) ?_
      exact W.iret (v := 0) hx hb hr (fun t ht hW => ⟨⟨_, (sI Sb 80 s0 s1, n), rfl, po2 hf, BW.of hw hE ht⟩, hw.2.2.1.F ht⟩) hw.2.2.1.2.2 dX5_agree_30
  have hl := lv_entry ([.ref y0]) (n := 3) (Nat.le_of_ble_eq_true rfl)
  rw [lg_entry_eq]
  generalize (lg_sl ([.ref y0]) ++ List.replicate (3 - (lg_sl ([.ref y0])).length) Slot.unset).toArray = ls at hl ⊢
  have hl : lv_has ls 3 [(0, .ref y0)] := hl
  unfold f_X5_agree at hf
  refine lv_aload_n hx hb dX5_agree_0 rfl (lv_at hl 0 rfl) ?_
  obtain ⟨t34, h35, hf⟩ := bd_some hf
  refine vp_callSi (va_runV (As := []) (rest := []) F (c_X5_mostTogether l D cy (H := _) hw.1 v_y0 h35) (cwV 0 hts gX5_agree_X5_mostTogether rfl rfl rfl ⟨rfl, ph_X5_mostTogether.1, ph_X5_mostTogether.2, pd_X5_mostTogether⟩ ⟨Nat.le_of_ble_eq_true rfl, Nat.le_of_ble_eq_true rfl⟩) ⟨PcR.bl, (q_rcv hK hw.1 v_y0.1 (pF_5 (S := S) v_y0.2) rfl), PcR.in hK⟩ rfl rfl hl.1 rfl (lv_room (Nat.le_of_ble_eq_true rfl)) dX5_agree_1 ⟨Nat.zero_le _, Nat.zero_le _⟩).run (fun r36 er36 => ?_)
  subst r36
  refine lv_istore_n (lv' := [(1, .int t34), (0, .ref y0)]) hx hb dX5_agree_4 rfl hl (by decide) rfl (fun ls hl => ?_)
  refine lv_aload_n hx hb dX5_agree_5 rfl (lv_at hl 1 rfl) ?_
  refine lv_aload_n hx hb dX5_agree_6 rfl (lv_at hl 1 rfl) ?_
  refine lv_iload_n hx hb dX5_agree_7 rfl (lv_at hl 0 rfl) ?_
  obtain ⟨t37, h38, hf⟩ := bd_some hf
  refine vp_callSi (va_runV (As := [.int t34]) (rest := [.ref y0]) F (c_X5_isTooGreat l D cy (H := _) hw.1 v_y0 h38) (cwV 1 hts gX5_agree_X5_isTooGreat rfl rfl rfl ⟨rfl, ph_X5_isTooGreat.1, ph_X5_isTooGreat.2, pd_X5_isTooGreat⟩ ⟨Nat.le_of_ble_eq_true rfl, Nat.le_of_ble_eq_true rfl⟩) ⟨PcR.bl, (q_rcv hK hw.1 v_y0.1 (pF_5 (S := S) v_y0.2) rfl), PcR.in hK⟩ rfl rfl hl.1 rfl (lv_room (Nat.le_of_ble_eq_true rfl)) dX5_agree_8 ⟨Nat.zero_le _, Nat.zero_le _⟩).run (fun r39 er39 => ?_)
  subst r39
  refine lv_if_eq (tgt := 18) hx hb dX5_agree_11 (by decide) (fun c40 => ?_) (fun c40 => ?_)
  · have hf := it_t c40 hf
    refine lv_iconst (v := 0) hx hb dX5_agree_18 (by decide) ?_
    exact hB19 S _ _ y0 t34 y0 0 _ (lv_sub hl [1, 0] rfl) hw hE v_y0 v_y0 hf
  · have hf := it_f c40 hf
    refine lv_iconst (v := 1) hx hb dX5_agree_14 (by decide) ?_
    refine lv_goto (tgt := 19) hx hb dX5_agree_15 (by decide) ?_
    exact hB19 S _ _ y0 t34 y0 1 _ (lv_sub hl [1, 0] rfl) hw hE v_y0 v_y0 hf
def f_X5_append_B30 (S : PS) (x0 : Nat) (x1 : Int32) (s0 : Nat) (s1 : Int32) : Option (Int32 × PS) :=
  if (fI (sI S 80 s0 s1) 80 x0) ≤ 0 then (rq (fR (sI S 80 s0 s1) 84 x0) (sI S 80 s0 s1) 6 fun b2 =>
  ck (decide (¬ ((fI (sI S 80 s0 s1) 85 x0) < 0 ∨ aN (sI S 80 s0 s1) b2 ≤ (fI (sI S 80 s0 s1) 85 x0).toNatClampNeg))) (
  some ((fI (sI (sA (sI S 80 s0 s1) b2 (fI (sI S 80 s0 s1) 85 x0) x1) 85 x0 ((fI (sA (sI S 80 s0 s1) b2 (fI (sI S 80 s0 s1) 85 x0) x1) 85 x0) + (1 : Int32))) 85 x0), sI (sA (sI S 80 s0 s1) b2 (fI (sI S 80 s0 s1) 85 x0) x1) 85 x0 ((fI (sA (sI S 80 s0 s1) b2 (fI (sI S 80 s0 s1) 85 x0) x1) 85 x0) + (1 : Int32))))) else
  some (0, sI S 80 s0 s1)
def f_X5_append (S : PS) (x0 : Nat) (x1 : Int32) : Option (Int32 × PS) :=
  bd (f_X5_in x1 33 126) fun t5 =>
  if t5 = 0 then (f_X5_append_B30 S x0 x1 x0 1) else
  if (fI S 85 x0) = 60 then (f_X5_append_B30 S x0 x1 x0 2) else
  f_X5_append_B30 S x0 x1 x0 0
set_option maxHeartbeats 4000000 in
set_option maxRecDepth 100000 in
theorem c_X5_append (l : Launch) (D : va_G) (cy : cyT) {S : PS} {n : Nat} {y0 : Nat} {y1 : Int32} (v_y0 : vd S y0 5) {res : Int32 × PS} (hf : f_X5_append S y0 y1 = some res) : Met l yX5_append wsX5_append ({ frames := 1, cells := 0, slots := 0, locals := 22 } : Room) (PcW False D cy S n [.ref y0, .int y1]) (va_Qi (fun (r : Int32) (u : PS × Nat) => r = res.1 ∧ u = (res.2, n)) (BW D cy S n) (AA cy S n)) 0 0 (AA cy S n) := by
  refine Met.ofW (cc := cX5_append) (maxL := 2) (ret := (some .int)) (by decide) rfl ?_
  intro p e s m args below meth c s₁ B hml hv
  obtain ⟨hav, hsz, hP0, hD0, hK, hZ0⟩ := hv
  have hx := B.exec
  have hb := B.bytes
  have hr := B.returns
  have hts := atoms_spec (ws := wsX5_append) B.pre
  have hown : s.vm.findClass RX5 = some m.cls := findClass_of_methodNamed B.named
  have hlocks := B.notSynchronized
  subst hav
  have hw : Hw D cy (AA cy S n) s.heap S n s.heap [] := Hw.start hsz hP0 hD0
  have hA : ∀ q, s.heap.size ≤ q → AA cy S n q := fun q h => Or.inr (hsz ▸ h)
  have hE : EX S S := EX.rf
  have F : CallFix p m c cX5_append 2 s _ wsX5_append RX5 := ⟨hx, hb, hml, hown, hts⟩
  have hB30 : ∀ (Sb : PS) (H1 : Heap) (lo1 : List Loc) (x0 : Nat) (x1 : Int32) (s0 : Nat) (s1 : Int32) (ls : Array Slot), lv_has ls 2 [(0, .ref x0), (1, .int x1)] → Hw D cy (AA cy S n) s.heap Sb n H1 lo1 → EX S Sb → vd Sb x0 5 → vd Sb s0 5 → f_X5_append_B30 Sb x0 x1 s0 s1 = some res → W p l e (headSpec wsX5_append ({ frames := 1, cells := 0, slots := 0, locals := 22 } : Room)).room s m ([.ref y0, .int y1] : List Value).toArray below meth c H1 lo1 0 0 (MQ below (va_Qi (fun (r : Int32) (u : PS × Nat) => r = res.1 ∧ u = (res.2, n)) (BW D cy S n) (AA cy S n)) ([.ref y0, .int y1] : List Value).toArray s 0 0 (AA cy S n)) (F0 m 30 ls [.int s1, .ref s0]) := by
    intro Sb H1 lo1 x0 x1 s0 s1 ls hl hw hE v_x0 v_s0 hf
    unfold f_X5_append_B30 at hf
    refine q_put F hK hw v_s0.1 (pF_5 (S := Sb) v_s0.2) (fun w h => List.mem_cons_of_mem _ (List.mem_append_right _ h)) tyX5 tyX5_ok nmX5 rfl 0 (by decide) (hts (.fieldLink RX5 22 "SharedModuliModel" "thrown" "I") (List.mem_of_getElem? (i := 2) rfl)) (Or.inl rfl) (tyX5_ok 0 (by decide)) rfl rfl (Nat.le_of_ble_eq_true rfl) (S1 := sI Sb 80 s0 s1) (st_80 (S := Sb) v_s0.2 s1) dX5_append_30 (fun H locs hw => ?_)
    refine lv_aload_n hx hb dX5_append_33 rfl (lv_at hl 0 rfl) ?_
    refine q_get F hK hw.1 v_x0.1 (pF_5 (S := sI Sb 80 s0 s1) v_x0.2) (fun w h => List.mem_cons_of_mem _ (List.mem_append_right _ h)) rfl 0 (by decide) (hts (.fieldLink RX5 22 "SharedModuliModel" "thrown" "I") (List.mem_of_getElem? (i := 2) rfl)) (v := .int (fI (sI Sb 80 s0 s1) 80 x0)) rfl dX5_append_34 ?_
    refine lv_if_le (tgt := 42) hx hb dX5_append_37 (by decide) (fun c10 => ?_) (fun c10 => ?_)
    · have hf := it_t c10 hf
      refine lv_aload_n hx hb dX5_append_42 rfl (lv_at hl 0 rfl) ?_
      obtain ⟨b11, e12, v_b11, hf⟩ := rq_some hf
      refine q_get F hK hw.1 v_x0.1 (pF_5 (S := sI Sb 80 s0 s1) v_x0.2) (fun w h => List.mem_cons_of_mem _ (List.mem_append_right _ h)) rfl 4 (by decide) (hts (.fieldLink RX5 16 "SharedModuliModel" "buffe\x72" "[I") (List.mem_of_getElem? (i := 3) rfl)) (v := .ref b11) (congrArg (fun z => some (va_rf z)) e12) dX5_append_43 ?_
      refine lv_aload_n hx hb dX5_append_46 rfl (lv_at hl 0 rfl) ?_
      refine q_get F hK hw.1 v_x0.1 (pF_5 (S := sI Sb 80 s0 s1) v_x0.2) (fun w h => List.mem_cons_of_mem _ (List.mem_append_right _ h)) rfl 5 (by decide) (hts (.fieldLink RX5 119 "SharedModuliModel" "typed" "I") (List.mem_of_getElem? (i := 1) rfl)) (v := .int (fI (sI Sb 80 s0 s1) 85 x0)) rfl dX5_append_47 ?_
      refine lv_iload_n hx hb dX5_append_50 rfl (lv_at hl 1 rfl) ?_
      obtain ⟨c13, hf⟩ := ckd_some hf
      refine q_iast F hK hw v_b11 c13 dX5_append_51 (fun H locs hw => ?_)
      refine lv_aload_n hx hb dX5_append_52 rfl (lv_at hl 0 rfl) ?_
      refine lv_dup hx hb dX5_append_53 rfl ?_
      refine q_get F hK hw.1 v_x0.1 (pF_5 (S := sA (sI Sb 80 s0 s1) b11 (fI (sI Sb 80 s0 s1) 85 x0) x1) v_x0.2) (fun w h => List.mem_cons_of_mem _ (List.mem_append_right _ h)) rfl 5 (by decide) (hts (.fieldLink RX5 119 "SharedModuliModel" "typed" "I") (List.mem_of_getElem? (i := 1) rfl)) (v := .int (fI (sA (sI Sb 80 s0 s1) b11 (fI (sI Sb 80 s0 s1) 85 x0) x1) 85 x0)) rfl dX5_append_54 ?_
      refine lv_iconst (v := 1) hx hb dX5_append_57 (by decide) ?_
      refine lv_iadd hx hb dX5_append_58 ?_
      refine q_put F hK hw v_x0.1 (pF_5 (S := sA (sI Sb 80 s0 s1) b11 (fI (sI Sb 80 s0 s1) 85 x0) x1) v_x0.2) (fun w h => List.mem_cons_of_mem _ (List.mem_append_right _ h)) tyX5 tyX5_ok nmX5 rfl 5 (by decide) (hts (.fieldLink RX5 119 "SharedModuliModel" "typed" "I") (List.mem_of_getElem? (i := 1) rfl)) (Or.inl rfl) (tyX5_ok 5 (by decide)) rfl rfl (Nat.le_of_ble_eq_true rfl) (S1 := sI (sA (sI Sb 80 s0 s1) b11 (fI (sI Sb 80 s0 s1) 85 x0) x1) 85 x0 ((fI (sA (sI Sb 80 s0 s1) b11 (fI (sI Sb 80 s0 s1) 85 x0) x1) 85 x0) + (1 : Int32))) (st_85 (S := sA (sI Sb 80 s0 s1) b11 (fI (sI Sb 80 s0 s1) 85 x0) x1) v_x0.2 ((fI (sA (sI Sb 80 s0 s1) b11 (fI (sI Sb 80 s0 s1) 85 x0) x1) 85 x0) + (1 : Int32))) dX5_append_59 (fun H locs hw => ?_)
      refine lv_aload_n hx hb dX5_append_62 rfl (lv_at hl 0 rfl) ?_
      refine q_get F hK hw.1 v_x0.1 (pF_5 (S := sI (sA (sI Sb 80 s0 s1) b11 (fI (sI Sb 80 s0 s1) 85 x0) x1) 85 x0 ((fI (sA (sI Sb 80 s0 s1) b11 (fI (sI Sb 80 s0 s1) 85 x0) x1) 85 x0) + (1 : Int32))) v_x0.2) (fun w h => List.mem_cons_of_mem _ (List.mem_append_right _ h)) rfl 5 (by decide) (hts (.fieldLink RX5 119 "SharedModuliModel" "typed" "I") (List.mem_of_getElem? (i := 1) rfl)) (v := .int (fI (sI (sA (sI Sb 80 s0 s1) b11 (fI (sI Sb 80 s0 s1) 85 x0) x1) 85 x0 ((fI (sA (sI Sb 80 s0 s1) b11 (fI (sI Sb 80 s0 s1) 85 x0) x1) 85 x0) + (1 : Int32))) 85 x0)) rfl dX5_append_63 ?_
      exact W.iret (v := (fI (sI (sA (sI Sb 80 s0 s1) b11 (fI (sI Sb 80 s0 s1) 85 x0) x1) 85 x0 ((fI (sA (sI Sb 80 s0 s1) b11 (fI (sI Sb 80 s0 s1) 85 x0) x1) 85 x0) + (1 : Int32))) 85 x0)) hx hb hr (fun t ht hW => ⟨⟨_, (sI (sA (sI Sb 80 s0 s1) b11 (fI (sI Sb 80 s0 s1) 85 x0) x1) 85 x0 ((fI (sA (sI Sb 80 s0 s1) b11 (fI (sI Sb 80 s0 s1) 85 x0) x1) 85 x0) + (1 : Int32)), n), rfl, po2 hf, BW.of hw hE ht⟩, hw.2.2.1.F ht⟩) hw.2.2.1.2.2 dX5_append_66
    · have hf := it_f c10 hf
      refine lv_iconst (v := 0) hx hb dX5_append_40 (by decide) ?_
      exact W.iret (v := 0) hx hb hr (fun t ht hW => ⟨⟨_, (sI Sb 80 s0 s1, n), rfl, po2 hf, BW.of hw hE ht⟩, hw.2.2.1.F ht⟩) hw.2.2.1.2.2 dX5_append_41
  have hl := lv_entry ([.ref y0, .int y1]) (n := 2) (Nat.le_of_ble_eq_true rfl)
  rw [lg_entry_eq]
  generalize (lg_sl ([.ref y0, .int y1]) ++ List.replicate (2 - (lg_sl ([.ref y0, .int y1])).length) Slot.unset).toArray = ls at hl ⊢
  have hl : lv_has ls 2 [(0, .ref y0), (1, .int y1)] := hl
  unfold f_X5_append at hf
  refine lv_aload_n hx hb dX5_append_0 rfl (lv_at hl 0 rfl) ?_
  refine lv_iload_n hx hb dX5_append_1 rfl (lv_at hl 1 rfl) ?_
  refine lv_bipush (v := 33) hx hb dX5_append_2 (by decide) ?_
  refine lv_bipush (v := 126) hx hb dX5_append_4 (by decide) ?_
  obtain ⟨t14, h15, hf⟩ := bd_some hf
  refine vp_callSi (va_runS (As := [.int y1, .int 33, .int 126]) (rest := [.ref y0]) F (c_X5_in l D cy (H := _)  h15) (va_cwS 3 hts gX5_append_X5_in rfl rfl rfl ⟨ph_X5_in.1, ph_X5_in.2, pd_X5_in⟩ ⟨Nat.le_of_ble_eq_true rfl, Nat.le_of_ble_eq_true rfl⟩) ⟨PcR.bl, PcR.in hK⟩ rfl rfl hl.1 rfl (lv_room (Nat.le_of_ble_eq_true rfl)) dX5_append_6 ⟨Nat.zero_le _, Nat.zero_le _⟩).run (fun r16 er16 => ?_)
  subst r16
  refine lv_if_ne (tgt := 16) hx hb dX5_append_9 (by decide) (fun c17 => ?_) (fun c17 => ?_)
  · have hf := it_f c17 hf
    refine lv_aload_n hx hb dX5_append_16 rfl (lv_at hl 0 rfl) ?_
    refine q_get F hK hw.1 v_y0.1 (pF_5 (S := S) v_y0.2) (fun w h => List.mem_cons_of_mem _ (List.mem_append_right _ h)) rfl 5 (by decide) (hts (.fieldLink RX5 119 "SharedModuliModel" "typed" "I") (List.mem_of_getElem? (i := 1) rfl)) (v := .int (fI S 85 y0)) rfl dX5_append_17 ?_
    refine lv_bipush (v := 60) hx hb dX5_append_20 (by decide) ?_
    refine lv_icmp_ne (tgt := 29) hx hb dX5_append_22 (by decide) (fun c18 => ?_) (fun c18 => ?_)
    · have hf := it_f c18 hf
      refine lv_iconst (v := 0) hx hb dX5_append_29 (by decide) ?_
      exact hB30 S _ _ y0 y1 y0 0 _ (lv_sub hl [0, 1] rfl) hw hE v_y0 v_y0 hf
    · have hf := it_t c18 hf
      refine lv_iconst (v := 2) hx hb dX5_append_25 (by decide) ?_
      refine lv_goto (tgt := 30) hx hb dX5_append_26 (by decide) ?_
      exact hB30 S _ _ y0 y1 y0 2 _ (lv_sub hl [0, 1] rfl) hw hE v_y0 v_y0 hf
  · have hf := it_t c17 hf
    refine lv_iconst (v := 1) hx hb dX5_append_12 (by decide) ?_
    refine lv_goto (tgt := 30) hx hb dX5_append_13 (by decide) ?_
    exact hB30 S _ _ y0 y1 y0 1 _ (lv_sub hl [0, 1] rfl) hw hE v_y0 v_y0 hf
def f_X5_clearBuffer (S : PS) (x0 : Nat) : Option (Int32 × PS) :=
  some ((fI (sI S 80 x0 0) 85 x0), sI (sI S 80 x0 0) 85 x0 0)
set_option maxHeartbeats 4000000 in
set_option maxRecDepth 100000 in
theorem c_X5_clearBuffer (l : Launch) (D : va_G) (cy : cyT) {S : PS} {n : Nat} {y0 : Nat} (v_y0 : vd S y0 5) {res : Int32 × PS} (hf : f_X5_clearBuffer S y0 = some res) : Met l yX5_clearBuffer wsX5_clearBuffer ({ frames := 0, cells := 0, slots := 0, locals := 0 } : Room) (PcW False D cy S n [.ref y0]) (va_Qi (fun (r : Int32) (u : PS × Nat) => r = res.1 ∧ u = (res.2, n)) (BW D cy S n) (AA cy S n)) 0 0 (AA cy S n) := by
  refine Met.ofW (cc := cX5_clearBuffer) (maxL := 2) (ret := (some .int)) (by decide) rfl ?_
  intro p e s m args below meth c s₁ B hml hv
  obtain ⟨hav, hsz, hP0, hD0, hK, hZ0⟩ := hv
  have hx := B.exec
  have hb := B.bytes
  have hr := B.returns
  have hts := atoms_spec (ws := wsX5_clearBuffer) B.pre
  have hown : s.vm.findClass RX5 = some m.cls := findClass_of_methodNamed B.named
  have hlocks := B.notSynchronized
  subst hav
  have hw : Hw D cy (AA cy S n) s.heap S n s.heap [] := Hw.start hsz hP0 hD0
  have hA : ∀ q, s.heap.size ≤ q → AA cy S n q := fun q h => Or.inr (hsz ▸ h)
  have hE : EX S S := EX.rf
  have F : CallFix p m c cX5_clearBuffer 2 s _ wsX5_clearBuffer RX5 := ⟨hx, hb, hml, hown, hts⟩
  have hl := lv_entry ([.ref y0]) (n := 2) (Nat.le_of_ble_eq_true rfl)
  rw [lg_entry_eq]
  generalize (lg_sl ([.ref y0]) ++ List.replicate (2 - (lg_sl ([.ref y0])).length) Slot.unset).toArray = ls at hl ⊢
  have hl : lv_has ls 2 [(0, .ref y0)] := hl
  unfold f_X5_clearBuffer at hf
  refine lv_aload_n hx hb dX5_clearBuffer_0 rfl (lv_at hl 0 rfl) ?_
  refine lv_iconst (v := 0) hx hb dX5_clearBuffer_1 (by decide) ?_
  refine q_put F hK hw v_y0.1 (pF_5 (S := S) v_y0.2) (fun w h => List.mem_cons_of_mem _ (List.mem_append_right _ h)) tyX5 tyX5_ok nmX5 rfl 0 (by decide) (hts (.fieldLink RX5 22 "SharedModuliModel" "thrown" "I") (List.mem_of_getElem? (i := 1) rfl)) (Or.inl rfl) (tyX5_ok 0 (by decide)) rfl rfl (Nat.le_of_ble_eq_true rfl) (S1 := sI S 80 y0 0) (st_80 (S := S) v_y0.2 0) dX5_clearBuffer_2 (fun H locs hw => ?_)
  refine lv_aload_n hx hb dX5_clearBuffer_5 rfl (lv_at hl 0 rfl) ?_
  refine q_get F hK hw.1 v_y0.1 (pF_5 (S := sI S 80 y0 0) v_y0.2) (fun w h => List.mem_cons_of_mem _ (List.mem_append_right _ h)) rfl 5 (by decide) (hts (.fieldLink RX5 119 "SharedModuliModel" "typed" "I") (List.mem_of_getElem? (i := 2) rfl)) (v := .int (fI (sI S 80 y0 0) 85 y0)) rfl dX5_clearBuffer_6 ?_
  refine lv_istore_n (lv' := [(1, .int (fI (sI S 80 y0 0) 85 y0)), (0, .ref y0)]) hx hb dX5_clearBuffer_9 rfl hl (by decide) rfl (fun ls hl => ?_)
  refine lv_aload_n hx hb dX5_clearBuffer_10 rfl (lv_at hl 1 rfl) ?_
  refine lv_iconst (v := 0) hx hb dX5_clearBuffer_11 (by decide) ?_
  refine q_put F hK hw v_y0.1 (pF_5 (S := sI S 80 y0 0) v_y0.2) (fun w h => List.mem_cons_of_mem _ (List.mem_append_right _ h)) tyX5 tyX5_ok nmX5 rfl 5 (by decide) (hts (.fieldLink RX5 119 "SharedModuliModel" "typed" "I") (List.mem_of_getElem? (i := 2) rfl)) (Or.inl rfl) (tyX5_ok 5 (by decide)) rfl rfl (Nat.le_of_ble_eq_true rfl) (S1 := sI (sI S 80 y0 0) 85 y0 0) (st_85 (S := sI S 80 y0 0) v_y0.2 0) dX5_clearBuffer_12 (fun H locs hw => ?_)
  refine lv_iload_n hx hb dX5_clearBuffer_15 rfl (lv_at hl 0 rfl) ?_
  exact W.iret (v := (fI (sI S 80 y0 0) 85 y0)) hx hb hr (fun t ht hW => ⟨⟨_, (sI (sI S 80 y0 0) 85 y0 0, n), rfl, po2 hf, BW.of hw hE ht⟩, hw.2.2.1.F ht⟩) hw.2.2.1.2.2 dX5_clearBuffer_16
def f_X5_letter_B24 (S : PS) (s0 : Int32) : Option Int32 :=
  some s0
def f_X5_letter (S : PS) (x0 : Nat) : Option Int32 :=
  if (fI S 85 x0) ≤ (fI S 90 x0) then (f_X5_letter_B24 S ((-1))) else
  rq (fR S 84 x0) S 6 fun b2 =>
  ck (decide (¬ ((fI S 90 x0) < 0 ∨ aN S b2 ≤ (fI S 90 x0).toNatClampNeg))) (
  f_X5_letter_B24 S (aI S b2 (fI S 90 x0).toNatClampNeg))
set_option maxHeartbeats 4000000 in
set_option maxRecDepth 100000 in
theorem c_X5_letter (l : Launch) (D : va_G) (cy : cyT) {H : Heap} {S : PS} (hP : va_P D vwCl (wl cy S) H) {y0 : Nat} (v_y0 : vd S y0 5) {res : Int32} (hf : f_X5_letter S y0 = some res) : Met l yX5_letter wsX5_letter ({ frames := 0, cells := 0, slots := 0, locals := 0 } : Room) (PcR D cy H [.ref y0]) (vp_Si (fun r => r = res)) 0 0 (fun _ => False) := by
  refine Met.ofW (cc := cX5_letter) (maxL := 1) (ret := (some .int)) (by decide) rfl ?_
  intro p e s m args below meth c s₁ B hml hv
  obtain ⟨hav, hH, hK⟩ := hv
  have hx := B.exec
  have hb := B.bytes
  have hr := B.returns
  have hts := atoms_spec (ws := wsX5_letter) B.pre
  have hown : s.vm.findClass RX5 = some m.cls := findClass_of_methodNamed B.named
  have hlocks := B.notSynchronized
  subst hav
  subst hH
  have F : CallFix p m c cX5_letter 1 s _ wsX5_letter RX5 := ⟨hx, hb, hml, hown, hts⟩
  have hB24 : ∀ (s0 : Int32) (ls : Array Slot), lv_has ls 1 [] → f_X5_letter_B24 S s0 = some res → W p l e (headSpec wsX5_letter ({ frames := 0, cells := 0, slots := 0, locals := 0 } : Room)).room s m ([.ref y0] : List Value).toArray below meth c s.heap [] 0 0 (MQ below (vp_Si (fun r => r = res)) ([.ref y0] : List Value).toArray s 0 0 (fun _ => False)) (F0 m 24 ls [.int s0]) := by
    intro s0 ls hl hf
    unfold f_X5_letter_B24 at hf
    exact W.iret (v := s0) hx hb hr (fun t ht hW => ⟨_, rfl, Option.some.inj hf, ht⟩) (fun _ h => by cases h) dX5_letter_24
  have hl := lv_entry ([.ref y0]) (n := 1) (Nat.le_of_ble_eq_true rfl)
  rw [lg_entry_eq]
  generalize (lg_sl ([.ref y0]) ++ List.replicate (1 - (lg_sl ([.ref y0])).length) Slot.unset).toArray = ls at hl ⊢
  have hl : lv_has ls 1 [(0, .ref y0)] := hl
  unfold f_X5_letter at hf
  refine lv_aload_n hx hb dX5_letter_0 rfl (lv_at hl 0 rfl) ?_
  refine q_get F hK hP v_y0.1 (pF_5 (S := S) v_y0.2) (fun w h => List.mem_cons_of_mem _ (List.mem_append_right _ h)) rfl 10 (by decide) (hts (.fieldLink RX5 122 "SharedModuliModel" "spot" "I") (List.mem_of_getElem? (i := 1) rfl)) (v := .int (fI S 90 y0)) rfl dX5_letter_1 ?_
  refine lv_aload_n hx hb dX5_letter_4 rfl (lv_at hl 0 rfl) ?_
  refine q_get F hK hP v_y0.1 (pF_5 (S := S) v_y0.2) (fun w h => List.mem_cons_of_mem _ (List.mem_append_right _ h)) rfl 5 (by decide) (hts (.fieldLink RX5 119 "SharedModuliModel" "typed" "I") (List.mem_of_getElem? (i := 2) rfl)) (v := .int (fI S 85 y0)) rfl dX5_letter_5 ?_
  refine lv_icmp_ge (tgt := 23) hx hb dX5_letter_8 (by decide) (fun c5 => ?_) (fun c5 => ?_)
  · have hf := it_t c5 hf
    refine lv_iconst (v := (-1)) hx hb dX5_letter_23 (by decide) ?_
    exact hB24 ((-1)) _ (lv_sub hl [] rfl)  hf
  · have hf := it_f c5 hf
    refine lv_aload_n hx hb dX5_letter_11 rfl (lv_at hl 0 rfl) ?_
    obtain ⟨b6, e7, v_b6, hf⟩ := rq_some hf
    refine q_get F hK hP v_y0.1 (pF_5 (S := S) v_y0.2) (fun w h => List.mem_cons_of_mem _ (List.mem_append_right _ h)) rfl 4 (by decide) (hts (.fieldLink RX5 16 "SharedModuliModel" "buffe\x72" "[I") (List.mem_of_getElem? (i := 3) rfl)) (v := .ref b6) (congrArg (fun z => some (va_rf z)) e7) dX5_letter_12 ?_
    refine lv_aload_n hx hb dX5_letter_15 rfl (lv_at hl 0 rfl) ?_
    refine q_get F hK hP v_y0.1 (pF_5 (S := S) v_y0.2) (fun w h => List.mem_cons_of_mem _ (List.mem_append_right _ h)) rfl 10 (by decide) (hts (.fieldLink RX5 122 "SharedModuliModel" "spot" "I") (List.mem_of_getElem? (i := 1) rfl)) (v := .int (fI S 90 y0)) rfl dX5_letter_16 ?_
    obtain ⟨c8, hf⟩ := ckd_some hf
    refine q_iald F hK hP v_b6 c8 dX5_letter_19 ?_
    refine lv_goto (tgt := 24) hx hb dX5_letter_20 (by decide) ?_
    exact hB24 (aI S b6 (fI S 90 y0).toNatClampNeg) _ (lv_sub hl [] rfl)  hf
def f_X5_wants_B34 (S : PS) : Option PS :=
  some (S)
def f_X5_wants_B21 (S : PS) (x0 : Nat) (s0 : Nat) (s1 : Int32) : Option PS :=
  f_X5_wants_B34 (sI (sI S 91 s0 s1) 90 x0 ((fI (sI S 91 s0 s1) 90 x0) + (1 : Int32)))
def f_X5_wants (S : PS) (x0 : Nat) (x1 : Int32) : Option PS :=
  if (fI S 91 x0) = ((-1)) then (if x1 = 0 then (f_X5_wants_B21 S x0 x0 (fI S 90 x0)) else
  f_X5_wants_B21 S x0 x0 ((-1))) else
  f_X5_wants_B34 S
set_option maxHeartbeats 4000000 in
set_option maxRecDepth 100000 in
theorem c_X5_wants (l : Launch) (D : va_G) (cy : cyT) {S : PS} {n : Nat} {y0 : Nat} {y1 : Int32} (v_y0 : vd S y0 5) {res : PS} (hf : f_X5_wants S y0 y1 = some res) : Met l yX5_wants wsX5_wants ({ frames := 0, cells := 0, slots := 0, locals := 0 } : Room) (PcW False D cy S n [.ref y0, .int y1]) (va_Qv (fun (u : PS × Nat) => u = (res, n)) (BW D cy S n) (AA cy S n)) 0 0 (AA cy S n) := by
  refine Met.ofW (cc := cX5_wants) (maxL := 2) (ret := none) (by decide) rfl ?_
  intro p e s m args below meth c s₁ B hml hv
  obtain ⟨hav, hsz, hP0, hD0, hK, hZ0⟩ := hv
  have hx := B.exec
  have hb := B.bytes
  have hr := B.returns
  have hts := atoms_spec (ws := wsX5_wants) B.pre
  have hown : s.vm.findClass RX5 = some m.cls := findClass_of_methodNamed B.named
  have hlocks := B.notSynchronized
  subst hav
  have hw : Hw D cy (AA cy S n) s.heap S n s.heap [] := Hw.start hsz hP0 hD0
  have hA : ∀ q, s.heap.size ≤ q → AA cy S n q := fun q h => Or.inr (hsz ▸ h)
  have hE : EX S S := EX.rf
  have F : CallFix p m c cX5_wants 2 s _ wsX5_wants RX5 := ⟨hx, hb, hml, hown, hts⟩
  have hB34 : ∀ (Sb : PS) (H1 : Heap) (lo1 : List Loc)  (ls : Array Slot), lv_has ls 2 [] → Hw D cy (AA cy S n) s.heap Sb n H1 lo1 → EX S Sb → f_X5_wants_B34 Sb = some res → W p l e (headSpec wsX5_wants ({ frames := 0, cells := 0, slots := 0, locals := 0 } : Room)).room s m ([.ref y0, .int y1] : List Value).toArray below meth c H1 lo1 0 0 (MQ below (va_Qv (fun (u : PS × Nat) => u = (res, n)) (BW D cy S n) (AA cy S n)) ([.ref y0, .int y1] : List Value).toArray s 0 0 (AA cy S n)) (F0 m 34 ls []) := by
    intro Sb H1 lo1 ls hl hw hE hf
    unfold f_X5_wants_B34 at hf
    exact W.vret hx hb hr (fun t ht hW => ⟨⟨(Sb, n), rfl, po1 hf, BW.of hw hE ht⟩, hw.2.2.1.F ht⟩) hw.2.2.1.2.2 dX5_wants_34
  have hB21 : ∀ (Sb : PS) (H1 : Heap) (lo1 : List Loc) (x0 : Nat) (s0 : Nat) (s1 : Int32) (ls : Array Slot), lv_has ls 2 [(0, .ref x0)] → Hw D cy (AA cy S n) s.heap Sb n H1 lo1 → EX S Sb → vd Sb x0 5 → vd Sb s0 5 → f_X5_wants_B21 Sb x0 s0 s1 = some res → W p l e (headSpec wsX5_wants ({ frames := 0, cells := 0, slots := 0, locals := 0 } : Room)).room s m ([.ref y0, .int y1] : List Value).toArray below meth c H1 lo1 0 0 (MQ below (va_Qv (fun (u : PS × Nat) => u = (res, n)) (BW D cy S n) (AA cy S n)) ([.ref y0, .int y1] : List Value).toArray s 0 0 (AA cy S n)) (F0 m 21 ls [.int s1, .ref s0]) := by
    intro Sb H1 lo1 x0 s0 s1 ls hl hw hE v_x0 v_s0 hf
    unfold f_X5_wants_B21 at hf
    refine q_put F hK hw v_s0.1 (pF_5 (S := Sb) v_s0.2) (fun w h => List.mem_cons_of_mem _ (List.mem_append_right _ h)) tyX5 tyX5_ok nmX5 rfl 11 (by decide) (hts (.fieldLink RX5 125 "SharedModuliModel" "wrong" "I") (List.mem_of_getElem? (i := 1) rfl)) (Or.inl rfl) (tyX5_ok 11 (by decide)) rfl rfl (Nat.le_of_ble_eq_true rfl) (S1 := sI Sb 91 s0 s1) (st_91 (S := Sb) v_s0.2 s1) dX5_wants_21 (fun H locs hw => ?_)
    refine lv_aload_n hx hb dX5_wants_24 rfl (lv_at hl 0 rfl) ?_
    refine lv_dup hx hb dX5_wants_25 rfl ?_
    refine q_get F hK hw.1 v_x0.1 (pF_5 (S := sI Sb 91 s0 s1) v_x0.2) (fun w h => List.mem_cons_of_mem _ (List.mem_append_right _ h)) rfl 10 (by decide) (hts (.fieldLink RX5 122 "SharedModuliModel" "spot" "I") (List.mem_of_getElem? (i := 2) rfl)) (v := .int (fI (sI Sb 91 s0 s1) 90 x0)) rfl dX5_wants_26 ?_
    refine lv_iconst (v := 1) hx hb dX5_wants_29 (by decide) ?_
    refine lv_iadd hx hb dX5_wants_30 ?_
    refine q_put F hK hw v_x0.1 (pF_5 (S := sI Sb 91 s0 s1) v_x0.2) (fun w h => List.mem_cons_of_mem _ (List.mem_append_right _ h)) tyX5 tyX5_ok nmX5 rfl 10 (by decide) (hts (.fieldLink RX5 122 "SharedModuliModel" "spot" "I") (List.mem_of_getElem? (i := 2) rfl)) (Or.inl rfl) (tyX5_ok 10 (by decide)) rfl rfl (Nat.le_of_ble_eq_true rfl) (S1 := sI (sI Sb 91 s0 s1) 90 x0 ((fI (sI Sb 91 s0 s1) 90 x0) + (1 : Int32))) (st_90 (S := sI Sb 91 s0 s1) v_x0.2 ((fI (sI Sb 91 s0 s1) 90 x0) + (1 : Int32))) dX5_wants_31 (fun H locs hw => ?_)
    exact hB34 (sI (sI Sb 91 s0 s1) 90 x0 ((fI (sI Sb 91 s0 s1) 90 x0) + (1 : Int32))) _ _ _ (lv_sub hl [] rfl) hw hE  hf
  have hl := lv_entry ([.ref y0, .int y1]) (n := 2) (Nat.le_of_ble_eq_true rfl)
  rw [lg_entry_eq]
  generalize (lg_sl ([.ref y0, .int y1]) ++ List.replicate (2 - (lg_sl ([.ref y0, .int y1])).length) Slot.unset).toArray = ls at hl ⊢
  have hl : lv_has ls 2 [(0, .ref y0), (1, .int y1)] := hl
  unfold f_X5_wants at hf
  refine lv_aload_n hx hb dX5_wants_0 rfl (lv_at hl 0 rfl) ?_
  refine q_get F hK hw.1 v_y0.1 (pF_5 (S := S) v_y0.2) (fun w h => List.mem_cons_of_mem _ (List.mem_append_right _ h)) rfl 11 (by decide) (hts (.fieldLink RX5 125 "SharedModuliModel" "wrong" "I") (List.mem_of_getElem? (i := 1) rfl)) (v := .int (fI S 91 y0)) rfl dX5_wants_1 ?_
  refine lv_iconst (v := (-1)) hx hb dX5_wants_4 (by decide) ?_
  refine lv_icmp_ne (tgt := 34) hx hb dX5_wants_5 (by decide) (fun c3 => ?_) (fun c3 => ?_)
  · have hf := it_f c3 hf
    exact hB34 S _ _ _ (lv_sub hl [] rfl) hw hE  hf
  · have hf := it_t c3 hf
    refine lv_aload_n hx hb dX5_wants_8 rfl (lv_at hl 0 rfl) ?_
    refine lv_iload_n hx hb dX5_wants_9 rfl (lv_at hl 1 rfl) ?_
    refine lv_if_eq (tgt := 17) hx hb dX5_wants_10 (by decide) (fun c4 => ?_) (fun c4 => ?_)
    · have hf := it_t c4 hf
      refine lv_aload_n hx hb dX5_wants_17 rfl (lv_at hl 0 rfl) ?_
      refine q_get F hK hw.1 v_y0.1 (pF_5 (S := S) v_y0.2) (fun w h => List.mem_cons_of_mem _ (List.mem_append_right _ h)) rfl 10 (by decide) (hts (.fieldLink RX5 122 "SharedModuliModel" "spot" "I") (List.mem_of_getElem? (i := 2) rfl)) (v := .int (fI S 90 y0)) rfl dX5_wants_18 ?_
      exact hB21 S _ _ y0 y0 (fI S 90 y0) _ (lv_sub hl [0] rfl) hw hE v_y0 v_y0 hf
    · have hf := it_f c4 hf
      refine lv_iconst (v := (-1)) hx hb dX5_wants_13 (by decide) ?_
      refine lv_goto (tgt := 21) hx hb dX5_wants_14 (by decide) ?_
      exact hB21 S _ _ y0 y0 ((-1)) _ (lv_sub hl [0] rfl) hw hE v_y0 v_y0 hf
def f_X5_number_B89 (S : PS) (x2 : Int32) : Option (Int32 × PS) :=
  some (x2, S)
def f_X5_number_L27s (kL27 : PS → Nat → Int32 → Int32 → Option (Int32 × PS)) (ke89 : PS → Int32 → Option (Int32 × PS)) (S : PS) (x0 : Nat) (x2 : Int32) (x3 : Int32) : Option (Int32 × PS) :=
  if (fI S 91 x0) = ((-1)) then (if x2 ≤ 0 then (ke89 S x2) else
  bd (f_X5_in x3 0 9) fun t3 =>
  if t3 = 0 then (ke89 S x2) else
  if 999 < (((10 : Int32) * x2) + x3) then (ke89 S x2) else
  bd (f_X5_letter (sI S 90 x0 ((fI S 90 x0) + (1 : Int32))) x0) fun t8 =>
  kL27 (sI S 90 x0 ((fI S 90 x0) + (1 : Int32))) x0 (((10 : Int32) * x2) + x3) (t8 - (48 : Int32))) else
  ke89 S x2
def f_X5_number_L27 (ke89 : PS → Int32 → Option (Int32 × PS)) (fu : Nat) : PS → Nat → Int32 → Int32 → Option (Int32 × PS) := fx (fun kL => f_X5_number_L27s kL ke89) (fun _ _ _ _ => none) fu
def f_X5_number (S : PS) (x0 : Nat) (x1 : Int32) : Option (Int32 × PS) :=
  bd (f_X5_letter S x0) fun t11 =>
  bd (f_X5_in (t11 - (48 : Int32)) x1 9) fun t14 =>
  bd (f_X5_wants S x0 t14) fun t17 =>
  bd (f_X5_letter t17 x0) fun t19 =>
  f_X5_number_L27 f_X5_number_B89 FU t17 x0 (t11 - (48 : Int32)) (t19 - (48 : Int32))
set_option maxHeartbeats 4000000 in
set_option maxRecDepth 100000 in
theorem c_X5_number (l : Launch) (D : va_G) (cy : cyT) {S : PS} {n : Nat} {y0 : Nat} {y1 : Int32} (v_y0 : vd S y0 5) {res : Int32 × PS} (hf : f_X5_number S y0 y1 = some res) : Met l yX5_number wsX5_number ({ frames := 1, cells := 0, slots := 0, locals := 22 } : Room) (PcW False D cy S n [.ref y0, .int y1]) (va_Qi (fun (r : Int32) (u : PS × Nat) => r = res.1 ∧ u = (res.2, n)) (BW D cy S n) (AA cy S n)) 0 0 (AA cy S n) := by
  refine Met.ofW (cc := cX5_number) (maxL := 4) (ret := (some .int)) (by decide) rfl ?_
  intro p e s m args below meth c s₁ B hml hv
  obtain ⟨hav, hsz, hP0, hD0, hK, hZ0⟩ := hv
  have hx := B.exec
  have hb := B.bytes
  have hr := B.returns
  have hts := atoms_spec (ws := wsX5_number) B.pre
  have hown : s.vm.findClass RX5 = some m.cls := findClass_of_methodNamed B.named
  have hlocks := B.notSynchronized
  subst hav
  have hw : Hw D cy (AA cy S n) s.heap S n s.heap [] := Hw.start hsz hP0 hD0
  have hA : ∀ q, s.heap.size ≤ q → AA cy S n q := fun q h => Or.inr (hsz ▸ h)
  have hE : EX S S := EX.rf
  have F : CallFix p m c cX5_number 4 s _ wsX5_number RX5 := ⟨hx, hb, hml, hown, hts⟩
  have hB89 : ∀ (Sb : PS) (H1 : Heap) (lo1 : List Loc) (x2 : Int32) (ls : Array Slot), lv_has ls 4 [(2, .int x2)] → Hw D cy (AA cy S n) s.heap Sb n H1 lo1 → EX S Sb → f_X5_number_B89 Sb x2 = some res → W p l e (headSpec wsX5_number ({ frames := 1, cells := 0, slots := 0, locals := 22 } : Room)).room s m ([.ref y0, .int y1] : List Value).toArray below meth c H1 lo1 0 0 (MQ below (va_Qi (fun (r : Int32) (u : PS × Nat) => r = res.1 ∧ u = (res.2, n)) (BW D cy S n) (AA cy S n)) ([.ref y0, .int y1] : List Value).toArray s 0 0 (AA cy S n)) (F0 m 89 ls []) := by
    intro Sb H1 lo1 x2 ls hl hw hE hf
    unfold f_X5_number_B89 at hf
    refine lv_iload_n hx hb dX5_number_89 rfl (lv_at hl 0 rfl) ?_
    exact W.iret (v := x2) hx hb hr (fun t ht hW => ⟨⟨_, (Sb, n), rfl, po2 hf, BW.of hw hE ht⟩, hw.2.2.1.F ht⟩) hw.2.2.1.2.2 dX5_number_90
  have hL27 : ∀ (fu27 : Nat), ∀ (Sb : PS) (H1 : Heap) (lo1 : List Loc) (x0 : Nat) (x2 : Int32) (x3 : Int32) (ls : Array Slot), lv_has ls 4 [(0, .ref x0), (2, .int x2), (3, .int x3)] → Hw D cy (AA cy S n) s.heap Sb n H1 lo1 → EX S Sb → vd Sb x0 5 → f_X5_number_L27 f_X5_number_B89 fu27 Sb x0 x2 x3 = some res → W p l e (headSpec wsX5_number ({ frames := 1, cells := 0, slots := 0, locals := 22 } : Room)).room s m ([.ref y0, .int y1] : List Value).toArray below meth c H1 lo1 0 0 (MQ below (va_Qi (fun (r : Int32) (u : PS × Nat) => r = res.1 ∧ u = (res.2, n)) (BW D cy S n) (AA cy S n)) ([.ref y0, .int y1] : List Value).toArray s 0 0 (AA cy S n)) (F0 m 27 ls []) := by
    intro fu27
    induction fu27 with
    | zero =>
      intro Sb H1 lo1 x0 x2 x3 ls hl hw hE v_x0 hf
      have hf : (none : Option (Int32 × PS)) = some res := hf
      cases hf
    | succ fu27 ih27 =>
      intro Sb H1 lo1 x0 x2 x3 ls hl hw hE v_x0 hf
      have hf : f_X5_number_L27s (f_X5_number_L27 f_X5_number_B89 fu27) f_X5_number_B89 Sb x0 x2 x3 = some res := hf
      unfold f_X5_number_L27s at hf
      refine lv_aload_n hx hb dX5_number_27 rfl (lv_at hl 0 rfl) ?_
      refine q_get F hK hw.1 v_x0.1 (pF_5 (S := Sb) v_x0.2) (fun w h => List.mem_cons_of_mem _ (List.mem_append_right _ h)) rfl 11 (by decide) (hts (.fieldLink RX5 125 "SharedModuliModel" "wrong" "I") (List.mem_of_getElem? (i := 1) rfl)) (v := .int (fI Sb 91 x0)) rfl dX5_number_28 ?_
      refine lv_iconst (v := (-1)) hx hb dX5_number_31 (by decide) ?_
      refine lv_icmp_ne (tgt := 89) hx hb dX5_number_32 (by decide) (fun c22 => ?_) (fun c22 => ?_)
      · have hf := it_f c22 hf
        exact hB89 Sb _ _ x2 _ (lv_sub hl [1] rfl) hw hE  hf
      · have hf := it_t c22 hf
        refine lv_iload_n hx hb dX5_number_35 rfl (lv_at hl 1 rfl) ?_
        refine lv_if_le (tgt := 89) hx hb dX5_number_36 (by decide) (fun c23 => ?_) (fun c23 => ?_)
        · have hf := it_t c23 hf
          exact hB89 Sb _ _ x2 _ (lv_sub hl [1] rfl) hw hE  hf
        · have hf := it_f c23 hf
          refine lv_iload_n hx hb dX5_number_39 rfl (lv_at hl 2 rfl) ?_
          refine lv_iconst (v := 0) hx hb dX5_number_40 (by decide) ?_
          refine lv_bipush (v := 9) hx hb dX5_number_41 (by decide) ?_
          obtain ⟨t24, h25, hf⟩ := bd_some hf
          refine vp_callSi (va_runS (As := [.int x3, .int 0, .int 9]) (rest := []) F (c_X5_in l D cy (H := _)  h25) (va_cwS 3 hts gX5_number_X5_in rfl rfl rfl ⟨ph_X5_in.1, ph_X5_in.2, pd_X5_in⟩ ⟨Nat.le_of_ble_eq_true rfl, Nat.le_of_ble_eq_true rfl⟩) ⟨PcR.bl, PcR.in hK⟩ rfl rfl hl.1 rfl (lv_room (Nat.le_of_ble_eq_true rfl)) dX5_number_43 ⟨Nat.zero_le _, Nat.zero_le _⟩).run (fun r26 er26 => ?_)
          subst r26
          refine lv_if_eq (tgt := 89) hx hb dX5_number_46 (by decide) (fun c27 => ?_) (fun c27 => ?_)
          · have hf := it_t c27 hf
            exact hB89 Sb _ _ x2 _ (lv_sub hl [1] rfl) hw hE  hf
          · have hf := it_f c27 hf
            refine lv_bipush (v := 10) hx hb dX5_number_49 (by decide) ?_
            refine lv_iload_n hx hb dX5_number_51 rfl (lv_at hl 1 rfl) ?_
            refine lv_imul hx hb dX5_number_52 ?_
            refine lv_iload_n hx hb dX5_number_53 rfl (lv_at hl 2 rfl) ?_
            refine lv_iadd hx hb dX5_number_54 ?_
            refine lv_sipush (v := 999) hx hb dX5_number_55 (by decide) ?_
            refine lv_icmp_gt (tgt := 89) hx hb dX5_number_58 (by decide) (fun c28 => ?_) (fun c28 => ?_)
            · have hf := it_t c28 hf
              exact hB89 Sb _ _ x2 _ (lv_sub hl [1] rfl) hw hE  hf
            · have hf := it_f c28 hf
              refine lv_bipush (v := 10) hx hb dX5_number_61 (by decide) ?_
              refine lv_iload_n hx hb dX5_number_63 rfl (lv_at hl 1 rfl) ?_
              refine lv_imul hx hb dX5_number_64 ?_
              refine lv_iload_n hx hb dX5_number_65 rfl (lv_at hl 2 rfl) ?_
              refine lv_iadd hx hb dX5_number_66 ?_
              refine lv_istore_n (lv' := [(2, .int (((10 : Int32) * x2) + x3)), (0, .ref x0), (3, .int x3)]) hx hb dX5_number_67 rfl hl (by decide) rfl (fun ls hl => ?_)
              refine lv_aload_n hx hb dX5_number_68 rfl (lv_at hl 1 rfl) ?_
              refine lv_dup hx hb dX5_number_69 rfl ?_
              refine q_get F hK hw.1 v_x0.1 (pF_5 (S := Sb) v_x0.2) (fun w h => List.mem_cons_of_mem _ (List.mem_append_right _ h)) rfl 10 (by decide) (hts (.fieldLink RX5 122 "SharedModuliModel" "spot" "I") (List.mem_of_getElem? (i := 2) rfl)) (v := .int (fI Sb 90 x0)) rfl dX5_number_70 ?_
              refine lv_iconst (v := 1) hx hb dX5_number_73 (by decide) ?_
              refine lv_iadd hx hb dX5_number_74 ?_
              refine q_put F hK hw v_x0.1 (pF_5 (S := Sb) v_x0.2) (fun w h => List.mem_cons_of_mem _ (List.mem_append_right _ h)) tyX5 tyX5_ok nmX5 rfl 10 (by decide) (hts (.fieldLink RX5 122 "SharedModuliModel" "spot" "I") (List.mem_of_getElem? (i := 2) rfl)) (Or.inl rfl) (tyX5_ok 10 (by decide)) rfl rfl (Nat.le_of_ble_eq_true rfl) (S1 := sI Sb 90 x0 ((fI Sb 90 x0) + (1 : Int32))) (st_90 (S := Sb) v_x0.2 ((fI Sb 90 x0) + (1 : Int32))) dX5_number_75 (fun H locs hw => ?_)
              refine lv_aload_n hx hb dX5_number_78 rfl (lv_at hl 1 rfl) ?_
              obtain ⟨t29, h30, hf⟩ := bd_some hf
              refine vp_callSi (va_runV (As := []) (rest := []) F (c_X5_letter l D cy (H := _) hw.1 v_x0 h30) (cwV 0 hts gX5_number_X5_letter rfl rfl rfl ⟨rfl, ph_X5_letter.1, ph_X5_letter.2, pd_X5_letter⟩ ⟨Nat.le_of_ble_eq_true rfl, Nat.le_of_ble_eq_true rfl⟩) ⟨PcR.bl, (q_rcv hK hw.1 v_x0.1 (pF_5 (S := sI Sb 90 x0 ((fI Sb 90 x0) + (1 : Int32))) v_x0.2) rfl), PcR.in hK⟩ rfl rfl hl.1 rfl (lv_room (Nat.le_of_ble_eq_true rfl)) dX5_number_79 ⟨Nat.zero_le _, Nat.zero_le _⟩).run (fun r31 er31 => ?_)
              subst r31
              refine lv_bipush (v := 48) hx hb dX5_number_82 (by decide) ?_
              refine lv_isub hx hb dX5_number_84 ?_
              refine lv_istore_n (lv' := [(3, .int (t29 - (48 : Int32))), (2, .int (((10 : Int32) * x2) + x3)), (0, .ref x0)]) hx hb dX5_number_85 rfl hl (by decide) rfl (fun ls hl => ?_)
              refine lv_goto (tgt := 27) hx hb dX5_number_86 (by decide) ?_
              exact ih27 (sI Sb 90 x0 ((fI Sb 90 x0) + (1 : Int32))) _ _ x0 (((10 : Int32) * x2) + x3) (t29 - (48 : Int32)) _ (lv_sub hl [2, 1, 0] rfl) hw hE v_x0 hf
  have hl := lv_entry ([.ref y0, .int y1]) (n := 4) (Nat.le_of_ble_eq_true rfl)
  rw [lg_entry_eq]
  generalize (lg_sl ([.ref y0, .int y1]) ++ List.replicate (4 - (lg_sl ([.ref y0, .int y1])).length) Slot.unset).toArray = ls at hl ⊢
  have hl : lv_has ls 4 [(0, .ref y0), (1, .int y1)] := hl
  unfold f_X5_number at hf
  refine lv_aload_n hx hb dX5_number_0 rfl (lv_at hl 0 rfl) ?_
  obtain ⟨t32, h33, hf⟩ := bd_some hf
  refine vp_callSi (va_runV (As := []) (rest := []) F (c_X5_letter l D cy (H := _) hw.1 v_y0 h33) (cwV 0 hts gX5_number_X5_letter rfl rfl rfl ⟨rfl, ph_X5_letter.1, ph_X5_letter.2, pd_X5_letter⟩ ⟨Nat.le_of_ble_eq_true rfl, Nat.le_of_ble_eq_true rfl⟩) ⟨PcR.bl, (q_rcv hK hw.1 v_y0.1 (pF_5 (S := S) v_y0.2) rfl), PcR.in hK⟩ rfl rfl hl.1 rfl (lv_room (Nat.le_of_ble_eq_true rfl)) dX5_number_1 ⟨Nat.zero_le _, Nat.zero_le _⟩).run (fun r34 er34 => ?_)
  subst r34
  refine lv_bipush (v := 48) hx hb dX5_number_4 (by decide) ?_
  refine lv_isub hx hb dX5_number_6 ?_
  refine lv_istore_n (lv' := [(2, .int (t32 - (48 : Int32))), (0, .ref y0), (1, .int y1)]) hx hb dX5_number_7 rfl hl (by decide) rfl (fun ls hl => ?_)
  refine lv_aload_n hx hb dX5_number_8 rfl (lv_at hl 1 rfl) ?_
  refine lv_iload_n hx hb dX5_number_9 rfl (lv_at hl 0 rfl) ?_
  refine lv_iload_n hx hb dX5_number_10 rfl (lv_at hl 2 rfl) ?_
  refine lv_bipush (v := 9) hx hb dX5_number_11 (by decide) ?_
  obtain ⟨t35, h36, hf⟩ := bd_some hf
  refine vp_callSi (va_runS (As := [.int (t32 - (48 : Int32)), .int y1, .int 9]) (rest := [.ref y0]) F (c_X5_in l D cy (H := _)  h36) (va_cwS 3 hts gX5_number_X5_in rfl rfl rfl ⟨ph_X5_in.1, ph_X5_in.2, pd_X5_in⟩ ⟨Nat.le_of_ble_eq_true rfl, Nat.le_of_ble_eq_true rfl⟩) ⟨PcR.bl, PcR.in hK⟩ rfl rfl hl.1 rfl (lv_room (Nat.le_of_ble_eq_true rfl)) dX5_number_13 ⟨Nat.zero_le _, Nat.zero_le _⟩).run (fun r37 er37 => ?_)
  subst r37
  obtain ⟨t38, h39, hf⟩ := bd_some hf
  refine q_callv (va_runV (As := [.int t35]) (rest := []) F (c_X5_wants l D cy (S := S) v_y0 h39) (cwV 1 hts gX5_number_X5_wants rfl rfl rfl ⟨rfl, ph_X5_wants.1, ph_X5_wants.2, pd_X5_wants⟩ ⟨Nat.le_of_ble_eq_true rfl, Nat.le_of_ble_eq_true rfl⟩) ⟨PcW.bl, (q_rcv hK hw.1 v_y0.1 (pF_5 (S := S) v_y0.2) rfl), PcW.in hK hw hA (fun z => z.elim)⟩ rfl rfl hl.1 rfl (lv_room (Nat.le_of_ble_eq_true rfl)) dX5_number_16 ⟨Nat.zero_le _, Nat.zero_le _⟩) hw hA (fun H locs hw hX => ?_)
  have hE := hE.tr hX
  have v_y0 := hX _ _ v_y0
  refine lv_aload_n hx hb dX5_number_19 rfl (lv_at hl 1 rfl) ?_
  obtain ⟨t40, h41, hf⟩ := bd_some hf
  refine vp_callSi (va_runV (As := []) (rest := []) F (c_X5_letter l D cy (H := _) hw.1 v_y0 h41) (cwV 0 hts gX5_number_X5_letter rfl rfl rfl ⟨rfl, ph_X5_letter.1, ph_X5_letter.2, pd_X5_letter⟩ ⟨Nat.le_of_ble_eq_true rfl, Nat.le_of_ble_eq_true rfl⟩) ⟨PcR.bl, (q_rcv hK hw.1 v_y0.1 (pF_5 (S := t38) v_y0.2) rfl), PcR.in hK⟩ rfl rfl hl.1 rfl (lv_room (Nat.le_of_ble_eq_true rfl)) dX5_number_20 ⟨Nat.zero_le _, Nat.zero_le _⟩).run (fun r42 er42 => ?_)
  subst r42
  refine lv_bipush (v := 48) hx hb dX5_number_23 (by decide) ?_
  refine lv_isub hx hb dX5_number_25 ?_
  refine lv_istore_n (lv' := [(3, .int (t40 - (48 : Int32))), (2, .int (t32 - (48 : Int32))), (0, .ref y0), (1, .int y1)]) hx hb dX5_number_26 rfl hl (by decide) rfl (fun ls hl => ?_)
  exact hL27 FU t38 _ _ y0 (t32 - (48 : Int32)) (t40 - (48 : Int32)) _ (lv_sub hl [2, 1, 0] rfl) hw hE v_y0 hf
def f_X5_readOne_B95 (S : PS) (x0 : Nat) (x1 : Int32) (s0 : Nat) (s1 : Int32) : Option PS :=
  bd (f_X5_wants S s0 s1) fun t1 =>
  rq (fR t1 88 x0) t1 6 fun b3 =>
  bd (f_X5_number t1 x0 1) fun t5 =>
  ck (decide (¬ ((x1 + (2 : Int32)) < 0 ∨ aN t5.2 b3 ≤ (x1 + (2 : Int32)).toNatClampNeg))) (
  some (sI (sA t5.2 b3 (x1 + (2 : Int32)) t5.1) 89 x0 ((fI (sA t5.2 b3 (x1 + (2 : Int32)) t5.1) 89 x0) + (1 : Int32))))
def f_X5_readOne_B64 (S : PS) (x0 : Nat) (x1 : Int32) (s0 : Nat) (s1 : Int32) : Option PS :=
  bd (f_X5_wants S s0 s1) fun t8 =>
  rq (fR t8 88 x0) t8 6 fun b10 =>
  bd (f_X5_number t8 x0 0) fun t12 =>
  ck (decide (¬ ((x1 + (1 : Int32)) < 0 ∨ aN t12.2 b10 ≤ (x1 + (1 : Int32)).toNatClampNeg))) (
  bd (f_X5_letter (sA t12.2 b10 (x1 + (1 : Int32)) t12.1) x0) fun t15 =>
  if t15 = 37 then (f_X5_readOne_B95 (sA t12.2 b10 (x1 + (1 : Int32)) t12.1) x0 x1 x0 1) else
  f_X5_readOne_B95 (sA t12.2 b10 (x1 + (1 : Int32)) t12.1) x0 x1 x0 0)
def f_X5_readOne_B46 (S : PS) (x0 : Nat) (x1 : Int32) (s0 : Nat) (s1 : Int32) : Option PS :=
  bd (f_X5_wants S s0 s1) fun t19 =>
  bd (f_X5_letter t19 x0) fun t21 =>
  if t21 = 61 then (f_X5_readOne_B64 t19 x0 x1 x0 1) else
  f_X5_readOne_B64 t19 x0 x1 x0 0
def f_X5_readOne_B30 (S : PS) (x0 : Nat) (x1 : Int32) (s0 : Nat) (s1 : Int32) (s2 : Int32) : Option PS :=
  ck (decide (¬ (s1 < 0 ∨ aN S s0 ≤ s1.toNatClampNeg))) (
  bd (f_X5_letter (sA S s0 s1 s2) x0) fun t26 =>
  if t26 = 120 then (f_X5_readOne_B46 (sA S s0 s1 s2) x0 x1 x0 1) else
  f_X5_readOne_B46 (sA S s0 s1 s2) x0 x1 x0 0)
def f_X5_readOne (S : PS) (x0 : Nat) : Option PS :=
  rq (fR S 88 x0) S 6 fun b30 =>
  bd (f_X5_letter S x0) fun t32 =>
  if t32 = 120 then (f_X5_readOne_B30 S x0 ((3 : Int32) * (fI S 89 x0)) b30 ((3 : Int32) * (fI S 89 x0)) 1) else
  bd (f_X5_number S x0 1) fun t36 =>
  f_X5_readOne_B30 t36.2 x0 ((3 : Int32) * (fI S 89 x0)) b30 ((3 : Int32) * (fI S 89 x0)) t36.1
set_option maxHeartbeats 4000000 in
set_option maxRecDepth 100000 in
theorem c_X5_readOne (l : Launch) (D : va_G) (cy : cyT) {S : PS} {n : Nat} {y0 : Nat} (v_y0 : vd S y0 5) {res : PS} (hf : f_X5_readOne S y0 = some res) : Met l yX5_readOne wsX5_readOne ({ frames := 2, cells := 0, slots := 0, locals := 45 } : Room) (PcW False D cy S n [.ref y0]) (va_Qv (fun (u : PS × Nat) => u = (res, n)) (BW D cy S n) (AA cy S n)) 0 0 (AA cy S n) := by
  refine Met.ofW (cc := cX5_readOne) (maxL := 2) (ret := none) (by decide) rfl ?_
  intro p e s m args below meth c s₁ B hml hv
  obtain ⟨hav, hsz, hP0, hD0, hK, hZ0⟩ := hv
  have hx := B.exec
  have hb := B.bytes
  have hr := B.returns
  have hts := atoms_spec (ws := wsX5_readOne) B.pre
  have hown : s.vm.findClass RX5 = some m.cls := findClass_of_methodNamed B.named
  have hlocks := B.notSynchronized
  subst hav
  have hw : Hw D cy (AA cy S n) s.heap S n s.heap [] := Hw.start hsz hP0 hD0
  have hA : ∀ q, s.heap.size ≤ q → AA cy S n q := fun q h => Or.inr (hsz ▸ h)
  have hE : EX S S := EX.rf
  have F : CallFix p m c cX5_readOne 2 s _ wsX5_readOne RX5 := ⟨hx, hb, hml, hown, hts⟩
  have hB95 : ∀ (Sb : PS) (H1 : Heap) (lo1 : List Loc) (x0 : Nat) (x1 : Int32) (s0 : Nat) (s1 : Int32) (ls : Array Slot), lv_has ls 2 [(0, .ref x0), (1, .int x1)] → Hw D cy (AA cy S n) s.heap Sb n H1 lo1 → EX S Sb → vd Sb x0 5 → vd Sb s0 5 → f_X5_readOne_B95 Sb x0 x1 s0 s1 = some res → W p l e (headSpec wsX5_readOne ({ frames := 2, cells := 0, slots := 0, locals := 45 } : Room)).room s m ([.ref y0] : List Value).toArray below meth c H1 lo1 0 0 (MQ below (va_Qv (fun (u : PS × Nat) => u = (res, n)) (BW D cy S n) (AA cy S n)) ([.ref y0] : List Value).toArray s 0 0 (AA cy S n)) (F0 m 95 ls [.int s1, .ref s0]) := by
    intro Sb H1 lo1 x0 x1 s0 s1 ls hl hw hE v_x0 v_s0 hf
    unfold f_X5_readOne_B95 at hf
    obtain ⟨t38, h39, hf⟩ := bd_some hf
    refine q_callv (va_runV (As := [.int s1]) (rest := []) F (c_X5_wants l D cy (S := Sb) v_s0 h39) (cwV 1 hts gX5_readOne_X5_wants rfl rfl rfl ⟨rfl, ph_X5_wants.1, ph_X5_wants.2, pd_X5_wants⟩ ⟨Nat.le_of_ble_eq_true rfl, Nat.le_of_ble_eq_true rfl⟩) ⟨PcW.bl, (q_rcv hK hw.1 v_s0.1 (pF_5 (S := Sb) v_s0.2) rfl), PcW.in hK hw hA (fun z => z.elim)⟩ rfl rfl hl.1 rfl (lv_room (Nat.le_of_ble_eq_true rfl)) dX5_readOne_95 ⟨Nat.zero_le _, Nat.zero_le _⟩) hw hA (fun H locs hw hX => ?_)
    have hE := hE.tr hX
    have v_x0 := hX _ _ v_x0
    have v_s0 := hX _ _ v_s0
    refine lv_aload_n hx hb dX5_readOne_98 rfl (lv_at hl 0 rfl) ?_
    obtain ⟨b40, e41, v_b40, hf⟩ := rq_some hf
    refine q_get F hK hw.1 v_x0.1 (pF_5 (S := t38) v_x0.2) (fun w h => List.mem_cons_of_mem _ (List.mem_append_right _ h)) rfl 8 (by decide) (hts (.fieldLink RX5 19 "SharedModuliModel" "read" "[I") (List.mem_of_getElem? (i := 2) rfl)) (v := .ref b40) (congrArg (fun z => some (va_rf z)) e41) dX5_readOne_99 ?_
    refine lv_iload_n hx hb dX5_readOne_102 rfl (lv_at hl 1 rfl) ?_
    refine lv_iconst (v := 2) hx hb dX5_readOne_103 (by decide) ?_
    refine lv_iadd hx hb dX5_readOne_104 ?_
    refine lv_aload_n hx hb dX5_readOne_105 rfl (lv_at hl 0 rfl) ?_
    refine lv_iconst (v := 1) hx hb dX5_readOne_106 (by decide) ?_
    obtain ⟨t42, h43, hf⟩ := bd_some hf
    refine q_calli (va_runV (As := [.int 1]) (rest := [.int (x1 + (2 : Int32)), .ref b40]) F (c_X5_number l D cy (S := t38) v_x0 h43) (cwV 1 hts gX5_readOne_X5_number rfl rfl rfl ⟨rfl, ph_X5_number.1, ph_X5_number.2, pd_X5_number⟩ ⟨Nat.le_of_ble_eq_true rfl, Nat.le_of_ble_eq_true rfl⟩) ⟨PcW.bl, (q_rcv hK hw.1 v_x0.1 (pF_5 (S := t38) v_x0.2) rfl), PcW.in hK hw hA (fun z => z.elim)⟩ rfl rfl hl.1 rfl (lv_room (Nat.le_of_ble_eq_true rfl)) dX5_readOne_107 ⟨Nat.zero_le _, Nat.zero_le _⟩) hw hA (fun H locs hw hX => ?_)
    have hE := hE.tr hX
    have v_x0 := hX _ _ v_x0
    have v_s0 := hX _ _ v_s0
    have v_b40 := hX _ _ v_b40
    obtain ⟨c44, hf⟩ := ckd_some hf
    refine q_iast F hK hw v_b40 c44 dX5_readOne_110 (fun H locs hw => ?_)
    refine lv_aload_n hx hb dX5_readOne_111 rfl (lv_at hl 0 rfl) ?_
    refine lv_dup hx hb dX5_readOne_112 rfl ?_
    refine q_get F hK hw.1 v_x0.1 (pF_5 (S := sA t42.2 b40 (x1 + (2 : Int32)) t42.1) v_x0.2) (fun w h => List.mem_cons_of_mem _ (List.mem_append_right _ h)) rfl 9 (by decide) (hts (.fieldLink RX5 135 "SharedModuliModel" "readMany" "I") (List.mem_of_getElem? (i := 1) rfl)) (v := .int (fI (sA t42.2 b40 (x1 + (2 : Int32)) t42.1) 89 x0)) rfl dX5_readOne_113 ?_
    refine lv_iconst (v := 1) hx hb dX5_readOne_116 (by decide) ?_
    refine lv_iadd hx hb dX5_readOne_117 ?_
    refine q_put F hK hw v_x0.1 (pF_5 (S := sA t42.2 b40 (x1 + (2 : Int32)) t42.1) v_x0.2) (fun w h => List.mem_cons_of_mem _ (List.mem_append_right _ h)) tyX5 tyX5_ok nmX5 rfl 9 (by decide) (hts (.fieldLink RX5 135 "SharedModuliModel" "readMany" "I") (List.mem_of_getElem? (i := 1) rfl)) (Or.inl rfl) (tyX5_ok 9 (by decide)) rfl rfl (Nat.le_of_ble_eq_true rfl) (S1 := sI (sA t42.2 b40 (x1 + (2 : Int32)) t42.1) 89 x0 ((fI (sA t42.2 b40 (x1 + (2 : Int32)) t42.1) 89 x0) + (1 : Int32))) (st_89 (S := sA t42.2 b40 (x1 + (2 : Int32)) t42.1) v_x0.2 ((fI (sA t42.2 b40 (x1 + (2 : Int32)) t42.1) 89 x0) + (1 : Int32))) dX5_readOne_118 (fun H locs hw => ?_)
    exact W.vret hx hb hr (fun t ht hW => ⟨⟨(sI (sA t42.2 b40 (x1 + (2 : Int32)) t42.1) 89 x0 ((fI (sA t42.2 b40 (x1 + (2 : Int32)) t42.1) 89 x0) + (1 : Int32)), n), rfl, po1 hf, BW.of hw hE ht⟩, hw.2.2.1.F ht⟩) hw.2.2.1.2.2 dX5_readOne_121
  have hB64 : ∀ (Sb : PS) (H1 : Heap) (lo1 : List Loc) (x0 : Nat) (x1 : Int32) (s0 : Nat) (s1 : Int32) (ls : Array Slot), lv_has ls 2 [(0, .ref x0), (1, .int x1)] → Hw D cy (AA cy S n) s.heap Sb n H1 lo1 → EX S Sb → vd Sb x0 5 → vd Sb s0 5 → f_X5_readOne_B64 Sb x0 x1 s0 s1 = some res → W p l e (headSpec wsX5_readOne ({ frames := 2, cells := 0, slots := 0, locals := 45 } : Room)).room s m ([.ref y0] : List Value).toArray below meth c H1 lo1 0 0 (MQ below (va_Qv (fun (u : PS × Nat) => u = (res, n)) (BW D cy S n) (AA cy S n)) ([.ref y0] : List Value).toArray s 0 0 (AA cy S n)) (F0 m 64 ls [.int s1, .ref s0]) := by
    intro Sb H1 lo1 x0 x1 s0 s1 ls hl hw hE v_x0 v_s0 hf
    unfold f_X5_readOne_B64 at hf
    obtain ⟨t45, h46, hf⟩ := bd_some hf
    refine q_callv (va_runV (As := [.int s1]) (rest := []) F (c_X5_wants l D cy (S := Sb) v_s0 h46) (cwV 1 hts gX5_readOne_X5_wants rfl rfl rfl ⟨rfl, ph_X5_wants.1, ph_X5_wants.2, pd_X5_wants⟩ ⟨Nat.le_of_ble_eq_true rfl, Nat.le_of_ble_eq_true rfl⟩) ⟨PcW.bl, (q_rcv hK hw.1 v_s0.1 (pF_5 (S := Sb) v_s0.2) rfl), PcW.in hK hw hA (fun z => z.elim)⟩ rfl rfl hl.1 rfl (lv_room (Nat.le_of_ble_eq_true rfl)) dX5_readOne_64 ⟨Nat.zero_le _, Nat.zero_le _⟩) hw hA (fun H locs hw hX => ?_)
    have hE := hE.tr hX
    have v_x0 := hX _ _ v_x0
    have v_s0 := hX _ _ v_s0
    refine lv_aload_n hx hb dX5_readOne_67 rfl (lv_at hl 0 rfl) ?_
    obtain ⟨b47, e48, v_b47, hf⟩ := rq_some hf
    refine q_get F hK hw.1 v_x0.1 (pF_5 (S := t45) v_x0.2) (fun w h => List.mem_cons_of_mem _ (List.mem_append_right _ h)) rfl 8 (by decide) (hts (.fieldLink RX5 19 "SharedModuliModel" "read" "[I") (List.mem_of_getElem? (i := 2) rfl)) (v := .ref b47) (congrArg (fun z => some (va_rf z)) e48) dX5_readOne_68 ?_
    refine lv_iload_n hx hb dX5_readOne_71 rfl (lv_at hl 1 rfl) ?_
    refine lv_iconst (v := 1) hx hb dX5_readOne_72 (by decide) ?_
    refine lv_iadd hx hb dX5_readOne_73 ?_
    refine lv_aload_n hx hb dX5_readOne_74 rfl (lv_at hl 0 rfl) ?_
    refine lv_iconst (v := 0) hx hb dX5_readOne_75 (by decide) ?_
    obtain ⟨t49, h50, hf⟩ := bd_some hf
    refine q_calli (va_runV (As := [.int 0]) (rest := [.int (x1 + (1 : Int32)), .ref b47]) F (c_X5_number l D cy (S := t45) v_x0 h50) (cwV 1 hts gX5_readOne_X5_number rfl rfl rfl ⟨rfl, ph_X5_number.1, ph_X5_number.2, pd_X5_number⟩ ⟨Nat.le_of_ble_eq_true rfl, Nat.le_of_ble_eq_true rfl⟩) ⟨PcW.bl, (q_rcv hK hw.1 v_x0.1 (pF_5 (S := t45) v_x0.2) rfl), PcW.in hK hw hA (fun z => z.elim)⟩ rfl rfl hl.1 rfl (lv_room (Nat.le_of_ble_eq_true rfl)) dX5_readOne_76 ⟨Nat.zero_le _, Nat.zero_le _⟩) hw hA (fun H locs hw hX => ?_)
    have hE := hE.tr hX
    have v_x0 := hX _ _ v_x0
    have v_s0 := hX _ _ v_s0
    have v_b47 := hX _ _ v_b47
    obtain ⟨c51, hf⟩ := ckd_some hf
    refine q_iast F hK hw v_b47 c51 dX5_readOne_79 (fun H locs hw => ?_)
    refine lv_aload_n hx hb dX5_readOne_80 rfl (lv_at hl 0 rfl) ?_
    refine lv_aload_n hx hb dX5_readOne_81 rfl (lv_at hl 0 rfl) ?_
    obtain ⟨t52, h53, hf⟩ := bd_some hf
    refine vp_callSi (va_runV (As := []) (rest := [.ref x0]) F (c_X5_letter l D cy (H := _) hw.1 v_x0 h53) (cwV 0 hts gX5_readOne_X5_letter rfl rfl rfl ⟨rfl, ph_X5_letter.1, ph_X5_letter.2, pd_X5_letter⟩ ⟨Nat.le_of_ble_eq_true rfl, Nat.le_of_ble_eq_true rfl⟩) ⟨PcR.bl, (q_rcv hK hw.1 v_x0.1 (pF_5 (S := sA t49.2 b47 (x1 + (1 : Int32)) t49.1) v_x0.2) rfl), PcR.in hK⟩ rfl rfl hl.1 rfl (lv_room (Nat.le_of_ble_eq_true rfl)) dX5_readOne_82 ⟨Nat.zero_le _, Nat.zero_le _⟩).run (fun r54 er54 => ?_)
    subst r54
    refine lv_bipush (v := 37) hx hb dX5_readOne_85 (by decide) ?_
    refine lv_icmp_ne (tgt := 94) hx hb dX5_readOne_87 (by decide) (fun c55 => ?_) (fun c55 => ?_)
    · have hf := it_f c55 hf
      refine lv_iconst (v := 0) hx hb dX5_readOne_94 (by decide) ?_
      exact hB95 (sA t49.2 b47 (x1 + (1 : Int32)) t49.1) _ _ x0 x1 x0 0 _ (lv_sub hl [0, 1] rfl) hw hE v_x0 v_x0 hf
    · have hf := it_t c55 hf
      refine lv_iconst (v := 1) hx hb dX5_readOne_90 (by decide) ?_
      refine lv_goto (tgt := 95) hx hb dX5_readOne_91 (by decide) ?_
      exact hB95 (sA t49.2 b47 (x1 + (1 : Int32)) t49.1) _ _ x0 x1 x0 1 _ (lv_sub hl [0, 1] rfl) hw hE v_x0 v_x0 hf
  have hB46 : ∀ (Sb : PS) (H1 : Heap) (lo1 : List Loc) (x0 : Nat) (x1 : Int32) (s0 : Nat) (s1 : Int32) (ls : Array Slot), lv_has ls 2 [(0, .ref x0), (1, .int x1)] → Hw D cy (AA cy S n) s.heap Sb n H1 lo1 → EX S Sb → vd Sb x0 5 → vd Sb s0 5 → f_X5_readOne_B46 Sb x0 x1 s0 s1 = some res → W p l e (headSpec wsX5_readOne ({ frames := 2, cells := 0, slots := 0, locals := 45 } : Room)).room s m ([.ref y0] : List Value).toArray below meth c H1 lo1 0 0 (MQ below (va_Qv (fun (u : PS × Nat) => u = (res, n)) (BW D cy S n) (AA cy S n)) ([.ref y0] : List Value).toArray s 0 0 (AA cy S n)) (F0 m 46 ls [.int s1, .ref s0]) := by
    intro Sb H1 lo1 x0 x1 s0 s1 ls hl hw hE v_x0 v_s0 hf
    unfold f_X5_readOne_B46 at hf
    obtain ⟨t56, h57, hf⟩ := bd_some hf
    refine q_callv (va_runV (As := [.int s1]) (rest := []) F (c_X5_wants l D cy (S := Sb) v_s0 h57) (cwV 1 hts gX5_readOne_X5_wants rfl rfl rfl ⟨rfl, ph_X5_wants.1, ph_X5_wants.2, pd_X5_wants⟩ ⟨Nat.le_of_ble_eq_true rfl, Nat.le_of_ble_eq_true rfl⟩) ⟨PcW.bl, (q_rcv hK hw.1 v_s0.1 (pF_5 (S := Sb) v_s0.2) rfl), PcW.in hK hw hA (fun z => z.elim)⟩ rfl rfl hl.1 rfl (lv_room (Nat.le_of_ble_eq_true rfl)) dX5_readOne_46 ⟨Nat.zero_le _, Nat.zero_le _⟩) hw hA (fun H locs hw hX => ?_)
    have hE := hE.tr hX
    have v_x0 := hX _ _ v_x0
    have v_s0 := hX _ _ v_s0
    refine lv_aload_n hx hb dX5_readOne_49 rfl (lv_at hl 0 rfl) ?_
    refine lv_aload_n hx hb dX5_readOne_50 rfl (lv_at hl 0 rfl) ?_
    obtain ⟨t58, h59, hf⟩ := bd_some hf
    refine vp_callSi (va_runV (As := []) (rest := [.ref x0]) F (c_X5_letter l D cy (H := _) hw.1 v_x0 h59) (cwV 0 hts gX5_readOne_X5_letter rfl rfl rfl ⟨rfl, ph_X5_letter.1, ph_X5_letter.2, pd_X5_letter⟩ ⟨Nat.le_of_ble_eq_true rfl, Nat.le_of_ble_eq_true rfl⟩) ⟨PcR.bl, (q_rcv hK hw.1 v_x0.1 (pF_5 (S := t56) v_x0.2) rfl), PcR.in hK⟩ rfl rfl hl.1 rfl (lv_room (Nat.le_of_ble_eq_true rfl)) dX5_readOne_51 ⟨Nat.zero_le _, Nat.zero_le _⟩).run (fun r60 er60 => ?_)
    subst r60
    refine lv_bipush (v := 61) hx hb dX5_readOne_54 (by decide) ?_
    refine lv_icmp_ne (tgt := 63) hx hb dX5_readOne_56 (by decide) (fun c61 => ?_) (fun c61 => ?_)
    · have hf := it_f c61 hf
      refine lv_iconst (v := 0) hx hb dX5_readOne_63 (by decide) ?_
      exact hB64 t56 _ _ x0 x1 x0 0 _ (lv_sub hl [0, 1] rfl) hw hE v_x0 v_x0 hf
    · have hf := it_t c61 hf
      refine lv_iconst (v := 1) hx hb dX5_readOne_59 (by decide) ?_
      refine lv_goto (tgt := 64) hx hb dX5_readOne_60 (by decide) ?_
      exact hB64 t56 _ _ x0 x1 x0 1 _ (lv_sub hl [0, 1] rfl) hw hE v_x0 v_x0 hf
  have hB30 : ∀ (Sb : PS) (H1 : Heap) (lo1 : List Loc) (x0 : Nat) (x1 : Int32) (s0 : Nat) (s1 : Int32) (s2 : Int32) (ls : Array Slot), lv_has ls 2 [(0, .ref x0), (1, .int x1)] → Hw D cy (AA cy S n) s.heap Sb n H1 lo1 → EX S Sb → vd Sb x0 5 → vd Sb s0 6 → f_X5_readOne_B30 Sb x0 x1 s0 s1 s2 = some res → W p l e (headSpec wsX5_readOne ({ frames := 2, cells := 0, slots := 0, locals := 45 } : Room)).room s m ([.ref y0] : List Value).toArray below meth c H1 lo1 0 0 (MQ below (va_Qv (fun (u : PS × Nat) => u = (res, n)) (BW D cy S n) (AA cy S n)) ([.ref y0] : List Value).toArray s 0 0 (AA cy S n)) (F0 m 30 ls [.int s2, .int s1, .ref s0]) := by
    intro Sb H1 lo1 x0 x1 s0 s1 s2 ls hl hw hE v_x0 v_s0 hf
    unfold f_X5_readOne_B30 at hf
    obtain ⟨c62, hf⟩ := ckd_some hf
    refine q_iast F hK hw v_s0 c62 dX5_readOne_30 (fun H locs hw => ?_)
    refine lv_aload_n hx hb dX5_readOne_31 rfl (lv_at hl 0 rfl) ?_
    refine lv_aload_n hx hb dX5_readOne_32 rfl (lv_at hl 0 rfl) ?_
    obtain ⟨t63, h64, hf⟩ := bd_some hf
    refine vp_callSi (va_runV (As := []) (rest := [.ref x0]) F (c_X5_letter l D cy (H := _) hw.1 v_x0 h64) (cwV 0 hts gX5_readOne_X5_letter rfl rfl rfl ⟨rfl, ph_X5_letter.1, ph_X5_letter.2, pd_X5_letter⟩ ⟨Nat.le_of_ble_eq_true rfl, Nat.le_of_ble_eq_true rfl⟩) ⟨PcR.bl, (q_rcv hK hw.1 v_x0.1 (pF_5 (S := sA Sb s0 s1 s2) v_x0.2) rfl), PcR.in hK⟩ rfl rfl hl.1 rfl (lv_room (Nat.le_of_ble_eq_true rfl)) dX5_readOne_33 ⟨Nat.zero_le _, Nat.zero_le _⟩).run (fun r65 er65 => ?_)
    subst r65
    refine lv_bipush (v := 120) hx hb dX5_readOne_36 (by decide) ?_
    refine lv_icmp_ne (tgt := 45) hx hb dX5_readOne_38 (by decide) (fun c66 => ?_) (fun c66 => ?_)
    · have hf := it_f c66 hf
      refine lv_iconst (v := 0) hx hb dX5_readOne_45 (by decide) ?_
      exact hB46 (sA Sb s0 s1 s2) _ _ x0 x1 x0 0 _ (lv_sub hl [0, 1] rfl) hw hE v_x0 v_x0 hf
    · have hf := it_t c66 hf
      refine lv_iconst (v := 1) hx hb dX5_readOne_41 (by decide) ?_
      refine lv_goto (tgt := 46) hx hb dX5_readOne_42 (by decide) ?_
      exact hB46 (sA Sb s0 s1 s2) _ _ x0 x1 x0 1 _ (lv_sub hl [0, 1] rfl) hw hE v_x0 v_x0 hf
  have hl := lv_entry ([.ref y0]) (n := 2) (Nat.le_of_ble_eq_true rfl)
  rw [lg_entry_eq]
  generalize (lg_sl ([.ref y0]) ++ List.replicate (2 - (lg_sl ([.ref y0])).length) Slot.unset).toArray = ls at hl ⊢
  have hl : lv_has ls 2 [(0, .ref y0)] := hl
  unfold f_X5_readOne at hf
  refine lv_iconst (v := 3) hx hb dX5_readOne_0 (by decide) ?_
  refine lv_aload_n hx hb dX5_readOne_1 rfl (lv_at hl 0 rfl) ?_
  refine q_get F hK hw.1 v_y0.1 (pF_5 (S := S) v_y0.2) (fun w h => List.mem_cons_of_mem _ (List.mem_append_right _ h)) rfl 9 (by decide) (hts (.fieldLink RX5 135 "SharedModuliModel" "readMany" "I") (List.mem_of_getElem? (i := 1) rfl)) (v := .int (fI S 89 y0)) rfl dX5_readOne_2 ?_
  refine lv_imul hx hb dX5_readOne_5 ?_
  refine lv_istore_n (lv' := [(1, .int ((3 : Int32) * (fI S 89 y0))), (0, .ref y0)]) hx hb dX5_readOne_6 rfl hl (by decide) rfl (fun ls hl => ?_)
  refine lv_aload_n hx hb dX5_readOne_7 rfl (lv_at hl 1 rfl) ?_
  obtain ⟨b67, e68, v_b67, hf⟩ := rq_some hf
  refine q_get F hK hw.1 v_y0.1 (pF_5 (S := S) v_y0.2) (fun w h => List.mem_cons_of_mem _ (List.mem_append_right _ h)) rfl 8 (by decide) (hts (.fieldLink RX5 19 "SharedModuliModel" "read" "[I") (List.mem_of_getElem? (i := 2) rfl)) (v := .ref b67) (congrArg (fun z => some (va_rf z)) e68) dX5_readOne_8 ?_
  refine lv_iload_n hx hb dX5_readOne_11 rfl (lv_at hl 0 rfl) ?_
  refine lv_aload_n hx hb dX5_readOne_12 rfl (lv_at hl 1 rfl) ?_
  obtain ⟨t69, h70, hf⟩ := bd_some hf
  refine vp_callSi (va_runV (As := []) (rest := [.int ((3 : Int32) * (fI S 89 y0)), .ref b67]) F (c_X5_letter l D cy (H := _) hw.1 v_y0 h70) (cwV 0 hts gX5_readOne_X5_letter rfl rfl rfl ⟨rfl, ph_X5_letter.1, ph_X5_letter.2, pd_X5_letter⟩ ⟨Nat.le_of_ble_eq_true rfl, Nat.le_of_ble_eq_true rfl⟩) ⟨PcR.bl, (q_rcv hK hw.1 v_y0.1 (pF_5 (S := S) v_y0.2) rfl), PcR.in hK⟩ rfl rfl hl.1 rfl (lv_room (Nat.le_of_ble_eq_true rfl)) dX5_readOne_13 ⟨Nat.zero_le _, Nat.zero_le _⟩).run (fun r71 er71 => ?_)
  subst r71
  refine lv_bipush (v := 120) hx hb dX5_readOne_16 (by decide) ?_
  refine lv_icmp_ne (tgt := 25) hx hb dX5_readOne_18 (by decide) (fun c72 => ?_) (fun c72 => ?_)
  · have hf := it_f c72 hf
    refine lv_aload_n hx hb dX5_readOne_25 rfl (lv_at hl 1 rfl) ?_
    refine lv_iconst (v := 1) hx hb dX5_readOne_26 (by decide) ?_
    obtain ⟨t73, h74, hf⟩ := bd_some hf
    refine q_calli (va_runV (As := [.int 1]) (rest := [.int ((3 : Int32) * (fI S 89 y0)), .ref b67]) F (c_X5_number l D cy (S := S) v_y0 h74) (cwV 1 hts gX5_readOne_X5_number rfl rfl rfl ⟨rfl, ph_X5_number.1, ph_X5_number.2, pd_X5_number⟩ ⟨Nat.le_of_ble_eq_true rfl, Nat.le_of_ble_eq_true rfl⟩) ⟨PcW.bl, (q_rcv hK hw.1 v_y0.1 (pF_5 (S := S) v_y0.2) rfl), PcW.in hK hw hA (fun z => z.elim)⟩ rfl rfl hl.1 rfl (lv_room (Nat.le_of_ble_eq_true rfl)) dX5_readOne_27 ⟨Nat.zero_le _, Nat.zero_le _⟩) hw hA (fun H locs hw hX => ?_)
    have hE := hE.tr hX
    have v_y0 := hX _ _ v_y0
    have v_b67 := hX _ _ v_b67
    exact hB30 t73.2 _ _ y0 ((3 : Int32) * (fI S 89 y0)) b67 ((3 : Int32) * (fI S 89 y0)) t73.1 _ (lv_sub hl [1, 0] rfl) hw hE v_y0 v_b67 hf
  · have hf := it_t c72 hf
    refine lv_iconst (v := 1) hx hb dX5_readOne_21 (by decide) ?_
    refine lv_goto (tgt := 30) hx hb dX5_readOne_22 (by decide) ?_
    exact hB30 S _ _ y0 ((3 : Int32) * (fI S 89 y0)) b67 ((3 : Int32) * (fI S 89 y0)) 1 _ (lv_sub hl [1, 0] rfl) hw hE v_y0 v_b67 hf
def f_X5_readBuffer_B89 (S : PS) (x0 : Nat) : Option (Int32 × PS) :=
  some ((fI S 91 x0), S)
def f_X5_readBuffer_B85 (kL17 : PS → Nat → Int32 → Option (Int32 × PS)) (ke89 : PS → Nat → Option (Int32 × PS)) (S : PS) (x0 : Nat) (s0 : Int32) : Option (Int32 × PS) :=
  kL17 S x0 s0
def f_X5_readBuffer_B69 (kL17 : PS → Nat → Int32 → Option (Int32 × PS)) (ke89 : PS → Nat → Option (Int32 × PS)) (S : PS) (x0 : Nat) (s0 : Nat) (s1 : Int32) : Option (Int32 × PS) :=
  bd (f_X5_wants S s0 s1) fun t1 =>
  if (fI t1 91 x0) = ((-1)) then (f_X5_readBuffer_B85 kL17 ke89 t1 x0 1) else
  f_X5_readBuffer_B85 kL17 ke89 t1 x0 0
def f_X5_readBuffer_B49 (kL17 : PS → Nat → Int32 → Option (Int32 × PS)) (ke89 : PS → Nat → Option (Int32 × PS)) (S : PS) (x0 : Nat) (s0 : Int32) : Option (Int32 × PS) :=
  if s0 = 0 then (kL17 S x0 s0) else
  bd (f_X5_letter S x0) fun t5 =>
  if t5 = 59 then (f_X5_readBuffer_B69 kL17 ke89 S x0 x0 1) else
  f_X5_readBuffer_B69 kL17 ke89 S x0 x0 0
def f_X5_readBuffer_B48 (kL17 : PS → Nat → Int32 → Option (Int32 × PS)) (ke89 : PS → Nat → Option (Int32 × PS)) (S : PS) (x0 : Nat) : Option (Int32 × PS) :=
  f_X5_readBuffer_B49 kL17 ke89 S x0 0
def f_X5_readBuffer_L17s (kL17 : PS → Nat → Int32 → Option (Int32 × PS)) (ke89 : PS → Nat → Option (Int32 × PS)) (S : PS) (x0 : Nat) (x1 : Int32) : Option (Int32 × PS) :=
  if x1 = 0 then (ke89 S x0) else
  bd (f_X5_readOne S x0) fun t10 =>
  if (fI t10 91 x0) = ((-1)) then (if (fI t10 85 x0) ≤ (fI t10 90 x0) then (f_X5_readBuffer_B48 kL17 ke89 t10 x0) else
  f_X5_readBuffer_B49 kL17 ke89 t10 x0 1) else
  f_X5_readBuffer_B48 kL17 ke89 t10 x0
def f_X5_readBuffer_L17 (ke89 : PS → Nat → Option (Int32 × PS)) (fu : Nat) : PS → Nat → Int32 → Option (Int32 × PS) := fx (fun kL => f_X5_readBuffer_L17s kL ke89) (fun _ _ _ => none) fu
def f_X5_readBuffer (S : PS) (x0 : Nat) : Option (Int32 × PS) :=
  f_X5_readBuffer_L17 f_X5_readBuffer_B89 FU (sI (sI (sI S 89 x0 0) 90 x0 0) 91 x0 ((-1))) x0 1
set_option maxHeartbeats 4000000 in
set_option maxRecDepth 100000 in
theorem c_X5_readBuffer (l : Launch) (D : va_G) (cy : cyT) {S : PS} {n : Nat} {y0 : Nat} (v_y0 : vd S y0 5) {res : Int32 × PS} (hf : f_X5_readBuffer S y0 = some res) : Met l yX5_readBuffer wsX5_readBuffer ({ frames := 3, cells := 0, slots := 0, locals := 66 } : Room) (PcW False D cy S n [.ref y0]) (va_Qi (fun (r : Int32) (u : PS × Nat) => r = res.1 ∧ u = (res.2, n)) (BW D cy S n) (AA cy S n)) 0 0 (AA cy S n) := by
  refine Met.ofW (cc := cX5_readBuffer) (maxL := 2) (ret := (some .int)) (by decide) rfl ?_
  intro p e s m args below meth c s₁ B hml hv
  obtain ⟨hav, hsz, hP0, hD0, hK, hZ0⟩ := hv
  have hx := B.exec
  have hb := B.bytes
  have hr := B.returns
  have hts := atoms_spec (ws := wsX5_readBuffer) B.pre
  have hown : s.vm.findClass RX5 = some m.cls := findClass_of_methodNamed B.named
  have hlocks := B.notSynchronized
  subst hav
  have hw : Hw D cy (AA cy S n) s.heap S n s.heap [] := Hw.start hsz hP0 hD0
  have hA : ∀ q, s.heap.size ≤ q → AA cy S n q := fun q h => Or.inr (hsz ▸ h)
  have hE : EX S S := EX.rf
  have F : CallFix p m c cX5_readBuffer 2 s _ wsX5_readBuffer RX5 := ⟨hx, hb, hml, hown, hts⟩
  have hB89 : ∀ (Sb : PS) (H1 : Heap) (lo1 : List Loc) (x0 : Nat) (ls : Array Slot), lv_has ls 2 [(0, .ref x0)] → Hw D cy (AA cy S n) s.heap Sb n H1 lo1 → EX S Sb → vd Sb x0 5 → f_X5_readBuffer_B89 Sb x0 = some res → W p l e (headSpec wsX5_readBuffer ({ frames := 3, cells := 0, slots := 0, locals := 66 } : Room)).room s m ([.ref y0] : List Value).toArray below meth c H1 lo1 0 0 (MQ below (va_Qi (fun (r : Int32) (u : PS × Nat) => r = res.1 ∧ u = (res.2, n)) (BW D cy S n) (AA cy S n)) ([.ref y0] : List Value).toArray s 0 0 (AA cy S n)) (F0 m 89 ls []) := by
    intro Sb H1 lo1 x0 ls hl hw hE v_x0 hf
    unfold f_X5_readBuffer_B89 at hf
    refine lv_aload_n hx hb dX5_readBuffer_89 rfl (lv_at hl 0 rfl) ?_
    refine q_get F hK hw.1 v_x0.1 (pF_5 (S := Sb) v_x0.2) (fun w h => List.mem_cons_of_mem _ (List.mem_append_right _ h)) rfl 11 (by decide) (hts (.fieldLink RX5 125 "SharedModuliModel" "wrong" "I") (List.mem_of_getElem? (i := 3) rfl)) (v := .int (fI Sb 91 x0)) rfl dX5_readBuffer_90 ?_
    exact W.iret (v := (fI Sb 91 x0)) hx hb hr (fun t ht hW => ⟨⟨_, (Sb, n), rfl, po2 hf, BW.of hw hE ht⟩, hw.2.2.1.F ht⟩) hw.2.2.1.2.2 dX5_readBuffer_93
  have hL17 : ∀ (fu17 : Nat), ∀ (Sb : PS) (H1 : Heap) (lo1 : List Loc) (x0 : Nat) (x1 : Int32) (ls : Array Slot), lv_has ls 2 [(0, .ref x0), (1, .int x1)] → Hw D cy (AA cy S n) s.heap Sb n H1 lo1 → EX S Sb → vd Sb x0 5 → f_X5_readBuffer_L17 f_X5_readBuffer_B89 fu17 Sb x0 x1 = some res → W p l e (headSpec wsX5_readBuffer ({ frames := 3, cells := 0, slots := 0, locals := 66 } : Room)).room s m ([.ref y0] : List Value).toArray below meth c H1 lo1 0 0 (MQ below (va_Qi (fun (r : Int32) (u : PS × Nat) => r = res.1 ∧ u = (res.2, n)) (BW D cy S n) (AA cy S n)) ([.ref y0] : List Value).toArray s 0 0 (AA cy S n)) (F0 m 17 ls []) := by
    intro fu17
    induction fu17 with
    | zero =>
      intro Sb H1 lo1 x0 x1 ls hl hw hE v_x0 hf
      have hf : (none : Option (Int32 × PS)) = some res := hf
      cases hf
    | succ fu17 ih17 =>
      have hB85 : ∀ (Sb : PS) (H1 : Heap) (lo1 : List Loc) (x0 : Nat) (s0 : Int32) (ls : Array Slot), lv_has ls 2 [(0, .ref x0)] → Hw D cy (AA cy S n) s.heap Sb n H1 lo1 → EX S Sb → vd Sb x0 5 → f_X5_readBuffer_B85 (f_X5_readBuffer_L17 f_X5_readBuffer_B89 fu17) f_X5_readBuffer_B89 Sb x0 s0 = some res → W p l e (headSpec wsX5_readBuffer ({ frames := 3, cells := 0, slots := 0, locals := 66 } : Room)).room s m ([.ref y0] : List Value).toArray below meth c H1 lo1 0 0 (MQ below (va_Qi (fun (r : Int32) (u : PS × Nat) => r = res.1 ∧ u = (res.2, n)) (BW D cy S n) (AA cy S n)) ([.ref y0] : List Value).toArray s 0 0 (AA cy S n)) (F0 m 85 ls [.int s0]) := by
        intro Sb H1 lo1 x0 s0 ls hl hw hE v_x0 hf
        unfold f_X5_readBuffer_B85 at hf
        refine lv_istore_n (lv' := [(1, .int s0), (0, .ref x0)]) hx hb dX5_readBuffer_85 rfl hl (by decide) rfl (fun ls hl => ?_)
        refine lv_goto (tgt := 17) hx hb dX5_readBuffer_86 (by decide) ?_
        exact ih17 Sb _ _ x0 s0 _ (lv_sub hl [1, 0] rfl) hw hE v_x0 hf
      have hB69 : ∀ (Sb : PS) (H1 : Heap) (lo1 : List Loc) (x0 : Nat) (s0 : Nat) (s1 : Int32) (ls : Array Slot), lv_has ls 2 [(0, .ref x0)] → Hw D cy (AA cy S n) s.heap Sb n H1 lo1 → EX S Sb → vd Sb x0 5 → vd Sb s0 5 → f_X5_readBuffer_B69 (f_X5_readBuffer_L17 f_X5_readBuffer_B89 fu17) f_X5_readBuffer_B89 Sb x0 s0 s1 = some res → W p l e (headSpec wsX5_readBuffer ({ frames := 3, cells := 0, slots := 0, locals := 66 } : Room)).room s m ([.ref y0] : List Value).toArray below meth c H1 lo1 0 0 (MQ below (va_Qi (fun (r : Int32) (u : PS × Nat) => r = res.1 ∧ u = (res.2, n)) (BW D cy S n) (AA cy S n)) ([.ref y0] : List Value).toArray s 0 0 (AA cy S n)) (F0 m 69 ls [.int s1, .ref s0]) := by
        intro Sb H1 lo1 x0 s0 s1 ls hl hw hE v_x0 v_s0 hf
        unfold f_X5_readBuffer_B69 at hf
        obtain ⟨t14, h15, hf⟩ := bd_some hf
        refine q_callv (va_runV (As := [.int s1]) (rest := []) F (c_X5_wants l D cy (S := Sb) v_s0 h15) (cwV 1 hts gX5_readBuffer_X5_wants rfl rfl rfl ⟨rfl, ph_X5_wants.1, ph_X5_wants.2, pd_X5_wants⟩ ⟨Nat.le_of_ble_eq_true rfl, Nat.le_of_ble_eq_true rfl⟩) ⟨PcW.bl, (q_rcv hK hw.1 v_s0.1 (pF_5 (S := Sb) v_s0.2) rfl), PcW.in hK hw hA (fun z => z.elim)⟩ rfl rfl hl.1 rfl (lv_room (Nat.le_of_ble_eq_true rfl)) dX5_readBuffer_69 ⟨Nat.zero_le _, Nat.zero_le _⟩) hw hA (fun H locs hw hX => ?_)
        have hE := hE.tr hX
        have v_x0 := hX _ _ v_x0
        have v_s0 := hX _ _ v_s0
        refine lv_aload_n hx hb dX5_readBuffer_72 rfl (lv_at hl 0 rfl) ?_
        refine q_get F hK hw.1 v_x0.1 (pF_5 (S := t14) v_x0.2) (fun w h => List.mem_cons_of_mem _ (List.mem_append_right _ h)) rfl 11 (by decide) (hts (.fieldLink RX5 125 "SharedModuliModel" "wrong" "I") (List.mem_of_getElem? (i := 3) rfl)) (v := .int (fI t14 91 x0)) rfl dX5_readBuffer_73 ?_
        refine lv_iconst (v := (-1)) hx hb dX5_readBuffer_76 (by decide) ?_
        refine lv_icmp_ne (tgt := 84) hx hb dX5_readBuffer_77 (by decide) (fun c16 => ?_) (fun c16 => ?_)
        · have hf := it_f c16 hf
          refine lv_iconst (v := 0) hx hb dX5_readBuffer_84 (by decide) ?_
          exact hB85 t14 _ _ x0 0 _ (lv_sub hl [0] rfl) hw hE v_x0 hf
        · have hf := it_t c16 hf
          refine lv_iconst (v := 1) hx hb dX5_readBuffer_80 (by decide) ?_
          refine lv_goto (tgt := 85) hx hb dX5_readBuffer_81 (by decide) ?_
          exact hB85 t14 _ _ x0 1 _ (lv_sub hl [0] rfl) hw hE v_x0 hf
      have hB49 : ∀ (Sb : PS) (H1 : Heap) (lo1 : List Loc) (x0 : Nat) (s0 : Int32) (ls : Array Slot), lv_has ls 2 [(0, .ref x0)] → Hw D cy (AA cy S n) s.heap Sb n H1 lo1 → EX S Sb → vd Sb x0 5 → f_X5_readBuffer_B49 (f_X5_readBuffer_L17 f_X5_readBuffer_B89 fu17) f_X5_readBuffer_B89 Sb x0 s0 = some res → W p l e (headSpec wsX5_readBuffer ({ frames := 3, cells := 0, slots := 0, locals := 66 } : Room)).room s m ([.ref y0] : List Value).toArray below meth c H1 lo1 0 0 (MQ below (va_Qi (fun (r : Int32) (u : PS × Nat) => r = res.1 ∧ u = (res.2, n)) (BW D cy S n) (AA cy S n)) ([.ref y0] : List Value).toArray s 0 0 (AA cy S n)) (F0 m 49 ls [.int s0]) := by
        intro Sb H1 lo1 x0 s0 ls hl hw hE v_x0 hf
        unfold f_X5_readBuffer_B49 at hf
        refine lv_istore_n (lv' := [(1, .int s0), (0, .ref x0)]) hx hb dX5_readBuffer_49 rfl hl (by decide) rfl (fun ls hl => ?_)
        refine lv_iload_n hx hb dX5_readBuffer_50 rfl (lv_at hl 0 rfl) ?_
        refine lv_if_eq (tgt := 17) hx hb dX5_readBuffer_51 (by decide) (fun c17 => ?_) (fun c17 => ?_)
        · have hf := it_t c17 hf
          exact ih17 Sb _ _ x0 s0 _ (lv_sub hl [1, 0] rfl) hw hE v_x0 hf
        · have hf := it_f c17 hf
          refine lv_aload_n hx hb dX5_readBuffer_54 rfl (lv_at hl 1 rfl) ?_
          refine lv_aload_n hx hb dX5_readBuffer_55 rfl (lv_at hl 1 rfl) ?_
          obtain ⟨t18, h19, hf⟩ := bd_some hf
          refine vp_callSi (va_runV (As := []) (rest := [.ref x0]) F (c_X5_letter l D cy (H := _) hw.1 v_x0 h19) (cwV 0 hts gX5_readBuffer_X5_letter rfl rfl rfl ⟨rfl, ph_X5_letter.1, ph_X5_letter.2, pd_X5_letter⟩ ⟨Nat.le_of_ble_eq_true rfl, Nat.le_of_ble_eq_true rfl⟩) ⟨PcR.bl, (q_rcv hK hw.1 v_x0.1 (pF_5 (S := Sb) v_x0.2) rfl), PcR.in hK⟩ rfl rfl hl.1 rfl (lv_room (Nat.le_of_ble_eq_true rfl)) dX5_readBuffer_56 ⟨Nat.zero_le _, Nat.zero_le _⟩).run (fun r20 er20 => ?_)
          subst r20
          refine lv_bipush (v := 59) hx hb dX5_readBuffer_59 (by decide) ?_
          refine lv_icmp_ne (tgt := 68) hx hb dX5_readBuffer_61 (by decide) (fun c21 => ?_) (fun c21 => ?_)
          · have hf := it_f c21 hf
            refine lv_iconst (v := 0) hx hb dX5_readBuffer_68 (by decide) ?_
            exact hB69 Sb _ _ x0 x0 0 _ (lv_sub hl [1] rfl) hw hE v_x0 v_x0 hf
          · have hf := it_t c21 hf
            refine lv_iconst (v := 1) hx hb dX5_readBuffer_64 (by decide) ?_
            refine lv_goto (tgt := 69) hx hb dX5_readBuffer_65 (by decide) ?_
            exact hB69 Sb _ _ x0 x0 1 _ (lv_sub hl [1] rfl) hw hE v_x0 v_x0 hf
      have hB48 : ∀ (Sb : PS) (H1 : Heap) (lo1 : List Loc) (x0 : Nat) (ls : Array Slot), lv_has ls 2 [(0, .ref x0)] → Hw D cy (AA cy S n) s.heap Sb n H1 lo1 → EX S Sb → vd Sb x0 5 → f_X5_readBuffer_B48 (f_X5_readBuffer_L17 f_X5_readBuffer_B89 fu17) f_X5_readBuffer_B89 Sb x0 = some res → W p l e (headSpec wsX5_readBuffer ({ frames := 3, cells := 0, slots := 0, locals := 66 } : Room)).room s m ([.ref y0] : List Value).toArray below meth c H1 lo1 0 0 (MQ below (va_Qi (fun (r : Int32) (u : PS × Nat) => r = res.1 ∧ u = (res.2, n)) (BW D cy S n) (AA cy S n)) ([.ref y0] : List Value).toArray s 0 0 (AA cy S n)) (F0 m 48 ls []) := by
        intro Sb H1 lo1 x0 ls hl hw hE v_x0 hf
        unfold f_X5_readBuffer_B48 at hf
        refine lv_iconst (v := 0) hx hb dX5_readBuffer_48 (by decide) ?_
        exact hB49 Sb _ _ x0 0 _ (lv_sub hl [0] rfl) hw hE v_x0 hf
      intro Sb H1 lo1 x0 x1 ls hl hw hE v_x0 hf
      have hf : f_X5_readBuffer_L17s (f_X5_readBuffer_L17 f_X5_readBuffer_B89 fu17) f_X5_readBuffer_B89 Sb x0 x1 = some res := hf
      unfold f_X5_readBuffer_L17s at hf
      refine lv_iload_n hx hb dX5_readBuffer_17 rfl (lv_at hl 1 rfl) ?_
      refine lv_if_eq (tgt := 89) hx hb dX5_readBuffer_18 (by decide) (fun c22 => ?_) (fun c22 => ?_)
      · have hf := it_t c22 hf
        exact hB89 Sb _ _ x0 _ (lv_sub hl [0] rfl) hw hE v_x0 hf
      · have hf := it_f c22 hf
        refine lv_aload_n hx hb dX5_readBuffer_21 rfl (lv_at hl 0 rfl) ?_
        obtain ⟨t23, h24, hf⟩ := bd_some hf
        refine q_callv (va_runV (As := []) (rest := []) F (c_X5_readOne l D cy (S := Sb) v_x0 h24) (cwV 0 hts gX5_readBuffer_X5_readOne rfl rfl rfl ⟨rfl, ph_X5_readOne.1, ph_X5_readOne.2, pd_X5_readOne⟩ ⟨Nat.le_of_ble_eq_true rfl, Nat.le_of_ble_eq_true rfl⟩) ⟨PcW.bl, (q_rcv hK hw.1 v_x0.1 (pF_5 (S := Sb) v_x0.2) rfl), PcW.in hK hw hA (fun z => z.elim)⟩ rfl rfl hl.1 rfl (lv_room (Nat.le_of_ble_eq_true rfl)) dX5_readBuffer_22 ⟨Nat.zero_le _, Nat.zero_le _⟩) hw hA (fun H locs hw hX => ?_)
        have hE := hE.tr hX
        have v_x0 := hX _ _ v_x0
        refine lv_aload_n hx hb dX5_readBuffer_25 rfl (lv_at hl 0 rfl) ?_
        refine q_get F hK hw.1 v_x0.1 (pF_5 (S := t23) v_x0.2) (fun w h => List.mem_cons_of_mem _ (List.mem_append_right _ h)) rfl 11 (by decide) (hts (.fieldLink RX5 125 "SharedModuliModel" "wrong" "I") (List.mem_of_getElem? (i := 3) rfl)) (v := .int (fI t23 91 x0)) rfl dX5_readBuffer_26 ?_
        refine lv_iconst (v := (-1)) hx hb dX5_readBuffer_29 (by decide) ?_
        refine lv_icmp_ne (tgt := 48) hx hb dX5_readBuffer_30 (by decide) (fun c25 => ?_) (fun c25 => ?_)
        · have hf := it_f c25 hf
          exact hB48 t23 _ _ x0 _ (lv_sub hl [0] rfl) hw hE v_x0 hf
        · have hf := it_t c25 hf
          refine lv_aload_n hx hb dX5_readBuffer_33 rfl (lv_at hl 0 rfl) ?_
          refine q_get F hK hw.1 v_x0.1 (pF_5 (S := t23) v_x0.2) (fun w h => List.mem_cons_of_mem _ (List.mem_append_right _ h)) rfl 10 (by decide) (hts (.fieldLink RX5 122 "SharedModuliModel" "spot" "I") (List.mem_of_getElem? (i := 2) rfl)) (v := .int (fI t23 90 x0)) rfl dX5_readBuffer_34 ?_
          refine lv_aload_n hx hb dX5_readBuffer_37 rfl (lv_at hl 0 rfl) ?_
          refine q_get F hK hw.1 v_x0.1 (pF_5 (S := t23) v_x0.2) (fun w h => List.mem_cons_of_mem _ (List.mem_append_right _ h)) rfl 5 (by decide) (hts (.fieldLink RX5 119 "SharedModuliModel" "typed" "I") (List.mem_of_getElem? (i := 4) rfl)) (v := .int (fI t23 85 x0)) rfl dX5_readBuffer_38 ?_
          refine lv_icmp_ge (tgt := 48) hx hb dX5_readBuffer_41 (by decide) (fun c26 => ?_) (fun c26 => ?_)
          · have hf := it_t c26 hf
            exact hB48 t23 _ _ x0 _ (lv_sub hl [0] rfl) hw hE v_x0 hf
          · have hf := it_f c26 hf
            refine lv_iconst (v := 1) hx hb dX5_readBuffer_44 (by decide) ?_
            refine lv_goto (tgt := 49) hx hb dX5_readBuffer_45 (by decide) ?_
            exact hB49 t23 _ _ x0 1 _ (lv_sub hl [0] rfl) hw hE v_x0 hf
  have hl := lv_entry ([.ref y0]) (n := 2) (Nat.le_of_ble_eq_true rfl)
  rw [lg_entry_eq]
  generalize (lg_sl ([.ref y0]) ++ List.replicate (2 - (lg_sl ([.ref y0])).length) Slot.unset).toArray = ls at hl ⊢
  have hl : lv_has ls 2 [(0, .ref y0)] := hl
  unfold f_X5_readBuffer at hf
  refine lv_aload_n hx hb dX5_readBuffer_0 rfl (lv_at hl 0 rfl) ?_
  refine lv_iconst (v := 0) hx hb dX5_readBuffer_1 (by decide) ?_
  refine q_put F hK hw v_y0.1 (pF_5 (S := S) v_y0.2) (fun w h => List.mem_cons_of_mem _ (List.mem_append_right _ h)) tyX5 tyX5_ok nmX5 rfl 9 (by decide) (hts (.fieldLink RX5 135 "SharedModuliModel" "readMany" "I") (List.mem_of_getElem? (i := 1) rfl)) (Or.inl rfl) (tyX5_ok 9 (by decide)) rfl rfl (Nat.le_of_ble_eq_true rfl) (S1 := sI S 89 y0 0) (st_89 (S := S) v_y0.2 0) dX5_readBuffer_2 (fun H locs hw => ?_)
  refine lv_aload_n hx hb dX5_readBuffer_5 rfl (lv_at hl 0 rfl) ?_
  refine lv_iconst (v := 0) hx hb dX5_readBuffer_6 (by decide) ?_
  refine q_put F hK hw v_y0.1 (pF_5 (S := sI S 89 y0 0) v_y0.2) (fun w h => List.mem_cons_of_mem _ (List.mem_append_right _ h)) tyX5 tyX5_ok nmX5 rfl 10 (by decide) (hts (.fieldLink RX5 122 "SharedModuliModel" "spot" "I") (List.mem_of_getElem? (i := 2) rfl)) (Or.inl rfl) (tyX5_ok 10 (by decide)) rfl rfl (Nat.le_of_ble_eq_true rfl) (S1 := sI (sI S 89 y0 0) 90 y0 0) (st_90 (S := sI S 89 y0 0) v_y0.2 0) dX5_readBuffer_7 (fun H locs hw => ?_)
  refine lv_aload_n hx hb dX5_readBuffer_10 rfl (lv_at hl 0 rfl) ?_
  refine lv_iconst (v := (-1)) hx hb dX5_readBuffer_11 (by decide) ?_
  refine q_put F hK hw v_y0.1 (pF_5 (S := sI (sI S 89 y0 0) 90 y0 0) v_y0.2) (fun w h => List.mem_cons_of_mem _ (List.mem_append_right _ h)) tyX5 tyX5_ok nmX5 rfl 11 (by decide) (hts (.fieldLink RX5 125 "SharedModuliModel" "wrong" "I") (List.mem_of_getElem? (i := 3) rfl)) (Or.inl rfl) (tyX5_ok 11 (by decide)) rfl rfl (Nat.le_of_ble_eq_true rfl) (S1 := sI (sI (sI S 89 y0 0) 90 y0 0) 91 y0 ((-1))) (st_91 (S := sI (sI S 89 y0 0) 90 y0 0) v_y0.2 ((-1))) dX5_readBuffer_12 (fun H locs hw => ?_)
  refine lv_iconst (v := 1) hx hb dX5_readBuffer_15 (by decide) ?_
  refine lv_istore_n (lv' := [(1, .int 1), (0, .ref y0)]) hx hb dX5_readBuffer_16 rfl hl (by decide) rfl (fun ls hl => ?_)
  exact hL17 FU (sI (sI (sI S 89 y0 0) 90 y0 0) 91 y0 ((-1))) _ _ y0 1 _ (lv_sub hl [1, 0] rfl) hw hE v_y0 hf
def f_X5_firstError_B23 (S : PS) (s0 : Int32) : Option (Int32 × PS) :=
  some (s0, S)
def f_X5_firstError (S : PS) (x0 : Nat) : Option (Int32 × PS) :=
  bd (f_X5_readBuffer (sI S 80 x0 0) x0) fun t1 =>
  if t1.1 = ((-1)) then (f_X5_firstError_B23 t1.2 (fI t1.2 85 x0)) else
  f_X5_firstError_B23 t1.2 t1.1
set_option maxHeartbeats 4000000 in
set_option maxRecDepth 100000 in
theorem c_X5_firstError (l : Launch) (D : va_G) (cy : cyT) {S : PS} {n : Nat} {y0 : Nat} (v_y0 : vd S y0 5) {res : Int32 × PS} (hf : f_X5_firstError S y0 = some res) : Met l yX5_firstError wsX5_firstError ({ frames := 4, cells := 0, slots := 0, locals := 87 } : Room) (PcW False D cy S n [.ref y0]) (va_Qi (fun (r : Int32) (u : PS × Nat) => r = res.1 ∧ u = (res.2, n)) (BW D cy S n) (AA cy S n)) 0 0 (AA cy S n) := by
  refine Met.ofW (cc := cX5_firstError) (maxL := 2) (ret := (some .int)) (by decide) rfl ?_
  intro p e s m args below meth c s₁ B hml hv
  obtain ⟨hav, hsz, hP0, hD0, hK, hZ0⟩ := hv
  have hx := B.exec
  have hb := B.bytes
  have hr := B.returns
  have hts := atoms_spec (ws := wsX5_firstError) B.pre
  have hown : s.vm.findClass RX5 = some m.cls := findClass_of_methodNamed B.named
  have hlocks := B.notSynchronized
  subst hav
  have hw : Hw D cy (AA cy S n) s.heap S n s.heap [] := Hw.start hsz hP0 hD0
  have hA : ∀ q, s.heap.size ≤ q → AA cy S n q := fun q h => Or.inr (hsz ▸ h)
  have hE : EX S S := EX.rf
  have F : CallFix p m c cX5_firstError 2 s _ wsX5_firstError RX5 := ⟨hx, hb, hml, hown, hts⟩
  have hB23 : ∀ (Sb : PS) (H1 : Heap) (lo1 : List Loc) (s0 : Int32) (ls : Array Slot), lv_has ls 2 [] → Hw D cy (AA cy S n) s.heap Sb n H1 lo1 → EX S Sb → f_X5_firstError_B23 Sb s0 = some res → W p l e (headSpec wsX5_firstError ({ frames := 4, cells := 0, slots := 0, locals := 87 } : Room)).room s m ([.ref y0] : List Value).toArray below meth c H1 lo1 0 0 (MQ below (va_Qi (fun (r : Int32) (u : PS × Nat) => r = res.1 ∧ u = (res.2, n)) (BW D cy S n) (AA cy S n)) ([.ref y0] : List Value).toArray s 0 0 (AA cy S n)) (F0 m 23 ls [.int s0]) := by
    intro Sb H1 lo1 s0 ls hl hw hE hf
    unfold f_X5_firstError_B23 at hf
    exact W.iret (v := s0) hx hb hr (fun t ht hW => ⟨⟨_, (Sb, n), rfl, po2 hf, BW.of hw hE ht⟩, hw.2.2.1.F ht⟩) hw.2.2.1.2.2 dX5_firstError_23
  have hl := lv_entry ([.ref y0]) (n := 2) (Nat.le_of_ble_eq_true rfl)
  rw [lg_entry_eq]
  generalize (lg_sl ([.ref y0]) ++ List.replicate (2 - (lg_sl ([.ref y0])).length) Slot.unset).toArray = ls at hl ⊢
  have hl : lv_has ls 2 [(0, .ref y0)] := hl
  unfold f_X5_firstError at hf
  refine lv_aload_n hx hb dX5_firstError_0 rfl (lv_at hl 0 rfl) ?_
  refine lv_iconst (v := 0) hx hb dX5_firstError_1 (by decide) ?_
  refine q_put F hK hw v_y0.1 (pF_5 (S := S) v_y0.2) (fun w h => List.mem_cons_of_mem _ (List.mem_append_right _ h)) tyX5 tyX5_ok nmX5 rfl 0 (by decide) (hts (.fieldLink RX5 22 "SharedModuliModel" "thrown" "I") (List.mem_of_getElem? (i := 1) rfl)) (Or.inl rfl) (tyX5_ok 0 (by decide)) rfl rfl (Nat.le_of_ble_eq_true rfl) (S1 := sI S 80 y0 0) (st_80 (S := S) v_y0.2 0) dX5_firstError_2 (fun H locs hw => ?_)
  refine lv_aload_n hx hb dX5_firstError_5 rfl (lv_at hl 0 rfl) ?_
  obtain ⟨t4, h5, hf⟩ := bd_some hf
  refine q_calli (va_runV (As := []) (rest := []) F (c_X5_readBuffer l D cy (S := sI S 80 y0 0) v_y0 h5) (cwV 0 hts gX5_firstError_X5_readBuffer rfl rfl rfl ⟨rfl, ph_X5_readBuffer.1, ph_X5_readBuffer.2, pd_X5_readBuffer⟩ ⟨Nat.le_of_ble_eq_true rfl, Nat.le_of_ble_eq_true rfl⟩) ⟨PcW.bl, (q_rcv hK hw.1 v_y0.1 (pF_5 (S := sI S 80 y0 0) v_y0.2) rfl), PcW.in hK hw hA (fun z => z.elim)⟩ rfl rfl hl.1 rfl (lv_room (Nat.le_of_ble_eq_true rfl)) dX5_firstError_6 ⟨Nat.zero_le _, Nat.zero_le _⟩) hw hA (fun H locs hw hX => ?_)
  have hE := hE.tr hX
  have v_y0 := hX _ _ v_y0
  refine lv_istore_n (lv' := [(1, .int t4.1), (0, .ref y0)]) hx hb dX5_firstError_9 rfl hl (by decide) rfl (fun ls hl => ?_)
  refine lv_iload_n hx hb dX5_firstError_10 rfl (lv_at hl 0 rfl) ?_
  refine lv_iconst (v := (-1)) hx hb dX5_firstError_11 (by decide) ?_
  refine lv_icmp_ne (tgt := 22) hx hb dX5_firstError_12 (by decide) (fun c6 => ?_) (fun c6 => ?_)
  · have hf := it_f c6 hf
    refine lv_iload_n hx hb dX5_firstError_22 rfl (lv_at hl 0 rfl) ?_
    exact hB23 t4.2 _ _ t4.1 _ (lv_sub hl [] rfl) hw hE  hf
  · have hf := it_t c6 hf
    refine lv_aload_n hx hb dX5_firstError_15 rfl (lv_at hl 1 rfl) ?_
    refine q_get F hK hw.1 v_y0.1 (pF_5 (S := t4.2) v_y0.2) (fun w h => List.mem_cons_of_mem _ (List.mem_append_right _ h)) rfl 5 (by decide) (hts (.fieldLink RX5 119 "SharedModuliModel" "typed" "I") (List.mem_of_getElem? (i := 2) rfl)) (v := .int (fI t4.2 85 y0)) rfl dX5_firstError_16 ?_
    refine lv_goto (tgt := 23) hx hb dX5_firstError_19 (by decide) ?_
    exact hB23 t4.2 _ _ (fI t4.2 85 y0) _ (lv_sub hl [] rfl) hw hE  hf
def f_X5_read_B91 (S : PS) (x0 : Nat) (x1 : Int32) : Option (Int32 × PS) :=
  some (x1, sI S 85 x0 0)
def f_X5_read_L32s (kL32 : PS → Nat → Int32 → Option (Int32 × PS)) (ke91 : PS → Nat → Int32 → Option (Int32 × PS)) (S : PS) (x0 : Nat) (x1 : Int32) : Option (Int32 × PS) :=
  if (fI S 89 x0) ≤ x1 then (ke91 S x0 x1) else
  rq (fR S 88 x0) S 6 fun b2 =>
  ck (decide (¬ (((3 : Int32) * x1) < 0 ∨ aN S b2 ≤ ((3 : Int32) * x1).toNatClampNeg))) (
  rq (fR S 88 x0) S 6 fun b5 =>
  ck (decide (¬ ((((3 : Int32) * x1) + (1 : Int32)) < 0 ∨ aN S b5 ≤ (((3 : Int32) * x1) + (1 : Int32)).toNatClampNeg))) (
  rq (fR S 88 x0) S 6 fun b8 =>
  ck (decide (¬ ((((3 : Int32) * x1) + (2 : Int32)) < 0 ∨ aN S b8 ≤ (((3 : Int32) * x1) + (2 : Int32)).toNatClampNeg))) (
  bd (f_X5_canAdd S x0 (aI S b2 ((3 : Int32) * x1).toNatClampNeg) (aI S b5 (((3 : Int32) * x1) + (1 : Int32)).toNatClampNeg) (aI S b8 (((3 : Int32) * x1) + (2 : Int32)).toNatClampNeg)) fun t11 =>
  if t11.1 = 0 then (ke91 t11.2 x0 x1) else
  rq (fR t11.2 81 x0) t11.2 6 fun b14 =>
  ck (decide (¬ ((0 : Int32) < 0 ∨ aN t11.2 b14 ≤ (0 : Int32).toNatClampNeg))) (
  ck (decide (¬ ((0 : Int32) < 0 ∨ aN t11.2 b14 ≤ (0 : Int32).toNatClampNeg))) (
  kL32 (sA t11.2 b14 0 ((aI t11.2 b14 (0 : Int32).toNatClampNeg) + (1 : Int32))) x0 (x1 + 1))))))
def f_X5_read_L32 (ke91 : PS → Nat → Int32 → Option (Int32 × PS)) (fu : Nat) : PS → Nat → Int32 → Option (Int32 × PS) := fx (fun kL => f_X5_read_L32s kL ke91) (fun _ _ _ => none) fu
def f_X5_read_B14 (S : PS) (x0 : Nat) (s0 : Nat) (s1 : Int32) : Option (Int32 × PS) :=
  if (fI (sI S 80 s0 s1) 80 x0) ≤ 0 then (bd (f_X5_save (sI S 80 s0 s1) x0) fun t19 =>
  f_X5_read_L32 f_X5_read_B91 FU t19 x0 0) else
  some (0, sI S 80 s0 s1)
def f_X5_read (S : PS) (x0 : Nat) : Option (Int32 × PS) :=
  bd (f_X5_readBuffer S x0) fun t21 =>
  if t21.1 = ((-1)) then (f_X5_read_B14 t21.2 x0 x0 0) else
  f_X5_read_B14 t21.2 x0 x0 1
set_option maxHeartbeats 4000000 in
set_option maxRecDepth 100000 in
theorem c_X5_read (l : Launch) (D : va_G) (cy : cyT) {S : PS} {n : Nat} {y0 : Nat} (v_y0 : vd S y0 5) {res : Int32 × PS} (hf : f_X5_read S y0 = some res) : Met l yX5_read wsX5_read ({ frames := 4, cells := 0, slots := 0, locals := 94 } : Room) (PcW False D cy S n [.ref y0]) (va_Qi (fun (r : Int32) (u : PS × Nat) => r = res.1 ∧ u = (res.2, n)) (BW D cy S n) (AA cy S n)) 0 0 (AA cy S n) := by
  refine Met.ofW (cc := cX5_read) (maxL := 2) (ret := (some .int)) (by decide) rfl ?_
  intro p e s m args below meth c s₁ B hml hv
  obtain ⟨hav, hsz, hP0, hD0, hK, hZ0⟩ := hv
  have hx := B.exec
  have hb := B.bytes
  have hr := B.returns
  have hts := atoms_spec (ws := wsX5_read) B.pre
  have hown : s.vm.findClass RX5 = some m.cls := findClass_of_methodNamed B.named
  have hlocks := B.notSynchronized
  subst hav
  have hw : Hw D cy (AA cy S n) s.heap S n s.heap [] := Hw.start hsz hP0 hD0
  have hA : ∀ q, s.heap.size ≤ q → AA cy S n q := fun q h => Or.inr (hsz ▸ h)
  have hE : EX S S := EX.rf
  have F : CallFix p m c cX5_read 2 s _ wsX5_read RX5 := ⟨hx, hb, hml, hown, hts⟩
  have hB91 : ∀ (Sb : PS) (H1 : Heap) (lo1 : List Loc) (x0 : Nat) (x1 : Int32) (ls : Array Slot), lv_has ls 2 [(0, .ref x0), (1, .int x1)] → Hw D cy (AA cy S n) s.heap Sb n H1 lo1 → EX S Sb → vd Sb x0 5 → f_X5_read_B91 Sb x0 x1 = some res → W p l e (headSpec wsX5_read ({ frames := 4, cells := 0, slots := 0, locals := 94 } : Room)).room s m ([.ref y0] : List Value).toArray below meth c H1 lo1 0 0 (MQ below (va_Qi (fun (r : Int32) (u : PS × Nat) => r = res.1 ∧ u = (res.2, n)) (BW D cy S n) (AA cy S n)) ([.ref y0] : List Value).toArray s 0 0 (AA cy S n)) (F0 m 91 ls []) := by
    intro Sb H1 lo1 x0 x1 ls hl hw hE v_x0 hf
    unfold f_X5_read_B91 at hf
    refine lv_aload_n hx hb dX5_read_91 rfl (lv_at hl 0 rfl) ?_
    refine lv_iconst (v := 0) hx hb dX5_read_92 (by decide) ?_
    refine q_put F hK hw v_x0.1 (pF_5 (S := Sb) v_x0.2) (fun w h => List.mem_cons_of_mem _ (List.mem_append_right _ h)) tyX5 tyX5_ok nmX5 rfl 5 (by decide) (hts (.fieldLink RX5 119 "SharedModuliModel" "typed" "I") (List.mem_of_getElem? (i := 5) rfl)) (Or.inl rfl) (tyX5_ok 5 (by decide)) rfl rfl (Nat.le_of_ble_eq_true rfl) (S1 := sI Sb 85 x0 0) (st_85 (S := Sb) v_x0.2 0) dX5_read_93 (fun H locs hw => ?_)
    refine lv_iload_n hx hb dX5_read_96 rfl (lv_at hl 1 rfl) ?_
    exact W.iret (v := x1) hx hb hr (fun t ht hW => ⟨⟨_, (sI Sb 85 x0 0, n), rfl, po2 hf, BW.of hw hE ht⟩, hw.2.2.1.F ht⟩) hw.2.2.1.2.2 dX5_read_97
  have hL32 : ∀ (fu32 : Nat), ∀ (Sb : PS) (H1 : Heap) (lo1 : List Loc) (x0 : Nat) (x1 : Int32) (ls : Array Slot), lv_has ls 2 [(0, .ref x0), (1, .int x1)] → Hw D cy (AA cy S n) s.heap Sb n H1 lo1 → EX S Sb → vd Sb x0 5 → f_X5_read_L32 f_X5_read_B91 fu32 Sb x0 x1 = some res → W p l e (headSpec wsX5_read ({ frames := 4, cells := 0, slots := 0, locals := 94 } : Room)).room s m ([.ref y0] : List Value).toArray below meth c H1 lo1 0 0 (MQ below (va_Qi (fun (r : Int32) (u : PS × Nat) => r = res.1 ∧ u = (res.2, n)) (BW D cy S n) (AA cy S n)) ([.ref y0] : List Value).toArray s 0 0 (AA cy S n)) (F0 m 32 ls []) := by
    intro fu32
    induction fu32 with
    | zero =>
      intro Sb H1 lo1 x0 x1 ls hl hw hE v_x0 hf
      have hf : (none : Option (Int32 × PS)) = some res := hf
      cases hf
    | succ fu32 ih32 =>
      intro Sb H1 lo1 x0 x1 ls hl hw hE v_x0 hf
      have hf : f_X5_read_L32s (f_X5_read_L32 f_X5_read_B91 fu32) f_X5_read_B91 Sb x0 x1 = some res := hf
      unfold f_X5_read_L32s at hf
      refine lv_iload_n hx hb dX5_read_32 rfl (lv_at hl 1 rfl) ?_
      refine lv_aload_n hx hb dX5_read_33 rfl (lv_at hl 0 rfl) ?_
      refine q_get F hK hw.1 v_x0.1 (pF_5 (S := Sb) v_x0.2) (fun w h => List.mem_cons_of_mem _ (List.mem_append_right _ h)) rfl 9 (by decide) (hts (.fieldLink RX5 135 "SharedModuliModel" "readMany" "I") (List.mem_of_getElem? (i := 2) rfl)) (v := .int (fI Sb 89 x0)) rfl dX5_read_34 ?_
      refine lv_icmp_ge (tgt := 91) hx hb dX5_read_37 (by decide) (fun c24 => ?_) (fun c24 => ?_)
      · have hf := it_t c24 hf
        exact hB91 Sb _ _ x0 x1 _ (lv_sub hl [0, 1] rfl) hw hE v_x0 hf
      · have hf := it_f c24 hf
        refine lv_aload_n hx hb dX5_read_40 rfl (lv_at hl 0 rfl) ?_
        refine lv_aload_n hx hb dX5_read_41 rfl (lv_at hl 0 rfl) ?_
        obtain ⟨b25, e26, v_b25, hf⟩ := rq_some hf
        refine q_get F hK hw.1 v_x0.1 (pF_5 (S := Sb) v_x0.2) (fun w h => List.mem_cons_of_mem _ (List.mem_append_right _ h)) rfl 8 (by decide) (hts (.fieldLink RX5 19 "SharedModuliModel" "read" "[I") (List.mem_of_getElem? (i := 3) rfl)) (v := .ref b25) (congrArg (fun z => some (va_rf z)) e26) dX5_read_42 ?_
        refine lv_iconst (v := 3) hx hb dX5_read_45 (by decide) ?_
        refine lv_iload_n hx hb dX5_read_46 rfl (lv_at hl 1 rfl) ?_
        refine lv_imul hx hb dX5_read_47 ?_
        obtain ⟨c27, hf⟩ := ckd_some hf
        refine q_iald F hK hw.1 v_b25 c27 dX5_read_48 ?_
        refine lv_aload_n hx hb dX5_read_49 rfl (lv_at hl 0 rfl) ?_
        obtain ⟨b28, e29, v_b28, hf⟩ := rq_some hf
        refine q_get F hK hw.1 v_x0.1 (pF_5 (S := Sb) v_x0.2) (fun w h => List.mem_cons_of_mem _ (List.mem_append_right _ h)) rfl 8 (by decide) (hts (.fieldLink RX5 19 "SharedModuliModel" "read" "[I") (List.mem_of_getElem? (i := 3) rfl)) (v := .ref b28) (congrArg (fun z => some (va_rf z)) e29) dX5_read_50 ?_
        refine lv_iconst (v := 3) hx hb dX5_read_53 (by decide) ?_
        refine lv_iload_n hx hb dX5_read_54 rfl (lv_at hl 1 rfl) ?_
        refine lv_imul hx hb dX5_read_55 ?_
        refine lv_iconst (v := 1) hx hb dX5_read_56 (by decide) ?_
        refine lv_iadd hx hb dX5_read_57 ?_
        obtain ⟨c30, hf⟩ := ckd_some hf
        refine q_iald F hK hw.1 v_b28 c30 dX5_read_58 ?_
        refine lv_aload_n hx hb dX5_read_59 rfl (lv_at hl 0 rfl) ?_
        obtain ⟨b31, e32, v_b31, hf⟩ := rq_some hf
        refine q_get F hK hw.1 v_x0.1 (pF_5 (S := Sb) v_x0.2) (fun w h => List.mem_cons_of_mem _ (List.mem_append_right _ h)) rfl 8 (by decide) (hts (.fieldLink RX5 19 "SharedModuliModel" "read" "[I") (List.mem_of_getElem? (i := 3) rfl)) (v := .ref b31) (congrArg (fun z => some (va_rf z)) e32) dX5_read_60 ?_
        refine lv_iconst (v := 3) hx hb dX5_read_63 (by decide) ?_
        refine lv_iload_n hx hb dX5_read_64 rfl (lv_at hl 1 rfl) ?_
        refine lv_imul hx hb dX5_read_65 ?_
        refine lv_iconst (v := 2) hx hb dX5_read_66 (by decide) ?_
        refine lv_iadd hx hb dX5_read_67 ?_
        obtain ⟨c33, hf⟩ := ckd_some hf
        refine q_iald F hK hw.1 v_b31 c33 dX5_read_68 ?_
        obtain ⟨t34, h35, hf⟩ := bd_some hf
        refine q_calli (va_runV (As := [.int (aI Sb b25 ((3 : Int32) * x1).toNatClampNeg), .int (aI Sb b28 (((3 : Int32) * x1) + (1 : Int32)).toNatClampNeg), .int (aI Sb b31 (((3 : Int32) * x1) + (2 : Int32)).toNatClampNeg)]) (rest := []) F (c_X5_canAdd l D cy (S := Sb) v_x0 h35) (cwV 3 hts gX5_read_X5_canAdd rfl rfl rfl ⟨rfl, ph_X5_canAdd.1, ph_X5_canAdd.2, pd_X5_canAdd⟩ ⟨Nat.le_of_ble_eq_true rfl, Nat.le_of_ble_eq_true rfl⟩) ⟨PcW.bl, (q_rcv hK hw.1 v_x0.1 (pF_5 (S := Sb) v_x0.2) rfl), PcW.in hK hw hA (fun z => z.elim)⟩ rfl rfl hl.1 rfl (lv_room (Nat.le_of_ble_eq_true rfl)) dX5_read_69 ⟨Nat.zero_le _, Nat.zero_le _⟩) hw hA (fun H locs hw hX => ?_)
        have hE := hE.tr hX
        have v_x0 := hX _ _ v_x0
        have v_b25 := hX _ _ v_b25
        have v_b28 := hX _ _ v_b28
        have v_b31 := hX _ _ v_b31
        refine lv_if_eq (tgt := 91) hx hb dX5_read_72 (by decide) (fun c36 => ?_) (fun c36 => ?_)
        · have hf := it_t c36 hf
          exact hB91 t34.2 _ _ x0 x1 _ (lv_sub hl [0, 1] rfl) hw hE v_x0 hf
        · have hf := it_f c36 hf
          refine lv_aload_n hx hb dX5_read_75 rfl (lv_at hl 0 rfl) ?_
          obtain ⟨b37, e38, v_b37, hf⟩ := rq_some hf
          refine q_get F hK hw.1 v_x0.1 (pF_5 (S := t34.2) v_x0.2) (fun w h => List.mem_cons_of_mem _ (List.mem_append_right _ h)) rfl 1 (by decide) (hts (.fieldLink RX5 7 "SharedModuliModel" "z" "[I") (List.mem_of_getElem? (i := 4) rfl)) (v := .ref b37) (congrArg (fun z => some (va_rf z)) e38) dX5_read_76 ?_
          refine lv_iconst (v := 0) hx hb dX5_read_79 (by decide) ?_
          refine lv_dup2_11 hx hb dX5_read_80 rfl rfl ?_
          obtain ⟨c39, hf⟩ := ckd_some hf
          refine q_iald F hK hw.1 v_b37 c39 dX5_read_81 ?_
          refine lv_iconst (v := 1) hx hb dX5_read_82 (by decide) ?_
          refine lv_iadd hx hb dX5_read_83 ?_
          obtain ⟨c40, hf⟩ := ckd_some hf
          refine q_iast F hK hw v_b37 c40 dX5_read_84 (fun H locs hw => ?_)
          refine lv_iinc (v := x1 + 1) (lv' := [(1, .int (x1 + 1)), (0, .ref x0)]) hx hb dX5_read_85 hl (k := 1) rfl (by rfl) (by decide) rfl (fun ls hl => ?_)
          refine lv_goto (tgt := 32) hx hb dX5_read_88 (by decide) ?_
          exact ih32 (sA t34.2 b37 0 ((aI t34.2 b37 (0 : Int32).toNatClampNeg) + (1 : Int32))) _ _ x0 (x1 + 1) _ (lv_sub hl [1, 0] rfl) hw hE v_x0 hf
  have hB14 : ∀ (Sb : PS) (H1 : Heap) (lo1 : List Loc) (x0 : Nat) (s0 : Nat) (s1 : Int32) (ls : Array Slot), lv_has ls 2 [(0, .ref x0)] → Hw D cy (AA cy S n) s.heap Sb n H1 lo1 → EX S Sb → vd Sb x0 5 → vd Sb s0 5 → f_X5_read_B14 Sb x0 s0 s1 = some res → W p l e (headSpec wsX5_read ({ frames := 4, cells := 0, slots := 0, locals := 94 } : Room)).room s m ([.ref y0] : List Value).toArray below meth c H1 lo1 0 0 (MQ below (va_Qi (fun (r : Int32) (u : PS × Nat) => r = res.1 ∧ u = (res.2, n)) (BW D cy S n) (AA cy S n)) ([.ref y0] : List Value).toArray s 0 0 (AA cy S n)) (F0 m 14 ls [.int s1, .ref s0]) := by
    intro Sb H1 lo1 x0 s0 s1 ls hl hw hE v_x0 v_s0 hf
    unfold f_X5_read_B14 at hf
    refine q_put F hK hw v_s0.1 (pF_5 (S := Sb) v_s0.2) (fun w h => List.mem_cons_of_mem _ (List.mem_append_right _ h)) tyX5 tyX5_ok nmX5 rfl 0 (by decide) (hts (.fieldLink RX5 22 "SharedModuliModel" "thrown" "I") (List.mem_of_getElem? (i := 1) rfl)) (Or.inl rfl) (tyX5_ok 0 (by decide)) rfl rfl (Nat.le_of_ble_eq_true rfl) (S1 := sI Sb 80 s0 s1) (st_80 (S := Sb) v_s0.2 s1) dX5_read_14 (fun H locs hw => ?_)
    refine lv_aload_n hx hb dX5_read_17 rfl (lv_at hl 0 rfl) ?_
    refine q_get F hK hw.1 v_x0.1 (pF_5 (S := sI Sb 80 s0 s1) v_x0.2) (fun w h => List.mem_cons_of_mem _ (List.mem_append_right _ h)) rfl 0 (by decide) (hts (.fieldLink RX5 22 "SharedModuliModel" "thrown" "I") (List.mem_of_getElem? (i := 1) rfl)) (v := .int (fI (sI Sb 80 s0 s1) 80 x0)) rfl dX5_read_18 ?_
    refine lv_if_le (tgt := 26) hx hb dX5_read_21 (by decide) (fun c41 => ?_) (fun c41 => ?_)
    · have hf := it_t c41 hf
      refine lv_aload_n hx hb dX5_read_26 rfl (lv_at hl 0 rfl) ?_
      obtain ⟨t42, h43, hf⟩ := bd_some hf
      refine q_callv (va_runV (As := []) (rest := []) F (c_X5_save l D cy (S := sI Sb 80 s0 s1) v_x0 h43) (cwV 0 hts gX5_read_X5_save rfl rfl rfl ⟨rfl, ph_X5_save.1, ph_X5_save.2, pd_X5_save⟩ ⟨Nat.le_of_ble_eq_true rfl, Nat.le_of_ble_eq_true rfl⟩) ⟨PcW.bl, (q_rcv hK hw.1 v_x0.1 (pF_5 (S := sI Sb 80 s0 s1) v_x0.2) rfl), PcW.in hK hw hA (fun z => z.elim)⟩ rfl rfl hl.1 rfl (lv_room (Nat.le_of_ble_eq_true rfl)) dX5_read_27 ⟨Nat.zero_le _, Nat.zero_le _⟩) hw hA (fun H locs hw hX => ?_)
      have hE := hE.tr hX
      have v_x0 := hX _ _ v_x0
      have v_s0 := hX _ _ v_s0
      refine lv_iconst (v := 0) hx hb dX5_read_30 (by decide) ?_
      refine lv_istore_n (lv' := [(1, .int 0), (0, .ref x0)]) hx hb dX5_read_31 rfl hl (by decide) rfl (fun ls hl => ?_)
      exact hL32 FU t42 _ _ x0 0 _ (lv_sub hl [1, 0] rfl) hw hE v_x0 hf
    · have hf := it_f c41 hf
      refine lv_iconst (v := 0) hx hb dX5_read_24 (by decide) ?_
      exact W.iret (v := 0) hx hb hr (fun t ht hW => ⟨⟨_, (sI Sb 80 s0 s1, n), rfl, po2 hf, BW.of hw hE ht⟩, hw.2.2.1.F ht⟩) hw.2.2.1.2.2 dX5_read_25
  have hl := lv_entry ([.ref y0]) (n := 2) (Nat.le_of_ble_eq_true rfl)
  rw [lg_entry_eq]
  generalize (lg_sl ([.ref y0]) ++ List.replicate (2 - (lg_sl ([.ref y0])).length) Slot.unset).toArray = ls at hl ⊢
  have hl : lv_has ls 2 [(0, .ref y0)] := hl
  unfold f_X5_read at hf
  refine lv_aload_n hx hb dX5_read_0 rfl (lv_at hl 0 rfl) ?_
  refine lv_aload_n hx hb dX5_read_1 rfl (lv_at hl 0 rfl) ?_
  obtain ⟨t44, h45, hf⟩ := bd_some hf
  refine q_calli (va_runV (As := []) (rest := [.ref y0]) F (c_X5_readBuffer l D cy (S := S) v_y0 h45) (cwV 0 hts gX5_read_X5_readBuffer rfl rfl rfl ⟨rfl, ph_X5_readBuffer.1, ph_X5_readBuffer.2, pd_X5_readBuffer⟩ ⟨Nat.le_of_ble_eq_true rfl, Nat.le_of_ble_eq_true rfl⟩) ⟨PcW.bl, (q_rcv hK hw.1 v_y0.1 (pF_5 (S := S) v_y0.2) rfl), PcW.in hK hw hA (fun z => z.elim)⟩ rfl rfl hl.1 rfl (lv_room (Nat.le_of_ble_eq_true rfl)) dX5_read_2 ⟨Nat.zero_le _, Nat.zero_le _⟩) hw hA (fun H locs hw hX => ?_)
  have hE := hE.tr hX
  have v_y0 := hX _ _ v_y0
  refine lv_iconst (v := (-1)) hx hb dX5_read_5 (by decide) ?_
  refine lv_icmp_ne (tgt := 13) hx hb dX5_read_6 (by decide) (fun c46 => ?_) (fun c46 => ?_)
  · have hf := it_f c46 hf
    refine lv_iconst (v := 1) hx hb dX5_read_13 (by decide) ?_
    exact hB14 t44.2 _ _ y0 y0 1 _ (lv_sub hl [0] rfl) hw hE v_y0 v_y0 hf
  · have hf := it_t c46 hf
    refine lv_iconst (v := 0) hx hb dX5_read_9 (by decide) ?_
    refine lv_goto (tgt := 14) hx hb dX5_read_10 (by decide) ?_
    exact hB14 t44.2 _ _ y0 y0 0 _ (lv_sub hl [0] rfl) hw hE v_y0 v_y0 hf

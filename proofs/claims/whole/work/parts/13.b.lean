def f_X4_init_B67 (S : PS) (n : Nat) (x0 : Nat) : Option (PS × Nat) :=
  bd (f_X2_init (nO (sI (sR (nA (sI (sI S 66 x0 0) 67 x0 0) n 6 60) 68 x0 (some n)) 69 x0 0) (n + 1) 2) (n + 1)) fun t3 =>
  bd (f_X1_init (nO (sR t3 70 x0 (some (n + 1))) ((n + 1) + 1) 1) ((n + 1) + 1)) fun t6 =>
  some (sR t6 71 x0 (some ((n + 1) + 1)), ((n + 1) + 1) + 1)
def f_X4_init_L38s (kL38 : PS → Nat → Nat → Nat → Int32 → Option (PS × Nat)) (ke67 : PS → Nat → Nat → Option (PS × Nat)) (S : PS) (n : Nat) (x0 : Nat) (x1 : Nat) (x2 : Int32) : Option (PS × Nat) :=
  rq (fR S 65 x0) S 8 fun b8 =>
  if (nI (aN S b8)) ≤ x2 then (ke67 S n x0) else
  rq (fR S 65 x0) S 8 fun b11 =>
  bd (f_X3_init (nO S n 3) (n + 1) n x1) fun t14 =>
  ck (decide (¬ (x2 < 0 ∨ aN t14.1 b11 ≤ x2.toNatClampNeg))) (
  kL38 (sQ t14.1 b11 x2 (some n)) t14.2 x0 x1 (x2 + 1))
def f_X4_init_L38 (ke67 : PS → Nat → Nat → Option (PS × Nat)) (fu : Nat) : PS → Nat → Nat → Nat → Int32 → Option (PS × Nat) := fx (fun kL => f_X4_init_L38s kL ke67) (fun _ _ _ _ _ => none) fu
def f_X4_init (S : PS) (n : Nat) (x0 : Nat) : Option (PS × Nat) :=
  bd (f_X0_init (nO S n 0) n 1 0 1) fun t18 =>
  bd (f_X3_init (nO t18 (n + 1) 3) ((n + 1) + 1) (n + 1) n) fun t21 =>
  f_X4_init_L38 f_X4_init_B67 7 (sR (nA (sR t21.1 64 x0 (some (n + 1))) t21.2 8 6) 65 x0 (some t21.2)) (t21.2 + 1) x0 n 0
set_option maxHeartbeats 4000000 in
set_option maxRecDepth 100000 in
theorem c_X4_init (l : Launch) (D : va_G) (cy : cyT) {S : PS} {n : Nat} {y0 : Nat} (v_y0 : vd S y0 4) {res : PS × Nat} (hf : f_X4_init S n y0 = some res) : Met l yX4_init wsX4_init ({ frames := 2, cells := 29, slots := 277, locals := 65 } : Room) (PcW False D cy S n [.ref y0]) (va_Qv (fun (u : PS × Nat) => u = res) (BW D cy S n) (AA cy S n)) 29 277 (AA cy S n) := by
  refine Met.ofW (cc := cX4_init) (maxL := 3) (ret := none) (by decide) rfl ?_
  intro p e s m args below meth c s₁ B hml hv
  obtain ⟨hav, hsz, hP0, hD0, hK, hZ0⟩ := hv
  have hx := B.exec
  have hb := B.bytes
  have hr := B.returns
  have hts := atoms_spec (ws := wsX4_init) B.pre
  have hown : s.vm.findClass RX4 = some m.cls := findClass_of_methodNamed B.named
  have hlocks := B.notSynchronized
  have hin : meth.name = "<init>" := (name_of_methodNamed B.named B.method).1
  subst hav
  have hw : Hw D cy (AA cy S n) s.heap S n s.heap [] := Hw.start hsz hP0 hD0
  have hA : ∀ q, s.heap.size ≤ q → AA cy S n q := fun q h => Or.inr (hsz ▸ h)
  have hE : EX S S := EX.rf
  have F : CallFix p m c cX4_init 3 s _ wsX4_init RX4 := ⟨hx, hb, hml, hown, hts⟩
  have hB67 : ∀ (Sb : PS) (nb : Nat) (H1 : Heap) (lo1 : List Loc) (kc ks : Nat) (_ : kc + 3 ≤ 29) (_ : ks + 66 ≤ 277) (x0 : Nat) (ls : Array Slot), lv_has ls 3 [(0, .ref x0)] → Hw D cy (AA cy S n) s.heap Sb nb H1 lo1 → EX S Sb → vd Sb x0 4 → f_X4_init_B67 Sb nb x0 = some res → W p l e (headSpec wsX4_init ({ frames := 2, cells := 29, slots := 277, locals := 65 } : Room)).room s m ([.ref y0] : List Value).toArray below meth c H1 lo1 kc ks (MQ below (va_Qv (fun (u : PS × Nat) => u = res) (BW D cy S n) (AA cy S n)) ([.ref y0] : List Value).toArray s 29 277 (AA cy S n)) (F0 m 67 ls []) := by
    intro Sb nb H1 lo1 kc ks hkc hks x0 ls hl hw hE v_x0 hf
    unfold f_X4_init_B67 at hf
    refine lv_aload_n hx hb dX4_init_67 rfl (lv_at hl 0 rfl) ?_
    refine lv_iconst (v := 0) hx hb dX4_init_68 (by decide) ?_
    refine q_put F hK hw v_x0.1 (pF_4 (S := Sb) v_x0.2) (fun w h => List.mem_cons_of_mem _ (List.mem_append_left _ (List.mem_append_left _ (List.mem_append_right _ h)))) tyX4 tyX4_ok nmX4 rfl 2 (by decide) (hts (.fieldLink RX4 27 "SharedModuli" "oldestSaved" "I") (List.mem_of_getElem? (i := 12) rfl)) (Or.inl rfl) (tyX4_ok 2 (by decide)) rfl rfl (Nat.le_of_ble_eq_true rfl) (S1 := sI Sb 66 x0 0) (st_66 (S := Sb) v_x0.2 0) dX4_init_69 (fun H locs hw => ?_)
    refine lv_aload_n hx hb dX4_init_72 rfl (lv_at hl 0 rfl) ?_
    refine lv_iconst (v := 0) hx hb dX4_init_73 (by decide) ?_
    refine q_put F hK hw v_x0.1 (pF_4 (S := sI Sb 66 x0 0) v_x0.2) (fun w h => List.mem_cons_of_mem _ (List.mem_append_left _ (List.mem_append_left _ (List.mem_append_right _ h)))) tyX4 tyX4_ok nmX4 rfl 3 (by decide) (hts (.fieldLink RX4 31 "SharedModuli" "savedStates" "I") (List.mem_of_getElem? (i := 13) rfl)) (Or.inl rfl) (tyX4_ok 3 (by decide)) rfl rfl (Nat.le_of_ble_eq_true rfl) (S1 := sI (sI Sb 66 x0 0) 67 x0 0) (st_67 (S := sI Sb 66 x0 0) v_x0.2 0) dX4_init_74 (fun H locs hw => ?_)
    refine lv_aload_n hx hb dX4_init_77 rfl (lv_at hl 0 rfl) ?_
    refine lv_bipush (v := 60) hx hb dX4_init_78 (by decide) ?_
    have hfr := hw.fresh
    refine q_newi F hK hw hA (hts (.arrayClass .int) (List.mem_of_getElem? (i := 14) rfl)) (N' := 60) (by decide) (by decide) (by decide) (by show _ ≤ 29; omega) (by show _ ≤ 277; omega) dX4_init_80 (fun H hw => ?_)
    have hX := EX.nA (k := 6) (n := 60) hfr
    have hE := hE.tr hX
    have v_x0 := hX _ _ v_x0
    have v_q24 : vd (nA (sI (sI Sb 66 x0 0) 67 x0 0) nb 6 60) (nb) 6 := vd_nA
    refine q_put F hK hw v_x0.1 (pF_4 (S := nA (sI (sI Sb 66 x0 0) 67 x0 0) nb 6 60) v_x0.2) (fun w h => List.mem_cons_of_mem _ (List.mem_append_left _ (List.mem_append_left _ (List.mem_append_right _ h)))) tyX4 tyX4_ok nmX4 rfl 4 (by decide) (hts (.fieldLink RX4 34 "SharedModuli" "buffe\x72" "[I") (List.mem_of_getElem? (i := 15) rfl)) (Or.inr ⟨hin, rfl⟩) (tyX4_ok 4 (by decide)) rfl rfl (Nat.le_of_ble_eq_true rfl) (S1 := sR (nA (sI (sI Sb 66 x0 0) 67 x0 0) nb 6 60) 68 x0 (some nb)) (st_68 (S := nA (sI (sI Sb 66 x0 0) 67 x0 0) nb 6 60) v_x0.2 (some nb)) dX4_init_82 (fun H locs hw => ?_)
    refine lv_aload_n hx hb dX4_init_85 rfl (lv_at hl 0 rfl) ?_
    refine lv_iconst (v := 0) hx hb dX4_init_86 (by decide) ?_
    refine q_put F hK hw v_x0.1 (pF_4 (S := sR (nA (sI (sI Sb 66 x0 0) 67 x0 0) nb 6 60) 68 x0 (some nb)) v_x0.2) (fun w h => List.mem_cons_of_mem _ (List.mem_append_left _ (List.mem_append_left _ (List.mem_append_right _ h)))) tyX4 tyX4_ok nmX4 rfl 5 (by decide) (hts (.fieldLink RX4 38 "SharedModuli" "length" "I") (List.mem_of_getElem? (i := 16) rfl)) (Or.inl rfl) (tyX4_ok 5 (by decide)) rfl rfl (Nat.le_of_ble_eq_true rfl) (S1 := sI (sR (nA (sI (sI Sb 66 x0 0) 67 x0 0) nb 6 60) 68 x0 (some nb)) 69 x0 0) (st_69 (S := sR (nA (sI (sI Sb 66 x0 0) 67 x0 0) nb 6 60) 68 x0 (some nb)) v_x0.2 0) dX4_init_87 (fun H locs hw => ?_)
    refine lv_aload_n hx hb dX4_init_90 rfl (lv_at hl 0 rfl) ?_
    have hfr := hw.fresh
    refine q_new F hK hw hA (fun w h => List.mem_cons_of_mem _ (List.mem_append_left _ (List.mem_append_right _ h))) tyX2 tyX2_ok (hts (.classLink RX4 41 RX2) (List.mem_of_getElem? (i := 17) rfl)) (hts (.instantiable RX2 4) (List.mem_of_getElem? (i := 18) rfl)) (hts (.initialized RX2) (List.mem_of_getElem? (i := 19) rfl)) rfl (fs := [.int 0, .int 0, .int 0, .int 0]) (fun j hj => by rcases (show j = 0 ∨ j = 1 ∨ j = 2 ∨ j = 3 by omega) with rfl | rfl | rfl | rfl <;> rfl) (by show _ ≤ 29; omega) (by show _ ≤ 277; omega) dX4_init_91 (S1 := nO (sI (sR (nA (sI (sI Sb 66 x0 0) 67 x0 0) nb 6 60) 68 x0 (some nb)) 69 x0 0) (nb + 1) 2) (fun hq => nw_2 hq) (fun H hw => ?_)
    have hX := EX.nO (k := 2) hfr
    have hE := hE.tr hX
    have v_x0 := hX _ _ v_x0
    have v_q24 := hX _ _ v_q24
    have v_q25 : vd (nO (sI (sR (nA (sI (sI Sb 66 x0 0) 67 x0 0) nb 6 60) 68 x0 (some nb)) 69 x0 0) (nb + 1) 2) (nb + 1) 2 := vd_nO
    refine lv_dup hx hb dX4_init_94 rfl ?_
    obtain ⟨t26, h27, hf⟩ := bd_some hf
    refine q_callv (va_runI (As := []) (rest := [.ref (nb + 1), .ref x0]) F (c_X2_init l D cy (S := nO (sI (sR (nA (sI (sI Sb 66 x0 0) 67 x0 0) nb 6 60) 68 x0 (some nb)) 69 x0 0) (nb + 1) 2) v_q25 h27) (cwI 0 hts gX4_init_X2_init rfl rfl rfl (hts (.initialized RX2) (List.mem_of_getElem? (i := 19) rfl)) (hts (.methodLink RX4 43 yX2_init) (List.mem_of_getElem? (i := 53) rfl)) (hts (.instanceMethod yX2_init) (List.mem_of_getElem? (i := 54) rfl)) rfl ⟨ph_X2_init.1, ph_X2_init.2, pd_X2_init⟩ ⟨Nat.le_of_ble_eq_true rfl, Nat.le_of_ble_eq_true rfl⟩) ⟨PcW.bl, PcW.in hK hw hA (fun z => z.elim)⟩ rfl rfl hl.1 rfl (lv_room (Nat.le_of_ble_eq_true rfl)) dX4_init_95 ⟨by show _ ≤ 29; omega, by show _ ≤ 277; omega⟩) hw hA (fun H locs hw hX => ?_)
    have hE := hE.tr hX
    have v_x0 := hX _ _ v_x0
    have v_q24 := hX _ _ v_q24
    have v_q25 := hX _ _ v_q25
    refine q_put F hK hw v_x0.1 (pF_4 (S := t26) v_x0.2) (fun w h => List.mem_cons_of_mem _ (List.mem_append_left _ (List.mem_append_left _ (List.mem_append_right _ h)))) tyX4 tyX4_ok nmX4 rfl 6 (by decide) (hts (.fieldLink RX4 44 "SharedModuli" "scanne\x72" "LSharedModuli$Scanner;") (List.mem_of_getElem? (i := 20) rfl)) (Or.inr ⟨hin, rfl⟩) (tyX4_ok 6 (by decide)) rfl rfl (Nat.le_of_ble_eq_true rfl) (S1 := sR t26 70 x0 (some (nb + 1))) (st_70 (S := t26) v_x0.2 (some (nb + 1))) dX4_init_98 (fun H locs hw => ?_)
    refine lv_aload_n hx hb dX4_init_101 rfl (lv_at hl 0 rfl) ?_
    have hfr := hw.fresh
    refine q_new F hK hw hA (fun w h => List.mem_cons_of_mem _ (List.mem_append_right _ h)) tyX1 tyX1_ok (hts (.classLink RX4 48 RX1) (List.mem_of_getElem? (i := 21) rfl)) (hts (.instantiable RX1 2) (List.mem_of_getElem? (i := 22) rfl)) (hts (.initialized RX1) (List.mem_of_getElem? (i := 23) rfl)) rfl (fs := [.long 0, .long 0]) (fun j hj => by rcases (show j = 0 ∨ j = 1 by omega) with rfl | rfl <;> rfl) (by show _ ≤ 29; omega) (by show _ ≤ 277; omega) dX4_init_102 (S1 := nO (sR t26 70 x0 (some (nb + 1))) ((nb + 1) + 1) 1) (fun hq => nw_1 hq) (fun H hw => ?_)
    have hX := EX.nO (k := 1) hfr
    have hE := hE.tr hX
    have v_x0 := hX _ _ v_x0
    have v_q24 := hX _ _ v_q24
    have v_q25 := hX _ _ v_q25
    have v_q28 : vd (nO (sR t26 70 x0 (some (nb + 1))) ((nb + 1) + 1) 1) ((nb + 1) + 1) 1 := vd_nO
    refine lv_dup hx hb dX4_init_105 rfl ?_
    obtain ⟨t29, h30, hf⟩ := bd_some hf
    refine q_callv (va_runI (As := []) (rest := [.ref ((nb + 1) + 1), .ref x0]) F (c_X1_init l D cy (S := nO (sR t26 70 x0 (some (nb + 1))) ((nb + 1) + 1) 1) v_q28 h30) (cwI 0 hts gX4_init_X1_init rfl rfl rfl (hts (.initialized RX1) (List.mem_of_getElem? (i := 23) rfl)) (hts (.methodLink RX4 50 yX1_init) (List.mem_of_getElem? (i := 65) rfl)) (hts (.instanceMethod yX1_init) (List.mem_of_getElem? (i := 66) rfl)) rfl ⟨ph_X1_init.1, ph_X1_init.2, pd_X1_init⟩ ⟨Nat.le_of_ble_eq_true rfl, Nat.le_of_ble_eq_true rfl⟩) ⟨PcW.bl, PcW.in hK hw hA (fun z => z.elim)⟩ rfl rfl hl.1 rfl (lv_room (Nat.le_of_ble_eq_true rfl)) dX4_init_106 ⟨by show _ ≤ 29; omega, by show _ ≤ 277; omega⟩) hw hA (fun H locs hw hX => ?_)
    have hE := hE.tr hX
    have v_x0 := hX _ _ v_x0
    have v_q24 := hX _ _ v_q24
    have v_q25 := hX _ _ v_q25
    have v_q28 := hX _ _ v_q28
    refine q_put F hK hw v_x0.1 (pF_4 (S := t29) v_x0.2) (fun w h => List.mem_cons_of_mem _ (List.mem_append_left _ (List.mem_append_left _ (List.mem_append_right _ h)))) tyX4 tyX4_ok nmX4 rfl 7 (by decide) (hts (.fieldLink RX4 51 "SharedModuli" "joint" "LSharedModuli$Joint;") (List.mem_of_getElem? (i := 24) rfl)) (Or.inr ⟨hin, rfl⟩) (tyX4_ok 7 (by decide)) rfl rfl (Nat.le_of_ble_eq_true rfl) (S1 := sR t29 71 x0 (some ((nb + 1) + 1))) (st_71 (S := t29) v_x0.2 (some ((nb + 1) + 1))) dX4_init_109 (fun H locs hw => ?_)
    refine W.widen (k := 29) (n := 277) (by omega) (by omega) ?_
    exact W.vret hx hb hr (fun t ht hW => ⟨⟨(sR t29 71 x0 (some ((nb + 1) + 1)), ((nb + 1) + 1) + 1), rfl, po1n hf, BW.of hw hE ht⟩, hw.2.2.1.F ht⟩) hw.2.2.1.2.2 dX4_init_112
  have hL38 : ∀ (fu38 : Nat), ∀ (Sb : PS) (nb : Nat) (H1 : Heap) (lo1 : List Loc) (kc ks : Nat) (_ : kc + (fu38 * 3 + 3) ≤ 29) (_ : ks + (fu38 * 25 + 66) ≤ 277) (x0 : Nat) (x1 : Nat) (x2 : Int32) (ls : Array Slot), lv_has ls 3 [(0, .ref x0), (1, .ref x1), (2, .int x2)] → Hw D cy (AA cy S n) s.heap Sb nb H1 lo1 → EX S Sb → vd Sb x0 4 → vd Sb x1 0 → f_X4_init_L38 f_X4_init_B67 fu38 Sb nb x0 x1 x2 = some res → W p l e (headSpec wsX4_init ({ frames := 2, cells := 29, slots := 277, locals := 65 } : Room)).room s m ([.ref y0] : List Value).toArray below meth c H1 lo1 kc ks (MQ below (va_Qv (fun (u : PS × Nat) => u = res) (BW D cy S n) (AA cy S n)) ([.ref y0] : List Value).toArray s 29 277 (AA cy S n)) (F0 m 38 ls []) := by
    intro fu38
    induction fu38 with
    | zero =>
      intro Sb nb H1 lo1 kc ks hkc hks x0 x1 x2 ls hl hw hE v_x0 v_x1 hf
      have hf : (none : Option (PS × Nat)) = some res := hf
      cases hf
    | succ fu38 ih38 =>
      intro Sb nb H1 lo1 kc ks hkc hks x0 x1 x2 ls hl hw hE v_x0 v_x1 hf
      have hf : f_X4_init_L38s (f_X4_init_L38 f_X4_init_B67 fu38) f_X4_init_B67 Sb nb x0 x1 x2 = some res := hf
      unfold f_X4_init_L38s at hf
      refine lv_iload_n hx hb dX4_init_38 rfl (lv_at hl 2 rfl) ?_
      refine lv_aload_n hx hb dX4_init_39 rfl (lv_at hl 0 rfl) ?_
      obtain ⟨b31, e32, v_b31, hf⟩ := rq_some hf
      refine q_get F hK hw.1 v_x0.1 (pF_4 (S := Sb) v_x0.2) (fun w h => List.mem_cons_of_mem _ (List.mem_append_left _ (List.mem_append_left _ (List.mem_append_right _ h)))) rfl 1 (by decide) (hts (.fieldLink RX4 23 "SharedModuli" "saved" "[LSharedModuli$State;") (List.mem_of_getElem? (i := 11) rfl)) (v := .ref b31) (congrArg (fun z => some (va_rf z)) e32) dX4_init_40 ?_
      refine q_alen8 F hK hw.1 v_b31 dX4_init_43 ?_
      refine lv_icmp_ge (tgt := 67) hx hb dX4_init_44 (by decide) (fun c33 => ?_) (fun c33 => ?_)
      · have hf := it_t c33 hf
        exact hB67 Sb nb _ _ _ _ (by omega) (by omega) x0 _ (lv_sub hl [0] rfl) hw hE v_x0 hf
      · have hf := it_f c33 hf
        refine lv_aload_n hx hb dX4_init_47 rfl (lv_at hl 0 rfl) ?_
        obtain ⟨b34, e35, v_b34, hf⟩ := rq_some hf
        refine q_get F hK hw.1 v_x0.1 (pF_4 (S := Sb) v_x0.2) (fun w h => List.mem_cons_of_mem _ (List.mem_append_left _ (List.mem_append_left _ (List.mem_append_right _ h)))) rfl 1 (by decide) (hts (.fieldLink RX4 23 "SharedModuli" "saved" "[LSharedModuli$State;") (List.mem_of_getElem? (i := 11) rfl)) (v := .ref b34) (congrArg (fun z => some (va_rf z)) e35) dX4_init_48 ?_
        refine lv_iload_n hx hb dX4_init_51 rfl (lv_at hl 2 rfl) ?_
        have hfr := hw.fresh
        refine q_new F hK hw hA (fun w h => List.mem_cons_of_mem _ (List.mem_append_left _ (List.mem_append_left _ (List.mem_append_left _ (List.mem_append_right _ h))))) tyX3 tyX3_ok (hts (.classLink RX4 12 RX3) (List.mem_of_getElem? (i := 7) rfl)) (hts (.instantiable RX3 5) (List.mem_of_getElem? (i := 8) rfl)) (hts (.initialized RX3) (List.mem_of_getElem? (i := 9) rfl)) rfl (fs := [.null, .null, .null, .int 0, .int 0]) (fun j hj => by rcases (show j = 0 ∨ j = 1 ∨ j = 2 ∨ j = 3 ∨ j = 4 by omega) with rfl | rfl | rfl | rfl | rfl <;> rfl) (by show _ ≤ 29; omega) (by show _ ≤ 277; omega) dX4_init_52 (S1 := nO Sb nb 3) (fun hq => nw_3 hq) (fun H hw => ?_)
        have hX := EX.nO (k := 3) hfr
        have hE := hE.tr hX
        have v_x0 := hX _ _ v_x0
        have v_x1 := hX _ _ v_x1
        have v_b31 := hX _ _ v_b31
        have v_b34 := hX _ _ v_b34
        have v_q36 : vd (nO Sb nb 3) (nb) 3 := vd_nO
        refine lv_dup hx hb dX4_init_55 rfl ?_
        refine lv_aload_n hx hb dX4_init_56 rfl (lv_at hl 1 rfl) ?_
        obtain ⟨t37, h38, hf⟩ := bd_some hf
        refine q_callv (va_runI (As := [.ref x1]) (rest := [.ref nb, .int x2, .ref b34]) F (c_X3_init l D cy (S := nO Sb nb 3) v_q36 v_x1 h38) (cwI 1 hts gX4_init_X3_init rfl rfl rfl (hts (.initialized RX3) (List.mem_of_getElem? (i := 9) rfl)) (hts (.methodLink RX4 14 yX3_init) (List.mem_of_getElem? (i := 43) rfl)) (hts (.instanceMethod yX3_init) (List.mem_of_getElem? (i := 44) rfl)) rfl ⟨ph_X3_init.1, ph_X3_init.2, pd_X3_init⟩ ⟨Nat.le_of_ble_eq_true rfl, Nat.le_of_ble_eq_true rfl⟩) ⟨PcW.bl, PcW.in hK hw hA (fun z => z.elim)⟩ rfl rfl hl.1 rfl (lv_room (Nat.le_of_ble_eq_true rfl)) dX4_init_57 ⟨by show _ ≤ 29; omega, by show _ ≤ 277; omega⟩) hw hA (fun H locs hw hX => ?_)
        have hE := hE.tr hX
        have v_x0 := hX _ _ v_x0
        have v_x1 := hX _ _ v_x1
        have v_b31 := hX _ _ v_b31
        have v_b34 := hX _ _ v_b34
        have v_q36 := hX _ _ v_q36
        obtain ⟨c39, hf⟩ := ckd_some hf
        refine q_aast8 F hK hw v_b34 v_q36 c39 dX4_init_60 (fun H locs hw => ?_)
        refine lv_iinc (v := x2 + 1) (lv' := [(2, .int (x2 + 1)), (0, .ref x0), (1, .ref x1)]) hx hb dX4_init_61 hl (k := 2) rfl (by rfl) (by decide) rfl (fun ls hl => ?_)
        refine lv_goto (tgt := 38) hx hb dX4_init_64 (by decide) ?_
        exact ih38 (sQ t37.1 b34 x2 (some nb)) t37.2 _ _ _ _ (by omega) (by omega) x0 x1 (x2 + 1) _ (lv_sub hl [1, 2, 0] rfl) hw hE v_x0 v_x1 hf
  have hl := lv_entry ([.ref y0]) (n := 3) (Nat.le_of_ble_eq_true rfl)
  rw [lg_entry_eq]
  generalize (lg_sl ([.ref y0]) ++ List.replicate (3 - (lg_sl ([.ref y0])).length) Slot.unset).toArray = ls at hl ⊢
  have hl : lv_has ls 3 [(0, .ref y0)] := hl
  unfold f_X4_init at hf
  refine lv_aload_n hx hb dX4_init_0 rfl (lv_at hl 0 rfl) ?_
  refine W.objInit hx hb hown (hts (.methodLink RX4 1 objectInit) (List.mem_of_getElem? (i := 1) rfl)) (hts (.instanceMethod objectInit) (List.mem_of_getElem? (i := 2) rfl)) (hts (.code objectInit ⟨#[0xb1]⟩ 1 none) (List.mem_of_getElem? (i := 3) rfl)) rfl (by rw [hml]; exact hl.1) rfl dX4_init_1 (Nat.le_of_ble_eq_true rfl) (Nat.le_of_ble_eq_true rfl) ?_
  refine W.eq (g2 := F0 m 4 ls []) rfl ?_
  have hfr := hw.fresh
  refine q_new F hK hw hA (fun w h => List.mem_cons_of_mem _ (List.mem_append_left _ (List.mem_append_left _ (List.mem_append_left _ (List.mem_append_left _ (List.mem_append_right _ h)))))) tyX0 tyX0_ok (hts (.classLink RX4 7 RX0) (List.mem_of_getElem? (i := 4) rfl)) (hts (.instantiable RX0 5) (List.mem_of_getElem? (i := 5) rfl)) (hts (.initialized RX0) (List.mem_of_getElem? (i := 6) rfl)) rfl (fs := [.int 0, .int 0, .int 0, .int 0, .int 0]) (fun j hj => by rcases (show j = 0 ∨ j = 1 ∨ j = 2 ∨ j = 3 ∨ j = 4 by omega) with rfl | rfl | rfl | rfl | rfl <;> rfl) (by show _ ≤ 29; omega) (by show _ ≤ 277; omega) dX4_init_4 (S1 := nO S n 0) (fun hq => nw_0 hq) (fun H hw => ?_)
  have hX := EX.nO (k := 0) hfr
  have hE := hE.tr hX
  have v_y0 := hX _ _ v_y0
  have v_q40 : vd (nO S n 0) (n) 0 := vd_nO
  refine lv_dup hx hb dX4_init_7 rfl ?_
  refine lv_iconst (v := 1) hx hb dX4_init_8 (by decide) ?_
  refine lv_iconst (v := 0) hx hb dX4_init_9 (by decide) ?_
  refine lv_iconst (v := 1) hx hb dX4_init_10 (by decide) ?_
  obtain ⟨t41, h42, hf⟩ := bd_some hf
  refine q_callv (va_runI (As := [.int 1, .int 0, .int 1]) (rest := [.ref n]) F (c_X0_init l D cy (S := nO S n 0) v_q40 h42) (cwI 3 hts gX4_init_X0_init rfl rfl rfl (hts (.initialized RX0) (List.mem_of_getElem? (i := 6) rfl)) (hts (.methodLink RX4 9 yX0_init) (List.mem_of_getElem? (i := 25) rfl)) (hts (.instanceMethod yX0_init) (List.mem_of_getElem? (i := 26) rfl)) rfl ⟨ph_X0_init.1, ph_X0_init.2, pd_X0_init⟩ ⟨Nat.le_of_ble_eq_true rfl, Nat.le_of_ble_eq_true rfl⟩) ⟨PcW.bl, PcW.in hK hw hA (fun z => z.elim)⟩ rfl rfl hl.1 rfl (lv_room (Nat.le_of_ble_eq_true rfl)) dX4_init_11 ⟨by show _ ≤ 29; omega, by show _ ≤ 277; omega⟩) hw hA (fun H locs hw hX => ?_)
  have hE := hE.tr hX
  have v_y0 := hX _ _ v_y0
  have v_q40 := hX _ _ v_q40
  refine lv_astore_n (lv' := [(1, .ref n), (0, .ref y0)]) hx hb dX4_init_14 rfl hl (by decide) rfl (fun ls hl => ?_)
  refine lv_aload_n hx hb dX4_init_15 rfl (lv_at hl 1 rfl) ?_
  have hfr := hw.fresh
  refine q_new F hK hw hA (fun w h => List.mem_cons_of_mem _ (List.mem_append_left _ (List.mem_append_left _ (List.mem_append_left _ (List.mem_append_right _ h))))) tyX3 tyX3_ok (hts (.classLink RX4 12 RX3) (List.mem_of_getElem? (i := 7) rfl)) (hts (.instantiable RX3 5) (List.mem_of_getElem? (i := 8) rfl)) (hts (.initialized RX3) (List.mem_of_getElem? (i := 9) rfl)) rfl (fs := [.null, .null, .null, .int 0, .int 0]) (fun j hj => by rcases (show j = 0 ∨ j = 1 ∨ j = 2 ∨ j = 3 ∨ j = 4 by omega) with rfl | rfl | rfl | rfl | rfl <;> rfl) (by show _ ≤ 29; omega) (by show _ ≤ 277; omega) dX4_init_16 (S1 := nO t41 (n + 1) 3) (fun hq => nw_3 hq) (fun H hw => ?_)
  have hX := EX.nO (k := 3) hfr
  have hE := hE.tr hX
  have v_y0 := hX _ _ v_y0
  have v_q40 := hX _ _ v_q40
  have v_q43 : vd (nO t41 (n + 1) 3) (n + 1) 3 := vd_nO
  refine lv_dup hx hb dX4_init_19 rfl ?_
  refine lv_aload_n hx hb dX4_init_20 rfl (lv_at hl 0 rfl) ?_
  obtain ⟨t44, h45, hf⟩ := bd_some hf
  refine q_callv (va_runI (As := [.ref n]) (rest := [.ref (n + 1), .ref y0]) F (c_X3_init l D cy (S := nO t41 (n + 1) 3) v_q43 v_q40 h45) (cwI 1 hts gX4_init_X3_init rfl rfl rfl (hts (.initialized RX3) (List.mem_of_getElem? (i := 9) rfl)) (hts (.methodLink RX4 14 yX3_init) (List.mem_of_getElem? (i := 43) rfl)) (hts (.instanceMethod yX3_init) (List.mem_of_getElem? (i := 44) rfl)) rfl ⟨ph_X3_init.1, ph_X3_init.2, pd_X3_init⟩ ⟨Nat.le_of_ble_eq_true rfl, Nat.le_of_ble_eq_true rfl⟩) ⟨PcW.bl, PcW.in hK hw hA (fun z => z.elim)⟩ rfl rfl hl.1 rfl (lv_room (Nat.le_of_ble_eq_true rfl)) dX4_init_21 ⟨by show _ ≤ 29; omega, by show _ ≤ 277; omega⟩) hw hA (fun H locs hw hX => ?_)
  have hE := hE.tr hX
  have v_y0 := hX _ _ v_y0
  have v_q40 := hX _ _ v_q40
  have v_q43 := hX _ _ v_q43
  refine q_put F hK hw v_y0.1 (pF_4 (S := t44.1) v_y0.2) (fun w h => List.mem_cons_of_mem _ (List.mem_append_left _ (List.mem_append_left _ (List.mem_append_right _ h)))) tyX4 tyX4_ok nmX4 rfl 0 (by decide) (hts (.fieldLink RX4 17 "SharedModuli" "now" "LSharedModuli$State;") (List.mem_of_getElem? (i := 10) rfl)) (Or.inr ⟨hin, rfl⟩) (tyX4_ok 0 (by decide)) rfl rfl (Nat.le_of_ble_eq_true rfl) (S1 := sR t44.1 64 y0 (some (n + 1))) (st_64 (S := t44.1) v_y0.2 (some (n + 1))) dX4_init_24 (fun H locs hw => ?_)
  refine lv_aload_n hx hb dX4_init_27 rfl (lv_at hl 1 rfl) ?_
  refine lv_bipush (v := 6) hx hb dX4_init_28 (by decide) ?_
  have hfr := hw.fresh
  refine q_newq F hK hw hA (hts (.classLink RX4 12 RX3) (List.mem_of_getElem? (i := 7) rfl)) hK.2.2.2.2.1 (hK.1.2 2 _ rfl).2 (N' := 6) (by decide) (by decide) (by decide) (by show _ ≤ 29; omega) (by show _ ≤ 277; omega) dX4_init_30 (S1 := nA (sR t44.1 64 y0 (some (n + 1))) t44.2 8 6) (fun hq => nw_8 hq) (fun H hw => ?_)
  have hX := EX.nA (k := 8) (n := 6) hfr
  have hE := hE.tr hX
  have v_y0 := hX _ _ v_y0
  have v_q40 := hX _ _ v_q40
  have v_q43 := hX _ _ v_q43
  have v_q46 : vd (nA (sR t44.1 64 y0 (some (n + 1))) t44.2 8 6) (t44.2) 8 := vd_nA
  refine q_put F hK hw v_y0.1 (pF_4 (S := nA (sR t44.1 64 y0 (some (n + 1))) t44.2 8 6) v_y0.2) (fun w h => List.mem_cons_of_mem _ (List.mem_append_left _ (List.mem_append_left _ (List.mem_append_right _ h)))) tyX4 tyX4_ok nmX4 rfl 1 (by decide) (hts (.fieldLink RX4 23 "SharedModuli" "saved" "[LSharedModuli$State;") (List.mem_of_getElem? (i := 11) rfl)) (Or.inr ⟨hin, rfl⟩) (tyX4_ok 1 (by decide)) rfl rfl (Nat.le_of_ble_eq_true rfl) (S1 := sR (nA (sR t44.1 64 y0 (some (n + 1))) t44.2 8 6) 65 y0 (some t44.2)) (st_65 (S := nA (sR t44.1 64 y0 (some (n + 1))) t44.2 8 6) v_y0.2 (some t44.2)) dX4_init_33 (fun H locs hw => ?_)
  refine lv_iconst (v := 0) hx hb dX4_init_36 (by decide) ?_
  refine lv_istore_n (lv' := [(2, .int 0), (1, .ref n), (0, .ref y0)]) hx hb dX4_init_37 rfl hl (by decide) rfl (fun ls hl => ?_)
  exact hL38 7 (sR (nA (sR t44.1 64 y0 (some (n + 1))) t44.2 8 6) 65 y0 (some t44.2)) (t44.2 + 1) _ _ _ _ (by omega) (by omega) y0 n 0 _ (lv_sub hl [2, 1, 0] rfl) hw hE v_y0 v_q40 hf
def f_X4_areParts_B40 (s0 : Int32) : Option Int32 :=
  ck (decide (s0 &&& 1 = s0)) (
  some s0)
def f_X4_areParts_B39  : Option Int32 :=
  f_X4_areParts_B40 0
def f_X4_areParts (x0 : Int32) (x1 : Int32) (x2 : Int32) : Option Int32 :=
  if x0 < 1 then (f_X4_areParts_B39) else
  if 999 < x0 then (f_X4_areParts_B39) else
  if x1 < 0 then (f_X4_areParts_B39) else
  if 999 < x1 then (f_X4_areParts_B39) else
  if x2 < 1 then (f_X4_areParts_B39) else
  if 999 < x2 then (f_X4_areParts_B39) else
  f_X4_areParts_B40 1
set_option maxHeartbeats 4000000 in
set_option maxRecDepth 100000 in
theorem c_X4_areParts (l : Launch) (D : va_G) (cy : cyT) {H : Heap} {y0 : Int32} {y1 : Int32} {y2 : Int32}  {res : Int32} (hf : f_X4_areParts y0 y1 y2 = some res) : Met l yX4_areParts wsX4_areParts ({ frames := 0, cells := 0, slots := 0, locals := 0 } : Room) (PcR D cy H [.int y0, .int y1, .int y2]) (vp_Si (fun r => r = res)) 0 0 (fun _ => False) := by
  refine Met.ofW (cc := cX4_areParts) (maxL := 3) (ret := (some .boolean)) (by decide) rfl ?_
  intro p e s m args below meth c s₁ B hml hv
  obtain ⟨hav, hH, hK⟩ := hv
  have hx := B.exec
  have hb := B.bytes
  have hr := B.returns
  have hts := atoms_spec (ws := wsX4_areParts) B.pre
  have hown : s.vm.findClass RX4 = some m.cls := findClass_of_methodNamed B.named
  have hlocks := B.notSynchronized
  subst hav
  subst hH
  have F : CallFix p m c cX4_areParts 3 s _ wsX4_areParts RX4 := ⟨hx, hb, hml, hown, hts⟩
  have hB40 : ∀ (s0 : Int32) (ls : Array Slot), lv_has ls 3 [] → f_X4_areParts_B40 s0 = some res → W p l e (headSpec wsX4_areParts ({ frames := 0, cells := 0, slots := 0, locals := 0 } : Room)).room s m ([.int y0, .int y1, .int y2] : List Value).toArray below meth c s.heap [] 0 0 (MQ below (vp_Si (fun r => r = res)) ([.int y0, .int y1, .int y2] : List Value).toArray s 0 0 (fun _ => False)) (F0 m 40 ls [.int s0]) := by
    intro s0 ls hl hf
    unfold f_X4_areParts_B40 at hf
    obtain ⟨c8, hf⟩ := ckd_some hf
    exact W.zret (v := s0) hx hb hr (nz c8) (fun t ht hW => ⟨_, rfl, Option.some.inj hf, ht⟩) (fun _ h => by cases h) dX4_areParts_40
  have hB39 : ∀  (ls : Array Slot), lv_has ls 3 [] → f_X4_areParts_B39 = some res → W p l e (headSpec wsX4_areParts ({ frames := 0, cells := 0, slots := 0, locals := 0 } : Room)).room s m ([.int y0, .int y1, .int y2] : List Value).toArray below meth c s.heap [] 0 0 (MQ below (vp_Si (fun r => r = res)) ([.int y0, .int y1, .int y2] : List Value).toArray s 0 0 (fun _ => False)) (F0 m 39 ls []) := by
    intro ls hl hf
    unfold f_X4_areParts_B39 at hf
    refine lv_iconst (v := 0) hx hb dX4_areParts_39 (by decide) ?_
    exact hB40 0 _ (lv_sub hl [] rfl)  hf
  have hl := lv_entry ([.int y0, .int y1, .int y2]) (n := 3) (Nat.le_of_ble_eq_true rfl)
  rw [lg_entry_eq]
  generalize (lg_sl ([.int y0, .int y1, .int y2]) ++ List.replicate (3 - (lg_sl ([.int y0, .int y1, .int y2])).length) Slot.unset).toArray = ls at hl ⊢
  have hl : lv_has ls 3 [(0, .int y0), (1, .int y1), (2, .int y2)] := hl
  unfold f_X4_areParts at hf
  refine lv_iload_n hx hb dX4_areParts_0 rfl (lv_at hl 0 rfl) ?_
  refine lv_iconst (v := 1) hx hb dX4_areParts_1 (by decide) ?_
  refine lv_icmp_lt (tgt := 39) hx hb dX4_areParts_2 (by decide) (fun c9 => ?_) (fun c9 => ?_)
  · have hf := it_t c9 hf
    exact hB39 _ (lv_sub hl [] rfl)  hf
  · have hf := it_f c9 hf
    refine lv_iload_n hx hb dX4_areParts_5 rfl (lv_at hl 0 rfl) ?_
    refine lv_sipush (v := 999) hx hb dX4_areParts_6 (by decide) ?_
    refine lv_icmp_gt (tgt := 39) hx hb dX4_areParts_9 (by decide) (fun c10 => ?_) (fun c10 => ?_)
    · have hf := it_t c10 hf
      exact hB39 _ (lv_sub hl [] rfl)  hf
    · have hf := it_f c10 hf
      refine lv_iload_n hx hb dX4_areParts_12 rfl (lv_at hl 1 rfl) ?_
      refine lv_if_lt (tgt := 39) hx hb dX4_areParts_13 (by decide) (fun c11 => ?_) (fun c11 => ?_)
      · have hf := it_t c11 hf
        exact hB39 _ (lv_sub hl [] rfl)  hf
      · have hf := it_f c11 hf
        refine lv_iload_n hx hb dX4_areParts_16 rfl (lv_at hl 1 rfl) ?_
        refine lv_sipush (v := 999) hx hb dX4_areParts_17 (by decide) ?_
        refine lv_icmp_gt (tgt := 39) hx hb dX4_areParts_20 (by decide) (fun c12 => ?_) (fun c12 => ?_)
        · have hf := it_t c12 hf
          exact hB39 _ (lv_sub hl [] rfl)  hf
        · have hf := it_f c12 hf
          refine lv_iload_n hx hb dX4_areParts_23 rfl (lv_at hl 2 rfl) ?_
          refine lv_iconst (v := 1) hx hb dX4_areParts_24 (by decide) ?_
          refine lv_icmp_lt (tgt := 39) hx hb dX4_areParts_25 (by decide) (fun c13 => ?_) (fun c13 => ?_)
          · have hf := it_t c13 hf
            exact hB39 _ (lv_sub hl [] rfl)  hf
          · have hf := it_f c13 hf
            refine lv_iload_n hx hb dX4_areParts_28 rfl (lv_at hl 2 rfl) ?_
            refine lv_sipush (v := 999) hx hb dX4_areParts_29 (by decide) ?_
            refine lv_icmp_gt (tgt := 39) hx hb dX4_areParts_32 (by decide) (fun c14 => ?_) (fun c14 => ?_)
            · have hf := it_t c14 hf
              exact hB39 _ (lv_sub hl [] rfl)  hf
            · have hf := it_f c14 hf
              refine lv_iconst (v := 1) hx hb dX4_areParts_35 (by decide) ?_
              refine lv_goto (tgt := 40) hx hb dX4_areParts_36 (by decide) ?_
              exact hB40 1 _ (lv_sub hl [] rfl)  hf
def f_X4_isRefused_B42 (S : PS) (s0 : Int32) : Option Int32 :=
  ck (decide (s0 &&& 1 = s0)) (
  some s0)
def f_X4_isRefused_B37 (S : PS)  : Option Int32 :=
  f_X4_isRefused_B42 S 1
def f_X4_isRefused (S : PS) (x0 : Nat) (x1 : Nat) : Option Int32 :=
  rq (fR S 64 x0) S 3 fun b2 =>
  if 10 ≤ (fI S 51 b2) then (f_X4_isRefused_B37 S) else
  rq (fR S 64 x0) S 3 fun b5 =>
  rq (fR S 64 x0) S 3 fun b7 =>
  bd (f_X3_span S b5 (fI S 52 b7)) fun t9 =>
  bd (f_X4_widened S t9 x1) fun t12 =>
  if t12 ≤ 1000000000000000 then (f_X4_isRefused_B42 S 0) else
  f_X4_isRefused_B37 S
set_option maxHeartbeats 4000000 in
set_option maxRecDepth 100000 in
theorem c_X4_isRefused (l : Launch) (D : va_G) (cy : cyT) {H : Heap} {S : PS} (hP : va_P D vwCl (wl cy S) H) {y0 : Nat} {y1 : Nat} (v_y0 : vd S y0 4) (v_y1 : vd S y1 0) {res : Int32} (hf : f_X4_isRefused S y0 y1 = some res) : Met l yX4_isRefused wsX4_isRefused ({ frames := 3, cells := 0, slots := 0, locals := 76 } : Room) (PcR D cy H [.ref y0, .ref y1]) (vp_Si (fun r => r = res)) 0 0 (fun _ => False) := by
  refine Met.ofW (cc := cX4_isRefused) (maxL := 2) (ret := (some .boolean)) (by decide) rfl ?_
  intro p e s m args below meth c s₁ B hml hv
  obtain ⟨hav, hH, hK⟩ := hv
  have hx := B.exec
  have hb := B.bytes
  have hr := B.returns
  have hts := atoms_spec (ws := wsX4_isRefused) B.pre
  have hown : s.vm.findClass RX4 = some m.cls := findClass_of_methodNamed B.named
  have hlocks := B.notSynchronized
  subst hav
  subst hH
  have F : CallFix p m c cX4_isRefused 2 s _ wsX4_isRefused RX4 := ⟨hx, hb, hml, hown, hts⟩
  have hB42 : ∀ (s0 : Int32) (ls : Array Slot), lv_has ls 2 [] → f_X4_isRefused_B42 S s0 = some res → W p l e (headSpec wsX4_isRefused ({ frames := 3, cells := 0, slots := 0, locals := 76 } : Room)).room s m ([.ref y0, .ref y1] : List Value).toArray below meth c s.heap [] 0 0 (MQ below (vp_Si (fun r => r = res)) ([.ref y0, .ref y1] : List Value).toArray s 0 0 (fun _ => False)) (F0 m 42 ls [.int s0]) := by
    intro s0 ls hl hf
    unfold f_X4_isRefused_B42 at hf
    obtain ⟨c16, hf⟩ := ckd_some hf
    exact W.zret (v := s0) hx hb hr (nz c16) (fun t ht hW => ⟨_, rfl, Option.some.inj hf, ht⟩) (fun _ h => by cases h) dX4_isRefused_42
  have hB37 : ∀  (ls : Array Slot), lv_has ls 2 [] → f_X4_isRefused_B37 S = some res → W p l e (headSpec wsX4_isRefused ({ frames := 3, cells := 0, slots := 0, locals := 76 } : Room)).room s m ([.ref y0, .ref y1] : List Value).toArray below meth c s.heap [] 0 0 (MQ below (vp_Si (fun r => r = res)) ([.ref y0, .ref y1] : List Value).toArray s 0 0 (fun _ => False)) (F0 m 37 ls []) := by
    intro ls hl hf
    unfold f_X4_isRefused_B37 at hf
    refine lv_iconst (v := 1) hx hb dX4_isRefused_37 (by decide) ?_
    refine lv_goto (tgt := 42) hx hb dX4_isRefused_38 (by decide) ?_
    exact hB42 1 _ (lv_sub hl [] rfl)  hf
  have hl := lv_entry ([.ref y0, .ref y1]) (n := 2) (Nat.le_of_ble_eq_true rfl)
  rw [lg_entry_eq]
  generalize (lg_sl ([.ref y0, .ref y1]) ++ List.replicate (2 - (lg_sl ([.ref y0, .ref y1])).length) Slot.unset).toArray = ls at hl ⊢
  have hl : lv_has ls 2 [(0, .ref y0), (1, .ref y1)] := hl
  unfold f_X4_isRefused at hf
  refine lv_aload_n hx hb dX4_isRefused_0 rfl (lv_at hl 0 rfl) ?_
  obtain ⟨b17, e18, v_b17, hf⟩ := rq_some hf
  refine q_get F hK hP v_y0.1 (pF_4 (S := S) v_y0.2) (fun w h => List.mem_cons_of_mem _ (List.mem_append_left _ (List.mem_append_left _ (List.mem_append_right _ h)))) rfl 0 (by decide) (hts (.fieldLink RX4 17 "SharedModuli" "now" "LSharedModuli$State;") (List.mem_of_getElem? (i := 1) rfl)) (v := .ref b17) (congrArg (fun z => some (va_rf z)) e18) dX4_isRefused_1 ?_
  refine q_getN F hK hP v_b17.1 (pF_3 (S := S) v_b17.2) (fun w h => List.mem_cons_of_mem _ (List.mem_append_left _ (List.mem_append_right _ h))) rfl 3 (by decide) (nk_f_RX4_95 hK.2.1) (v := .int (fI S 51 b17)) rfl dX4_isRefused_4 ?_
  refine lv_bipush (v := 10) hx hb dX4_isRefused_7 (by decide) ?_
  refine lv_icmp_ge (tgt := 37) hx hb dX4_isRefused_9 (by decide) (fun c19 => ?_) (fun c19 => ?_)
  · have hf := it_t c19 hf
    exact hB37 _ (lv_sub hl [] rfl)  hf
  · have hf := it_f c19 hf
    refine lv_aload_n hx hb dX4_isRefused_12 rfl (lv_at hl 0 rfl) ?_
    obtain ⟨b20, e21, v_b20, hf⟩ := rq_some hf
    refine q_get F hK hP v_y0.1 (pF_4 (S := S) v_y0.2) (fun w h => List.mem_cons_of_mem _ (List.mem_append_left _ (List.mem_append_left _ (List.mem_append_right _ h)))) rfl 0 (by decide) (hts (.fieldLink RX4 17 "SharedModuli" "now" "LSharedModuli$State;") (List.mem_of_getElem? (i := 1) rfl)) (v := .ref b20) (congrArg (fun z => some (va_rf z)) e21) dX4_isRefused_13 ?_
    refine lv_aload_n hx hb dX4_isRefused_16 rfl (lv_at hl 0 rfl) ?_
    obtain ⟨b22, e23, v_b22, hf⟩ := rq_some hf
    refine q_get F hK hP v_y0.1 (pF_4 (S := S) v_y0.2) (fun w h => List.mem_cons_of_mem _ (List.mem_append_left _ (List.mem_append_left _ (List.mem_append_right _ h)))) rfl 0 (by decide) (hts (.fieldLink RX4 17 "SharedModuli" "now" "LSharedModuli$State;") (List.mem_of_getElem? (i := 1) rfl)) (v := .ref b22) (congrArg (fun z => some (va_rf z)) e23) dX4_isRefused_17 ?_
    refine q_getN F hK hP v_b22.1 (pF_3 (S := S) v_b22.2) (fun w h => List.mem_cons_of_mem _ (List.mem_append_left _ (List.mem_append_right _ h))) rfl 4 (by decide) (nk_f_RX4_98 hK.2.1) (v := .int (fI S 52 b22)) rfl dX4_isRefused_20 ?_
    obtain ⟨t24, h25, hf⟩ := bd_some hf
    refine vp_callSl (va_runV (As := [.int (fI S 52 b22)]) (rest := []) F (c_X3_span l D cy (H := _) hP v_b20 h25) (cwV 1 hts gX4_isRefused_X3_span rfl rfl rfl ⟨rfl, ph_X3_span.1, ph_X3_span.2, pd_X3_span⟩ ⟨Nat.le_of_ble_eq_true rfl, Nat.le_of_ble_eq_true rfl⟩) ⟨PcR.bl, (q_rcv hK hP v_b20.1 (pF_3 (S := S) v_b20.2) rfl), PcR.in hK⟩ rfl rfl hl.1 rfl (lv_room (Nat.le_of_ble_eq_true rfl)) dX4_isRefused_23 ⟨Nat.zero_le _, Nat.zero_le _⟩).run (fun r26 er26 => ?_)
    subst r26
    refine lv_aload_n hx hb dX4_isRefused_26 rfl (lv_at hl 1 rfl) ?_
    obtain ⟨t27, h28, hf⟩ := bd_some hf
    refine vp_callSl (va_runS (As := [.long t24, .ref y1]) (rest := []) F (c_X4_widened l D cy (H := _) hP v_y1 h28) (va_cwS 2 hts gX4_isRefused_X4_widened rfl rfl rfl ⟨ph_X4_widened.1, ph_X4_widened.2, pd_X4_widened⟩ ⟨Nat.le_of_ble_eq_true rfl, Nat.le_of_ble_eq_true rfl⟩) ⟨PcR.bl, PcR.in hK⟩ rfl rfl hl.1 rfl (lv_room (Nat.le_of_ble_eq_true rfl)) dX4_isRefused_27 ⟨Nat.zero_le _, Nat.zero_le _⟩).run (fun r29 er29 => ?_)
    subst r29
    refine lv_ldc2 hx hb hown (hts (.constantLong RX4 109 1000000000000000) (List.mem_of_getElem? (i := 2) rfl)) dX4_isRefused_30 ?_
    refine W.lcmp hx hb dX4_isRefused_33 ?_
    refine lv_if_le (tgt := 41) hx hb dX4_isRefused_34 (by decide) (fun c30 => ?_) (fun c30 => ?_)
    · have hf := it_t ((lq_le _ _).mp c30) hf
      refine lv_iconst (v := 0) hx hb dX4_isRefused_41 (by decide) ?_
      exact hB42 0 _ (lv_sub hl [] rfl)  hf
    · have hf := it_f (fun z => c30 ((lq_le _ _).mpr z)) hf
      exact hB37 _ (lv_sub hl [] rfl)  hf
def f_J9_floorMod_7cf53_B18 (x2 : Int32) : Option Int32 :=
  some x2
def f_J9_floorMod_7cf53 (x0 : Int32) (x1 : Int32) : Option Int32 :=
  ck (decide (¬ x1 = 0)) (
  if 0 ≤ (x0 ^^^ x1) then (f_J9_floorMod_7cf53_B18 (x0 - x0 / x1 * x1)) else
  if (x0 - x0 / x1 * x1) = 0 then (f_J9_floorMod_7cf53_B18 (x0 - x0 / x1 * x1)) else
  some ((x0 - x0 / x1 * x1) + x1))
set_option maxHeartbeats 4000000 in
set_option maxRecDepth 100000 in
theorem c_J9_floorMod_7cf53 (l : Launch) (D : va_G) (cy : cyT) {H : Heap} {y0 : Int32} {y1 : Int32}  {res : Int32} (hf : f_J9_floorMod_7cf53 y0 y1 = some res) : Met l yJ9_floorMod_7cf53 wsJ9_floorMod_7cf53 ({ frames := 0, cells := 0, slots := 0, locals := 0 } : Room) (PcR D cy H [.int y0, .int y1]) (vp_Si (fun r => r = res)) 0 0 (fun _ => False) := by
  refine va_MetF (cc := cJ9_floorMod_7cf53) (maxL := 3) (ret := (some .int)) (by decide +kernel) rfl ?_
  intro p e s m args below meth c s₁ B hml hv
  obtain ⟨hav, hH, hK⟩ := hv
  have hx := B.exec
  have hb := B.bytes
  have hr := B.returns
  have hts := atoms_spec (ws := wsJ9_floorMod_7cf53) B.pre
  have hown : s.vm.findClass RJ9 = some m.cls := findClass_of_methodNamed B.named
  have hlocks := B.notSynchronized
  subst hav
  subst hH
  have F : CallFix p m c cJ9_floorMod_7cf53 3 s _ wsJ9_floorMod_7cf53 RJ9 := ⟨hx, hb, hml, hown, hts⟩
  have hB18 : ∀ (x2 : Int32) (ls : Array Slot), lv_has ls 3 [(2, .int x2)] → f_J9_floorMod_7cf53_B18 x2 = some res → W p l e (headSpec wsJ9_floorMod_7cf53 ({ frames := 0, cells := 0, slots := 0, locals := 0 } : Room)).room s m ([.int y0, .int y1] : List Value).toArray below meth c s.heap [] 0 0 (MQ below (vp_Si (fun r => r = res)) ([.int y0, .int y1] : List Value).toArray s 0 0 (fun _ => False)) (F0 m 18 ls []) := by
    intro x2 ls hl hf
    unfold f_J9_floorMod_7cf53_B18 at hf
    refine lv_iload_n hx hb dJ9_floorMod_7cf53_18 rfl (lv_at hl 0 rfl) ?_
    exact W.iret (v := x2) hx hb hr (fun t ht hW => ⟨_, rfl, Option.some.inj hf, ht⟩) (fun _ h => by cases h) dJ9_floorMod_7cf53_19
  have hl := lv_entry ([.int y0, .int y1]) (n := 3) (Nat.le_of_ble_eq_true rfl)
  rw [lg_entry_eq]
  generalize (lg_sl ([.int y0, .int y1]) ++ List.replicate (3 - (lg_sl ([.int y0, .int y1])).length) Slot.unset).toArray = ls at hl ⊢
  have hl : lv_has ls 3 [(0, .int y0), (1, .int y1)] := hl
  unfold f_J9_floorMod_7cf53 at hf
  refine lv_iload_n hx hb dJ9_floorMod_7cf53_0 rfl (lv_at hl 0 rfl) ?_
  refine lv_iload_n hx hb dJ9_floorMod_7cf53_1 rfl (lv_at hl 1 rfl) ?_
  obtain ⟨c4, hf⟩ := ckd_some hf
  refine lv_irem hx hb dJ9_floorMod_7cf53_2 c4 ?_
  refine lv_istore_n (lv' := [(2, .int (y0 - y0 / y1 * y1)), (0, .int y0), (1, .int y1)]) hx hb dJ9_floorMod_7cf53_3 rfl hl (by decide) rfl (fun ls hl => ?_)
  refine lv_iload_n hx hb dJ9_floorMod_7cf53_4 rfl (lv_at hl 1 rfl) ?_
  refine lv_iload_n hx hb dJ9_floorMod_7cf53_5 rfl (lv_at hl 2 rfl) ?_
  refine lv_ixor hx hb dJ9_floorMod_7cf53_6 ?_
  refine lv_if_ge (tgt := 18) hx hb dJ9_floorMod_7cf53_7 (by decide) (fun c5 => ?_) (fun c5 => ?_)
  · have hf := it_t c5 hf
    exact hB18 (y0 - y0 / y1 * y1) _ (lv_sub hl [0] rfl)  hf
  · have hf := it_f c5 hf
    refine lv_iload_n hx hb dJ9_floorMod_7cf53_10 rfl (lv_at hl 0 rfl) ?_
    refine lv_if_eq (tgt := 18) hx hb dJ9_floorMod_7cf53_11 (by decide) (fun c6 => ?_) (fun c6 => ?_)
    · have hf := it_t c6 hf
      exact hB18 (y0 - y0 / y1 * y1) _ (lv_sub hl [0] rfl)  hf
    · have hf := it_f c6 hf
      refine lv_iload_n hx hb dJ9_floorMod_7cf53_14 rfl (lv_at hl 0 rfl) ?_
      refine lv_iload_n hx hb dJ9_floorMod_7cf53_15 rfl (lv_at hl 2 rfl) ?_
      refine lv_iadd hx hb dJ9_floorMod_7cf53_16 ?_
      exact W.iret (v := ((y0 - y0 / y1 * y1) + y1)) hx hb hr (fun t ht hW => ⟨_, rfl, Option.some.inj hf, ht⟩) (fun _ h => by cases h) dJ9_floorMod_7cf53_17
def f_X4_savedAt_B29 (S : PS) (x0 : Nat) : Option Nat :=
  rq (fR S 64 x0) S 3 fun b1 =>
  some b1
def f_X4_savedAt (S : PS) (x0 : Nat) (x1 : Int32) : Option Nat :=
  bd (f_J9_floorMod_7cf53 x1 6) fun t3 =>
  if t3 < 0 then (f_X4_savedAt_B29 S x0) else
  rq (fR S 65 x0) S 8 fun b7 =>
  if (nI (aN S b7)) ≤ t3 then (f_X4_savedAt_B29 S x0) else
  rq (fR S 65 x0) S 8 fun b10 =>
  ck (decide (¬ (t3 < 0 ∨ aN S b10 ≤ t3.toNatClampNeg))) (
  nl (aR S b10 t3.toNatClampNeg) (f_X4_savedAt_B29 S x0)
  (rq (fR S 65 x0) S 8 fun b14 =>
  ck (decide (¬ (t3 < 0 ∨ aN S b14 ≤ t3.toNatClampNeg))) (
  rq (aR S b14 t3.toNatClampNeg) S 3 fun b17 =>
  some b17)))
set_option maxHeartbeats 4000000 in
set_option maxRecDepth 100000 in
theorem c_X4_savedAt (l : Launch) (D : va_G) (cy : cyT) {H : Heap} {S : PS} (hP : va_P D vwCl (wl cy S) H) {y0 : Nat} {y1 : Int32} (v_y0 : vd S y0 4) {res : Nat} (hf : f_X4_savedAt S y0 y1 = some res) : Met l yX4_savedAt wsX4_savedAt ({ frames := 1, cells := 0, slots := 0, locals := 22 } : Room) (PcR D cy H [.ref y0, .int y1]) (va_Sr (fun k => k = res ∧ vd S k 3) (fun k => .ref k)) 0 0 (fun _ => False) := by
  refine Met.ofW (cc := cX4_savedAt) (maxL := 3) (ret := (some (.object "SharedModuli$State"))) (by decide) rfl ?_
  intro p e s m args below meth c s₁ B hml hv
  obtain ⟨hav, hH, hK⟩ := hv
  have hx := B.exec
  have hb := B.bytes
  have hr := B.returns
  have hts := atoms_spec (ws := wsX4_savedAt) B.pre
  have hown : s.vm.findClass RX4 = some m.cls := findClass_of_methodNamed B.named
  have hlocks := B.notSynchronized
  subst hav
  subst hH
  have F : CallFix p m c cX4_savedAt 3 s _ wsX4_savedAt RX4 := ⟨hx, hb, hml, hown, hts⟩
  have hB29 : ∀ (x0 : Nat) (ls : Array Slot), lv_has ls 3 [(0, .ref x0)] → vd S x0 4 → f_X4_savedAt_B29 S x0 = some res → W p l e (headSpec wsX4_savedAt ({ frames := 1, cells := 0, slots := 0, locals := 22 } : Room)).room s m ([.ref y0, .int y1] : List Value).toArray below meth c s.heap [] 0 0 (MQ below (va_Sr (fun k => k = res ∧ vd S k 3) (fun k => .ref k)) ([.ref y0, .int y1] : List Value).toArray s 0 0 (fun _ => False)) (F0 m 29 ls []) := by
    intro x0 ls hl v_x0 hf
    unfold f_X4_savedAt_B29 at hf
    refine lv_aload_n hx hb dX4_savedAt_29 rfl (lv_at hl 0 rfl) ?_
    obtain ⟨b19, e20, v_b19, hf⟩ := rq_some hf
    refine q_get F hK hP v_x0.1 (pF_4 (S := S) v_x0.2) (fun w h => List.mem_cons_of_mem _ (List.mem_append_right _ h)) rfl 0 (by decide) (hts (.fieldLink RX4 17 "SharedModuli" "now" "LSharedModuli$State;") (List.mem_of_getElem? (i := 2) rfl)) (v := .ref b19) (congrArg (fun z => some (va_rf z)) e20) dX4_savedAt_30 ?_
    exact W.aret (v := .ref b19) hx hb hr (Or.inl ⟨_, rfl⟩) (Or.inr ⟨_, rfl⟩) (fun t ht hW => ⟨_, rfl, ⟨Option.some.inj hf, Option.some.inj hf ▸ v_b19⟩, ht⟩) (fun _ h => by cases h) dX4_savedAt_33
  have hl := lv_entry ([.ref y0, .int y1]) (n := 3) (Nat.le_of_ble_eq_true rfl)
  rw [lg_entry_eq]
  generalize (lg_sl ([.ref y0, .int y1]) ++ List.replicate (3 - (lg_sl ([.ref y0, .int y1])).length) Slot.unset).toArray = ls at hl ⊢
  have hl : lv_has ls 3 [(0, .ref y0), (1, .int y1)] := hl
  unfold f_X4_savedAt at hf
  refine lv_iload_n hx hb dX4_savedAt_0 rfl (lv_at hl 1 rfl) ?_
  refine lv_bipush (v := 6) hx hb dX4_savedAt_1 (by decide) ?_
  obtain ⟨t21, h22, hf⟩ := bd_some hf
  refine vp_callSi (va_runS (As := [.int y1, .int 6]) (rest := []) F (c_J9_floorMod_7cf53 l D cy (H := _)  h22) (va_cwS 2 hts gX4_savedAt_J9_floorMod_7cf53 rfl rfl rfl ⟨ph_J9_floorMod_7cf53.1, ph_J9_floorMod_7cf53.2, pd_J9_floorMod_7cf53⟩ ⟨Nat.le_of_ble_eq_true rfl, Nat.le_of_ble_eq_true rfl⟩) ⟨PcR.bl, PcR.in hK⟩ rfl rfl hl.1 rfl (lv_room (Nat.le_of_ble_eq_true rfl)) dX4_savedAt_3 ⟨Nat.zero_le _, Nat.zero_le _⟩).run (fun r23 er23 => ?_)
  subst r23
  refine lv_istore_n (lv' := [(2, .int t21), (0, .ref y0), (1, .int y1)]) hx hb dX4_savedAt_6 rfl hl (by decide) rfl (fun ls hl => ?_)
  refine lv_iload_n hx hb dX4_savedAt_7 rfl (lv_at hl 0 rfl) ?_
  refine lv_if_lt (tgt := 29) hx hb dX4_savedAt_8 (by decide) (fun c24 => ?_) (fun c24 => ?_)
  · have hf := it_t c24 hf
    exact hB29 y0 _ (lv_sub hl [1] rfl) v_y0 hf
  · have hf := it_f c24 hf
    refine lv_iload_n hx hb dX4_savedAt_11 rfl (lv_at hl 0 rfl) ?_
    refine lv_aload_n hx hb dX4_savedAt_12 rfl (lv_at hl 1 rfl) ?_
    obtain ⟨b25, e26, v_b25, hf⟩ := rq_some hf
    refine q_get F hK hP v_y0.1 (pF_4 (S := S) v_y0.2) (fun w h => List.mem_cons_of_mem _ (List.mem_append_right _ h)) rfl 1 (by decide) (hts (.fieldLink RX4 23 "SharedModuli" "saved" "[LSharedModuli$State;") (List.mem_of_getElem? (i := 1) rfl)) (v := .ref b25) (congrArg (fun z => some (va_rf z)) e26) dX4_savedAt_13 ?_
    refine q_alen8 F hK hP v_b25 dX4_savedAt_16 ?_
    refine lv_icmp_ge (tgt := 29) hx hb dX4_savedAt_17 (by decide) (fun c27 => ?_) (fun c27 => ?_)
    · have hf := it_t c27 hf
      exact hB29 y0 _ (lv_sub hl [1] rfl) v_y0 hf
    · have hf := it_f c27 hf
      refine lv_aload_n hx hb dX4_savedAt_20 rfl (lv_at hl 1 rfl) ?_
      obtain ⟨b28, e29, v_b28, hf⟩ := rq_some hf
      refine q_get F hK hP v_y0.1 (pF_4 (S := S) v_y0.2) (fun w h => List.mem_cons_of_mem _ (List.mem_append_right _ h)) rfl 1 (by decide) (hts (.fieldLink RX4 23 "SharedModuli" "saved" "[LSharedModuli$State;") (List.mem_of_getElem? (i := 1) rfl)) (v := .ref b28) (congrArg (fun z => some (va_rf z)) e29) dX4_savedAt_21 ?_
      refine lv_iload_n hx hb dX4_savedAt_24 rfl (lv_at hl 0 rfl) ?_
      obtain ⟨c30, hf⟩ := ckd_some hf
      refine q_aald8 F hK hP v_b28 c30 dX4_savedAt_25 ?_
      rcases hb31 : aR S b28 t21.toNatClampNeg with _ | b31
      · rw [hb31] at hf
        refine lv_ifnonnullN hx hb dX4_savedAt_26 ?_
        exact hB29 y0 _ (lv_sub hl [1] rfl) v_y0 hf
      · rw [hb31] at hf
        refine lv_ifnonnull (tgt := 34) hx hb dX4_savedAt_26 (by decide) ?_
        refine lv_aload_n hx hb dX4_savedAt_34 rfl (lv_at hl 1 rfl) ?_
        obtain ⟨b32, e33, v_b32, hf⟩ := rq_some hf
        refine q_get F hK hP v_y0.1 (pF_4 (S := S) v_y0.2) (fun w h => List.mem_cons_of_mem _ (List.mem_append_right _ h)) rfl 1 (by decide) (hts (.fieldLink RX4 23 "SharedModuli" "saved" "[LSharedModuli$State;") (List.mem_of_getElem? (i := 1) rfl)) (v := .ref b32) (congrArg (fun z => some (va_rf z)) e33) dX4_savedAt_35 ?_
        refine lv_iload_n hx hb dX4_savedAt_38 rfl (lv_at hl 0 rfl) ?_
        obtain ⟨c34, hf⟩ := ckd_some hf
        refine q_aald8 F hK hP v_b32 c34 dX4_savedAt_39 ?_
        obtain ⟨b35, e36, v_b35, hf⟩ := rq_some hf
        rw [e36]
        refine W.eq (g2 := F0 m 40 ls (.ref b35 :: [])) rfl ?_
        exact W.aret (v := .ref b35) hx hb hr (Or.inl ⟨_, rfl⟩) (Or.inr ⟨_, rfl⟩) (fun t ht hW => ⟨_, rfl, ⟨Option.some.inj hf, Option.some.inj hf ▸ v_b35⟩, ht⟩) (fun _ h => by cases h) dX4_savedAt_40
def f_X4_save_B55 (S : PS) : Option PS :=
  some (S)
def f_X4_save (S : PS) (x0 : Nat) : Option PS :=
  bd (f_X4_savedAt S x0 ((fI S 66 x0) + (fI S 67 x0))) fun t1 =>
  rq (fR S 64 x0) S 3 fun b4 =>
  bd (f_X3_copyFrom S t1 b4) fun t6 =>
  if 6 ≤ (fI t6 67 x0) then (f_X4_save_B55 (sI t6 66 x0 (((fI t6 66 x0) + (1 : Int32)) - ((fI t6 66 x0) + (1 : Int32)) / 6 * 6))) else
  f_X4_save_B55 (sI t6 67 x0 ((fI t6 67 x0) + (1 : Int32)))
set_option maxHeartbeats 4000000 in
set_option maxRecDepth 100000 in
theorem c_X4_save (l : Launch) (D : va_G) (cy : cyT) {S : PS} {n : Nat} {y0 : Nat} (v_y0 : vd S y0 4) {res : PS} (hf : f_X4_save S y0 = some res) : Met l yX4_save wsX4_save ({ frames := 2, cells := 0, slots := 0, locals := 44 } : Room) (PcW False D cy S n [.ref y0]) (va_Qv (fun (u : PS × Nat) => u = (res, n)) (BW D cy S n) (AA cy S n)) 0 0 (AA cy S n) := by
  refine Met.ofW (cc := cX4_save) (maxL := 1) (ret := none) (by decide) rfl ?_
  intro p e s m args below meth c s₁ B hml hv
  obtain ⟨hav, hsz, hP0, hD0, hK, hZ0⟩ := hv
  have hx := B.exec
  have hb := B.bytes
  have hr := B.returns
  have hts := atoms_spec (ws := wsX4_save) B.pre
  have hown : s.vm.findClass RX4 = some m.cls := findClass_of_methodNamed B.named
  have hlocks := B.notSynchronized
  subst hav
  have hw : Hw D cy (AA cy S n) s.heap S n s.heap [] := Hw.start hsz hP0 hD0
  have hA : ∀ q, s.heap.size ≤ q → AA cy S n q := fun q h => Or.inr (hsz ▸ h)
  have hE : EX S S := EX.rf
  have F : CallFix p m c cX4_save 1 s _ wsX4_save RX4 := ⟨hx, hb, hml, hown, hts⟩
  have hB55 : ∀ (Sb : PS) (H1 : Heap) (lo1 : List Loc)  (ls : Array Slot), lv_has ls 1 [] → Hw D cy (AA cy S n) s.heap Sb n H1 lo1 → EX S Sb → f_X4_save_B55 Sb = some res → W p l e (headSpec wsX4_save ({ frames := 2, cells := 0, slots := 0, locals := 44 } : Room)).room s m ([.ref y0] : List Value).toArray below meth c H1 lo1 0 0 (MQ below (va_Qv (fun (u : PS × Nat) => u = (res, n)) (BW D cy S n) (AA cy S n)) ([.ref y0] : List Value).toArray s 0 0 (AA cy S n)) (F0 m 55 ls []) := by
    intro Sb H1 lo1 ls hl hw hE hf
    unfold f_X4_save_B55 at hf
    exact W.vret hx hb hr (fun t ht hW => ⟨⟨(Sb, n), rfl, po1 hf, BW.of hw hE ht⟩, hw.2.2.1.F ht⟩) hw.2.2.1.2.2 dX4_save_55
  have hl := lv_entry ([.ref y0]) (n := 1) (Nat.le_of_ble_eq_true rfl)
  rw [lg_entry_eq]
  generalize (lg_sl ([.ref y0]) ++ List.replicate (1 - (lg_sl ([.ref y0])).length) Slot.unset).toArray = ls at hl ⊢
  have hl : lv_has ls 1 [(0, .ref y0)] := hl
  unfold f_X4_save at hf
  refine lv_aload_n hx hb dX4_save_0 rfl (lv_at hl 0 rfl) ?_
  refine lv_aload_n hx hb dX4_save_1 rfl (lv_at hl 0 rfl) ?_
  refine q_get F hK hw.1 v_y0.1 (pF_4 (S := S) v_y0.2) (fun w h => List.mem_cons_of_mem _ (List.mem_append_left _ (List.mem_append_right _ h))) rfl 2 (by decide) (hts (.fieldLink RX4 27 "SharedModuli" "oldestSaved" "I") (List.mem_of_getElem? (i := 1) rfl)) (v := .int (fI S 66 y0)) rfl dX4_save_2 ?_
  refine lv_aload_n hx hb dX4_save_5 rfl (lv_at hl 0 rfl) ?_
  refine q_get F hK hw.1 v_y0.1 (pF_4 (S := S) v_y0.2) (fun w h => List.mem_cons_of_mem _ (List.mem_append_left _ (List.mem_append_right _ h))) rfl 3 (by decide) (hts (.fieldLink RX4 31 "SharedModuli" "savedStates" "I") (List.mem_of_getElem? (i := 2) rfl)) (v := .int (fI S 67 y0)) rfl dX4_save_6 ?_
  refine lv_iadd hx hb dX4_save_9 ?_
  obtain ⟨t9, h10, hf⟩ := bd_some hf
  refine va_csr (va_runV (As := [.int ((fI S 66 y0) + (fI S 67 y0))]) (rest := []) F (c_X4_savedAt l D cy (H := _) hw.1 v_y0 h10) (cwV 1 hts gX4_save_X4_savedAt rfl rfl rfl ⟨rfl, ph_X4_savedAt.1, ph_X4_savedAt.2, pd_X4_savedAt⟩ ⟨Nat.le_of_ble_eq_true rfl, Nat.le_of_ble_eq_true rfl⟩) ⟨PcR.bl, (q_rcv hK hw.1 v_y0.1 (pF_4 (S := S) v_y0.2) rfl), PcR.in hK⟩ rfl rfl hl.1 rfl (lv_room (Nat.le_of_ble_eq_true rfl)) dX4_save_10 ⟨Nat.zero_le _, Nat.zero_le _⟩).run (fun r11 er11 => ?_)
  obtain ⟨er11, v_t9⟩ := er11
  subst r11
  refine lv_aload_n hx hb dX4_save_13 rfl (lv_at hl 0 rfl) ?_
  obtain ⟨b12, e13, v_b12, hf⟩ := rq_some hf
  refine q_get F hK hw.1 v_y0.1 (pF_4 (S := S) v_y0.2) (fun w h => List.mem_cons_of_mem _ (List.mem_append_left _ (List.mem_append_right _ h))) rfl 0 (by decide) (hts (.fieldLink RX4 17 "SharedModuli" "now" "LSharedModuli$State;") (List.mem_of_getElem? (i := 3) rfl)) (v := .ref b12) (congrArg (fun z => some (va_rf z)) e13) dX4_save_14 ?_
  obtain ⟨t14, h15, hf⟩ := bd_some hf
  refine q_callv (va_runV (As := [.ref b12]) (rest := []) F (c_X3_copyFrom l D cy (S := S) v_t9 v_b12 h15) (cwV 1 hts gX4_save_X3_copyFrom rfl rfl rfl ⟨rfl, ph_X3_copyFrom.1, ph_X3_copyFrom.2, pd_X3_copyFrom⟩ ⟨Nat.le_of_ble_eq_true rfl, Nat.le_of_ble_eq_true rfl⟩) ⟨PcW.bl, (q_rcv hK hw.1 v_t9.1 (pF_3 (S := S) v_t9.2) rfl), PcW.in hK hw hA (fun z => z.elim)⟩ rfl rfl hl.1 rfl (lv_room (Nat.le_of_ble_eq_true rfl)) dX4_save_17 ⟨Nat.zero_le _, Nat.zero_le _⟩) hw hA (fun H locs hw hX => ?_)
  have hE := hE.tr hX
  have v_y0 := hX _ _ v_y0
  have v_t9 := hX _ _ v_t9
  have v_b12 := hX _ _ v_b12
  refine lv_aload_n hx hb dX4_save_20 rfl (lv_at hl 0 rfl) ?_
  refine q_get F hK hw.1 v_y0.1 (pF_4 (S := t14) v_y0.2) (fun w h => List.mem_cons_of_mem _ (List.mem_append_left _ (List.mem_append_right _ h))) rfl 3 (by decide) (hts (.fieldLink RX4 31 "SharedModuli" "savedStates" "I") (List.mem_of_getElem? (i := 2) rfl)) (v := .int (fI t14 67 y0)) rfl dX4_save_21 ?_
  refine lv_bipush (v := 6) hx hb dX4_save_24 (by decide) ?_
  refine lv_icmp_ge (tgt := 42) hx hb dX4_save_26 (by decide) (fun c16 => ?_) (fun c16 => ?_)
  · have hf := it_t c16 hf
    refine lv_aload_n hx hb dX4_save_42 rfl (lv_at hl 0 rfl) ?_
    refine lv_aload_n hx hb dX4_save_43 rfl (lv_at hl 0 rfl) ?_
    refine q_get F hK hw.1 v_y0.1 (pF_4 (S := t14) v_y0.2) (fun w h => List.mem_cons_of_mem _ (List.mem_append_left _ (List.mem_append_right _ h))) rfl 2 (by decide) (hts (.fieldLink RX4 27 "SharedModuli" "oldestSaved" "I") (List.mem_of_getElem? (i := 1) rfl)) (v := .int (fI t14 66 y0)) rfl dX4_save_44 ?_
    refine lv_iconst (v := 1) hx hb dX4_save_47 (by decide) ?_
    refine lv_iadd hx hb dX4_save_48 ?_
    refine lv_bipush (v := 6) hx hb dX4_save_49 (by decide) ?_
    refine lv_irem hx hb dX4_save_51 (by decide) ?_
    refine q_put F hK hw v_y0.1 (pF_4 (S := t14) v_y0.2) (fun w h => List.mem_cons_of_mem _ (List.mem_append_left _ (List.mem_append_right _ h))) tyX4 tyX4_ok nmX4 rfl 2 (by decide) (hts (.fieldLink RX4 27 "SharedModuli" "oldestSaved" "I") (List.mem_of_getElem? (i := 1) rfl)) (Or.inl rfl) (tyX4_ok 2 (by decide)) rfl rfl (Nat.le_of_ble_eq_true rfl) (S1 := sI t14 66 y0 (((fI t14 66 y0) + (1 : Int32)) - ((fI t14 66 y0) + (1 : Int32)) / 6 * 6)) (st_66 (S := t14) v_y0.2 (((fI t14 66 y0) + (1 : Int32)) - ((fI t14 66 y0) + (1 : Int32)) / 6 * 6)) dX4_save_52 (fun H locs hw => ?_)
    exact hB55 (sI t14 66 y0 (((fI t14 66 y0) + (1 : Int32)) - ((fI t14 66 y0) + (1 : Int32)) / 6 * 6)) _ _ _ (lv_sub hl [] rfl) hw hE  hf
  · have hf := it_f c16 hf
    refine lv_aload_n hx hb dX4_save_29 rfl (lv_at hl 0 rfl) ?_
    refine lv_dup hx hb dX4_save_30 rfl ?_
    refine q_get F hK hw.1 v_y0.1 (pF_4 (S := t14) v_y0.2) (fun w h => List.mem_cons_of_mem _ (List.mem_append_left _ (List.mem_append_right _ h))) rfl 3 (by decide) (hts (.fieldLink RX4 31 "SharedModuli" "savedStates" "I") (List.mem_of_getElem? (i := 2) rfl)) (v := .int (fI t14 67 y0)) rfl dX4_save_31 ?_
    refine lv_iconst (v := 1) hx hb dX4_save_34 (by decide) ?_
    refine lv_iadd hx hb dX4_save_35 ?_
    refine q_put F hK hw v_y0.1 (pF_4 (S := t14) v_y0.2) (fun w h => List.mem_cons_of_mem _ (List.mem_append_left _ (List.mem_append_right _ h))) tyX4 tyX4_ok nmX4 rfl 3 (by decide) (hts (.fieldLink RX4 31 "SharedModuli" "savedStates" "I") (List.mem_of_getElem? (i := 2) rfl)) (Or.inl rfl) (tyX4_ok 3 (by decide)) rfl rfl (Nat.le_of_ble_eq_true rfl) (S1 := sI t14 67 y0 ((fI t14 67 y0) + (1 : Int32))) (st_67 (S := t14) v_y0.2 ((fI t14 67 y0) + (1 : Int32))) dX4_save_36 (fun H locs hw => ?_)
    refine lv_goto (tgt := 55) hx hb dX4_save_39 (by decide) ?_
    exact hB55 (sI t14 67 y0 ((fI t14 67 y0) + (1 : Int32))) _ _ _ (lv_sub hl [] rfl) hw hE  hf
def f_X4_add (S : PS) (n : Nat) (x0 : Nat) (x1 : Int32) (x2 : Int32) (x3 : Int32) : Option ((Int32 ⊕ Nat) × PS × Nat) :=
  bd (f_X4_areParts x1 x2 x3) fun t1 =>
  if t1 = 0 then (some (.inr 0, S, n)) else
  bd (f_X0_init (nO S n 0) n x1 x2 x3) fun t6 =>
  bd (f_X4_isRefused t6 x0 n) fun t8 =>
  if t8 = 0 then (bd (f_X4_save t6 x0) fun t12 =>
  rq (fR t12 64 x0) t12 3 fun b14 =>
  bd (f_X3_put t12 b14 n) fun t16 =>
  some (.inl t16.1, t16.2, n + 1)) else
  some (.inr 1, t6, n + 1)
set_option maxHeartbeats 4000000 in
set_option maxRecDepth 100000 in
theorem c_X4_add (l : Launch) (hst : l.stackTraces = false) (D : va_G) (cy : cyT) {S : PS} {n : Nat} {y0 : Nat} {y1 : Int32} {y2 : Int32} {y3 : Int32} (v_y0 : vd S y0 4) {res : (Int32 ⊕ Nat) × PS × Nat} (hf : f_X4_add S n y0 y1 y2 y3 = some res) : vx_Met l yX4_add wsX4_add ({ frames := 6, cells := 2, slots := 11, locals := 119 } : Room) (PcW True D cy S n [.ref y0, .int y1, .int y2, .int y3]) (va_Qi (fun (r : Int32) (u : PS × Nat) => Sum.inl r = res.1 ∧ u = res.2) (BW D cy S n) (AA cy S n)) (vx_X (fun k : Nat => res.1 = .inr k) (fun E k t => XO D cy S n res.2.1 E k t) (AA cy S n)) 2 11 (AA cy S n) := by
  refine vx_ofW (cc := cX4_add) (maxL := 5) (ret := (some .int)) (by decide) rfl ?_
  intro p e s m args below meth c s₁ B hml hex hv
  obtain ⟨hav, hsz, hP0, hD0, hK, hZ0⟩ := hv
  have hx := B.exec
  have hb := B.bytes
  have hr := B.returns
  have hts := atoms_spec (ws := wsX4_add) B.pre
  have hown : s.vm.findClass RX4 = some m.cls := findClass_of_methodNamed B.named
  have hlocks := B.notSynchronized
  subst hav
  have hw : Hw D cy (AA cy S n) s.heap S n s.heap [] := Hw.start hsz hP0 hD0
  have hA : ∀ q, s.heap.size ≤ q → AA cy S n q := fun q h => Or.inr (hsz ▸ h)
  have hE : EX S S := EX.rf
  have hZ := hZ0 trivial
  have F : CallFix p m c cX4_add 5 s _ wsX4_add RX4 := ⟨hx, hb, hml, hown, hts⟩
  have hl := lv_entry ([.ref y0, .int y1, .int y2, .int y3]) (n := 5) (Nat.le_of_ble_eq_true rfl)
  rw [lg_entry_eq]
  generalize (lg_sl ([.ref y0, .int y1, .int y2, .int y3]) ++ List.replicate (5 - (lg_sl ([.ref y0, .int y1, .int y2, .int y3])).length) Slot.unset).toArray = ls at hl ⊢
  have hl : lv_has ls 5 [(0, .ref y0), (1, .int y1), (2, .int y2), (3, .int y3)] := hl
  unfold f_X4_add at hf
  refine lv_iload_n hx hb dX4_add_0 rfl (lv_at hl 1 rfl) ?_
  refine lv_iload_n hx hb dX4_add_1 rfl (lv_at hl 2 rfl) ?_
  refine lv_iload_n hx hb dX4_add_2 rfl (lv_at hl 3 rfl) ?_
  obtain ⟨t18, h19, hf⟩ := bd_some hf
  refine vp_callSi (va_runS (As := [.int y1, .int y2, .int y3]) (rest := []) F (c_X4_areParts l D cy (H := _)  h19) (va_cwS 3 hts gX4_add_X4_areParts rfl rfl rfl ⟨ph_X4_areParts.1, ph_X4_areParts.2, pd_X4_areParts⟩ ⟨Nat.le_of_ble_eq_true rfl, Nat.le_of_ble_eq_true rfl⟩) ⟨PcR.bl, PcR.in hK⟩ rfl rfl hl.1 rfl (lv_room (Nat.le_of_ble_eq_true rfl)) dX4_add_3 ⟨by show _ ≤ 2; omega, by show _ ≤ 11; omega⟩).run (fun r20 er20 => ?_)
  subst r20
  refine lv_if_ne (tgt := 19) hx hb dX4_add_6 (by decide) (fun c21 => ?_) (fun c21 => ?_)
  · have hf := it_f c21 hf
    have hfr := hw.fresh
    refine q_new F hK hw hA (fun w h => List.mem_cons_of_mem _ (List.mem_append_left _ (List.mem_append_left _ (List.mem_append_left _ (List.mem_append_left _ (List.mem_append_right _ h)))))) tyX0 tyX0_ok (hts (.classLink RX4 7 RX0) (List.mem_of_getElem? (i := 5) rfl)) (hts (.instantiable RX0 5) (List.mem_of_getElem? (i := 6) rfl)) (hts (.initialized RX0) (List.mem_of_getElem? (i := 7) rfl)) rfl (fs := [.int 0, .int 0, .int 0, .int 0, .int 0]) (fun j hj => by rcases (show j = 0 ∨ j = 1 ∨ j = 2 ∨ j = 3 ∨ j = 4 by omega) with rfl | rfl | rfl | rfl | rfl <;> rfl) (by show _ ≤ 2; omega) (by show _ ≤ 11; omega) dX4_add_19 (S1 := nO S n 0) (fun hq => nw_0 hq) (fun H hw => ?_)
    have hX := EX.nO (k := 0) hfr
    have hE := hE.tr hX
    have v_y0 := hX _ _ v_y0
    have v_q22 : vd (nO S n 0) (n) 0 := vd_nO
    refine lv_dup hx hb dX4_add_22 rfl ?_
    refine lv_iload_n hx hb dX4_add_23 rfl (lv_at hl 1 rfl) ?_
    refine lv_iload_n hx hb dX4_add_24 rfl (lv_at hl 2 rfl) ?_
    refine lv_iload_n hx hb dX4_add_25 rfl (lv_at hl 3 rfl) ?_
    obtain ⟨t23, h24, hf⟩ := bd_some hf
    refine q_callv (va_runI (As := [.int y1, .int y2, .int y3]) (rest := [.ref n]) F (c_X0_init l D cy (S := nO S n 0) v_q22 h24) (cwI 3 hts gX4_add_X0_init rfl rfl rfl (hts (.initialized RX0) (List.mem_of_getElem? (i := 7) rfl)) (hts (.methodLink RX4 9 yX0_init) (List.mem_of_getElem? (i := 13) rfl)) (hts (.instanceMethod yX0_init) (List.mem_of_getElem? (i := 14) rfl)) rfl ⟨ph_X0_init.1, ph_X0_init.2, pd_X0_init⟩ ⟨Nat.le_of_ble_eq_true rfl, Nat.le_of_ble_eq_true rfl⟩) ⟨PcW.bl, PcW.in hK hw hA (fun z => z.elim)⟩ rfl rfl hl.1 rfl (lv_room (Nat.le_of_ble_eq_true rfl)) dX4_add_26 ⟨by show _ ≤ 2; omega, by show _ ≤ 11; omega⟩) hw hA (fun H locs hw hX => ?_)
    have hE := hE.tr hX
    have v_y0 := hX _ _ v_y0
    have v_q22 := hX _ _ v_q22
    refine lv_astore (lv' := [(4, .ref n), (0, .ref y0), (1, .int y1), (2, .int y2), (3, .int y3)]) hx hb dX4_add_29 hl (by decide) rfl (fun ls hl => ?_)
    refine lv_aload_n hx hb dX4_add_31 rfl (lv_at hl 1 rfl) ?_
    refine lv_aload hx hb dX4_add_32 (lv_at hl 0 rfl) ?_
    obtain ⟨t25, h26, hf⟩ := bd_some hf
    refine vp_callSi (va_runV (As := [.ref n]) (rest := []) F (c_X4_isRefused l D cy (H := _) hw.1 v_y0 v_q22 h26) (cwV 1 hts gX4_add_X4_isRefused rfl rfl rfl ⟨rfl, ph_X4_isRefused.1, ph_X4_isRefused.2, pd_X4_isRefused⟩ ⟨Nat.le_of_ble_eq_true rfl, Nat.le_of_ble_eq_true rfl⟩) ⟨PcR.bl, (q_rcv hK hw.1 v_y0.1 (pF_4 (S := t23) v_y0.2) rfl), PcR.in hK⟩ rfl rfl hl.1 rfl (lv_room (Nat.le_of_ble_eq_true rfl)) dX4_add_34 ⟨by show _ ≤ 2; omega, by show _ ≤ 11; omega⟩).run (fun r27 er27 => ?_)
    subst r27
    refine lv_if_eq (tgt := 50) hx hb dX4_add_37 (by decide) (fun c28 => ?_) (fun c28 => ?_)
    · have hf := it_t c28 hf
      refine lv_aload_n hx hb dX4_add_50 rfl (lv_at hl 1 rfl) ?_
      obtain ⟨t29, h30, hf⟩ := bd_some hf
      refine q_callv (va_runV (As := []) (rest := []) F (c_X4_save l D cy (S := t23) v_y0 h30) (cwV 0 hts gX4_add_X4_save rfl rfl rfl ⟨rfl, ph_X4_save.1, ph_X4_save.2, pd_X4_save⟩ ⟨Nat.le_of_ble_eq_true rfl, Nat.le_of_ble_eq_true rfl⟩) ⟨PcW.bl, (q_rcv hK hw.1 v_y0.1 (pF_4 (S := t23) v_y0.2) rfl), PcW.in hK hw hA (fun z => z.elim)⟩ rfl rfl hl.1 rfl (lv_room (Nat.le_of_ble_eq_true rfl)) dX4_add_51 ⟨by show _ ≤ 2; omega, by show _ ≤ 11; omega⟩) hw hA (fun H locs hw hX => ?_)
      have hE := hE.tr hX
      have v_y0 := hX _ _ v_y0
      have v_q22 := hX _ _ v_q22
      refine lv_aload_n hx hb dX4_add_54 rfl (lv_at hl 1 rfl) ?_
      obtain ⟨b31, e32, v_b31, hf⟩ := rq_some hf
      refine q_get F hK hw.1 v_y0.1 (pF_4 (S := t29) v_y0.2) (fun w h => List.mem_cons_of_mem _ (List.mem_append_left _ (List.mem_append_left _ (List.mem_append_left _ (List.mem_append_right _ h))))) rfl 0 (by decide) (hts (.fieldLink RX4 17 "SharedModuli" "now" "LSharedModuli$State;") (List.mem_of_getElem? (i := 8) rfl)) (v := .ref b31) (congrArg (fun z => some (va_rf z)) e32) dX4_add_55 ?_
      refine lv_aload hx hb dX4_add_58 (lv_at hl 0 rfl) ?_
      obtain ⟨t33, h34, hf⟩ := bd_some hf
      refine q_calli (va_runV (As := [.ref n]) (rest := []) F (c_X3_put l D cy (S := t29) v_b31 v_q22 h34) (cwV 1 hts gX4_add_X3_put rfl rfl rfl ⟨rfl, ph_X3_put.1, ph_X3_put.2, pd_X3_put⟩ ⟨Nat.le_of_ble_eq_true rfl, Nat.le_of_ble_eq_true rfl⟩) ⟨PcW.bl, (q_rcv hK hw.1 v_b31.1 (pF_3 (S := t29) v_b31.2) rfl), PcW.in hK hw hA (fun z => z.elim)⟩ rfl rfl hl.1 rfl (lv_room (Nat.le_of_ble_eq_true rfl)) dX4_add_60 ⟨by show _ ≤ 2; omega, by show _ ≤ 11; omega⟩) hw hA (fun H locs hw hX => ?_)
      have hE := hE.tr hX
      have v_y0 := hX _ _ v_y0
      have v_q22 := hX _ _ v_q22
      have v_b31 := hX _ _ v_b31
      refine vx_ret ?_
      refine W.widen (k := 2) (n := 11) (by omega) (by omega) ?_
      exact W.iret (v := t33.1) hx hb hr (fun t ht hW => ⟨⟨_, (t33.2, n + 1), rfl, po3t hf, BW.of hw hE ht⟩, hw.2.2.1.F ht⟩) hw.2.2.1.2.2 dX4_add_63
    · have hf := it_f c28 hf
      obtain ⟨sa, hsa⟩ := sk_72 hK.2.2.1
      refine vx_throwS hx hb hst (names := ["java/lang/RuntimeException", "java/lang/Exception"]) hown (by decide +kernel) (by decide +kernel) (hts (.classLink RX4 70 "java/lang/IllegalStateException") (List.mem_of_getElem? (i := 3) rfl)) (hts (.initialized "java/lang/IllegalStateException") (List.mem_of_getElem? (i := 4) rfl)) hsa (vx_hat (B := xb_74) (fun w h => hts w (List.mem_cons_of_mem _ (List.mem_append_right _ h))) xn_74 (xk_74 hK.2.2.2.2.2)) xg_74 hZ.1 hZ.2.1 hw.2.2.1 (hl.1.trans hml.symm) dX4_add_40 dX4_add_43 dX4_add_44 dX4_add_46 dX4_add_49 (fun x h => (hex x h).elim) (Nat.le_of_ble_eq_true rfl) (Nat.le_of_ble_eq_true rfl) (by show _ ≤ 2; omega) (by show _ ≤ 11; omega) hlocks (fun t hvm hz hk => ?_) hw.2.2.1.2.2 (by omega) (by omega)
      exact xo_of hw hE hz hk (by show (_ : String) = _; rfl) (po3x hf).1 (po3x hf).2
  · have hf := it_t c21 hf
    obtain ⟨sa, hsa⟩ := sk_61 hK.2.2.1
    refine vx_throwS hx hb hst (names := ["java/lang/RuntimeException", "java/lang/Exception"]) hown (by decide +kernel) (by decide +kernel) (hts (.classLink RX4 59 "java/lang/IllegalArgumentException") (List.mem_of_getElem? (i := 1) rfl)) (hts (.initialized "java/lang/IllegalArgumentException") (List.mem_of_getElem? (i := 2) rfl)) hsa (vx_hat (B := xb_63) (fun w h => hts w (List.mem_cons_of_mem _ (List.mem_append_left _ (List.mem_append_right _ h)))) xn_63 (xk_63 hK.2.2.2.2.2)) xg_63 hZ.1 hZ.2.1 hw.2.2.1 (hl.1.trans hml.symm) dX4_add_9 dX4_add_12 dX4_add_13 dX4_add_15 dX4_add_18 (fun x h => (hex x h).elim) (Nat.le_of_ble_eq_true rfl) (Nat.le_of_ble_eq_true rfl) (by show _ ≤ 2; omega) (by show _ ≤ 11; omega) hlocks (fun t hvm hz hk => ?_) hw.2.2.1.2.2 (by omega) (by omega)
    exact xo_of hw hE hz hk (by show (_ : String) = _; rfl) (po3x hf).1 (po3x hf).2
def f_X4_remove (S : PS) (x0 : Nat) (x1 : Int32) : Option ((Int32 ⊕ Nat) × PS) :=
  rq (fR S 64 x0) S 3 fun b1 =>
  bd (f_X3_has S b1 x1) fun t3 =>
  if t3 = 0 then (some (.inr 2, S)) else
  bd (f_X4_save S x0) fun t7 =>
  rq (fR t7 64 x0) t7 3 fun b9 =>
  bd (f_X3_drop t7 b9 x1) fun t11 =>
  rq (fR t11 64 x0) t11 3 fun b13 =>
  some (.inl (fI t11 51 b13), t11)
set_option maxHeartbeats 4000000 in
set_option maxRecDepth 100000 in
theorem c_X4_remove (l : Launch) (hst : l.stackTraces = false) (D : va_G) (cy : cyT) {S : PS} {n : Nat} {y0 : Nat} {y1 : Int32} (v_y0 : vd S y0 4) {res : (Int32 ⊕ Nat) × PS} (hf : f_X4_remove S y0 y1 = some res) : vx_Met l yX4_remove wsX4_remove ({ frames := 6, cells := 1, slots := 6, locals := 119 } : Room) (PcW True D cy S n [.ref y0, .int y1]) (va_Qi (fun (r : Int32) (u : PS × Nat) => Sum.inl r = res.1 ∧ u = (res.2, n)) (BW D cy S n) (AA cy S n)) (vx_X (fun k : Nat => res.1 = .inr k) (fun E k t => XO D cy S n res.2 E k t) (AA cy S n)) 1 6 (AA cy S n) := by
  refine vx_ofW (cc := cX4_remove) (maxL := 2) (ret := (some .int)) (by decide) rfl ?_
  intro p e s m args below meth c s₁ B hml hex hv
  obtain ⟨hav, hsz, hP0, hD0, hK, hZ0⟩ := hv
  have hx := B.exec
  have hb := B.bytes
  have hr := B.returns
  have hts := atoms_spec (ws := wsX4_remove) B.pre
  have hown : s.vm.findClass RX4 = some m.cls := findClass_of_methodNamed B.named
  have hlocks := B.notSynchronized
  subst hav
  have hw : Hw D cy (AA cy S n) s.heap S n s.heap [] := Hw.start hsz hP0 hD0
  have hA : ∀ q, s.heap.size ≤ q → AA cy S n q := fun q h => Or.inr (hsz ▸ h)
  have hE : EX S S := EX.rf
  have hZ := hZ0 trivial
  have F : CallFix p m c cX4_remove 2 s _ wsX4_remove RX4 := ⟨hx, hb, hml, hown, hts⟩
  have hl := lv_entry ([.ref y0, .int y1]) (n := 2) (Nat.le_of_ble_eq_true rfl)
  rw [lg_entry_eq]
  generalize (lg_sl ([.ref y0, .int y1]) ++ List.replicate (2 - (lg_sl ([.ref y0, .int y1])).length) Slot.unset).toArray = ls at hl ⊢
  have hl : lv_has ls 2 [(0, .ref y0), (1, .int y1)] := hl
  unfold f_X4_remove at hf
  refine lv_aload_n hx hb dX4_remove_0 rfl (lv_at hl 0 rfl) ?_
  obtain ⟨b15, e16, v_b15, hf⟩ := rq_some hf
  refine q_get F hK hw.1 v_y0.1 (pF_4 (S := S) v_y0.2) (fun w h => List.mem_cons_of_mem _ (List.mem_append_left _ (List.mem_append_left _ (List.mem_append_left _ (List.mem_append_right _ h))))) rfl 0 (by decide) (hts (.fieldLink RX4 17 "SharedModuli" "now" "LSharedModuli$State;") (List.mem_of_getElem? (i := 3) rfl)) (v := .ref b15) (congrArg (fun z => some (va_rf z)) e16) dX4_remove_1 ?_
  refine lv_iload_n hx hb dX4_remove_4 rfl (lv_at hl 1 rfl) ?_
  obtain ⟨t17, h18, hf⟩ := bd_some hf
  refine vp_callSi (va_runV (As := [.int y1]) (rest := []) F (c_X3_has l D cy (H := _) hw.1 v_b15 h18) (cwV 1 hts gX4_remove_X3_has rfl rfl rfl ⟨rfl, ph_X3_has.1, ph_X3_has.2, pd_X3_has⟩ ⟨Nat.le_of_ble_eq_true rfl, Nat.le_of_ble_eq_true rfl⟩) ⟨PcR.bl, (q_rcv hK hw.1 v_b15.1 (pF_3 (S := S) v_b15.2) rfl), PcR.in hK⟩ rfl rfl hl.1 rfl (lv_room (Nat.le_of_ble_eq_true rfl)) dX4_remove_5 ⟨by show _ ≤ 1; omega, by show _ ≤ 6; omega⟩).run (fun r19 er19 => ?_)
  subst r19
  refine lv_if_ne (tgt := 21) hx hb dX4_remove_8 (by decide) (fun c20 => ?_) (fun c20 => ?_)
  · have hf := it_f c20 hf
    refine lv_aload_n hx hb dX4_remove_21 rfl (lv_at hl 0 rfl) ?_
    obtain ⟨t21, h22, hf⟩ := bd_some hf
    refine q_callv (va_runV (As := []) (rest := []) F (c_X4_save l D cy (S := S) v_y0 h22) (cwV 0 hts gX4_remove_X4_save rfl rfl rfl ⟨rfl, ph_X4_save.1, ph_X4_save.2, pd_X4_save⟩ ⟨Nat.le_of_ble_eq_true rfl, Nat.le_of_ble_eq_true rfl⟩) ⟨PcW.bl, (q_rcv hK hw.1 v_y0.1 (pF_4 (S := S) v_y0.2) rfl), PcW.in hK hw hA (fun z => z.elim)⟩ rfl rfl hl.1 rfl (lv_room (Nat.le_of_ble_eq_true rfl)) dX4_remove_22 ⟨by show _ ≤ 1; omega, by show _ ≤ 6; omega⟩) hw hA (fun H locs hw hX => ?_)
    have hE := hE.tr hX
    have v_y0 := hX _ _ v_y0
    have v_b15 := hX _ _ v_b15
    refine lv_aload_n hx hb dX4_remove_25 rfl (lv_at hl 0 rfl) ?_
    obtain ⟨b23, e24, v_b23, hf⟩ := rq_some hf
    refine q_get F hK hw.1 v_y0.1 (pF_4 (S := t21) v_y0.2) (fun w h => List.mem_cons_of_mem _ (List.mem_append_left _ (List.mem_append_left _ (List.mem_append_left _ (List.mem_append_right _ h))))) rfl 0 (by decide) (hts (.fieldLink RX4 17 "SharedModuli" "now" "LSharedModuli$State;") (List.mem_of_getElem? (i := 3) rfl)) (v := .ref b23) (congrArg (fun z => some (va_rf z)) e24) dX4_remove_26 ?_
    refine lv_iload_n hx hb dX4_remove_29 rfl (lv_at hl 1 rfl) ?_
    obtain ⟨t25, h26, hf⟩ := bd_some hf
    refine q_callv (va_runV (As := [.int y1]) (rest := []) F (c_X3_drop l D cy (S := t21) v_b23 h26) (cwV 1 hts gX4_remove_X3_drop rfl rfl rfl ⟨rfl, ph_X3_drop.1, ph_X3_drop.2, pd_X3_drop⟩ ⟨Nat.le_of_ble_eq_true rfl, Nat.le_of_ble_eq_true rfl⟩) ⟨PcW.bl, (q_rcv hK hw.1 v_b23.1 (pF_3 (S := t21) v_b23.2) rfl), PcW.in hK hw hA (fun z => z.elim)⟩ rfl rfl hl.1 rfl (lv_room (Nat.le_of_ble_eq_true rfl)) dX4_remove_30 ⟨by show _ ≤ 1; omega, by show _ ≤ 6; omega⟩) hw hA (fun H locs hw hX => ?_)
    have hE := hE.tr hX
    have v_y0 := hX _ _ v_y0
    have v_b15 := hX _ _ v_b15
    have v_b23 := hX _ _ v_b23
    refine lv_aload_n hx hb dX4_remove_33 rfl (lv_at hl 0 rfl) ?_
    obtain ⟨b27, e28, v_b27, hf⟩ := rq_some hf
    refine q_get F hK hw.1 v_y0.1 (pF_4 (S := t25) v_y0.2) (fun w h => List.mem_cons_of_mem _ (List.mem_append_left _ (List.mem_append_left _ (List.mem_append_left _ (List.mem_append_right _ h))))) rfl 0 (by decide) (hts (.fieldLink RX4 17 "SharedModuli" "now" "LSharedModuli$State;") (List.mem_of_getElem? (i := 3) rfl)) (v := .ref b27) (congrArg (fun z => some (va_rf z)) e28) dX4_remove_34 ?_
    refine q_getN F hK hw.1 v_b27.1 (pF_3 (S := t25) v_b27.2) (fun w h => List.mem_cons_of_mem _ (List.mem_append_left _ (List.mem_append_left _ (List.mem_append_right _ h)))) rfl 3 (by decide) (nk_f_RX4_95 hK.2.1) (v := .int (fI t25 51 b27)) rfl dX4_remove_37 ?_
    refine vx_ret ?_
    refine W.widen (k := 1) (n := 6) (by omega) (by omega) ?_
    exact W.iret (v := (fI t25 51 b27)) hx hb hr (fun t ht hW => ⟨⟨_, (t25, n), rfl, po2t hf, BW.of hw hE ht⟩, hw.2.2.1.F ht⟩) hw.2.2.1.2.2 dX4_remove_40
  · have hf := it_t c20 hf
    obtain ⟨sa, hsa⟩ := sk_88 hK.2.2.1
    refine vx_throwS hx hb hst (names := ["java/lang/RuntimeException", "java/lang/Exception"]) hown (by decide +kernel) (by decide +kernel) (hts (.classLink RX4 86 "java/lang/IndexOutOfBoundsException") (List.mem_of_getElem? (i := 1) rfl)) (hts (.initialized "java/lang/IndexOutOfBoundsException") (List.mem_of_getElem? (i := 2) rfl)) hsa (vx_hat (B := xb_90) (fun w h => hts w (List.mem_cons_of_mem _ (List.mem_append_right _ h))) xn_90 (xk_90 hK.2.2.2.2.2)) xg_90 hZ.1 hZ.2.1 hw.2.2.1 (hl.1.trans hml.symm) dX4_remove_11 dX4_remove_14 dX4_remove_15 dX4_remove_17 dX4_remove_20 (fun x h => (hex x h).elim) (Nat.le_of_ble_eq_true rfl) (Nat.le_of_ble_eq_true rfl) (by show _ ≤ 1; omega) (by show _ ≤ 6; omega) hlocks (fun t hvm hz hk => ?_) hw.2.2.1.2.2 (by omega) (by omega)
    exact xo_of hw hE hz hk (by show (_ : String) = _; rfl) (po2x hf).1 (po2x hf).2
def f_X4_toggle_B87 (S : PS) (s0 : Int32) : Option ((Int32 ⊕ Nat) × PS) :=
  some (.inl s0, S)
def f_X4_toggle (S : PS) (x0 : Nat) (x1 : Int32) : Option ((Int32 ⊕ Nat) × PS) :=
  rq (fR S 64 x0) S 3 fun b1 =>
  bd (f_X3_has S b1 x1) fun t3 =>
  if t3 = 0 then (some (.inr 2, S)) else
  rq (fR S 64 x0) S 3 fun b7 =>
  bd (f_X4_bit x1) fun t9 =>
  rq (fR S 64 x0) S 3 fun b12 =>
  bd (f_X3_span S b12 ((fI S 52 b7) ^^^ t9)) fun t14 =>
  if t14 ≤ 1000000000000000 then (bd (f_X4_save S x0) fun t18 =>
  rq (fR t18 64 x0) t18 3 fun b20 =>
  rq (fR (sI t18 52 b20 ((fI S 52 b7) ^^^ t9)) 64 x0) (sI t18 52 b20 ((fI S 52 b7) ^^^ t9)) 3 fun b22 =>
  bd (f_X3_isOn (sI t18 52 b20 ((fI S 52 b7) ^^^ t9)) b22 x1) fun t24 =>
  if t24 = 0 then (f_X4_toggle_B87 (sI t18 52 b20 ((fI S 52 b7) ^^^ t9)) 0) else
  f_X4_toggle_B87 (sI t18 52 b20 ((fI S 52 b7) ^^^ t9)) 1) else
  some (.inr 1, S)
set_option maxHeartbeats 4000000 in
set_option maxRecDepth 100000 in
theorem c_X4_toggle (l : Launch) (hst : l.stackTraces = false) (D : va_G) (cy : cyT) {S : PS} {n : Nat} {y0 : Nat} {y1 : Int32} (v_y0 : vd S y0 4) {res : (Int32 ⊕ Nat) × PS} (hf : f_X4_toggle S y0 y1 = some res) : vx_Met l yX4_toggle wsX4_toggle ({ frames := 6, cells := 1, slots := 6, locals := 90 } : Room) (PcW True D cy S n [.ref y0, .int y1]) (va_Qi (fun (r : Int32) (u : PS × Nat) => Sum.inl r = res.1 ∧ u = (res.2, n)) (BW D cy S n) (AA cy S n)) (vx_X (fun k : Nat => res.1 = .inr k) (fun E k t => XO D cy S n res.2 E k t) (AA cy S n)) 1 6 (AA cy S n) := by
  refine vx_ofW (cc := cX4_toggle) (maxL := 3) (ret := (some .int)) (by decide) rfl ?_
  intro p e s m args below meth c s₁ B hml hex hv
  obtain ⟨hav, hsz, hP0, hD0, hK, hZ0⟩ := hv
  have hx := B.exec
  have hb := B.bytes
  have hr := B.returns
  have hts := atoms_spec (ws := wsX4_toggle) B.pre
  have hown : s.vm.findClass RX4 = some m.cls := findClass_of_methodNamed B.named
  have hlocks := B.notSynchronized
  subst hav
  have hw : Hw D cy (AA cy S n) s.heap S n s.heap [] := Hw.start hsz hP0 hD0
  have hA : ∀ q, s.heap.size ≤ q → AA cy S n q := fun q h => Or.inr (hsz ▸ h)
  have hE : EX S S := EX.rf
  have hZ := hZ0 trivial
  have F : CallFix p m c cX4_toggle 3 s _ wsX4_toggle RX4 := ⟨hx, hb, hml, hown, hts⟩
  have hB87 : ∀ (Sb : PS) (H1 : Heap) (lo1 : List Loc) (kc ks : Nat) (_ : kc + 0 ≤ 1) (_ : ks + 0 ≤ 6) (s0 : Int32) (ls : Array Slot), lv_has ls 3 [] → Hw D cy (AA cy S n) s.heap Sb n H1 lo1 → EX S Sb → f_X4_toggle_B87 Sb s0 = some res → W p l e (headSpec wsX4_toggle ({ frames := 6, cells := 1, slots := 6, locals := 90 } : Room)).room s m ([.ref y0, .int y1] : List Value).toArray below meth c H1 lo1 kc ks (vx_MQ below (va_Qi (fun (r : Int32) (u : PS × Nat) => Sum.inl r = res.1 ∧ u = (res.2, n)) (BW D cy S n) (AA cy S n)) (vx_X (fun k : Nat => res.1 = .inr k) (fun E k t => XO D cy S n res.2 E k t) (AA cy S n)) ([.ref y0, .int y1] : List Value).toArray s 1 6 (AA cy S n)) (F0 m 87 ls [.int s0]) := by
    intro Sb H1 lo1 kc ks hkc hks s0 ls hl hw hE hf
    unfold f_X4_toggle_B87 at hf
    refine vx_ret ?_
    refine W.widen (k := 1) (n := 6) (by omega) (by omega) ?_
    exact W.iret (v := s0) hx hb hr (fun t ht hW => ⟨⟨_, (Sb, n), rfl, po2t hf, BW.of hw hE ht⟩, hw.2.2.1.F ht⟩) hw.2.2.1.2.2 dX4_toggle_87
  have hl := lv_entry ([.ref y0, .int y1]) (n := 3) (Nat.le_of_ble_eq_true rfl)
  rw [lg_entry_eq]
  generalize (lg_sl ([.ref y0, .int y1]) ++ List.replicate (3 - (lg_sl ([.ref y0, .int y1])).length) Slot.unset).toArray = ls at hl ⊢
  have hl : lv_has ls 3 [(0, .ref y0), (1, .int y1)] := hl
  unfold f_X4_toggle at hf
  refine lv_aload_n hx hb dX4_toggle_0 rfl (lv_at hl 0 rfl) ?_
  obtain ⟨b28, e29, v_b28, hf⟩ := rq_some hf
  refine q_get F hK hw.1 v_y0.1 (pF_4 (S := S) v_y0.2) (fun w h => List.mem_cons_of_mem _ (List.mem_append_left _ (List.mem_append_left _ (List.mem_append_left _ (List.mem_append_left _ (List.mem_append_right _ h)))))) rfl 0 (by decide) (hts (.fieldLink RX4 17 "SharedModuli" "now" "LSharedModuli$State;") (List.mem_of_getElem? (i := 5) rfl)) (v := .ref b28) (congrArg (fun z => some (va_rf z)) e29) dX4_toggle_1 ?_
  refine lv_iload_n hx hb dX4_toggle_4 rfl (lv_at hl 1 rfl) ?_
  obtain ⟨t30, h31, hf⟩ := bd_some hf
  refine vp_callSi (va_runV (As := [.int y1]) (rest := []) F (c_X3_has l D cy (H := _) hw.1 v_b28 h31) (cwV 1 hts gX4_toggle_X3_has rfl rfl rfl ⟨rfl, ph_X3_has.1, ph_X3_has.2, pd_X3_has⟩ ⟨Nat.le_of_ble_eq_true rfl, Nat.le_of_ble_eq_true rfl⟩) ⟨PcR.bl, (q_rcv hK hw.1 v_b28.1 (pF_3 (S := S) v_b28.2) rfl), PcR.in hK⟩ rfl rfl hl.1 rfl (lv_room (Nat.le_of_ble_eq_true rfl)) dX4_toggle_5 ⟨by show _ ≤ 1; omega, by show _ ≤ 6; omega⟩).run (fun r32 er32 => ?_)
  subst r32
  refine lv_if_ne (tgt := 21) hx hb dX4_toggle_8 (by decide) (fun c33 => ?_) (fun c33 => ?_)
  · have hf := it_f c33 hf
    refine lv_aload_n hx hb dX4_toggle_21 rfl (lv_at hl 0 rfl) ?_
    obtain ⟨b34, e35, v_b34, hf⟩ := rq_some hf
    refine q_get F hK hw.1 v_y0.1 (pF_4 (S := S) v_y0.2) (fun w h => List.mem_cons_of_mem _ (List.mem_append_left _ (List.mem_append_left _ (List.mem_append_left _ (List.mem_append_left _ (List.mem_append_right _ h)))))) rfl 0 (by decide) (hts (.fieldLink RX4 17 "SharedModuli" "now" "LSharedModuli$State;") (List.mem_of_getElem? (i := 5) rfl)) (v := .ref b34) (congrArg (fun z => some (va_rf z)) e35) dX4_toggle_22 ?_
    refine q_getN F hK hw.1 v_b34.1 (pF_3 (S := S) v_b34.2) (fun w h => List.mem_cons_of_mem _ (List.mem_append_left _ (List.mem_append_left _ (List.mem_append_left _ (List.mem_append_right _ h))))) rfl 4 (by decide) (nk_f_RX4_98 hK.2.1) (v := .int (fI S 52 b34)) rfl dX4_toggle_25 ?_
    refine lv_iload_n hx hb dX4_toggle_28 rfl (lv_at hl 1 rfl) ?_
    obtain ⟨t36, h37, hf⟩ := bd_some hf
    refine vp_callSi (va_runS (As := [.int y1]) (rest := [.int (fI S 52 b34)]) F (c_X4_bit l D cy (H := _)  h37) (va_cwS 1 hts gX4_toggle_X4_bit rfl rfl rfl ⟨ph_X4_bit.1, ph_X4_bit.2, pd_X4_bit⟩ ⟨Nat.le_of_ble_eq_true rfl, Nat.le_of_ble_eq_true rfl⟩) ⟨PcR.bl, PcR.in hK⟩ rfl rfl hl.1 rfl (lv_room (Nat.le_of_ble_eq_true rfl)) dX4_toggle_29 ⟨by show _ ≤ 1; omega, by show _ ≤ 6; omega⟩).run (fun r38 er38 => ?_)
    subst r38
    refine lv_ixor hx hb dX4_toggle_32 ?_
    refine lv_istore_n (lv' := [(2, .int ((fI S 52 b34) ^^^ t36)), (0, .ref y0), (1, .int y1)]) hx hb dX4_toggle_33 rfl hl (by decide) rfl (fun ls hl => ?_)
    refine lv_aload_n hx hb dX4_toggle_34 rfl (lv_at hl 1 rfl) ?_
    obtain ⟨b39, e40, v_b39, hf⟩ := rq_some hf
    refine q_get F hK hw.1 v_y0.1 (pF_4 (S := S) v_y0.2) (fun w h => List.mem_cons_of_mem _ (List.mem_append_left _ (List.mem_append_left _ (List.mem_append_left _ (List.mem_append_left _ (List.mem_append_right _ h)))))) rfl 0 (by decide) (hts (.fieldLink RX4 17 "SharedModuli" "now" "LSharedModuli$State;") (List.mem_of_getElem? (i := 5) rfl)) (v := .ref b39) (congrArg (fun z => some (va_rf z)) e40) dX4_toggle_35 ?_
    refine lv_iload_n hx hb dX4_toggle_38 rfl (lv_at hl 0 rfl) ?_
    obtain ⟨t41, h42, hf⟩ := bd_some hf
    refine vp_callSl (va_runV (As := [.int ((fI S 52 b34) ^^^ t36)]) (rest := []) F (c_X3_span l D cy (H := _) hw.1 v_b39 h42) (cwV 1 hts gX4_toggle_X3_span rfl rfl rfl ⟨rfl, ph_X3_span.1, ph_X3_span.2, pd_X3_span⟩ ⟨Nat.le_of_ble_eq_true rfl, Nat.le_of_ble_eq_true rfl⟩) ⟨PcR.bl, (q_rcv hK hw.1 v_b39.1 (pF_3 (S := S) v_b39.2) rfl), PcR.in hK⟩ rfl rfl hl.1 rfl (lv_room (Nat.le_of_ble_eq_true rfl)) dX4_toggle_39 ⟨by show _ ≤ 1; omega, by show _ ≤ 6; omega⟩).run (fun r43 er43 => ?_)
    subst r43
    refine lv_ldc2 hx hb hown (hts (.constantLong RX4 109 1000000000000000) (List.mem_of_getElem? (i := 6) rfl)) dX4_toggle_42 ?_
    refine W.lcmp hx hb dX4_toggle_45 ?_
    refine lv_if_le (tgt := 59) hx hb dX4_toggle_46 (by decide) (fun c44 => ?_) (fun c44 => ?_)
    · have hf := it_t ((lq_le _ _).mp c44) hf
      refine lv_aload_n hx hb dX4_toggle_59 rfl (lv_at hl 1 rfl) ?_
      obtain ⟨t45, h46, hf⟩ := bd_some hf
      refine q_callv (va_runV (As := []) (rest := []) F (c_X4_save l D cy (S := S) v_y0 h46) (cwV 0 hts gX4_toggle_X4_save rfl rfl rfl ⟨rfl, ph_X4_save.1, ph_X4_save.2, pd_X4_save⟩ ⟨Nat.le_of_ble_eq_true rfl, Nat.le_of_ble_eq_true rfl⟩) ⟨PcW.bl, (q_rcv hK hw.1 v_y0.1 (pF_4 (S := S) v_y0.2) rfl), PcW.in hK hw hA (fun z => z.elim)⟩ rfl rfl hl.1 rfl (lv_room (Nat.le_of_ble_eq_true rfl)) dX4_toggle_60 ⟨by show _ ≤ 1; omega, by show _ ≤ 6; omega⟩) hw hA (fun H locs hw hX => ?_)
      have hE := hE.tr hX
      have v_y0 := hX _ _ v_y0
      have v_b28 := hX _ _ v_b28
      have v_b34 := hX _ _ v_b34
      have v_b39 := hX _ _ v_b39
      refine lv_aload_n hx hb dX4_toggle_63 rfl (lv_at hl 1 rfl) ?_
      obtain ⟨b47, e48, v_b47, hf⟩ := rq_some hf
      refine q_get F hK hw.1 v_y0.1 (pF_4 (S := t45) v_y0.2) (fun w h => List.mem_cons_of_mem _ (List.mem_append_left _ (List.mem_append_left _ (List.mem_append_left _ (List.mem_append_left _ (List.mem_append_right _ h)))))) rfl 0 (by decide) (hts (.fieldLink RX4 17 "SharedModuli" "now" "LSharedModuli$State;") (List.mem_of_getElem? (i := 5) rfl)) (v := .ref b47) (congrArg (fun z => some (va_rf z)) e48) dX4_toggle_64 ?_
      refine lv_iload_n hx hb dX4_toggle_67 rfl (lv_at hl 0 rfl) ?_
      refine q_putN F hK hw v_b47.1 (pF_3 (S := t45) v_b47.2) (fun w h => List.mem_cons_of_mem _ (List.mem_append_left _ (List.mem_append_left _ (List.mem_append_left _ (List.mem_append_right _ h))))) tyX3 tyX3_ok nmX3 rfl 4 (by decide) (nk_f_RX4_98 hK.2.1) rfl (tyX3_ok 4 (by decide)) rfl rfl (Nat.le_of_ble_eq_true rfl) (S1 := sI t45 52 b47 ((fI S 52 b34) ^^^ t36)) (st_52 (S := t45) v_b47.2 ((fI S 52 b34) ^^^ t36)) dX4_toggle_68 (fun H locs hw => ?_)
      refine lv_aload_n hx hb dX4_toggle_71 rfl (lv_at hl 1 rfl) ?_
      obtain ⟨b49, e50, v_b49, hf⟩ := rq_some hf
      refine q_get F hK hw.1 v_y0.1 (pF_4 (S := sI t45 52 b47 ((fI S 52 b34) ^^^ t36)) v_y0.2) (fun w h => List.mem_cons_of_mem _ (List.mem_append_left _ (List.mem_append_left _ (List.mem_append_left _ (List.mem_append_left _ (List.mem_append_right _ h)))))) rfl 0 (by decide) (hts (.fieldLink RX4 17 "SharedModuli" "now" "LSharedModuli$State;") (List.mem_of_getElem? (i := 5) rfl)) (v := .ref b49) (congrArg (fun z => some (va_rf z)) e50) dX4_toggle_72 ?_
      refine lv_iload_n hx hb dX4_toggle_75 rfl (lv_at hl 2 rfl) ?_
      obtain ⟨t51, h52, hf⟩ := bd_some hf
      refine vp_callSi (va_runV (As := [.int y1]) (rest := []) F (c_X3_isOn l D cy (H := _) hw.1 v_b49 h52) (cwV 1 hts gX4_toggle_X3_isOn rfl rfl rfl ⟨rfl, ph_X3_isOn.1, ph_X3_isOn.2, pd_X3_isOn⟩ ⟨Nat.le_of_ble_eq_true rfl, Nat.le_of_ble_eq_true rfl⟩) ⟨PcR.bl, (q_rcv hK hw.1 v_b49.1 (pF_3 (S := sI t45 52 b47 ((fI S 52 b34) ^^^ t36)) v_b49.2) rfl), PcR.in hK⟩ rfl rfl hl.1 rfl (lv_room (Nat.le_of_ble_eq_true rfl)) dX4_toggle_76 ⟨by show _ ≤ 1; omega, by show _ ≤ 6; omega⟩).run (fun r53 er53 => ?_)
      subst r53
      refine lv_if_eq (tgt := 86) hx hb dX4_toggle_79 (by decide) (fun c54 => ?_) (fun c54 => ?_)
      · have hf := it_t c54 hf
        refine lv_iconst (v := 0) hx hb dX4_toggle_86 (by decide) ?_
        exact hB87 (sI t45 52 b47 ((fI S 52 b34) ^^^ t36)) _ _ _ _ (by omega) (by omega) 0 _ (lv_sub hl [] rfl) hw hE  hf
      · have hf := it_f c54 hf
        refine lv_iconst (v := 1) hx hb dX4_toggle_82 (by decide) ?_
        refine lv_goto (tgt := 87) hx hb dX4_toggle_83 (by decide) ?_
        exact hB87 (sI t45 52 b47 ((fI S 52 b34) ^^^ t36)) _ _ _ _ (by omega) (by omega) 1 _ (lv_sub hl [] rfl) hw hE  hf
    · have hf := it_f (fun z => c44 ((lq_le _ _).mpr z)) hf
      obtain ⟨sa, hsa⟩ := sk_111 hK.2.2.1
      refine vx_throwS hx hb hst (names := ["java/lang/RuntimeException", "java/lang/Exception"]) hown (by decide +kernel) (by decide +kernel) (hts (.classLink RX4 70 "java/lang/IllegalStateException") (List.mem_of_getElem? (i := 3) rfl)) (hts (.initialized "java/lang/IllegalStateException") (List.mem_of_getElem? (i := 4) rfl)) hsa (vx_hat (B := xb_74) (fun w h => hts w (List.mem_cons_of_mem _ (List.mem_append_right _ h))) xn_74 (xk_74 hK.2.2.2.2.2)) xg_74 hZ.1 hZ.2.1 hw.2.2.1 (hl.1.trans hml.symm) dX4_toggle_49 dX4_toggle_52 dX4_toggle_53 dX4_toggle_55 dX4_toggle_58 (fun x h => (hex x h).elim) (Nat.le_of_ble_eq_true rfl) (Nat.le_of_ble_eq_true rfl) (by show _ ≤ 1; omega) (by show _ ≤ 6; omega) hlocks (fun t hvm hz hk => ?_) hw.2.2.1.2.2 (by omega) (by omega)
      exact xo_of hw hE hz hk (by show (_ : String) = _; rfl) (po2x hf).1 (po2x hf).2
  · have hf := it_t c33 hf
    obtain ⟨sa, hsa⟩ := sk_88 hK.2.2.1
    refine vx_throwS hx hb hst (names := ["java/lang/RuntimeException", "java/lang/Exception"]) hown (by decide +kernel) (by decide +kernel) (hts (.classLink RX4 86 "java/lang/IndexOutOfBoundsException") (List.mem_of_getElem? (i := 1) rfl)) (hts (.initialized "java/lang/IndexOutOfBoundsException") (List.mem_of_getElem? (i := 2) rfl)) hsa (vx_hat (B := xb_90) (fun w h => hts w (List.mem_cons_of_mem _ (List.mem_append_left _ (List.mem_append_right _ h)))) xn_90 (xk_90 hK.2.2.2.2.2)) xg_90 hZ.1 hZ.2.1 hw.2.2.1 (hl.1.trans hml.symm) dX4_toggle_11 dX4_toggle_14 dX4_toggle_15 dX4_toggle_17 dX4_toggle_20 (fun x h => (hex x h).elim) (Nat.le_of_ble_eq_true rfl) (Nat.le_of_ble_eq_true rfl) (by show _ ≤ 1; omega) (by show _ ≤ 6; omega) hlocks (fun t hvm hz hk => ?_) hw.2.2.1.2.2 (by omega) (by omega)
    exact xo_of hw hE hz hk (by show (_ : String) = _; rfl) (po2x hf).1 (po2x hf).2
def f_X4_bare (S : PS) (n : Nat) (x0 : Nat) (x1 : Int32) : Option ((Int32 ⊕ Nat) × PS × Nat) :=
  rq (fR S 64 x0) S 3 fun b1 =>
  bd (f_X3_has S b1 x1) fun t3 =>
  if t3 = 0 then (some (.inr 2, S, n)) else
  rq (fR S 64 x0) S 3 fun b7 =>
  bd (f_X3_at S b7 x1) fun t9 =>
  bd (f_X0_isVoid S t9) fun t12 =>
  if t12 = 0 then (bd (f_X4_save S x0) fun t16 =>
  rq (fR t16 64 x0) t16 3 fun b18 =>
  bd (f_X0_init (nO t16 n 0) n 1 (fI (nO t16 n 0) 4 t9) (fI (nO t16 n 0) 3 t9)) fun t21 =>
  bd (f_X3_replace t21 b18 x1 n) fun t23 =>
  some (.inl (fI t23 3 t9), t23, n + 1)) else
  some (.inr 1, S, n)
set_option maxHeartbeats 4000000 in
set_option maxRecDepth 100000 in
theorem c_X4_bare (l : Launch) (hst : l.stackTraces = false) (D : va_G) (cy : cyT) {S : PS} {n : Nat} {y0 : Nat} {y1 : Int32} (v_y0 : vd S y0 4) {res : (Int32 ⊕ Nat) × PS × Nat} (hf : f_X4_bare S n y0 y1 = some res) : vx_Met l yX4_bare wsX4_bare ({ frames := 6, cells := 1, slots := 6, locals := 90 } : Room) (PcW True D cy S n [.ref y0, .int y1]) (va_Qi (fun (r : Int32) (u : PS × Nat) => Sum.inl r = res.1 ∧ u = res.2) (BW D cy S n) (AA cy S n)) (vx_X (fun k : Nat => res.1 = .inr k) (fun E k t => XO D cy S n res.2.1 E k t) (AA cy S n)) 1 6 (AA cy S n) := by
  refine vx_ofW (cc := cX4_bare) (maxL := 3) (ret := (some .int)) (by decide) rfl ?_
  intro p e s m args below meth c s₁ B hml hex hv
  obtain ⟨hav, hsz, hP0, hD0, hK, hZ0⟩ := hv
  have hx := B.exec
  have hb := B.bytes
  have hr := B.returns
  have hts := atoms_spec (ws := wsX4_bare) B.pre
  have hown : s.vm.findClass RX4 = some m.cls := findClass_of_methodNamed B.named
  have hlocks := B.notSynchronized
  subst hav
  have hw : Hw D cy (AA cy S n) s.heap S n s.heap [] := Hw.start hsz hP0 hD0
  have hA : ∀ q, s.heap.size ≤ q → AA cy S n q := fun q h => Or.inr (hsz ▸ h)
  have hE : EX S S := EX.rf
  have hZ := hZ0 trivial
  have F : CallFix p m c cX4_bare 3 s _ wsX4_bare RX4 := ⟨hx, hb, hml, hown, hts⟩
  have hl := lv_entry ([.ref y0, .int y1]) (n := 3) (Nat.le_of_ble_eq_true rfl)
  rw [lg_entry_eq]
  generalize (lg_sl ([.ref y0, .int y1]) ++ List.replicate (3 - (lg_sl ([.ref y0, .int y1])).length) Slot.unset).toArray = ls at hl ⊢
  have hl : lv_has ls 3 [(0, .ref y0), (1, .int y1)] := hl
  unfold f_X4_bare at hf
  refine lv_aload_n hx hb dX4_bare_0 rfl (lv_at hl 0 rfl) ?_
  obtain ⟨b25, e26, v_b25, hf⟩ := rq_some hf
  refine q_get F hK hw.1 v_y0.1 (pF_4 (S := S) v_y0.2) (fun w h => List.mem_cons_of_mem _ (List.mem_append_left _ (List.mem_append_left _ (List.mem_append_left _ (List.mem_append_left _ (List.mem_append_right _ h)))))) rfl 0 (by decide) (hts (.fieldLink RX4 17 "SharedModuli" "now" "LSharedModuli$State;") (List.mem_of_getElem? (i := 5) rfl)) (v := .ref b25) (congrArg (fun z => some (va_rf z)) e26) dX4_bare_1 ?_
  refine lv_iload_n hx hb dX4_bare_4 rfl (lv_at hl 1 rfl) ?_
  obtain ⟨t27, h28, hf⟩ := bd_some hf
  refine vp_callSi (va_runV (As := [.int y1]) (rest := []) F (c_X3_has l D cy (H := _) hw.1 v_b25 h28) (cwV 1 hts gX4_bare_X3_has rfl rfl rfl ⟨rfl, ph_X3_has.1, ph_X3_has.2, pd_X3_has⟩ ⟨Nat.le_of_ble_eq_true rfl, Nat.le_of_ble_eq_true rfl⟩) ⟨PcR.bl, (q_rcv hK hw.1 v_b25.1 (pF_3 (S := S) v_b25.2) rfl), PcR.in hK⟩ rfl rfl hl.1 rfl (lv_room (Nat.le_of_ble_eq_true rfl)) dX4_bare_5 ⟨by show _ ≤ 1; omega, by show _ ≤ 6; omega⟩).run (fun r29 er29 => ?_)
  subst r29
  refine lv_if_ne (tgt := 21) hx hb dX4_bare_8 (by decide) (fun c30 => ?_) (fun c30 => ?_)
  · have hf := it_f c30 hf
    refine lv_aload_n hx hb dX4_bare_21 rfl (lv_at hl 0 rfl) ?_
    obtain ⟨b31, e32, v_b31, hf⟩ := rq_some hf
    refine q_get F hK hw.1 v_y0.1 (pF_4 (S := S) v_y0.2) (fun w h => List.mem_cons_of_mem _ (List.mem_append_left _ (List.mem_append_left _ (List.mem_append_left _ (List.mem_append_left _ (List.mem_append_right _ h)))))) rfl 0 (by decide) (hts (.fieldLink RX4 17 "SharedModuli" "now" "LSharedModuli$State;") (List.mem_of_getElem? (i := 5) rfl)) (v := .ref b31) (congrArg (fun z => some (va_rf z)) e32) dX4_bare_22 ?_
    refine lv_iload_n hx hb dX4_bare_25 rfl (lv_at hl 1 rfl) ?_
    obtain ⟨t33, h34, hf⟩ := bd_some hf
    refine va_csr (va_runV (As := [.int y1]) (rest := []) F (c_X3_at l D cy (H := _) hw.1 v_b31 h34) (cwV 1 hts gX4_bare_X3_at rfl rfl rfl ⟨rfl, ph_X3_at.1, ph_X3_at.2, pd_X3_at⟩ ⟨Nat.le_of_ble_eq_true rfl, Nat.le_of_ble_eq_true rfl⟩) ⟨PcR.bl, (q_rcv hK hw.1 v_b31.1 (pF_3 (S := S) v_b31.2) rfl), PcR.in hK⟩ rfl rfl hl.1 rfl (lv_room (Nat.le_of_ble_eq_true rfl)) dX4_bare_26 ⟨by show _ ≤ 1; omega, by show _ ≤ 6; omega⟩).run (fun r35 er35 => ?_)
    obtain ⟨er35, v_t33⟩ := er35
    subst r35
    refine lv_astore_n (lv' := [(2, .ref t33), (0, .ref y0), (1, .int y1)]) hx hb dX4_bare_29 rfl hl (by decide) rfl (fun ls hl => ?_)
    refine lv_aload_n hx hb dX4_bare_30 rfl (lv_at hl 0 rfl) ?_
    obtain ⟨t36, h37, hf⟩ := bd_some hf
    refine vp_callSi (va_runV (As := []) (rest := []) F (c_X0_isVoid l D cy (H := _) hw.1 v_t33 h37) (cwV 0 hts gX4_bare_X0_isVoid rfl rfl rfl ⟨rfl, ph_X0_isVoid.1, ph_X0_isVoid.2, pd_X0_isVoid⟩ ⟨Nat.le_of_ble_eq_true rfl, Nat.le_of_ble_eq_true rfl⟩) ⟨PcR.bl, (q_rcv hK hw.1 v_t33.1 (pF_0 (S := S) v_t33.2) rfl), PcR.in hK⟩ rfl rfl hl.1 rfl (lv_room (Nat.le_of_ble_eq_true rfl)) dX4_bare_31 ⟨by show _ ≤ 1; omega, by show _ ≤ 6; omega⟩).run (fun r38 er38 => ?_)
    subst r38
    refine lv_if_eq (tgt := 47) hx hb dX4_bare_34 (by decide) (fun c39 => ?_) (fun c39 => ?_)
    · have hf := it_t c39 hf
      refine lv_aload_n hx hb dX4_bare_47 rfl (lv_at hl 1 rfl) ?_
      obtain ⟨t40, h41, hf⟩ := bd_some hf
      refine q_callv (va_runV (As := []) (rest := []) F (c_X4_save l D cy (S := S) v_y0 h41) (cwV 0 hts gX4_bare_X4_save rfl rfl rfl ⟨rfl, ph_X4_save.1, ph_X4_save.2, pd_X4_save⟩ ⟨Nat.le_of_ble_eq_true rfl, Nat.le_of_ble_eq_true rfl⟩) ⟨PcW.bl, (q_rcv hK hw.1 v_y0.1 (pF_4 (S := S) v_y0.2) rfl), PcW.in hK hw hA (fun z => z.elim)⟩ rfl rfl hl.1 rfl (lv_room (Nat.le_of_ble_eq_true rfl)) dX4_bare_48 ⟨by show _ ≤ 1; omega, by show _ ≤ 6; omega⟩) hw hA (fun H locs hw hX => ?_)
      have hE := hE.tr hX
      have v_y0 := hX _ _ v_y0
      have v_b25 := hX _ _ v_b25
      have v_b31 := hX _ _ v_b31
      have v_t33 := hX _ _ v_t33
      refine lv_aload_n hx hb dX4_bare_51 rfl (lv_at hl 1 rfl) ?_
      obtain ⟨b42, e43, v_b42, hf⟩ := rq_some hf
      refine q_get F hK hw.1 v_y0.1 (pF_4 (S := t40) v_y0.2) (fun w h => List.mem_cons_of_mem _ (List.mem_append_left _ (List.mem_append_left _ (List.mem_append_left _ (List.mem_append_left _ (List.mem_append_right _ h)))))) rfl 0 (by decide) (hts (.fieldLink RX4 17 "SharedModuli" "now" "LSharedModuli$State;") (List.mem_of_getElem? (i := 5) rfl)) (v := .ref b42) (congrArg (fun z => some (va_rf z)) e43) dX4_bare_52 ?_
      refine lv_iload_n hx hb dX4_bare_55 rfl (lv_at hl 2 rfl) ?_
      have hfr := hw.fresh
      refine q_new F hK hw hA (fun w h => List.mem_cons_of_mem _ (List.mem_append_left _ (List.mem_append_left _ (List.mem_append_left _ (List.mem_append_right _ h))))) tyX0 tyX0_ok (hts (.classLink RX4 7 RX0) (List.mem_of_getElem? (i := 6) rfl)) (hts (.instantiable RX0 5) (List.mem_of_getElem? (i := 7) rfl)) (hts (.initialized RX0) (List.mem_of_getElem? (i := 8) rfl)) rfl (fs := [.int 0, .int 0, .int 0, .int 0, .int 0]) (fun j hj => by rcases (show j = 0 ∨ j = 1 ∨ j = 2 ∨ j = 3 ∨ j = 4 by omega) with rfl | rfl | rfl | rfl | rfl <;> rfl) (by show _ ≤ 1; omega) (by show _ ≤ 6; omega) dX4_bare_56 (S1 := nO t40 n 0) (fun hq => nw_0 hq) (fun H hw => ?_)
      have hX := EX.nO (k := 0) hfr
      have hE := hE.tr hX
      have v_y0 := hX _ _ v_y0
      have v_b25 := hX _ _ v_b25
      have v_b31 := hX _ _ v_b31
      have v_t33 := hX _ _ v_t33
      have v_b42 := hX _ _ v_b42
      have v_q44 : vd (nO t40 n 0) (n) 0 := vd_nO
      refine lv_dup hx hb dX4_bare_59 rfl ?_
      refine lv_iconst (v := 1) hx hb dX4_bare_60 (by decide) ?_
      refine lv_aload_n hx hb dX4_bare_61 rfl (lv_at hl 0 rfl) ?_
      refine q_getN F hK hw.1 v_t33.1 (pF_0 (S := nO t40 n 0) v_t33.2) (fun w h => List.mem_cons_of_mem _ (List.mem_append_left _ (List.mem_append_left _ (List.mem_append_left _ (List.mem_append_right _ h))))) rfl 4 (by decide) (nk_f_RX4_126 hK.2.1) (v := .int (fI (nO t40 n 0) 4 t33)) rfl dX4_bare_62 ?_
      refine lv_aload_n hx hb dX4_bare_65 rfl (lv_at hl 0 rfl) ?_
      refine q_getN F hK hw.1 v_t33.1 (pF_0 (S := nO t40 n 0) v_t33.2) (fun w h => List.mem_cons_of_mem _ (List.mem_append_left _ (List.mem_append_left _ (List.mem_append_left _ (List.mem_append_right _ h))))) rfl 3 (by decide) (nk_f_RX4_129 hK.2.1) (v := .int (fI (nO t40 n 0) 3 t33)) rfl dX4_bare_66 ?_
      obtain ⟨t45, h46, hf⟩ := bd_some hf
      refine q_callv (va_runI (As := [.int 1, .int (fI (nO t40 n 0) 4 t33), .int (fI (nO t40 n 0) 3 t33)]) (rest := [.ref n, .int y1, .ref b42]) F (c_X0_init l D cy (S := nO t40 n 0) v_q44 h46) (cwI 3 hts gX4_bare_X0_init rfl rfl rfl (hts (.initialized RX0) (List.mem_of_getElem? (i := 8) rfl)) (hts (.methodLink RX4 9 yX0_init) (List.mem_of_getElem? (i := 53) rfl)) (hts (.instanceMethod yX0_init) (List.mem_of_getElem? (i := 54) rfl)) rfl ⟨ph_X0_init.1, ph_X0_init.2, pd_X0_init⟩ ⟨Nat.le_of_ble_eq_true rfl, Nat.le_of_ble_eq_true rfl⟩) ⟨PcW.bl, PcW.in hK hw hA (fun z => z.elim)⟩ rfl rfl hl.1 rfl (lv_room (Nat.le_of_ble_eq_true rfl)) dX4_bare_69 ⟨by show _ ≤ 1; omega, by show _ ≤ 6; omega⟩) hw hA (fun H locs hw hX => ?_)
      have hE := hE.tr hX
      have v_y0 := hX _ _ v_y0
      have v_b25 := hX _ _ v_b25
      have v_b31 := hX _ _ v_b31
      have v_t33 := hX _ _ v_t33
      have v_b42 := hX _ _ v_b42
      have v_q44 := hX _ _ v_q44
      obtain ⟨t47, h48, hf⟩ := bd_some hf
      refine q_callv (va_runV (As := [.int y1, .ref n]) (rest := []) F (c_X3_replace l D cy (S := t45) v_b42 v_q44 h48) (cwV 2 hts gX4_bare_X3_replace rfl rfl rfl ⟨rfl, ph_X3_replace.1, ph_X3_replace.2, pd_X3_replace⟩ ⟨Nat.le_of_ble_eq_true rfl, Nat.le_of_ble_eq_true rfl⟩) ⟨PcW.bl, (q_rcv hK hw.1 v_b42.1 (pF_3 (S := t45) v_b42.2) rfl), PcW.in hK hw hA (fun z => z.elim)⟩ rfl rfl hl.1 rfl (lv_room (Nat.le_of_ble_eq_true rfl)) dX4_bare_72 ⟨by show _ ≤ 1; omega, by show _ ≤ 6; omega⟩) hw hA (fun H locs hw hX => ?_)
      have hE := hE.tr hX
      have v_y0 := hX _ _ v_y0
      have v_b25 := hX _ _ v_b25
      have v_b31 := hX _ _ v_b31
      have v_t33 := hX _ _ v_t33
      have v_b42 := hX _ _ v_b42
      have v_q44 := hX _ _ v_q44
      refine lv_aload_n hx hb dX4_bare_75 rfl (lv_at hl 0 rfl) ?_
      refine q_getN F hK hw.1 v_t33.1 (pF_0 (S := t47) v_t33.2) (fun w h => List.mem_cons_of_mem _ (List.mem_append_left _ (List.mem_append_left _ (List.mem_append_left _ (List.mem_append_right _ h))))) rfl 3 (by decide) (nk_f_RX4_129 hK.2.1) (v := .int (fI t47 3 t33)) rfl dX4_bare_76 ?_
      refine vx_ret ?_
      refine W.widen (k := 1) (n := 6) (by omega) (by omega) ?_
      exact W.iret (v := (fI t47 3 t33)) hx hb hr (fun t ht hW => ⟨⟨_, (t47, n + 1), rfl, po3t hf, BW.of hw hE ht⟩, hw.2.2.1.F ht⟩) hw.2.2.1.2.2 dX4_bare_79
    · have hf := it_f c39 hf
      obtain ⟨sa, hsa⟩ := sk_124 hK.2.2.1
      refine vx_throwS hx hb hst (names := ["java/lang/RuntimeException", "java/lang/Exception"]) hown (by decide +kernel) (by decide +kernel) (hts (.classLink RX4 70 "java/lang/IllegalStateException") (List.mem_of_getElem? (i := 3) rfl)) (hts (.initialized "java/lang/IllegalStateException") (List.mem_of_getElem? (i := 4) rfl)) hsa (vx_hat (B := xb_74) (fun w h => hts w (List.mem_cons_of_mem _ (List.mem_append_right _ h))) xn_74 (xk_74 hK.2.2.2.2.2)) xg_74 hZ.1 hZ.2.1 hw.2.2.1 (hl.1.trans hml.symm) dX4_bare_37 dX4_bare_40 dX4_bare_41 dX4_bare_43 dX4_bare_46 (fun x h => (hex x h).elim) (Nat.le_of_ble_eq_true rfl) (Nat.le_of_ble_eq_true rfl) (by show _ ≤ 1; omega) (by show _ ≤ 6; omega) hlocks (fun t hvm hz hk => ?_) hw.2.2.1.2.2 (by omega) (by omega)
      exact xo_of hw hE hz hk (by show (_ : String) = _; rfl) (po3x hf).1 (po3x hf).2
  · have hf := it_t c30 hf
    obtain ⟨sa, hsa⟩ := sk_88 hK.2.2.1
    refine vx_throwS hx hb hst (names := ["java/lang/RuntimeException", "java/lang/Exception"]) hown (by decide +kernel) (by decide +kernel) (hts (.classLink RX4 86 "java/lang/IndexOutOfBoundsException") (List.mem_of_getElem? (i := 1) rfl)) (hts (.initialized "java/lang/IndexOutOfBoundsException") (List.mem_of_getElem? (i := 2) rfl)) hsa (vx_hat (B := xb_90) (fun w h => hts w (List.mem_cons_of_mem _ (List.mem_append_left _ (List.mem_append_right _ h)))) xn_90 (xk_90 hK.2.2.2.2.2)) xg_90 hZ.1 hZ.2.1 hw.2.2.1 (hl.1.trans hml.symm) dX4_bare_11 dX4_bare_14 dX4_bare_15 dX4_bare_17 dX4_bare_20 (fun x h => (hex x h).elim) (Nat.le_of_ble_eq_true rfl) (Nat.le_of_ble_eq_true rfl) (by show _ ≤ 1; omega) (by show _ ≤ 6; omega) hlocks (fun t hvm hz hk => ?_) hw.2.2.1.2.2 (by omega) (by omega)
    exact xo_of hw hE hz hk (by show (_ : String) = _; rfl) (po3x hf).1 (po3x hf).2
def f_X4_join_B50 (S : PS) (x0 : Nat) : Option (Nat × PS) :=
  rq (fR S 71 x0) S 1 fun b1 =>
  some (b1, S)
def f_X4_join_B44 (kL9 : PS → Nat → Int32 → Int32 → Option (Nat × PS)) (ke50 : PS → Nat → Option (Nat × PS)) (S : PS) (x0 : Nat) (x1 : Int32) (x2 : Int32) : Option (Nat × PS) :=
  kL9 S x0 x1 (x2 + 1)
def f_X4_join_L9s (kL9 : PS → Nat → Int32 → Int32 → Option (Nat × PS)) (ke50 : PS → Nat → Option (Nat × PS)) (S : PS) (x0 : Nat) (x1 : Int32) (x2 : Int32) : Option (Nat × PS) :=
  rq (fR S 64 x0) S 3 fun b3 =>
  if (fI S 51 b3) ≤ x2 then (ke50 S x0) else
  bd (f_X4_bit x2) fun t6 =>
  if (x1 &&& t6) = 0 then (f_X4_join_B44 kL9 ke50 S x0 x1 x2) else
  rq (fR S 71 x0) S 1 fun b10 =>
  rq (fR S 64 x0) S 3 fun b12 =>
  bd (f_X3_at S b12 x2) fun t14 =>
  bd (f_X1_take S b10 t14) fun t17 =>
  f_X4_join_B44 kL9 ke50 t17 x0 x1 x2
def f_X4_join_L9 (ke50 : PS → Nat → Option (Nat × PS)) (fu : Nat) : PS → Nat → Int32 → Int32 → Option (Nat × PS) := fx (fun kL => f_X4_join_L9s kL ke50) (fun _ _ _ _ => none) fu
def f_X4_join (S : PS) (x0 : Nat) (x1 : Int32) : Option (Nat × PS) :=
  rq (fR S 71 x0) S 1 fun b19 =>
  bd (f_X1_clear S b19) fun t21 =>
  f_X4_join_L9 f_X4_join_B50 FU t21 x0 x1 0
set_option maxHeartbeats 4000000 in
set_option maxRecDepth 100000 in
theorem c_X4_join (l : Launch) (D : va_G) (cy : cyT) {S : PS} {n : Nat} {y0 : Nat} {y1 : Int32} (v_y0 : vd S y0 4) {res : Nat × PS} (hf : f_X4_join S y0 y1 = some res) : Met l yX4_join wsX4_join ({ frames := 2, cells := 0, slots := 0, locals := 67 } : Room) (PcW False D cy S n [.ref y0, .int y1]) (va_Qr (fun (u : PS × Nat) => u = (res.2, n)) (fun u b t => b = res.1 ∧ vd u.1 b 1 ∧ BW D cy S n u t) (AA cy S n)) 0 0 (AA cy S n) := by
  refine Met.ofW (cc := cX4_join) (maxL := 3) (ret := (some (.object "SharedModuli$Joint"))) (by decide) rfl ?_
  intro p e s m args below meth c s₁ B hml hv
  obtain ⟨hav, hsz, hP0, hD0, hK, hZ0⟩ := hv
  have hx := B.exec
  have hb := B.bytes
  have hr := B.returns
  have hts := atoms_spec (ws := wsX4_join) B.pre
  have hown : s.vm.findClass RX4 = some m.cls := findClass_of_methodNamed B.named
  have hlocks := B.notSynchronized
  subst hav
  have hw : Hw D cy (AA cy S n) s.heap S n s.heap [] := Hw.start hsz hP0 hD0
  have hA : ∀ q, s.heap.size ≤ q → AA cy S n q := fun q h => Or.inr (hsz ▸ h)
  have hE : EX S S := EX.rf
  have F : CallFix p m c cX4_join 3 s _ wsX4_join RX4 := ⟨hx, hb, hml, hown, hts⟩
  have hB50 : ∀ (Sb : PS) (H1 : Heap) (lo1 : List Loc) (x0 : Nat) (ls : Array Slot), lv_has ls 3 [(0, .ref x0)] → Hw D cy (AA cy S n) s.heap Sb n H1 lo1 → EX S Sb → vd Sb x0 4 → f_X4_join_B50 Sb x0 = some res → W p l e (headSpec wsX4_join ({ frames := 2, cells := 0, slots := 0, locals := 67 } : Room)).room s m ([.ref y0, .int y1] : List Value).toArray below meth c H1 lo1 0 0 (MQ below (va_Qr (fun (u : PS × Nat) => u = (res.2, n)) (fun u b t => b = res.1 ∧ vd u.1 b 1 ∧ BW D cy S n u t) (AA cy S n)) ([.ref y0, .int y1] : List Value).toArray s 0 0 (AA cy S n)) (F0 m 50 ls []) := by
    intro Sb H1 lo1 x0 ls hl hw hE v_x0 hf
    unfold f_X4_join_B50 at hf
    refine lv_aload_n hx hb dX4_join_50 rfl (lv_at hl 0 rfl) ?_
    obtain ⟨b23, e24, v_b23, hf⟩ := rq_some hf
    refine q_get F hK hw.1 v_x0.1 (pF_4 (S := Sb) v_x0.2) (fun w h => List.mem_cons_of_mem _ (List.mem_append_left _ (List.mem_append_left _ (List.mem_append_left _ (List.mem_append_right _ h))))) rfl 7 (by decide) (hts (.fieldLink RX4 51 "SharedModuli" "joint" "LSharedModuli$Joint;") (List.mem_of_getElem? (i := 1) rfl)) (v := .ref b23) (congrArg (fun z => some (va_rf z)) e24) dX4_join_51 ?_
    exact W.aret (v := .ref b23) hx hb hr (Or.inl ⟨_, rfl⟩) (Or.inr ⟨_, rfl⟩) (fun t ht hW => ⟨⟨(Sb, n), b23, rfl, (po2 (n := n) hf).2, (po2 (n := n) hf).1, v_b23, BW.of hw hE ht⟩, hw.2.2.1.F ht⟩) hw.2.2.1.2.2 dX4_join_54
  have hL9 : ∀ (fu9 : Nat), ∀ (Sb : PS) (H1 : Heap) (lo1 : List Loc) (x0 : Nat) (x1 : Int32) (x2 : Int32) (ls : Array Slot), lv_has ls 3 [(0, .ref x0), (1, .int x1), (2, .int x2)] → Hw D cy (AA cy S n) s.heap Sb n H1 lo1 → EX S Sb → vd Sb x0 4 → f_X4_join_L9 f_X4_join_B50 fu9 Sb x0 x1 x2 = some res → W p l e (headSpec wsX4_join ({ frames := 2, cells := 0, slots := 0, locals := 67 } : Room)).room s m ([.ref y0, .int y1] : List Value).toArray below meth c H1 lo1 0 0 (MQ below (va_Qr (fun (u : PS × Nat) => u = (res.2, n)) (fun u b t => b = res.1 ∧ vd u.1 b 1 ∧ BW D cy S n u t) (AA cy S n)) ([.ref y0, .int y1] : List Value).toArray s 0 0 (AA cy S n)) (F0 m 9 ls []) := by
    intro fu9
    induction fu9 with
    | zero =>
      intro Sb H1 lo1 x0 x1 x2 ls hl hw hE v_x0 hf
      have hf : (none : Option (Nat × PS)) = some res := hf
      cases hf
    | succ fu9 ih9 =>
      have hB44 : ∀ (Sb : PS) (H1 : Heap) (lo1 : List Loc) (x0 : Nat) (x1 : Int32) (x2 : Int32) (ls : Array Slot), lv_has ls 3 [(0, .ref x0), (1, .int x1), (2, .int x2)] → Hw D cy (AA cy S n) s.heap Sb n H1 lo1 → EX S Sb → vd Sb x0 4 → f_X4_join_B44 (f_X4_join_L9 f_X4_join_B50 fu9) f_X4_join_B50 Sb x0 x1 x2 = some res → W p l e (headSpec wsX4_join ({ frames := 2, cells := 0, slots := 0, locals := 67 } : Room)).room s m ([.ref y0, .int y1] : List Value).toArray below meth c H1 lo1 0 0 (MQ below (va_Qr (fun (u : PS × Nat) => u = (res.2, n)) (fun u b t => b = res.1 ∧ vd u.1 b 1 ∧ BW D cy S n u t) (AA cy S n)) ([.ref y0, .int y1] : List Value).toArray s 0 0 (AA cy S n)) (F0 m 44 ls []) := by
        intro Sb H1 lo1 x0 x1 x2 ls hl hw hE v_x0 hf
        unfold f_X4_join_B44 at hf
        refine lv_iinc (v := x2 + 1) (lv' := [(2, .int (x2 + 1)), (0, .ref x0), (1, .int x1)]) hx hb dX4_join_44 hl (k := 2) rfl (by rfl) (by decide) rfl (fun ls hl => ?_)
        refine lv_goto (tgt := 9) hx hb dX4_join_47 (by decide) ?_
        exact ih9 Sb _ _ x0 x1 (x2 + 1) _ (lv_sub hl [1, 2, 0] rfl) hw hE v_x0 hf
      intro Sb H1 lo1 x0 x1 x2 ls hl hw hE v_x0 hf
      have hf : f_X4_join_L9s (f_X4_join_L9 f_X4_join_B50 fu9) f_X4_join_B50 Sb x0 x1 x2 = some res := hf
      unfold f_X4_join_L9s at hf
      refine lv_iload_n hx hb dX4_join_9 rfl (lv_at hl 2 rfl) ?_
      refine lv_aload_n hx hb dX4_join_10 rfl (lv_at hl 0 rfl) ?_
      obtain ⟨b25, e26, v_b25, hf⟩ := rq_some hf
      refine q_get F hK hw.1 v_x0.1 (pF_4 (S := Sb) v_x0.2) (fun w h => List.mem_cons_of_mem _ (List.mem_append_left _ (List.mem_append_left _ (List.mem_append_left _ (List.mem_append_right _ h))))) rfl 0 (by decide) (hts (.fieldLink RX4 17 "SharedModuli" "now" "LSharedModuli$State;") (List.mem_of_getElem? (i := 2) rfl)) (v := .ref b25) (congrArg (fun z => some (va_rf z)) e26) dX4_join_11 ?_
      refine q_getN F hK hw.1 v_b25.1 (pF_3 (S := Sb) v_b25.2) (fun w h => List.mem_cons_of_mem _ (List.mem_append_left _ (List.mem_append_left _ (List.mem_append_right _ h)))) rfl 3 (by decide) (nk_f_RX4_95 hK.2.1) (v := .int (fI Sb 51 b25)) rfl dX4_join_14 ?_
      refine lv_icmp_ge (tgt := 50) hx hb dX4_join_17 (by decide) (fun c27 => ?_) (fun c27 => ?_)
      · have hf := it_t c27 hf
        exact hB50 Sb _ _ x0 _ (lv_sub hl [0] rfl) hw hE v_x0 hf
      · have hf := it_f c27 hf
        refine lv_iload_n hx hb dX4_join_20 rfl (lv_at hl 1 rfl) ?_
        refine lv_iload_n hx hb dX4_join_21 rfl (lv_at hl 2 rfl) ?_
        obtain ⟨t28, h29, hf⟩ := bd_some hf
        refine vp_callSi (va_runS (As := [.int x2]) (rest := [.int x1]) F (c_X4_bit l D cy (H := _)  h29) (va_cwS 1 hts gX4_join_X4_bit rfl rfl rfl ⟨ph_X4_bit.1, ph_X4_bit.2, pd_X4_bit⟩ ⟨Nat.le_of_ble_eq_true rfl, Nat.le_of_ble_eq_true rfl⟩) ⟨PcR.bl, PcR.in hK⟩ rfl rfl hl.1 rfl (lv_room (Nat.le_of_ble_eq_true rfl)) dX4_join_22 ⟨Nat.zero_le _, Nat.zero_le _⟩).run (fun r30 er30 => ?_)
        subst r30
        refine lv_iand hx hb dX4_join_25 ?_
        refine lv_if_eq (tgt := 44) hx hb dX4_join_26 (by decide) (fun c31 => ?_) (fun c31 => ?_)
        · have hf := it_t c31 hf
          exact hB44 Sb _ _ x0 x1 x2 _ (lv_sub hl [0, 1, 2] rfl) hw hE v_x0 hf
        · have hf := it_f c31 hf
          refine lv_aload_n hx hb dX4_join_29 rfl (lv_at hl 0 rfl) ?_
          obtain ⟨b32, e33, v_b32, hf⟩ := rq_some hf
          refine q_get F hK hw.1 v_x0.1 (pF_4 (S := Sb) v_x0.2) (fun w h => List.mem_cons_of_mem _ (List.mem_append_left _ (List.mem_append_left _ (List.mem_append_left _ (List.mem_append_right _ h))))) rfl 7 (by decide) (hts (.fieldLink RX4 51 "SharedModuli" "joint" "LSharedModuli$Joint;") (List.mem_of_getElem? (i := 1) rfl)) (v := .ref b32) (congrArg (fun z => some (va_rf z)) e33) dX4_join_30 ?_
          refine lv_aload_n hx hb dX4_join_33 rfl (lv_at hl 0 rfl) ?_
          obtain ⟨b34, e35, v_b34, hf⟩ := rq_some hf
          refine q_get F hK hw.1 v_x0.1 (pF_4 (S := Sb) v_x0.2) (fun w h => List.mem_cons_of_mem _ (List.mem_append_left _ (List.mem_append_left _ (List.mem_append_left _ (List.mem_append_right _ h))))) rfl 0 (by decide) (hts (.fieldLink RX4 17 "SharedModuli" "now" "LSharedModuli$State;") (List.mem_of_getElem? (i := 2) rfl)) (v := .ref b34) (congrArg (fun z => some (va_rf z)) e35) dX4_join_34 ?_
          refine lv_iload_n hx hb dX4_join_37 rfl (lv_at hl 2 rfl) ?_
          obtain ⟨t36, h37, hf⟩ := bd_some hf
          refine va_csr (va_runV (As := [.int x2]) (rest := [.ref b32]) F (c_X3_at l D cy (H := _) hw.1 v_b34 h37) (cwV 1 hts gX4_join_X3_at rfl rfl rfl ⟨rfl, ph_X3_at.1, ph_X3_at.2, pd_X3_at⟩ ⟨Nat.le_of_ble_eq_true rfl, Nat.le_of_ble_eq_true rfl⟩) ⟨PcR.bl, (q_rcv hK hw.1 v_b34.1 (pF_3 (S := Sb) v_b34.2) rfl), PcR.in hK⟩ rfl rfl hl.1 rfl (lv_room (Nat.le_of_ble_eq_true rfl)) dX4_join_38 ⟨Nat.zero_le _, Nat.zero_le _⟩).run (fun r38 er38 => ?_)
          obtain ⟨er38, v_t36⟩ := er38
          subst r38
          obtain ⟨t39, h40, hf⟩ := bd_some hf
          refine q_callv (va_runV (As := [.ref t36]) (rest := []) F (c_X1_take l D cy (S := Sb) v_b32 v_t36 h40) (cwV 1 hts gX4_join_X1_take rfl rfl rfl ⟨rfl, ph_X1_take.1, ph_X1_take.2, pd_X1_take⟩ ⟨Nat.le_of_ble_eq_true rfl, Nat.le_of_ble_eq_true rfl⟩) ⟨PcW.bl, (q_rcv hK hw.1 v_b32.1 (pF_1 (S := Sb) v_b32.2) rfl), PcW.in hK hw hA (fun z => z.elim)⟩ rfl rfl hl.1 rfl (lv_room (Nat.le_of_ble_eq_true rfl)) dX4_join_41 ⟨Nat.zero_le _, Nat.zero_le _⟩) hw hA (fun H locs hw hX => ?_)
          have hE := hE.tr hX
          have v_x0 := hX _ _ v_x0
          have v_b25 := hX _ _ v_b25
          have v_b32 := hX _ _ v_b32
          have v_b34 := hX _ _ v_b34
          have v_t36 := hX _ _ v_t36
          exact hB44 t39 _ _ x0 x1 x2 _ (lv_sub hl [0, 1, 2] rfl) hw hE v_x0 hf
  have hl := lv_entry ([.ref y0, .int y1]) (n := 3) (Nat.le_of_ble_eq_true rfl)
  rw [lg_entry_eq]
  generalize (lg_sl ([.ref y0, .int y1]) ++ List.replicate (3 - (lg_sl ([.ref y0, .int y1])).length) Slot.unset).toArray = ls at hl ⊢
  have hl : lv_has ls 3 [(0, .ref y0), (1, .int y1)] := hl
  unfold f_X4_join at hf
  refine lv_aload_n hx hb dX4_join_0 rfl (lv_at hl 0 rfl) ?_
  obtain ⟨b41, e42, v_b41, hf⟩ := rq_some hf
  refine q_get F hK hw.1 v_y0.1 (pF_4 (S := S) v_y0.2) (fun w h => List.mem_cons_of_mem _ (List.mem_append_left _ (List.mem_append_left _ (List.mem_append_left _ (List.mem_append_right _ h))))) rfl 7 (by decide) (hts (.fieldLink RX4 51 "SharedModuli" "joint" "LSharedModuli$Joint;") (List.mem_of_getElem? (i := 1) rfl)) (v := .ref b41) (congrArg (fun z => some (va_rf z)) e42) dX4_join_1 ?_
  obtain ⟨t43, h44, hf⟩ := bd_some hf
  refine q_callv (va_runV (As := []) (rest := []) F (c_X1_clear l D cy (S := S) v_b41 h44) (cwV 0 hts gX4_join_X1_clear rfl rfl rfl ⟨rfl, ph_X1_clear.1, ph_X1_clear.2, pd_X1_clear⟩ ⟨Nat.le_of_ble_eq_true rfl, Nat.le_of_ble_eq_true rfl⟩) ⟨PcW.bl, (q_rcv hK hw.1 v_b41.1 (pF_1 (S := S) v_b41.2) rfl), PcW.in hK hw hA (fun z => z.elim)⟩ rfl rfl hl.1 rfl (lv_room (Nat.le_of_ble_eq_true rfl)) dX4_join_4 ⟨Nat.zero_le _, Nat.zero_le _⟩) hw hA (fun H locs hw hX => ?_)
  have hE := hE.tr hX
  have v_y0 := hX _ _ v_y0
  have v_b41 := hX _ _ v_b41
  refine lv_iconst (v := 0) hx hb dX4_join_7 (by decide) ?_
  refine lv_istore_n (lv' := [(2, .int 0), (0, .ref y0), (1, .int y1)]) hx hb dX4_join_8 rfl hl (by decide) rfl (fun ls hl => ?_)
  exact hL9 FU t43 _ _ y0 y1 0 _ (lv_sub hl [1, 2, 0] rfl) hw hE v_y0 hf
def f_X4_isTold_B61 (S : PS) (s0 : Int32) : Option (Int32 × PS) :=
  ck (decide (s0 &&& 1 = s0)) (
  some (s0, S))
def f_X4_isTold_B60 (S : PS) : Option (Int32 × PS) :=
  f_X4_isTold_B61 S 0
def f_X4_isTold (S : PS) (x0 : Nat) (x1 : Int32) : Option (Int32 × PS) :=
  rq (fR S 64 x0) S 3 fun b2 =>
  bd (f_X4_bit x1) fun t4 =>
  rq (fR S 64 x0) S 3 fun b7 =>
  bd (f_X3_isOn S b7 x1) fun t9 =>
  if t9 = 0 then (f_X4_isTold_B60 S) else
  rq (fR S 64 x0) S 3 fun b13 =>
  bd (f_X3_arePossible S b13 ((fI S 52 b2) &&& (t4 ^^^ ((-1) : Int32)))) fun t15 =>
  if t15 = 0 then (f_X4_isTold_B60 S) else
  bd (f_X4_join S x0 ((fI S 52 b2) &&& (t4 ^^^ ((-1) : Int32)))) fun t19 =>
  rq (fR t19.2 64 x0) t19.2 3 fun b21 =>
  bd (f_X3_at t19.2 b21 x1) fun t23 =>
  bd (f_X1_tells t19.2 t19.1 t23) fun t26 =>
  if t26 = 0 then (f_X4_isTold_B60 t19.2) else
  f_X4_isTold_B61 t19.2 1
set_option maxHeartbeats 4000000 in
set_option maxRecDepth 100000 in
theorem c_X4_isTold (l : Launch) (D : va_G) (cy : cyT) {S : PS} {n : Nat} {y0 : Nat} {y1 : Int32} (v_y0 : vd S y0 4) {res : Int32 × PS} (hf : f_X4_isTold S y0 y1 = some res) : Met l yX4_isTold wsX4_isTold ({ frames := 3, cells := 0, slots := 0, locals := 89 } : Room) (PcW False D cy S n [.ref y0, .int y1]) (va_Qi (fun (r : Int32) (u : PS × Nat) => r = res.1 ∧ u = (res.2, n)) (BW D cy S n) (AA cy S n)) 0 0 (AA cy S n) := by
  refine Met.ofW (cc := cX4_isTold) (maxL := 3) (ret := (some .boolean)) (by decide) rfl ?_
  intro p e s m args below meth c s₁ B hml hv
  obtain ⟨hav, hsz, hP0, hD0, hK, hZ0⟩ := hv
  have hx := B.exec
  have hb := B.bytes
  have hr := B.returns
  have hts := atoms_spec (ws := wsX4_isTold) B.pre
  have hown : s.vm.findClass RX4 = some m.cls := findClass_of_methodNamed B.named
  have hlocks := B.notSynchronized
  subst hav
  have hw : Hw D cy (AA cy S n) s.heap S n s.heap [] := Hw.start hsz hP0 hD0
  have hA : ∀ q, s.heap.size ≤ q → AA cy S n q := fun q h => Or.inr (hsz ▸ h)
  have hE : EX S S := EX.rf
  have F : CallFix p m c cX4_isTold 3 s _ wsX4_isTold RX4 := ⟨hx, hb, hml, hown, hts⟩
  have hB61 : ∀ (Sb : PS) (H1 : Heap) (lo1 : List Loc) (s0 : Int32) (ls : Array Slot), lv_has ls 3 [] → Hw D cy (AA cy S n) s.heap Sb n H1 lo1 → EX S Sb → f_X4_isTold_B61 Sb s0 = some res → W p l e (headSpec wsX4_isTold ({ frames := 3, cells := 0, slots := 0, locals := 89 } : Room)).room s m ([.ref y0, .int y1] : List Value).toArray below meth c H1 lo1 0 0 (MQ below (va_Qi (fun (r : Int32) (u : PS × Nat) => r = res.1 ∧ u = (res.2, n)) (BW D cy S n) (AA cy S n)) ([.ref y0, .int y1] : List Value).toArray s 0 0 (AA cy S n)) (F0 m 61 ls [.int s0]) := by
    intro Sb H1 lo1 s0 ls hl hw hE hf
    unfold f_X4_isTold_B61 at hf
    obtain ⟨c30, hf⟩ := ckd_some hf
    exact W.zret (v := s0) hx hb hr (nz c30) (fun t ht hW => ⟨⟨_, (Sb, n), rfl, po2 hf, BW.of hw hE ht⟩, hw.2.2.1.F ht⟩) hw.2.2.1.2.2 dX4_isTold_61
  have hB60 : ∀ (Sb : PS) (H1 : Heap) (lo1 : List Loc)  (ls : Array Slot), lv_has ls 3 [] → Hw D cy (AA cy S n) s.heap Sb n H1 lo1 → EX S Sb → f_X4_isTold_B60 Sb = some res → W p l e (headSpec wsX4_isTold ({ frames := 3, cells := 0, slots := 0, locals := 89 } : Room)).room s m ([.ref y0, .int y1] : List Value).toArray below meth c H1 lo1 0 0 (MQ below (va_Qi (fun (r : Int32) (u : PS × Nat) => r = res.1 ∧ u = (res.2, n)) (BW D cy S n) (AA cy S n)) ([.ref y0, .int y1] : List Value).toArray s 0 0 (AA cy S n)) (F0 m 60 ls []) := by
    intro Sb H1 lo1 ls hl hw hE hf
    unfold f_X4_isTold_B60 at hf
    refine lv_iconst (v := 0) hx hb dX4_isTold_60 (by decide) ?_
    exact hB61 Sb _ _ 0 _ (lv_sub hl [] rfl) hw hE  hf
  have hl := lv_entry ([.ref y0, .int y1]) (n := 3) (Nat.le_of_ble_eq_true rfl)
  rw [lg_entry_eq]
  generalize (lg_sl ([.ref y0, .int y1]) ++ List.replicate (3 - (lg_sl ([.ref y0, .int y1])).length) Slot.unset).toArray = ls at hl ⊢
  have hl : lv_has ls 3 [(0, .ref y0), (1, .int y1)] := hl
  unfold f_X4_isTold at hf
  refine lv_aload_n hx hb dX4_isTold_0 rfl (lv_at hl 0 rfl) ?_
  obtain ⟨b31, e32, v_b31, hf⟩ := rq_some hf
  refine q_get F hK hw.1 v_y0.1 (pF_4 (S := S) v_y0.2) (fun w h => List.mem_cons_of_mem _ (List.mem_append_left _ (List.mem_append_left _ (List.mem_append_left _ (List.mem_append_right _ h))))) rfl 0 (by decide) (hts (.fieldLink RX4 17 "SharedModuli" "now" "LSharedModuli$State;") (List.mem_of_getElem? (i := 1) rfl)) (v := .ref b31) (congrArg (fun z => some (va_rf z)) e32) dX4_isTold_1 ?_
  refine q_getN F hK hw.1 v_b31.1 (pF_3 (S := S) v_b31.2) (fun w h => List.mem_cons_of_mem _ (List.mem_append_left _ (List.mem_append_left _ (List.mem_append_right _ h)))) rfl 4 (by decide) (nk_f_RX4_98 hK.2.1) (v := .int (fI S 52 b31)) rfl dX4_isTold_4 ?_
  refine lv_iload_n hx hb dX4_isTold_7 rfl (lv_at hl 1 rfl) ?_
  obtain ⟨t33, h34, hf⟩ := bd_some hf
  refine vp_callSi (va_runS (As := [.int y1]) (rest := [.int (fI S 52 b31)]) F (c_X4_bit l D cy (H := _)  h34) (va_cwS 1 hts gX4_isTold_X4_bit rfl rfl rfl ⟨ph_X4_bit.1, ph_X4_bit.2, pd_X4_bit⟩ ⟨Nat.le_of_ble_eq_true rfl, Nat.le_of_ble_eq_true rfl⟩) ⟨PcR.bl, PcR.in hK⟩ rfl rfl hl.1 rfl (lv_room (Nat.le_of_ble_eq_true rfl)) dX4_isTold_8 ⟨Nat.zero_le _, Nat.zero_le _⟩).run (fun r35 er35 => ?_)
  subst r35
  refine lv_iconst (v := (-1)) hx hb dX4_isTold_11 (by decide) ?_
  refine lv_ixor hx hb dX4_isTold_12 ?_
  refine lv_iand hx hb dX4_isTold_13 ?_
  refine lv_istore_n (lv' := [(2, .int ((fI S 52 b31) &&& (t33 ^^^ ((-1) : Int32)))), (0, .ref y0), (1, .int y1)]) hx hb dX4_isTold_14 rfl hl (by decide) rfl (fun ls hl => ?_)
  refine lv_aload_n hx hb dX4_isTold_15 rfl (lv_at hl 1 rfl) ?_
  obtain ⟨b36, e37, v_b36, hf⟩ := rq_some hf
  refine q_get F hK hw.1 v_y0.1 (pF_4 (S := S) v_y0.2) (fun w h => List.mem_cons_of_mem _ (List.mem_append_left _ (List.mem_append_left _ (List.mem_append_left _ (List.mem_append_right _ h))))) rfl 0 (by decide) (hts (.fieldLink RX4 17 "SharedModuli" "now" "LSharedModuli$State;") (List.mem_of_getElem? (i := 1) rfl)) (v := .ref b36) (congrArg (fun z => some (va_rf z)) e37) dX4_isTold_16 ?_
  refine lv_iload_n hx hb dX4_isTold_19 rfl (lv_at hl 2 rfl) ?_
  obtain ⟨t38, h39, hf⟩ := bd_some hf
  refine vp_callSi (va_runV (As := [.int y1]) (rest := []) F (c_X3_isOn l D cy (H := _) hw.1 v_b36 h39) (cwV 1 hts gX4_isTold_X3_isOn rfl rfl rfl ⟨rfl, ph_X3_isOn.1, ph_X3_isOn.2, pd_X3_isOn⟩ ⟨Nat.le_of_ble_eq_true rfl, Nat.le_of_ble_eq_true rfl⟩) ⟨PcR.bl, (q_rcv hK hw.1 v_b36.1 (pF_3 (S := S) v_b36.2) rfl), PcR.in hK⟩ rfl rfl hl.1 rfl (lv_room (Nat.le_of_ble_eq_true rfl)) dX4_isTold_20 ⟨Nat.zero_le _, Nat.zero_le _⟩).run (fun r40 er40 => ?_)
  subst r40
  refine lv_if_eq (tgt := 60) hx hb dX4_isTold_23 (by decide) (fun c41 => ?_) (fun c41 => ?_)
  · have hf := it_t c41 hf
    exact hB60 S _ _ _ (lv_sub hl [] rfl) hw hE  hf
  · have hf := it_f c41 hf
    refine lv_aload_n hx hb dX4_isTold_26 rfl (lv_at hl 1 rfl) ?_
    obtain ⟨b42, e43, v_b42, hf⟩ := rq_some hf
    refine q_get F hK hw.1 v_y0.1 (pF_4 (S := S) v_y0.2) (fun w h => List.mem_cons_of_mem _ (List.mem_append_left _ (List.mem_append_left _ (List.mem_append_left _ (List.mem_append_right _ h))))) rfl 0 (by decide) (hts (.fieldLink RX4 17 "SharedModuli" "now" "LSharedModuli$State;") (List.mem_of_getElem? (i := 1) rfl)) (v := .ref b42) (congrArg (fun z => some (va_rf z)) e43) dX4_isTold_27 ?_
    refine lv_iload_n hx hb dX4_isTold_30 rfl (lv_at hl 0 rfl) ?_
    obtain ⟨t44, h45, hf⟩ := bd_some hf
    refine vp_callSi (va_runV (As := [.int ((fI S 52 b31) &&& (t33 ^^^ ((-1) : Int32)))]) (rest := []) F (c_X3_arePossible l D cy (H := _) hw.1 v_b42 h45) (cwV 1 hts gX4_isTold_X3_arePossible rfl rfl rfl ⟨rfl, ph_X3_arePossible.1, ph_X3_arePossible.2, pd_X3_arePossible⟩ ⟨Nat.le_of_ble_eq_true rfl, Nat.le_of_ble_eq_true rfl⟩) ⟨PcR.bl, (q_rcv hK hw.1 v_b42.1 (pF_3 (S := S) v_b42.2) rfl), PcR.in hK⟩ rfl rfl hl.1 rfl (lv_room (Nat.le_of_ble_eq_true rfl)) dX4_isTold_31 ⟨Nat.zero_le _, Nat.zero_le _⟩).run (fun r46 er46 => ?_)
    subst r46
    refine lv_if_eq (tgt := 60) hx hb dX4_isTold_34 (by decide) (fun c47 => ?_) (fun c47 => ?_)
    · have hf := it_t c47 hf
      exact hB60 S _ _ _ (lv_sub hl [] rfl) hw hE  hf
    · have hf := it_f c47 hf
      refine lv_aload_n hx hb dX4_isTold_37 rfl (lv_at hl 1 rfl) ?_
      refine lv_iload_n hx hb dX4_isTold_38 rfl (lv_at hl 0 rfl) ?_
      obtain ⟨t48, h49, hf⟩ := bd_some hf
      refine q_callr (va_runV (As := [.int ((fI S 52 b31) &&& (t33 ^^^ ((-1) : Int32)))]) (rest := []) F (c_X4_join l D cy (S := S) v_y0 h49) (cwV 1 hts gX4_isTold_X4_join rfl rfl rfl ⟨rfl, ph_X4_join.1, ph_X4_join.2, pd_X4_join⟩ ⟨Nat.le_of_ble_eq_true rfl, Nat.le_of_ble_eq_true rfl⟩) ⟨PcW.bl, (q_rcv hK hw.1 v_y0.1 (pF_4 (S := S) v_y0.2) rfl), PcW.in hK hw hA (fun z => z.elim)⟩ rfl rfl hl.1 rfl (lv_room (Nat.le_of_ble_eq_true rfl)) dX4_isTold_39 ⟨Nat.zero_le _, Nat.zero_le _⟩) hw hA (fun H locs hw hX v_t48 => ?_)
      have hE := hE.tr hX
      have v_y0 := hX _ _ v_y0
      have v_b31 := hX _ _ v_b31
      have v_b36 := hX _ _ v_b36
      have v_b42 := hX _ _ v_b42
      refine lv_aload_n hx hb dX4_isTold_42 rfl (lv_at hl 1 rfl) ?_
      obtain ⟨b50, e51, v_b50, hf⟩ := rq_some hf
      refine q_get F hK hw.1 v_y0.1 (pF_4 (S := t48.2) v_y0.2) (fun w h => List.mem_cons_of_mem _ (List.mem_append_left _ (List.mem_append_left _ (List.mem_append_left _ (List.mem_append_right _ h))))) rfl 0 (by decide) (hts (.fieldLink RX4 17 "SharedModuli" "now" "LSharedModuli$State;") (List.mem_of_getElem? (i := 1) rfl)) (v := .ref b50) (congrArg (fun z => some (va_rf z)) e51) dX4_isTold_43 ?_
      refine lv_iload_n hx hb dX4_isTold_46 rfl (lv_at hl 2 rfl) ?_
      obtain ⟨t52, h53, hf⟩ := bd_some hf
      refine va_csr (va_runV (As := [.int y1]) (rest := [.ref t48.1]) F (c_X3_at l D cy (H := _) hw.1 v_b50 h53) (cwV 1 hts gX4_isTold_X3_at rfl rfl rfl ⟨rfl, ph_X3_at.1, ph_X3_at.2, pd_X3_at⟩ ⟨Nat.le_of_ble_eq_true rfl, Nat.le_of_ble_eq_true rfl⟩) ⟨PcR.bl, (q_rcv hK hw.1 v_b50.1 (pF_3 (S := t48.2) v_b50.2) rfl), PcR.in hK⟩ rfl rfl hl.1 rfl (lv_room (Nat.le_of_ble_eq_true rfl)) dX4_isTold_47 ⟨Nat.zero_le _, Nat.zero_le _⟩).run (fun r54 er54 => ?_)
      obtain ⟨er54, v_t52⟩ := er54
      subst r54
      obtain ⟨t55, h56, hf⟩ := bd_some hf
      refine vp_callSi (va_runV (As := [.ref t52]) (rest := []) F (c_X1_tells l D cy (H := _) hw.1 v_t48 v_t52 h56) (cwV 1 hts gX4_isTold_X1_tells rfl rfl rfl ⟨rfl, ph_X1_tells.1, ph_X1_tells.2, pd_X1_tells⟩ ⟨Nat.le_of_ble_eq_true rfl, Nat.le_of_ble_eq_true rfl⟩) ⟨PcR.bl, (q_rcv hK hw.1 v_t48.1 (pF_1 (S := t48.2) v_t48.2) rfl), PcR.in hK⟩ rfl rfl hl.1 rfl (lv_room (Nat.le_of_ble_eq_true rfl)) dX4_isTold_50 ⟨Nat.zero_le _, Nat.zero_le _⟩).run (fun r57 er57 => ?_)
      subst r57
      refine lv_if_eq (tgt := 60) hx hb dX4_isTold_53 (by decide) (fun c58 => ?_) (fun c58 => ?_)
      · have hf := it_t c58 hf
        exact hB60 t48.2 _ _ _ (lv_sub hl [] rfl) hw hE  hf
      · have hf := it_f c58 hf
        refine lv_iconst (v := 1) hx hb dX4_isTold_56 (by decide) ?_
        refine lv_goto (tgt := 61) hx hb dX4_isTold_57 (by decide) ?_
        exact hB61 t48.2 _ _ 1 _ (lv_sub hl [] rfl) hw hE  hf
def f_X4_thin_B81 (S : PS) (x1 : Int32) : Option ((Int32 ⊕ Nat) × PS) :=
  some (.inl x1, S)
def f_X4_thin_B75 (kL35 : PS → Nat → Int32 → Int32 → Option ((Int32 ⊕ Nat) × PS)) (ke81 : PS → Int32 → Option ((Int32 ⊕ Nat) × PS)) (S : PS) (x0 : Nat) (x1 : Int32) (x2 : Int32) : Option ((Int32 ⊕ Nat) × PS) :=
  kL35 S x0 x1 (x2 + 1)
def f_X4_thin_L35s (kL35 : PS → Nat → Int32 → Int32 → Option ((Int32 ⊕ Nat) × PS)) (ke81 : PS → Int32 → Option ((Int32 ⊕ Nat) × PS)) (S : PS) (x0 : Nat) (x1 : Int32) (x2 : Int32) : Option ((Int32 ⊕ Nat) × PS) :=
  rq (fR S 64 x0) S 3 fun b1 =>
  if (fI S 51 b1) ≤ x2 then (ke81 S x1) else
  bd (f_X4_isTold S x0 x2) fun t4 =>
  if t4.1 = 0 then (f_X4_thin_B75 kL35 ke81 t4.2 x0 x1 x2) else
  rq (fR t4.2 64 x0) t4.2 3 fun b7 =>
  bd (f_X4_bit x2) fun t9 =>
  f_X4_thin_B75 kL35 ke81 (sI t4.2 52 b7 ((fI t4.2 52 b7) &&& (t9 ^^^ ((-1) : Int32)))) x0 (x1 + 1) x2
def f_X4_thin_L35 (ke81 : PS → Int32 → Option ((Int32 ⊕ Nat) × PS)) (fu : Nat) : PS → Nat → Int32 → Int32 → Option ((Int32 ⊕ Nat) × PS) := fx (fun kL => f_X4_thin_L35s kL ke81) (fun _ _ _ _ => none) fu
def f_X4_thin (S : PS) (x0 : Nat) : Option ((Int32 ⊕ Nat) × PS) :=
  rq (fR S 64 x0) S 3 fun b12 =>
  rq (fR S 64 x0) S 3 fun b14 =>
  bd (f_X3_arePossible S b12 (fI S 52 b14)) fun t16 =>
  if t16 = 0 then (some (.inr 1, S)) else
  bd (f_X4_save S x0) fun t20 =>
  f_X4_thin_L35 f_X4_thin_B81 11 t20 x0 0 0
set_option maxHeartbeats 4000000 in
set_option maxRecDepth 100000 in
theorem c_X4_thin (l : Launch) (hst : l.stackTraces = false) (D : va_G) (cy : cyT) {S : PS} {n : Nat} {y0 : Nat} (v_y0 : vd S y0 4) {res : (Int32 ⊕ Nat) × PS} (hf : f_X4_thin S y0 = some res) : vx_Met l yX4_thin wsX4_thin ({ frames := 6, cells := 1, slots := 6, locals := 111 } : Room) (PcW True D cy S n [.ref y0]) (va_Qi (fun (r : Int32) (u : PS × Nat) => Sum.inl r = res.1 ∧ u = (res.2, n)) (BW D cy S n) (AA cy S n)) (vx_X (fun k : Nat => res.1 = .inr k) (fun E k t => XO D cy S n res.2 E k t) (AA cy S n)) 1 6 (AA cy S n) := by
  refine vx_ofW (cc := cX4_thin) (maxL := 3) (ret := (some .int)) (by decide) rfl ?_
  intro p e s m args below meth c s₁ B hml hex hv
  obtain ⟨hav, hsz, hP0, hD0, hK, hZ0⟩ := hv
  have hx := B.exec
  have hb := B.bytes
  have hr := B.returns
  have hts := atoms_spec (ws := wsX4_thin) B.pre
  have hown : s.vm.findClass RX4 = some m.cls := findClass_of_methodNamed B.named
  have hlocks := B.notSynchronized
  subst hav
  have hw : Hw D cy (AA cy S n) s.heap S n s.heap [] := Hw.start hsz hP0 hD0
  have hA : ∀ q, s.heap.size ≤ q → AA cy S n q := fun q h => Or.inr (hsz ▸ h)
  have hE : EX S S := EX.rf
  have hZ := hZ0 trivial
  have F : CallFix p m c cX4_thin 3 s _ wsX4_thin RX4 := ⟨hx, hb, hml, hown, hts⟩
  have hB81 : ∀ (Sb : PS) (H1 : Heap) (lo1 : List Loc) (kc ks : Nat) (_ : kc + 0 ≤ 1) (_ : ks + 0 ≤ 6) (x1 : Int32) (ls : Array Slot), lv_has ls 3 [(1, .int x1)] → Hw D cy (AA cy S n) s.heap Sb n H1 lo1 → EX S Sb → f_X4_thin_B81 Sb x1 = some res → W p l e (headSpec wsX4_thin ({ frames := 6, cells := 1, slots := 6, locals := 111 } : Room)).room s m ([.ref y0] : List Value).toArray below meth c H1 lo1 kc ks (vx_MQ below (va_Qi (fun (r : Int32) (u : PS × Nat) => Sum.inl r = res.1 ∧ u = (res.2, n)) (BW D cy S n) (AA cy S n)) (vx_X (fun k : Nat => res.1 = .inr k) (fun E k t => XO D cy S n res.2 E k t) (AA cy S n)) ([.ref y0] : List Value).toArray s 1 6 (AA cy S n)) (F0 m 81 ls []) := by
    intro Sb H1 lo1 kc ks hkc hks x1 ls hl hw hE hf
    unfold f_X4_thin_B81 at hf
    refine lv_iload_n hx hb dX4_thin_81 rfl (lv_at hl 0 rfl) ?_
    refine vx_ret ?_
    refine W.widen (k := 1) (n := 6) (by omega) (by omega) ?_
    exact W.iret (v := x1) hx hb hr (fun t ht hW => ⟨⟨_, (Sb, n), rfl, po2t hf, BW.of hw hE ht⟩, hw.2.2.1.F ht⟩) hw.2.2.1.2.2 dX4_thin_82
  have hL35 : ∀ (fu35 : Nat), ∀ (Sb : PS) (H1 : Heap) (lo1 : List Loc) (kc ks : Nat) (_ : kc + (fu35 * 0 + 0) ≤ 1) (_ : ks + (fu35 * 0 + 0) ≤ 6) (x0 : Nat) (x1 : Int32) (x2 : Int32) (ls : Array Slot), lv_has ls 3 [(0, .ref x0), (1, .int x1), (2, .int x2)] → Hw D cy (AA cy S n) s.heap Sb n H1 lo1 → EX S Sb → vd Sb x0 4 → f_X4_thin_L35 f_X4_thin_B81 fu35 Sb x0 x1 x2 = some res → W p l e (headSpec wsX4_thin ({ frames := 6, cells := 1, slots := 6, locals := 111 } : Room)).room s m ([.ref y0] : List Value).toArray below meth c H1 lo1 kc ks (vx_MQ below (va_Qi (fun (r : Int32) (u : PS × Nat) => Sum.inl r = res.1 ∧ u = (res.2, n)) (BW D cy S n) (AA cy S n)) (vx_X (fun k : Nat => res.1 = .inr k) (fun E k t => XO D cy S n res.2 E k t) (AA cy S n)) ([.ref y0] : List Value).toArray s 1 6 (AA cy S n)) (F0 m 35 ls []) := by
    intro fu35
    induction fu35 with
    | zero =>
      intro Sb H1 lo1 kc ks hkc hks x0 x1 x2 ls hl hw hE v_x0 hf
      have hf : (none : Option ((Int32 ⊕ Nat) × PS)) = some res := hf
      cases hf
    | succ fu35 ih35 =>
      have hB75 : ∀ (Sb : PS) (H1 : Heap) (lo1 : List Loc) (kc ks : Nat) (_ : kc + (0 + fu35 * 0 + 0) ≤ 1) (_ : ks + (0 + fu35 * 0 + 0) ≤ 6) (x0 : Nat) (x1 : Int32) (x2 : Int32) (ls : Array Slot), lv_has ls 3 [(0, .ref x0), (1, .int x1), (2, .int x2)] → Hw D cy (AA cy S n) s.heap Sb n H1 lo1 → EX S Sb → vd Sb x0 4 → f_X4_thin_B75 (f_X4_thin_L35 f_X4_thin_B81 fu35) f_X4_thin_B81 Sb x0 x1 x2 = some res → W p l e (headSpec wsX4_thin ({ frames := 6, cells := 1, slots := 6, locals := 111 } : Room)).room s m ([.ref y0] : List Value).toArray below meth c H1 lo1 kc ks (vx_MQ below (va_Qi (fun (r : Int32) (u : PS × Nat) => Sum.inl r = res.1 ∧ u = (res.2, n)) (BW D cy S n) (AA cy S n)) (vx_X (fun k : Nat => res.1 = .inr k) (fun E k t => XO D cy S n res.2 E k t) (AA cy S n)) ([.ref y0] : List Value).toArray s 1 6 (AA cy S n)) (F0 m 75 ls []) := by
        intro Sb H1 lo1 kc ks hkc hks x0 x1 x2 ls hl hw hE v_x0 hf
        unfold f_X4_thin_B75 at hf
        refine lv_iinc (v := x2 + 1) (lv' := [(2, .int (x2 + 1)), (0, .ref x0), (1, .int x1)]) hx hb dX4_thin_75 hl (k := 2) rfl (by rfl) (by decide) rfl (fun ls hl => ?_)
        refine lv_goto (tgt := 35) hx hb dX4_thin_78 (by decide) ?_
        exact ih35 Sb _ _ _ _ (by omega) (by omega) x0 x1 (x2 + 1) _ (lv_sub hl [1, 2, 0] rfl) hw hE v_x0 hf
      intro Sb H1 lo1 kc ks hkc hks x0 x1 x2 ls hl hw hE v_x0 hf
      have hf : f_X4_thin_L35s (f_X4_thin_L35 f_X4_thin_B81 fu35) f_X4_thin_B81 Sb x0 x1 x2 = some res := hf
      unfold f_X4_thin_L35s at hf
      refine lv_iload_n hx hb dX4_thin_35 rfl (lv_at hl 2 rfl) ?_
      refine lv_aload_n hx hb dX4_thin_36 rfl (lv_at hl 0 rfl) ?_
      obtain ⟨b22, e23, v_b22, hf⟩ := rq_some hf
      refine q_get F hK hw.1 v_x0.1 (pF_4 (S := Sb) v_x0.2) (fun w h => List.mem_cons_of_mem _ (List.mem_append_left _ (List.mem_append_left _ (List.mem_append_left _ (List.mem_append_left _ (List.mem_append_right _ h)))))) rfl 0 (by decide) (hts (.fieldLink RX4 17 "SharedModuli" "now" "LSharedModuli$State;") (List.mem_of_getElem? (i := 3) rfl)) (v := .ref b22) (congrArg (fun z => some (va_rf z)) e23) dX4_thin_37 ?_
      refine q_getN F hK hw.1 v_b22.1 (pF_3 (S := Sb) v_b22.2) (fun w h => List.mem_cons_of_mem _ (List.mem_append_left _ (List.mem_append_left _ (List.mem_append_left _ (List.mem_append_right _ h))))) rfl 3 (by decide) (nk_f_RX4_95 hK.2.1) (v := .int (fI Sb 51 b22)) rfl dX4_thin_40 ?_
      refine lv_icmp_ge (tgt := 81) hx hb dX4_thin_43 (by decide) (fun c24 => ?_) (fun c24 => ?_)
      · have hf := it_t c24 hf
        exact hB81 Sb _ _ _ _ (by omega) (by omega) x1 _ (lv_sub hl [1] rfl) hw hE  hf
      · have hf := it_f c24 hf
        refine lv_aload_n hx hb dX4_thin_46 rfl (lv_at hl 0 rfl) ?_
        refine lv_iload_n hx hb dX4_thin_47 rfl (lv_at hl 2 rfl) ?_
        obtain ⟨t25, h26, hf⟩ := bd_some hf
        refine q_calli (va_runV (As := [.int x2]) (rest := []) F (c_X4_isTold l D cy (S := Sb) v_x0 h26) (cwV 1 hts gX4_thin_X4_isTold rfl rfl rfl ⟨rfl, ph_X4_isTold.1, ph_X4_isTold.2, pd_X4_isTold⟩ ⟨Nat.le_of_ble_eq_true rfl, Nat.le_of_ble_eq_true rfl⟩) ⟨PcW.bl, (q_rcv hK hw.1 v_x0.1 (pF_4 (S := Sb) v_x0.2) rfl), PcW.in hK hw hA (fun z => z.elim)⟩ rfl rfl hl.1 rfl (lv_room (Nat.le_of_ble_eq_true rfl)) dX4_thin_48 ⟨by show _ ≤ 1; omega, by show _ ≤ 6; omega⟩) hw hA (fun H locs hw hX => ?_)
        have hE := hE.tr hX
        have v_x0 := hX _ _ v_x0
        have v_b22 := hX _ _ v_b22
        refine lv_if_eq (tgt := 75) hx hb dX4_thin_51 (by decide) (fun c27 => ?_) (fun c27 => ?_)
        · have hf := it_t c27 hf
          exact hB75 t25.2 _ _ _ _ (by omega) (by omega) x0 x1 x2 _ (lv_sub hl [0, 1, 2] rfl) hw hE v_x0 hf
        · have hf := it_f c27 hf
          refine lv_aload_n hx hb dX4_thin_54 rfl (lv_at hl 0 rfl) ?_
          obtain ⟨b28, e29, v_b28, hf⟩ := rq_some hf
          refine q_get F hK hw.1 v_x0.1 (pF_4 (S := t25.2) v_x0.2) (fun w h => List.mem_cons_of_mem _ (List.mem_append_left _ (List.mem_append_left _ (List.mem_append_left _ (List.mem_append_left _ (List.mem_append_right _ h)))))) rfl 0 (by decide) (hts (.fieldLink RX4 17 "SharedModuli" "now" "LSharedModuli$State;") (List.mem_of_getElem? (i := 3) rfl)) (v := .ref b28) (congrArg (fun z => some (va_rf z)) e29) dX4_thin_55 ?_
          refine lv_dup hx hb dX4_thin_58 rfl ?_
          refine q_getN F hK hw.1 v_b28.1 (pF_3 (S := t25.2) v_b28.2) (fun w h => List.mem_cons_of_mem _ (List.mem_append_left _ (List.mem_append_left _ (List.mem_append_left _ (List.mem_append_right _ h))))) rfl 4 (by decide) (nk_f_RX4_98 hK.2.1) (v := .int (fI t25.2 52 b28)) rfl dX4_thin_59 ?_
          refine lv_iload_n hx hb dX4_thin_62 rfl (lv_at hl 2 rfl) ?_
          obtain ⟨t30, h31, hf⟩ := bd_some hf
          refine vp_callSi (va_runS (As := [.int x2]) (rest := [.int (fI t25.2 52 b28), .ref b28]) F (c_X4_bit l D cy (H := _)  h31) (va_cwS 1 hts gX4_thin_X4_bit rfl rfl rfl ⟨ph_X4_bit.1, ph_X4_bit.2, pd_X4_bit⟩ ⟨Nat.le_of_ble_eq_true rfl, Nat.le_of_ble_eq_true rfl⟩) ⟨PcR.bl, PcR.in hK⟩ rfl rfl hl.1 rfl (lv_room (Nat.le_of_ble_eq_true rfl)) dX4_thin_63 ⟨by show _ ≤ 1; omega, by show _ ≤ 6; omega⟩).run (fun r32 er32 => ?_)
          subst r32
          refine lv_iconst (v := (-1)) hx hb dX4_thin_66 (by decide) ?_
          refine lv_ixor hx hb dX4_thin_67 ?_
          refine lv_iand hx hb dX4_thin_68 ?_
          refine q_putN F hK hw v_b28.1 (pF_3 (S := t25.2) v_b28.2) (fun w h => List.mem_cons_of_mem _ (List.mem_append_left _ (List.mem_append_left _ (List.mem_append_left _ (List.mem_append_right _ h))))) tyX3 tyX3_ok nmX3 rfl 4 (by decide) (nk_f_RX4_98 hK.2.1) rfl (tyX3_ok 4 (by decide)) rfl rfl (Nat.le_of_ble_eq_true rfl) (S1 := sI t25.2 52 b28 ((fI t25.2 52 b28) &&& (t30 ^^^ ((-1) : Int32)))) (st_52 (S := t25.2) v_b28.2 ((fI t25.2 52 b28) &&& (t30 ^^^ ((-1) : Int32)))) dX4_thin_69 (fun H locs hw => ?_)
          refine lv_iinc (v := x1 + 1) (lv' := [(1, .int (x1 + 1)), (0, .ref x0), (2, .int x2)]) hx hb dX4_thin_72 hl (k := 1) rfl (by rfl) (by decide) rfl (fun ls hl => ?_)
          exact hB75 (sI t25.2 52 b28 ((fI t25.2 52 b28) &&& (t30 ^^^ ((-1) : Int32)))) _ _ _ _ (by omega) (by omega) x0 (x1 + 1) x2 _ (lv_sub hl [1, 0, 2] rfl) hw hE v_x0 hf
  have hl := lv_entry ([.ref y0]) (n := 3) (Nat.le_of_ble_eq_true rfl)
  rw [lg_entry_eq]
  generalize (lg_sl ([.ref y0]) ++ List.replicate (3 - (lg_sl ([.ref y0])).length) Slot.unset).toArray = ls at hl ⊢
  have hl : lv_has ls 3 [(0, .ref y0)] := hl
  unfold f_X4_thin at hf
  refine lv_aload_n hx hb dX4_thin_0 rfl (lv_at hl 0 rfl) ?_
  obtain ⟨b33, e34, v_b33, hf⟩ := rq_some hf
  refine q_get F hK hw.1 v_y0.1 (pF_4 (S := S) v_y0.2) (fun w h => List.mem_cons_of_mem _ (List.mem_append_left _ (List.mem_append_left _ (List.mem_append_left _ (List.mem_append_left _ (List.mem_append_right _ h)))))) rfl 0 (by decide) (hts (.fieldLink RX4 17 "SharedModuli" "now" "LSharedModuli$State;") (List.mem_of_getElem? (i := 3) rfl)) (v := .ref b33) (congrArg (fun z => some (va_rf z)) e34) dX4_thin_1 ?_
  refine lv_aload_n hx hb dX4_thin_4 rfl (lv_at hl 0 rfl) ?_
  obtain ⟨b35, e36, v_b35, hf⟩ := rq_some hf
  refine q_get F hK hw.1 v_y0.1 (pF_4 (S := S) v_y0.2) (fun w h => List.mem_cons_of_mem _ (List.mem_append_left _ (List.mem_append_left _ (List.mem_append_left _ (List.mem_append_left _ (List.mem_append_right _ h)))))) rfl 0 (by decide) (hts (.fieldLink RX4 17 "SharedModuli" "now" "LSharedModuli$State;") (List.mem_of_getElem? (i := 3) rfl)) (v := .ref b35) (congrArg (fun z => some (va_rf z)) e36) dX4_thin_5 ?_
  refine q_getN F hK hw.1 v_b35.1 (pF_3 (S := S) v_b35.2) (fun w h => List.mem_cons_of_mem _ (List.mem_append_left _ (List.mem_append_left _ (List.mem_append_left _ (List.mem_append_right _ h))))) rfl 4 (by decide) (nk_f_RX4_98 hK.2.1) (v := .int (fI S 52 b35)) rfl dX4_thin_8 ?_
  obtain ⟨t37, h38, hf⟩ := bd_some hf
  refine vp_callSi (va_runV (As := [.int (fI S 52 b35)]) (rest := []) F (c_X3_arePossible l D cy (H := _) hw.1 v_b33 h38) (cwV 1 hts gX4_thin_X3_arePossible rfl rfl rfl ⟨rfl, ph_X3_arePossible.1, ph_X3_arePossible.2, pd_X3_arePossible⟩ ⟨Nat.le_of_ble_eq_true rfl, Nat.le_of_ble_eq_true rfl⟩) ⟨PcR.bl, (q_rcv hK hw.1 v_b33.1 (pF_3 (S := S) v_b33.2) rfl), PcR.in hK⟩ rfl rfl hl.1 rfl (lv_room (Nat.le_of_ble_eq_true rfl)) dX4_thin_11 ⟨by show _ ≤ 1; omega, by show _ ≤ 6; omega⟩).run (fun r39 er39 => ?_)
  subst r39
  refine lv_if_ne (tgt := 27) hx hb dX4_thin_14 (by decide) (fun c40 => ?_) (fun c40 => ?_)
  · have hf := it_f c40 hf
    refine lv_aload_n hx hb dX4_thin_27 rfl (lv_at hl 0 rfl) ?_
    obtain ⟨t41, h42, hf⟩ := bd_some hf
    refine q_callv (va_runV (As := []) (rest := []) F (c_X4_save l D cy (S := S) v_y0 h42) (cwV 0 hts gX4_thin_X4_save rfl rfl rfl ⟨rfl, ph_X4_save.1, ph_X4_save.2, pd_X4_save⟩ ⟨Nat.le_of_ble_eq_true rfl, Nat.le_of_ble_eq_true rfl⟩) ⟨PcW.bl, (q_rcv hK hw.1 v_y0.1 (pF_4 (S := S) v_y0.2) rfl), PcW.in hK hw hA (fun z => z.elim)⟩ rfl rfl hl.1 rfl (lv_room (Nat.le_of_ble_eq_true rfl)) dX4_thin_28 ⟨by show _ ≤ 1; omega, by show _ ≤ 6; omega⟩) hw hA (fun H locs hw hX => ?_)
    have hE := hE.tr hX
    have v_y0 := hX _ _ v_y0
    have v_b33 := hX _ _ v_b33
    have v_b35 := hX _ _ v_b35
    refine lv_iconst (v := 0) hx hb dX4_thin_31 (by decide) ?_
    refine lv_istore_n (lv' := [(1, .int 0), (0, .ref y0)]) hx hb dX4_thin_32 rfl hl (by decide) rfl (fun ls hl => ?_)
    refine lv_iconst (v := 0) hx hb dX4_thin_33 (by decide) ?_
    refine lv_istore_n (lv' := [(2, .int 0), (1, .int 0), (0, .ref y0)]) hx hb dX4_thin_34 rfl hl (by decide) rfl (fun ls hl => ?_)
    exact hL35 11 t41 _ _ _ _ (by omega) (by omega) y0 0 0 _ (lv_sub hl [2, 1, 0] rfl) hw hE v_y0 hf
  · have hf := it_t c40 hf
    obtain ⟨sa, hsa⟩ := sk_139 hK.2.2.1
    refine vx_throwS hx hb hst (names := ["java/lang/RuntimeException", "java/lang/Exception"]) hown (by decide +kernel) (by decide +kernel) (hts (.classLink RX4 70 "java/lang/IllegalStateException") (List.mem_of_getElem? (i := 1) rfl)) (hts (.initialized "java/lang/IllegalStateException") (List.mem_of_getElem? (i := 2) rfl)) hsa (vx_hat (B := xb_74) (fun w h => hts w (List.mem_cons_of_mem _ (List.mem_append_right _ h))) xn_74 (xk_74 hK.2.2.2.2.2)) xg_74 hZ.1 hZ.2.1 hw.2.2.1 (hl.1.trans hml.symm) dX4_thin_17 dX4_thin_20 dX4_thin_21 dX4_thin_23 dX4_thin_26 (fun x h => (hex x h).elim) (Nat.le_of_ble_eq_true rfl) (Nat.le_of_ble_eq_true rfl) (by show _ ≤ 1; omega) (by show _ ≤ 6; omega) hlocks (fun t hvm hz hk => ?_) hw.2.2.1.2.2 (by omega) (by omega)
    exact xo_of hw hE hz hk (by show (_ : String) = _; rfl) (po2x hf).1 (po2x hf).2
def f_X4_most_B54 (S : PS) (x1 : Int32) : Option Int32 :=
  some x1
def f_X4_most_B48 (S : PS) (kL6 : Nat → Int32 → Int32 → Int32 → Option Int32) (ke54 : Int32 → Option Int32) (x0 : Nat) (x1 : Int32) (x2 : Int32) (x3 : Int32) : Option Int32 :=
  kL6 x0 x1 x2 (x3 + 1)
def f_X4_most_L6s (S : PS) (kL6 : Nat → Int32 → Int32 → Int32 → Option Int32) (ke54 : Int32 → Option Int32) (x0 : Nat) (x1 : Int32) (x2 : Int32) (x3 : Int32) : Option Int32 :=
  rq (fR S 64 x0) S 3 fun b1 =>
  bd (f_X4_bit (fI S 51 b1)) fun t3 =>
  if t3 ≤ x3 then (ke54 x1) else
  bd (f_J6_bitCount_0f7a4 x3) fun t7 =>
  if t7 ≤ x2 then (f_X4_most_B48 S kL6 ke54 x0 x1 x2 x3) else
  rq (fR S 64 x0) S 3 fun b11 =>
  bd (f_X3_arePossible S b11 x3) fun t13 =>
  if t13 = 0 then (f_X4_most_B48 S kL6 ke54 x0 x1 x2 x3) else
  f_X4_most_B48 S kL6 ke54 x0 x3 t7 x3
def f_X4_most_L6 (S : PS) (ke54 : Int32 → Option Int32) (fu : Nat) : Nat → Int32 → Int32 → Int32 → Option Int32 := fx (fun kL => f_X4_most_L6s S kL ke54) (fun _ _ _ _ => none) fu
def f_X4_most (S : PS) (x0 : Nat) : Option Int32 :=
  f_X4_most_L6 S (f_X4_most_B54 S) FU x0 0 0 1
set_option maxHeartbeats 4000000 in
set_option maxRecDepth 100000 in
theorem c_X4_most (l : Launch) (D : va_G) (cy : cyT) {H : Heap} {S : PS} (hP : va_P D vwCl (wl cy S) H) {y0 : Nat} (v_y0 : vd S y0 4) {res : Int32} (hf : f_X4_most S y0 = some res) : Met l yX4_most wsX4_most ({ frames := 2, cells := 0, slots := 0, locals := 43 } : Room) (PcR D cy H [.ref y0]) (vp_Si (fun r => r = res)) 0 0 (fun _ => False) := by
  refine Met.ofW (cc := cX4_most) (maxL := 5) (ret := (some .int)) (by decide) rfl ?_
  intro p e s m args below meth c s₁ B hml hv
  obtain ⟨hav, hH, hK⟩ := hv
  have hx := B.exec
  have hb := B.bytes
  have hr := B.returns
  have hts := atoms_spec (ws := wsX4_most) B.pre
  have hown : s.vm.findClass RX4 = some m.cls := findClass_of_methodNamed B.named
  have hlocks := B.notSynchronized
  subst hav
  subst hH
  have F : CallFix p m c cX4_most 5 s _ wsX4_most RX4 := ⟨hx, hb, hml, hown, hts⟩
  have hB54 : ∀ (x1 : Int32) (ls : Array Slot), lv_has ls 5 [(1, .int x1)] → f_X4_most_B54 S x1 = some res → W p l e (headSpec wsX4_most ({ frames := 2, cells := 0, slots := 0, locals := 43 } : Room)).room s m ([.ref y0] : List Value).toArray below meth c s.heap [] 0 0 (MQ below (vp_Si (fun r => r = res)) ([.ref y0] : List Value).toArray s 0 0 (fun _ => False)) (F0 m 54 ls []) := by
    intro x1 ls hl hf
    unfold f_X4_most_B54 at hf
    refine lv_iload_n hx hb dX4_most_54 rfl (lv_at hl 0 rfl) ?_
    exact W.iret (v := x1) hx hb hr (fun t ht hW => ⟨_, rfl, Option.some.inj hf, ht⟩) (fun _ h => by cases h) dX4_most_55
  have hL6 : ∀ (fu6 : Nat), ∀ (x0 : Nat) (x1 : Int32) (x2 : Int32) (x3 : Int32) (ls : Array Slot), lv_has ls 5 [(0, .ref x0), (1, .int x1), (2, .int x2), (3, .int x3)] → vd S x0 4 → f_X4_most_L6 S (f_X4_most_B54 S) fu6 x0 x1 x2 x3 = some res → W p l e (headSpec wsX4_most ({ frames := 2, cells := 0, slots := 0, locals := 43 } : Room)).room s m ([.ref y0] : List Value).toArray below meth c s.heap [] 0 0 (MQ below (vp_Si (fun r => r = res)) ([.ref y0] : List Value).toArray s 0 0 (fun _ => False)) (F0 m 6 ls []) := by
    intro fu6
    induction fu6 with
    | zero =>
      intro x0 x1 x2 x3 ls hl v_x0 hf
      have hf : (none : Option Int32) = some res := hf
      cases hf
    | succ fu6 ih6 =>
      have hB48 : ∀ (x0 : Nat) (x1 : Int32) (x2 : Int32) (x3 : Int32) (ls : Array Slot), lv_has ls 5 [(0, .ref x0), (1, .int x1), (2, .int x2), (3, .int x3)] → vd S x0 4 → f_X4_most_B48 S (f_X4_most_L6 S (f_X4_most_B54 S) fu6) (f_X4_most_B54 S) x0 x1 x2 x3 = some res → W p l e (headSpec wsX4_most ({ frames := 2, cells := 0, slots := 0, locals := 43 } : Room)).room s m ([.ref y0] : List Value).toArray below meth c s.heap [] 0 0 (MQ below (vp_Si (fun r => r = res)) ([.ref y0] : List Value).toArray s 0 0 (fun _ => False)) (F0 m 48 ls []) := by
        intro x0 x1 x2 x3 ls hl v_x0 hf
        unfold f_X4_most_B48 at hf
        refine lv_iinc (v := x3 + 1) (lv' := [(3, .int (x3 + 1)), (0, .ref x0), (1, .int x1), (2, .int x2)]) hx hb dX4_most_48 hl (k := 3) rfl (by rfl) (by decide) rfl (fun ls hl => ?_)
        refine lv_goto (tgt := 6) hx hb dX4_most_51 (by decide) ?_
        exact ih6 x0 x1 x2 (x3 + 1) _ (lv_sub hl [1, 2, 3, 0] rfl) v_x0 hf
      intro x0 x1 x2 x3 ls hl v_x0 hf
      have hf : f_X4_most_L6s S (f_X4_most_L6 S (f_X4_most_B54 S) fu6) (f_X4_most_B54 S) x0 x1 x2 x3 = some res := hf
      unfold f_X4_most_L6s at hf
      refine lv_iload_n hx hb dX4_most_6 rfl (lv_at hl 3 rfl) ?_
      refine lv_aload_n hx hb dX4_most_7 rfl (lv_at hl 0 rfl) ?_
      obtain ⟨b17, e18, v_b17, hf⟩ := rq_some hf
      refine q_get F hK hP v_x0.1 (pF_4 (S := S) v_x0.2) (fun w h => List.mem_cons_of_mem _ (List.mem_append_left _ (List.mem_append_right _ h))) rfl 0 (by decide) (hts (.fieldLink RX4 17 "SharedModuli" "now" "LSharedModuli$State;") (List.mem_of_getElem? (i := 1) rfl)) (v := .ref b17) (congrArg (fun z => some (va_rf z)) e18) dX4_most_8 ?_
      refine q_getN F hK hP v_b17.1 (pF_3 (S := S) v_b17.2) (fun w h => List.mem_cons_of_mem _ (List.mem_append_right _ h)) rfl 3 (by decide) (nk_f_RX4_95 hK.2.1) (v := .int (fI S 51 b17)) rfl dX4_most_11 ?_
      obtain ⟨t19, h20, hf⟩ := bd_some hf
      refine vp_callSi (va_runS (As := [.int (fI S 51 b17)]) (rest := [.int x3]) F (c_X4_bit l D cy (H := _)  h20) (va_cwS 1 hts gX4_most_X4_bit rfl rfl rfl ⟨ph_X4_bit.1, ph_X4_bit.2, pd_X4_bit⟩ ⟨Nat.le_of_ble_eq_true rfl, Nat.le_of_ble_eq_true rfl⟩) ⟨PcR.bl, PcR.in hK⟩ rfl rfl hl.1 rfl (lv_room (Nat.le_of_ble_eq_true rfl)) dX4_most_14 ⟨Nat.zero_le _, Nat.zero_le _⟩).run (fun r21 er21 => ?_)
      subst r21
      refine lv_icmp_ge (tgt := 54) hx hb dX4_most_17 (by decide) (fun c22 => ?_) (fun c22 => ?_)
      · have hf := it_t c22 hf
        exact hB54 x1 _ (lv_sub hl [1] rfl)  hf
      · have hf := it_f c22 hf
        refine lv_iload_n hx hb dX4_most_20 rfl (lv_at hl 3 rfl) ?_
        obtain ⟨t23, h24, hf⟩ := bd_some hf
        refine vp_callSi (va_runS (As := [.int x3]) (rest := []) F (c_J6_bitCount_0f7a4 l D cy (H := _)  h24) (va_cwS 1 hts gX4_most_J6_bitCount_0f7a4 rfl rfl rfl ⟨ph_J6_bitCount_0f7a4.1, ph_J6_bitCount_0f7a4.2, pd_J6_bitCount_0f7a4⟩ ⟨Nat.le_of_ble_eq_true rfl, Nat.le_of_ble_eq_true rfl⟩) ⟨PcR.bl, PcR.in hK⟩ rfl rfl hl.1 rfl (lv_room (Nat.le_of_ble_eq_true rfl)) dX4_most_21 ⟨Nat.zero_le _, Nat.zero_le _⟩).run (fun r25 er25 => ?_)
        subst r25
        refine lv_istore (lv' := [(4, .int t23), (0, .ref x0), (1, .int x1), (2, .int x2), (3, .int x3)]) hx hb dX4_most_24 hl (by decide) rfl (fun ls hl => ?_)
        refine lv_iload hx hb dX4_most_26 (lv_at hl 0 rfl) ?_
        refine lv_iload_n hx hb dX4_most_28 rfl (lv_at hl 3 rfl) ?_
        refine lv_icmp_le (tgt := 48) hx hb dX4_most_29 (by decide) (fun c26 => ?_) (fun c26 => ?_)
        · have hf := it_t c26 hf
          exact hB48 x0 x1 x2 x3 _ (lv_sub hl [1, 2, 3, 4] rfl) v_x0 hf
        · have hf := it_f c26 hf
          refine lv_aload_n hx hb dX4_most_32 rfl (lv_at hl 1 rfl) ?_
          obtain ⟨b27, e28, v_b27, hf⟩ := rq_some hf
          refine q_get F hK hP v_x0.1 (pF_4 (S := S) v_x0.2) (fun w h => List.mem_cons_of_mem _ (List.mem_append_left _ (List.mem_append_right _ h))) rfl 0 (by decide) (hts (.fieldLink RX4 17 "SharedModuli" "now" "LSharedModuli$State;") (List.mem_of_getElem? (i := 1) rfl)) (v := .ref b27) (congrArg (fun z => some (va_rf z)) e28) dX4_most_33 ?_
          refine lv_iload_n hx hb dX4_most_36 rfl (lv_at hl 4 rfl) ?_
          obtain ⟨t29, h30, hf⟩ := bd_some hf
          refine vp_callSi (va_runV (As := [.int x3]) (rest := []) F (c_X3_arePossible l D cy (H := _) hP v_b27 h30) (cwV 1 hts gX4_most_X3_arePossible rfl rfl rfl ⟨rfl, ph_X3_arePossible.1, ph_X3_arePossible.2, pd_X3_arePossible⟩ ⟨Nat.le_of_ble_eq_true rfl, Nat.le_of_ble_eq_true rfl⟩) ⟨PcR.bl, (q_rcv hK hP v_b27.1 (pF_3 (S := S) v_b27.2) rfl), PcR.in hK⟩ rfl rfl hl.1 rfl (lv_room (Nat.le_of_ble_eq_true rfl)) dX4_most_37 ⟨Nat.zero_le _, Nat.zero_le _⟩).run (fun r31 er31 => ?_)
          subst r31
          refine lv_if_eq (tgt := 48) hx hb dX4_most_40 (by decide) (fun c32 => ?_) (fun c32 => ?_)
          · have hf := it_t c32 hf
            exact hB48 x0 x1 x2 x3 _ (lv_sub hl [1, 2, 3, 4] rfl) v_x0 hf
          · have hf := it_f c32 hf
            refine lv_iload_n hx hb dX4_most_43 rfl (lv_at hl 4 rfl) ?_
            refine lv_istore_n (lv' := [(1, .int x3), (4, .int t23), (0, .ref x0), (2, .int x2), (3, .int x3)]) hx hb dX4_most_44 rfl hl (by decide) rfl (fun ls hl => ?_)
            refine lv_iload hx hb dX4_most_45 (lv_at hl 1 rfl) ?_
            refine lv_istore_n (lv' := [(2, .int t23), (1, .int x3), (4, .int t23), (0, .ref x0), (3, .int x3)]) hx hb dX4_most_47 rfl hl (by decide) rfl (fun ls hl => ?_)
            exact hB48 x0 x3 t23 x3 _ (lv_sub hl [3, 1, 0, 4] rfl) v_x0 hf
  have hl := lv_entry ([.ref y0]) (n := 5) (Nat.le_of_ble_eq_true rfl)
  rw [lg_entry_eq]
  generalize (lg_sl ([.ref y0]) ++ List.replicate (5 - (lg_sl ([.ref y0])).length) Slot.unset).toArray = ls at hl ⊢
  have hl : lv_has ls 5 [(0, .ref y0)] := hl
  unfold f_X4_most at hf
  refine lv_iconst (v := 0) hx hb dX4_most_0 (by decide) ?_
  refine lv_istore_n (lv' := [(1, .int 0), (0, .ref y0)]) hx hb dX4_most_1 rfl hl (by decide) rfl (fun ls hl => ?_)
  refine lv_iconst (v := 0) hx hb dX4_most_2 (by decide) ?_
  refine lv_istore_n (lv' := [(2, .int 0), (1, .int 0), (0, .ref y0)]) hx hb dX4_most_3 rfl hl (by decide) rfl (fun ls hl => ?_)
  refine lv_iconst (v := 1) hx hb dX4_most_4 (by decide) ?_
  refine lv_istore_n (lv' := [(3, .int 1), (2, .int 0), (1, .int 0), (0, .ref y0)]) hx hb dX4_most_5 rfl hl (by decide) rfl (fun ls hl => ?_)
  exact hL6 FU y0 0 0 1 _ (lv_sub hl [3, 2, 1, 0] rfl) v_y0 hf
def f_X4_agree (S : PS) (x0 : Nat) : Option ((Int32 ⊕ Nat) × PS) :=
  bd (f_X4_most S x0) fun t1 =>
  rq (fR S 64 x0) S 3 fun b4 =>
  bd (f_X3_span S b4 t1) fun t6 =>
  if t6 ≤ 1000000000000000 then (bd (f_X4_save S x0) fun t10 =>
  rq (fR t10 64 x0) t10 3 fun b12 =>
  bd (f_J6_bitCount_0f7a4 t1) fun t14 =>
  some (.inl t14, sI t10 52 b12 t1)) else
  some (.inr 1, S)
set_option maxHeartbeats 4000000 in
set_option maxRecDepth 100000 in
theorem c_X4_agree (l : Launch) (hst : l.stackTraces = false) (D : va_G) (cy : cyT) {S : PS} {n : Nat} {y0 : Nat} (v_y0 : vd S y0 4) {res : (Int32 ⊕ Nat) × PS} (hf : f_X4_agree S y0 = some res) : vx_Met l yX4_agree wsX4_agree ({ frames := 6, cells := 1, slots := 6, locals := 90 } : Room) (PcW True D cy S n [.ref y0]) (va_Qi (fun (r : Int32) (u : PS × Nat) => Sum.inl r = res.1 ∧ u = (res.2, n)) (BW D cy S n) (AA cy S n)) (vx_X (fun k : Nat => res.1 = .inr k) (fun E k t => XO D cy S n res.2 E k t) (AA cy S n)) 1 6 (AA cy S n) := by
  refine vx_ofW (cc := cX4_agree) (maxL := 2) (ret := (some .int)) (by decide) rfl ?_
  intro p e s m args below meth c s₁ B hml hex hv
  obtain ⟨hav, hsz, hP0, hD0, hK, hZ0⟩ := hv
  have hx := B.exec
  have hb := B.bytes
  have hr := B.returns
  have hts := atoms_spec (ws := wsX4_agree) B.pre
  have hown : s.vm.findClass RX4 = some m.cls := findClass_of_methodNamed B.named
  have hlocks := B.notSynchronized
  subst hav
  have hw : Hw D cy (AA cy S n) s.heap S n s.heap [] := Hw.start hsz hP0 hD0
  have hA : ∀ q, s.heap.size ≤ q → AA cy S n q := fun q h => Or.inr (hsz ▸ h)
  have hE : EX S S := EX.rf
  have hZ := hZ0 trivial
  have F : CallFix p m c cX4_agree 2 s _ wsX4_agree RX4 := ⟨hx, hb, hml, hown, hts⟩
  have hl := lv_entry ([.ref y0]) (n := 2) (Nat.le_of_ble_eq_true rfl)
  rw [lg_entry_eq]
  generalize (lg_sl ([.ref y0]) ++ List.replicate (2 - (lg_sl ([.ref y0])).length) Slot.unset).toArray = ls at hl ⊢
  have hl : lv_has ls 2 [(0, .ref y0)] := hl
  unfold f_X4_agree at hf
  refine lv_aload_n hx hb dX4_agree_0 rfl (lv_at hl 0 rfl) ?_
  obtain ⟨t17, h18, hf⟩ := bd_some hf
  refine vp_callSi (va_runV (As := []) (rest := []) F (c_X4_most l D cy (H := _) hw.1 v_y0 h18) (cwV 0 hts gX4_agree_X4_most rfl rfl rfl ⟨rfl, ph_X4_most.1, ph_X4_most.2, pd_X4_most⟩ ⟨Nat.le_of_ble_eq_true rfl, Nat.le_of_ble_eq_true rfl⟩) ⟨PcR.bl, (q_rcv hK hw.1 v_y0.1 (pF_4 (S := S) v_y0.2) rfl), PcR.in hK⟩ rfl rfl hl.1 rfl (lv_room (Nat.le_of_ble_eq_true rfl)) dX4_agree_1 ⟨by show _ ≤ 1; omega, by show _ ≤ 6; omega⟩).run (fun r19 er19 => ?_)
  subst r19
  refine lv_istore_n (lv' := [(1, .int t17), (0, .ref y0)]) hx hb dX4_agree_4 rfl hl (by decide) rfl (fun ls hl => ?_)
  refine lv_aload_n hx hb dX4_agree_5 rfl (lv_at hl 1 rfl) ?_
  obtain ⟨b20, e21, v_b20, hf⟩ := rq_some hf
  refine q_get F hK hw.1 v_y0.1 (pF_4 (S := S) v_y0.2) (fun w h => List.mem_cons_of_mem _ (List.mem_append_left _ (List.mem_append_left _ (List.mem_append_left _ (List.mem_append_right _ h))))) rfl 0 (by decide) (hts (.fieldLink RX4 17 "SharedModuli" "now" "LSharedModuli$State;") (List.mem_of_getElem? (i := 3) rfl)) (v := .ref b20) (congrArg (fun z => some (va_rf z)) e21) dX4_agree_6 ?_
  refine lv_iload_n hx hb dX4_agree_9 rfl (lv_at hl 0 rfl) ?_
  obtain ⟨t22, h23, hf⟩ := bd_some hf
  refine vp_callSl (va_runV (As := [.int t17]) (rest := []) F (c_X3_span l D cy (H := _) hw.1 v_b20 h23) (cwV 1 hts gX4_agree_X3_span rfl rfl rfl ⟨rfl, ph_X3_span.1, ph_X3_span.2, pd_X3_span⟩ ⟨Nat.le_of_ble_eq_true rfl, Nat.le_of_ble_eq_true rfl⟩) ⟨PcR.bl, (q_rcv hK hw.1 v_b20.1 (pF_3 (S := S) v_b20.2) rfl), PcR.in hK⟩ rfl rfl hl.1 rfl (lv_room (Nat.le_of_ble_eq_true rfl)) dX4_agree_10 ⟨by show _ ≤ 1; omega, by show _ ≤ 6; omega⟩).run (fun r24 er24 => ?_)
  subst r24
  refine lv_ldc2 hx hb hown (hts (.constantLong RX4 109 1000000000000000) (List.mem_of_getElem? (i := 4) rfl)) dX4_agree_13 ?_
  refine W.lcmp hx hb dX4_agree_16 ?_
  refine lv_if_le (tgt := 30) hx hb dX4_agree_17 (by decide) (fun c25 => ?_) (fun c25 => ?_)
  · have hf := it_t ((lq_le _ _).mp c25) hf
    refine lv_aload_n hx hb dX4_agree_30 rfl (lv_at hl 1 rfl) ?_
    obtain ⟨t26, h27, hf⟩ := bd_some hf
    refine q_callv (va_runV (As := []) (rest := []) F (c_X4_save l D cy (S := S) v_y0 h27) (cwV 0 hts gX4_agree_X4_save rfl rfl rfl ⟨rfl, ph_X4_save.1, ph_X4_save.2, pd_X4_save⟩ ⟨Nat.le_of_ble_eq_true rfl, Nat.le_of_ble_eq_true rfl⟩) ⟨PcW.bl, (q_rcv hK hw.1 v_y0.1 (pF_4 (S := S) v_y0.2) rfl), PcW.in hK hw hA (fun z => z.elim)⟩ rfl rfl hl.1 rfl (lv_room (Nat.le_of_ble_eq_true rfl)) dX4_agree_31 ⟨by show _ ≤ 1; omega, by show _ ≤ 6; omega⟩) hw hA (fun H locs hw hX => ?_)
    have hE := hE.tr hX
    have v_y0 := hX _ _ v_y0
    have v_b20 := hX _ _ v_b20
    refine lv_aload_n hx hb dX4_agree_34 rfl (lv_at hl 1 rfl) ?_
    obtain ⟨b28, e29, v_b28, hf⟩ := rq_some hf
    refine q_get F hK hw.1 v_y0.1 (pF_4 (S := t26) v_y0.2) (fun w h => List.mem_cons_of_mem _ (List.mem_append_left _ (List.mem_append_left _ (List.mem_append_left _ (List.mem_append_right _ h))))) rfl 0 (by decide) (hts (.fieldLink RX4 17 "SharedModuli" "now" "LSharedModuli$State;") (List.mem_of_getElem? (i := 3) rfl)) (v := .ref b28) (congrArg (fun z => some (va_rf z)) e29) dX4_agree_35 ?_
    refine lv_iload_n hx hb dX4_agree_38 rfl (lv_at hl 0 rfl) ?_
    refine q_putN F hK hw v_b28.1 (pF_3 (S := t26) v_b28.2) (fun w h => List.mem_cons_of_mem _ (List.mem_append_left _ (List.mem_append_left _ (List.mem_append_right _ h)))) tyX3 tyX3_ok nmX3 rfl 4 (by decide) (nk_f_RX4_98 hK.2.1) rfl (tyX3_ok 4 (by decide)) rfl rfl (Nat.le_of_ble_eq_true rfl) (S1 := sI t26 52 b28 t17) (st_52 (S := t26) v_b28.2 t17) dX4_agree_39 (fun H locs hw => ?_)
    refine lv_iload_n hx hb dX4_agree_42 rfl (lv_at hl 0 rfl) ?_
    obtain ⟨t30, h31, hf⟩ := bd_some hf
    refine vp_callSi (va_runS (As := [.int t17]) (rest := []) F (c_J6_bitCount_0f7a4 l D cy (H := _)  h31) (va_cwS 1 hts gX4_agree_J6_bitCount_0f7a4 rfl rfl rfl ⟨ph_J6_bitCount_0f7a4.1, ph_J6_bitCount_0f7a4.2, pd_J6_bitCount_0f7a4⟩ ⟨Nat.le_of_ble_eq_true rfl, Nat.le_of_ble_eq_true rfl⟩) ⟨PcR.bl, PcR.in hK⟩ rfl rfl hl.1 rfl (lv_room (Nat.le_of_ble_eq_true rfl)) dX4_agree_43 ⟨by show _ ≤ 1; omega, by show _ ≤ 6; omega⟩).run (fun r32 er32 => ?_)
    subst r32
    refine vx_ret ?_
    refine W.widen (k := 1) (n := 6) (by omega) (by omega) ?_
    exact W.iret (v := t30) hx hb hr (fun t ht hW => ⟨⟨_, (sI t26 52 b28 t17, n), rfl, po2t hf, BW.of hw hE ht⟩, hw.2.2.1.F ht⟩) hw.2.2.1.2.2 dX4_agree_46
  · have hf := it_f (fun z => c25 ((lq_le _ _).mpr z)) hf
    obtain ⟨sa, hsa⟩ := sk_111 hK.2.2.1
    refine vx_throwS hx hb hst (names := ["java/lang/RuntimeException", "java/lang/Exception"]) hown (by decide +kernel) (by decide +kernel) (hts (.classLink RX4 70 "java/lang/IllegalStateException") (List.mem_of_getElem? (i := 1) rfl)) (hts (.initialized "java/lang/IllegalStateException") (List.mem_of_getElem? (i := 2) rfl)) hsa (vx_hat (B := xb_74) (fun w h => hts w (List.mem_cons_of_mem _ (List.mem_append_right _ h))) xn_74 (xk_74 hK.2.2.2.2.2)) xg_74 hZ.1 hZ.2.1 hw.2.2.1 (hl.1.trans hml.symm) dX4_agree_20 dX4_agree_23 dX4_agree_24 dX4_agree_26 dX4_agree_29 (fun x h => (hex x h).elim) (Nat.le_of_ble_eq_true rfl) (Nat.le_of_ble_eq_true rfl) (by show _ ≤ 1; omega) (by show _ ≤ 6; omega) hlocks (fun t hvm hz hk => ?_) hw.2.2.1.2.2 (by omega) (by omega)
    exact xo_of hw hE hz hk (by show (_ : String) = _; rfl) (po2x hf).1 (po2x hf).2
def f_X4_append_B12 (S : PS) : Option ((Int32 ⊕ Nat) × PS) :=
  some (.inr 0, S)
def f_X4_append_B41 (S : PS) : Option ((Int32 ⊕ Nat) × PS) :=
  some (.inr 1, S)
def f_X4_append (S : PS) (x0 : Nat) (x1 : Int32) : Option ((Int32 ⊕ Nat) × PS) :=
  if x1 < 33 then (f_X4_append_B12 S) else
  if x1 ≤ 126 then (if (fI S 69 x0) < 0 then (f_X4_append_B41 S) else
  rq (fR S 68 x0) S 6 fun b4 =>
  if (fI S 69 x0) < (nI (aN S b4)) then (rq (fR S 68 x0) S 6 fun b7 =>
  ck (decide (¬ ((fI S 69 x0) < 0 ∨ aN S b7 ≤ (fI S 69 x0).toNatClampNeg))) (
  some (.inl (fI (sI (sA S b7 (fI S 69 x0) x1) 69 x0 ((fI (sA S b7 (fI S 69 x0) x1) 69 x0) + (1 : Int32))) 69 x0), sI (sA S b7 (fI S 69 x0) x1) 69 x0 ((fI (sA S b7 (fI S 69 x0) x1) 69 x0) + (1 : Int32))))) else
  f_X4_append_B41 S) else
  f_X4_append_B12 S
set_option maxHeartbeats 4000000 in
set_option maxRecDepth 100000 in
theorem c_X4_append (l : Launch) (hst : l.stackTraces = false) (D : va_G) (cy : cyT) {S : PS} {n : Nat} {y0 : Nat} {y1 : Int32} (v_y0 : vd S y0 4) {res : (Int32 ⊕ Nat) × PS} (hf : f_X4_append S y0 y1 = some res) : vx_Met l yX4_append wsX4_append ({ frames := 6, cells := 1, slots := 6, locals := 90 } : Room) (PcW True D cy S n [.ref y0, .int y1]) (va_Qi (fun (r : Int32) (u : PS × Nat) => Sum.inl r = res.1 ∧ u = (res.2, n)) (BW D cy S n) (AA cy S n)) (vx_X (fun k : Nat => res.1 = .inr k) (fun E k t => XO D cy S n res.2 E k t) (AA cy S n)) 1 6 (AA cy S n) := by
  refine vx_ofW (cc := cX4_append) (maxL := 2) (ret := (some .int)) (by decide) rfl ?_
  intro p e s m args below meth c s₁ B hml hex hv
  obtain ⟨hav, hsz, hP0, hD0, hK, hZ0⟩ := hv
  have hx := B.exec
  have hb := B.bytes
  have hr := B.returns
  have hts := atoms_spec (ws := wsX4_append) B.pre
  have hown : s.vm.findClass RX4 = some m.cls := findClass_of_methodNamed B.named
  have hlocks := B.notSynchronized
  subst hav
  have hw : Hw D cy (AA cy S n) s.heap S n s.heap [] := Hw.start hsz hP0 hD0
  have hA : ∀ q, s.heap.size ≤ q → AA cy S n q := fun q h => Or.inr (hsz ▸ h)
  have hE : EX S S := EX.rf
  have hZ := hZ0 trivial
  have F : CallFix p m c cX4_append 2 s _ wsX4_append RX4 := ⟨hx, hb, hml, hown, hts⟩
  have hB12 : ∀ (Sb : PS) (H1 : Heap) (lo1 : List Loc) (kc ks : Nat) (_ : kc + 1 ≤ 1) (_ : ks + 6 ≤ 6)  (ls : Array Slot), lv_has ls 2 [] → Hw D cy (AA cy S n) s.heap Sb n H1 lo1 → EX S Sb → f_X4_append_B12 Sb = some res → W p l e (headSpec wsX4_append ({ frames := 6, cells := 1, slots := 6, locals := 90 } : Room)).room s m ([.ref y0, .int y1] : List Value).toArray below meth c H1 lo1 kc ks (vx_MQ below (va_Qi (fun (r : Int32) (u : PS × Nat) => Sum.inl r = res.1 ∧ u = (res.2, n)) (BW D cy S n) (AA cy S n)) (vx_X (fun k : Nat => res.1 = .inr k) (fun E k t => XO D cy S n res.2 E k t) (AA cy S n)) ([.ref y0, .int y1] : List Value).toArray s 1 6 (AA cy S n)) (F0 m 12 ls []) := by
    intro Sb H1 lo1 kc ks hkc hks ls hl hw hE hf
    unfold f_X4_append_B12 at hf
    obtain ⟨sa, hsa⟩ := sk_153 hK.2.2.1
    refine vx_throwS hx hb hst (names := ["java/lang/RuntimeException", "java/lang/Exception"]) hown (by decide +kernel) (by decide +kernel) (hts (.classLink RX4 59 "java/lang/IllegalArgumentException") (List.mem_of_getElem? (i := 1) rfl)) (hts (.initialized "java/lang/IllegalArgumentException") (List.mem_of_getElem? (i := 2) rfl)) hsa (vx_hat (B := xb_63) (fun w h => hts w (List.mem_cons_of_mem _ (List.mem_append_left _ (List.mem_append_right _ h)))) xn_63 (xk_63 hK.2.2.2.2.2)) xg_63 hZ.1 hZ.2.1 hw.2.2.1 (hl.1.trans hml.symm) dX4_append_12 dX4_append_15 dX4_append_16 dX4_append_18 dX4_append_21 (fun x h => (hex x h).elim) (Nat.le_of_ble_eq_true rfl) (Nat.le_of_ble_eq_true rfl) (by show _ ≤ 1; omega) (by show _ ≤ 6; omega) hlocks (fun t hvm hz hk => ?_) hw.2.2.1.2.2 (by omega) (by omega)
    exact xo_of hw hE hz hk (by show (_ : String) = _; rfl) (po2x hf).1 (po2x hf).2
  have hB41 : ∀ (Sb : PS) (H1 : Heap) (lo1 : List Loc) (kc ks : Nat) (_ : kc + 1 ≤ 1) (_ : ks + 6 ≤ 6)  (ls : Array Slot), lv_has ls 2 [] → Hw D cy (AA cy S n) s.heap Sb n H1 lo1 → EX S Sb → f_X4_append_B41 Sb = some res → W p l e (headSpec wsX4_append ({ frames := 6, cells := 1, slots := 6, locals := 90 } : Room)).room s m ([.ref y0, .int y1] : List Value).toArray below meth c H1 lo1 kc ks (vx_MQ below (va_Qi (fun (r : Int32) (u : PS × Nat) => Sum.inl r = res.1 ∧ u = (res.2, n)) (BW D cy S n) (AA cy S n)) (vx_X (fun k : Nat => res.1 = .inr k) (fun E k t => XO D cy S n res.2 E k t) (AA cy S n)) ([.ref y0, .int y1] : List Value).toArray s 1 6 (AA cy S n)) (F0 m 41 ls []) := by
    intro Sb H1 lo1 kc ks hkc hks ls hl hw hE hf
    unfold f_X4_append_B41 at hf
    obtain ⟨sa, hsa⟩ := sk_155 hK.2.2.1
    refine vx_throwS hx hb hst (names := ["java/lang/RuntimeException", "java/lang/Exception"]) hown (by decide +kernel) (by decide +kernel) (hts (.classLink RX4 70 "java/lang/IllegalStateException") (List.mem_of_getElem? (i := 3) rfl)) (hts (.initialized "java/lang/IllegalStateException") (List.mem_of_getElem? (i := 4) rfl)) hsa (vx_hat (B := xb_74) (fun w h => hts w (List.mem_cons_of_mem _ (List.mem_append_right _ h))) xn_74 (xk_74 hK.2.2.2.2.2)) xg_74 hZ.1 hZ.2.1 hw.2.2.1 (hl.1.trans hml.symm) dX4_append_41 dX4_append_44 dX4_append_45 dX4_append_47 dX4_append_50 (fun x h => (hex x h).elim) (Nat.le_of_ble_eq_true rfl) (Nat.le_of_ble_eq_true rfl) (by show _ ≤ 1; omega) (by show _ ≤ 6; omega) hlocks (fun t hvm hz hk => ?_) hw.2.2.1.2.2 (by omega) (by omega)
    exact xo_of hw hE hz hk (by show (_ : String) = _; rfl) (po2x hf).1 (po2x hf).2
  have hl := lv_entry ([.ref y0, .int y1]) (n := 2) (Nat.le_of_ble_eq_true rfl)
  rw [lg_entry_eq]
  generalize (lg_sl ([.ref y0, .int y1]) ++ List.replicate (2 - (lg_sl ([.ref y0, .int y1])).length) Slot.unset).toArray = ls at hl ⊢
  have hl : lv_has ls 2 [(0, .ref y0), (1, .int y1)] := hl
  unfold f_X4_append at hf
  refine lv_iload_n hx hb dX4_append_0 rfl (lv_at hl 1 rfl) ?_
  refine lv_bipush (v := 33) hx hb dX4_append_1 (by decide) ?_
  refine lv_icmp_lt (tgt := 12) hx hb dX4_append_3 (by decide) (fun c10 => ?_) (fun c10 => ?_)
  · have hf := it_t c10 hf
    exact hB12 S _ _ _ _ (by omega) (by omega) _ (lv_sub hl [] rfl) hw hE  hf
  · have hf := it_f c10 hf
    refine lv_iload_n hx hb dX4_append_6 rfl (lv_at hl 1 rfl) ?_
    refine lv_bipush (v := 126) hx hb dX4_append_7 (by decide) ?_
    refine lv_icmp_le (tgt := 22) hx hb dX4_append_9 (by decide) (fun c11 => ?_) (fun c11 => ?_)
    · have hf := it_t c11 hf
      refine lv_aload_n hx hb dX4_append_22 rfl (lv_at hl 0 rfl) ?_
      refine q_get F hK hw.1 v_y0.1 (pF_4 (S := S) v_y0.2) (fun w h => List.mem_cons_of_mem _ (List.mem_append_left _ (List.mem_append_left _ (List.mem_append_right _ h)))) rfl 5 (by decide) (hts (.fieldLink RX4 38 "SharedModuli" "length" "I") (List.mem_of_getElem? (i := 5) rfl)) (v := .int (fI S 69 y0)) rfl dX4_append_23 ?_
      refine lv_if_lt (tgt := 41) hx hb dX4_append_26 (by decide) (fun c12 => ?_) (fun c12 => ?_)
      · have hf := it_t c12 hf
        exact hB41 S _ _ _ _ (by omega) (by omega) _ (lv_sub hl [] rfl) hw hE  hf
      · have hf := it_f c12 hf
        refine lv_aload_n hx hb dX4_append_29 rfl (lv_at hl 0 rfl) ?_
        refine q_get F hK hw.1 v_y0.1 (pF_4 (S := S) v_y0.2) (fun w h => List.mem_cons_of_mem _ (List.mem_append_left _ (List.mem_append_left _ (List.mem_append_right _ h)))) rfl 5 (by decide) (hts (.fieldLink RX4 38 "SharedModuli" "length" "I") (List.mem_of_getElem? (i := 5) rfl)) (v := .int (fI S 69 y0)) rfl dX4_append_30 ?_
        refine lv_aload_n hx hb dX4_append_33 rfl (lv_at hl 0 rfl) ?_
        obtain ⟨b13, e14, v_b13, hf⟩ := rq_some hf
        refine q_get F hK hw.1 v_y0.1 (pF_4 (S := S) v_y0.2) (fun w h => List.mem_cons_of_mem _ (List.mem_append_left _ (List.mem_append_left _ (List.mem_append_right _ h)))) rfl 4 (by decide) (hts (.fieldLink RX4 34 "SharedModuli" "buffe\x72" "[I") (List.mem_of_getElem? (i := 6) rfl)) (v := .ref b13) (congrArg (fun z => some (va_rf z)) e14) dX4_append_34 ?_
        refine q_alen6 F hK hw.1 v_b13 dX4_append_37 ?_
        refine lv_icmp_lt (tgt := 51) hx hb dX4_append_38 (by decide) (fun c15 => ?_) (fun c15 => ?_)
        · have hf := it_t c15 hf
          refine lv_aload_n hx hb dX4_append_51 rfl (lv_at hl 0 rfl) ?_
          obtain ⟨b16, e17, v_b16, hf⟩ := rq_some hf
          refine q_get F hK hw.1 v_y0.1 (pF_4 (S := S) v_y0.2) (fun w h => List.mem_cons_of_mem _ (List.mem_append_left _ (List.mem_append_left _ (List.mem_append_right _ h)))) rfl 4 (by decide) (hts (.fieldLink RX4 34 "SharedModuli" "buffe\x72" "[I") (List.mem_of_getElem? (i := 6) rfl)) (v := .ref b16) (congrArg (fun z => some (va_rf z)) e17) dX4_append_52 ?_
          refine lv_aload_n hx hb dX4_append_55 rfl (lv_at hl 0 rfl) ?_
          refine q_get F hK hw.1 v_y0.1 (pF_4 (S := S) v_y0.2) (fun w h => List.mem_cons_of_mem _ (List.mem_append_left _ (List.mem_append_left _ (List.mem_append_right _ h)))) rfl 5 (by decide) (hts (.fieldLink RX4 38 "SharedModuli" "length" "I") (List.mem_of_getElem? (i := 5) rfl)) (v := .int (fI S 69 y0)) rfl dX4_append_56 ?_
          refine lv_iload_n hx hb dX4_append_59 rfl (lv_at hl 1 rfl) ?_
          obtain ⟨c18, hf⟩ := ckd_some hf
          refine q_iast F hK hw v_b16 c18 dX4_append_60 (fun H locs hw => ?_)
          refine lv_aload_n hx hb dX4_append_61 rfl (lv_at hl 0 rfl) ?_
          refine lv_dup hx hb dX4_append_62 rfl ?_
          refine q_get F hK hw.1 v_y0.1 (pF_4 (S := sA S b16 (fI S 69 y0) y1) v_y0.2) (fun w h => List.mem_cons_of_mem _ (List.mem_append_left _ (List.mem_append_left _ (List.mem_append_right _ h)))) rfl 5 (by decide) (hts (.fieldLink RX4 38 "SharedModuli" "length" "I") (List.mem_of_getElem? (i := 5) rfl)) (v := .int (fI (sA S b16 (fI S 69 y0) y1) 69 y0)) rfl dX4_append_63 ?_
          refine lv_iconst (v := 1) hx hb dX4_append_66 (by decide) ?_
          refine lv_iadd hx hb dX4_append_67 ?_
          refine q_put F hK hw v_y0.1 (pF_4 (S := sA S b16 (fI S 69 y0) y1) v_y0.2) (fun w h => List.mem_cons_of_mem _ (List.mem_append_left _ (List.mem_append_left _ (List.mem_append_right _ h)))) tyX4 tyX4_ok nmX4 rfl 5 (by decide) (hts (.fieldLink RX4 38 "SharedModuli" "length" "I") (List.mem_of_getElem? (i := 5) rfl)) (Or.inl rfl) (tyX4_ok 5 (by decide)) rfl rfl (Nat.le_of_ble_eq_true rfl) (S1 := sI (sA S b16 (fI S 69 y0) y1) 69 y0 ((fI (sA S b16 (fI S 69 y0) y1) 69 y0) + (1 : Int32))) (st_69 (S := sA S b16 (fI S 69 y0) y1) v_y0.2 ((fI (sA S b16 (fI S 69 y0) y1) 69 y0) + (1 : Int32))) dX4_append_68 (fun H locs hw => ?_)
          refine lv_aload_n hx hb dX4_append_71 rfl (lv_at hl 0 rfl) ?_
          refine q_get F hK hw.1 v_y0.1 (pF_4 (S := sI (sA S b16 (fI S 69 y0) y1) 69 y0 ((fI (sA S b16 (fI S 69 y0) y1) 69 y0) + (1 : Int32))) v_y0.2) (fun w h => List.mem_cons_of_mem _ (List.mem_append_left _ (List.mem_append_left _ (List.mem_append_right _ h)))) rfl 5 (by decide) (hts (.fieldLink RX4 38 "SharedModuli" "length" "I") (List.mem_of_getElem? (i := 5) rfl)) (v := .int (fI (sI (sA S b16 (fI S 69 y0) y1) 69 y0 ((fI (sA S b16 (fI S 69 y0) y1) 69 y0) + (1 : Int32))) 69 y0)) rfl dX4_append_72 ?_
          refine vx_ret ?_
          refine W.widen (k := 1) (n := 6) (by omega) (by omega) ?_
          exact W.iret (v := (fI (sI (sA S b16 (fI S 69 y0) y1) 69 y0 ((fI (sA S b16 (fI S 69 y0) y1) 69 y0) + (1 : Int32))) 69 y0)) hx hb hr (fun t ht hW => ⟨⟨_, (sI (sA S b16 (fI S 69 y0) y1) 69 y0 ((fI (sA S b16 (fI S 69 y0) y1) 69 y0) + (1 : Int32)), n), rfl, po2t hf, BW.of hw hE ht⟩, hw.2.2.1.F ht⟩) hw.2.2.1.2.2 dX4_append_75
        · have hf := it_f c15 hf
          exact hB41 S _ _ _ _ (by omega) (by omega) _ (lv_sub hl [] rfl) hw hE  hf
    · have hf := it_f c11 hf
      exact hB12 S _ _ _ _ (by omega) (by omega) _ (lv_sub hl [] rfl) hw hE  hf
def f_X4_clearBuffer (S : PS) (x0 : Nat) : Option (Int32 × PS) :=
  some ((fI S 69 x0), sI S 69 x0 0)
set_option maxHeartbeats 4000000 in
set_option maxRecDepth 100000 in
theorem c_X4_clearBuffer (l : Launch) (D : va_G) (cy : cyT) {S : PS} {n : Nat} {y0 : Nat} (v_y0 : vd S y0 4) {res : Int32 × PS} (hf : f_X4_clearBuffer S y0 = some res) : Met l yX4_clearBuffer wsX4_clearBuffer ({ frames := 0, cells := 0, slots := 0, locals := 0 } : Room) (PcW False D cy S n [.ref y0]) (va_Qi (fun (r : Int32) (u : PS × Nat) => r = res.1 ∧ u = (res.2, n)) (BW D cy S n) (AA cy S n)) 0 0 (AA cy S n) := by
  refine Met.ofW (cc := cX4_clearBuffer) (maxL := 2) (ret := (some .int)) (by decide) rfl ?_
  intro p e s m args below meth c s₁ B hml hv
  obtain ⟨hav, hsz, hP0, hD0, hK, hZ0⟩ := hv
  have hx := B.exec
  have hb := B.bytes
  have hr := B.returns
  have hts := atoms_spec (ws := wsX4_clearBuffer) B.pre
  have hown : s.vm.findClass RX4 = some m.cls := findClass_of_methodNamed B.named
  have hlocks := B.notSynchronized
  subst hav
  have hw : Hw D cy (AA cy S n) s.heap S n s.heap [] := Hw.start hsz hP0 hD0
  have hA : ∀ q, s.heap.size ≤ q → AA cy S n q := fun q h => Or.inr (hsz ▸ h)
  have hE : EX S S := EX.rf
  have F : CallFix p m c cX4_clearBuffer 2 s _ wsX4_clearBuffer RX4 := ⟨hx, hb, hml, hown, hts⟩
  have hl := lv_entry ([.ref y0]) (n := 2) (Nat.le_of_ble_eq_true rfl)
  rw [lg_entry_eq]
  generalize (lg_sl ([.ref y0]) ++ List.replicate (2 - (lg_sl ([.ref y0])).length) Slot.unset).toArray = ls at hl ⊢
  have hl : lv_has ls 2 [(0, .ref y0)] := hl
  unfold f_X4_clearBuffer at hf
  refine lv_aload_n hx hb dX4_clearBuffer_0 rfl (lv_at hl 0 rfl) ?_
  refine q_get F hK hw.1 v_y0.1 (pF_4 (S := S) v_y0.2) (fun w h => List.mem_cons_of_mem _ (List.mem_append_right _ h)) rfl 5 (by decide) (hts (.fieldLink RX4 38 "SharedModuli" "length" "I") (List.mem_of_getElem? (i := 1) rfl)) (v := .int (fI S 69 y0)) rfl dX4_clearBuffer_1 ?_
  refine lv_istore_n (lv' := [(1, .int (fI S 69 y0)), (0, .ref y0)]) hx hb dX4_clearBuffer_4 rfl hl (by decide) rfl (fun ls hl => ?_)
  refine lv_aload_n hx hb dX4_clearBuffer_5 rfl (lv_at hl 1 rfl) ?_
  refine lv_iconst (v := 0) hx hb dX4_clearBuffer_6 (by decide) ?_
  refine q_put F hK hw v_y0.1 (pF_4 (S := S) v_y0.2) (fun w h => List.mem_cons_of_mem _ (List.mem_append_right _ h)) tyX4 tyX4_ok nmX4 rfl 5 (by decide) (hts (.fieldLink RX4 38 "SharedModuli" "length" "I") (List.mem_of_getElem? (i := 1) rfl)) (Or.inl rfl) (tyX4_ok 5 (by decide)) rfl rfl (Nat.le_of_ble_eq_true rfl) (S1 := sI S 69 y0 0) (st_69 (S := S) v_y0.2 0) dX4_clearBuffer_7 (fun H locs hw => ?_)
  refine lv_iload_n hx hb dX4_clearBuffer_10 rfl (lv_at hl 0 rfl) ?_
  exact W.iret (v := (fI S 69 y0)) hx hb hr (fun t ht hW => ⟨⟨_, (sI S 69 y0 0, n), rfl, po2 hf, BW.of hw hE ht⟩, hw.2.2.1.F ht⟩) hw.2.2.1.2.2 dX4_clearBuffer_11
def f_X4_codeAt_B23 (S : PS) (s0 : Int32) : Option Int32 :=
  some s0
def f_X4_codeAt_B22 (S : PS)  : Option Int32 :=
  f_X4_codeAt_B23 S 0
def f_X4_codeAt (S : PS) (x0 : Nat) (x1 : Int32) : Option Int32 :=
  if x1 < 0 then (f_X4_codeAt_B22 S) else
  rq (fR S 68 x0) S 6 fun b2 =>
  if (nI (aN S b2)) ≤ x1 then (f_X4_codeAt_B22 S) else
  rq (fR S 68 x0) S 6 fun b5 =>
  ck (decide (¬ (x1 < 0 ∨ aN S b5 ≤ x1.toNatClampNeg))) (
  f_X4_codeAt_B23 S (aI S b5 x1.toNatClampNeg))
set_option maxHeartbeats 4000000 in
set_option maxRecDepth 100000 in
theorem c_X4_codeAt (l : Launch) (D : va_G) (cy : cyT) {H : Heap} {S : PS} (hP : va_P D vwCl (wl cy S) H) {y0 : Nat} {y1 : Int32} (v_y0 : vd S y0 4) {res : Int32} (hf : f_X4_codeAt S y0 y1 = some res) : Met l yX4_codeAt wsX4_codeAt ({ frames := 0, cells := 0, slots := 0, locals := 0 } : Room) (PcR D cy H [.ref y0, .int y1]) (vp_Si (fun r => r = res)) 0 0 (fun _ => False) := by
  refine Met.ofW (cc := cX4_codeAt) (maxL := 2) (ret := (some .int)) (by decide) rfl ?_
  intro p e s m args below meth c s₁ B hml hv
  obtain ⟨hav, hH, hK⟩ := hv
  have hx := B.exec
  have hb := B.bytes
  have hr := B.returns
  have hts := atoms_spec (ws := wsX4_codeAt) B.pre
  have hown : s.vm.findClass RX4 = some m.cls := findClass_of_methodNamed B.named
  have hlocks := B.notSynchronized
  subst hav
  subst hH
  have F : CallFix p m c cX4_codeAt 2 s _ wsX4_codeAt RX4 := ⟨hx, hb, hml, hown, hts⟩
  have hB23 : ∀ (s0 : Int32) (ls : Array Slot), lv_has ls 2 [] → f_X4_codeAt_B23 S s0 = some res → W p l e (headSpec wsX4_codeAt ({ frames := 0, cells := 0, slots := 0, locals := 0 } : Room)).room s m ([.ref y0, .int y1] : List Value).toArray below meth c s.heap [] 0 0 (MQ below (vp_Si (fun r => r = res)) ([.ref y0, .int y1] : List Value).toArray s 0 0 (fun _ => False)) (F0 m 23 ls [.int s0]) := by
    intro s0 ls hl hf
    unfold f_X4_codeAt_B23 at hf
    exact W.iret (v := s0) hx hb hr (fun t ht hW => ⟨_, rfl, Option.some.inj hf, ht⟩) (fun _ h => by cases h) dX4_codeAt_23
  have hB22 : ∀  (ls : Array Slot), lv_has ls 2 [] → f_X4_codeAt_B22 S = some res → W p l e (headSpec wsX4_codeAt ({ frames := 0, cells := 0, slots := 0, locals := 0 } : Room)).room s m ([.ref y0, .int y1] : List Value).toArray below meth c s.heap [] 0 0 (MQ below (vp_Si (fun r => r = res)) ([.ref y0, .int y1] : List Value).toArray s 0 0 (fun _ => False)) (F0 m 22 ls []) := by
    intro ls hl hf
    unfold f_X4_codeAt_B22 at hf
    refine lv_iconst (v := 0) hx hb dX4_codeAt_22 (by decide) ?_
    exact hB23 0 _ (lv_sub hl [] rfl)  hf
  have hl := lv_entry ([.ref y0, .int y1]) (n := 2) (Nat.le_of_ble_eq_true rfl)
  rw [lg_entry_eq]
  generalize (lg_sl ([.ref y0, .int y1]) ++ List.replicate (2 - (lg_sl ([.ref y0, .int y1])).length) Slot.unset).toArray = ls at hl ⊢
  have hl : lv_has ls 2 [(0, .ref y0), (1, .int y1)] := hl
  unfold f_X4_codeAt at hf
  refine lv_iload_n hx hb dX4_codeAt_0 rfl (lv_at hl 1 rfl) ?_
  refine lv_if_lt (tgt := 22) hx hb dX4_codeAt_1 (by decide) (fun c8 => ?_) (fun c8 => ?_)
  · have hf := it_t c8 hf
    exact hB22 _ (lv_sub hl [] rfl)  hf
  · have hf := it_f c8 hf
    refine lv_iload_n hx hb dX4_codeAt_4 rfl (lv_at hl 1 rfl) ?_
    refine lv_aload_n hx hb dX4_codeAt_5 rfl (lv_at hl 0 rfl) ?_
    obtain ⟨b9, e10, v_b9, hf⟩ := rq_some hf
    refine q_get F hK hP v_y0.1 (pF_4 (S := S) v_y0.2) (fun w h => List.mem_cons_of_mem _ (List.mem_append_right _ h)) rfl 4 (by decide) (hts (.fieldLink RX4 34 "SharedModuli" "buffe\x72" "[I") (List.mem_of_getElem? (i := 1) rfl)) (v := .ref b9) (congrArg (fun z => some (va_rf z)) e10) dX4_codeAt_6 ?_
    refine q_alen6 F hK hP v_b9 dX4_codeAt_9 ?_
    refine lv_icmp_ge (tgt := 22) hx hb dX4_codeAt_10 (by decide) (fun c11 => ?_) (fun c11 => ?_)
    · have hf := it_t c11 hf
      exact hB22 _ (lv_sub hl [] rfl)  hf
    · have hf := it_f c11 hf
      refine lv_aload_n hx hb dX4_codeAt_13 rfl (lv_at hl 0 rfl) ?_
      obtain ⟨b12, e13, v_b12, hf⟩ := rq_some hf
      refine q_get F hK hP v_y0.1 (pF_4 (S := S) v_y0.2) (fun w h => List.mem_cons_of_mem _ (List.mem_append_right _ h)) rfl 4 (by decide) (hts (.fieldLink RX4 34 "SharedModuli" "buffe\x72" "[I") (List.mem_of_getElem? (i := 1) rfl)) (v := .ref b12) (congrArg (fun z => some (va_rf z)) e13) dX4_codeAt_14 ?_
      refine lv_iload_n hx hb dX4_codeAt_17 rfl (lv_at hl 1 rfl) ?_
      obtain ⟨c14, hf⟩ := ckd_some hf
      refine q_iald F hK hP v_b12 c14 dX4_codeAt_18 ?_
      refine lv_goto (tgt := 23) hx hb dX4_codeAt_19 (by decide) ?_
      exact hB23 (aI S b12 y1.toNatClampNeg) _ (lv_sub hl [] rfl)  hf
def f_X4_firstError_B40 (S : PS) (x0 : Nat) : Option (Int32 × PS) :=
  some ((fI S 69 x0), S)
def f_X4_firstError_B32 (S : PS) (x1 : Int32) : Option (Int32 × PS) :=
  some (x1, S)
def f_X4_firstError_L9s (kL9 : PS → Nat → Int32 → Option (Int32 × PS)) (ke40 : PS → Nat → Option (Int32 × PS)) (ke32 : PS → Int32 → Option (Int32 × PS)) (S : PS) (x0 : Nat) (x1 : Int32) : Option (Int32 × PS) :=
  if (fI S 69 x0) ≤ x1 then (ke40 S x0) else
  rq (fR S 70 x0) S 2 fun b2 =>
  bd (f_X4_codeAt S x0 x1) fun t4 =>
  bd (f_X2_takes S b2 t4) fun t7 =>
  if t7.1 = 0 then (ke32 t7.2 x1) else
  kL9 t7.2 x0 (x1 + 1)
def f_X4_firstError_L9 (ke40 : PS → Nat → Option (Int32 × PS)) (ke32 : PS → Int32 → Option (Int32 × PS)) (fu : Nat) : PS → Nat → Int32 → Option (Int32 × PS) := fx (fun kL => f_X4_firstError_L9s kL ke40 ke32) (fun _ _ _ => none) fu
def f_X4_firstError (S : PS) (x0 : Nat) : Option (Int32 × PS) :=
  rq (fR S 70 x0) S 2 fun b10 =>
  bd (f_X2_start S b10) fun t12 =>
  f_X4_firstError_L9 f_X4_firstError_B40 f_X4_firstError_B32 FU t12 x0 0
set_option maxHeartbeats 4000000 in
set_option maxRecDepth 100000 in
theorem c_X4_firstError (l : Launch) (D : va_G) (cy : cyT) {S : PS} {n : Nat} {y0 : Nat} (v_y0 : vd S y0 4) {res : Int32 × PS} (hf : f_X4_firstError S y0 = some res) : Met l yX4_firstError wsX4_firstError ({ frames := 3, cells := 0, slots := 0, locals := 65 } : Room) (PcW False D cy S n [.ref y0]) (va_Qi (fun (r : Int32) (u : PS × Nat) => r = res.1 ∧ u = (res.2, n)) (BW D cy S n) (AA cy S n)) 0 0 (AA cy S n) := by
  refine Met.ofW (cc := cX4_firstError) (maxL := 2) (ret := (some .int)) (by decide) rfl ?_
  intro p e s m args below meth c s₁ B hml hv
  obtain ⟨hav, hsz, hP0, hD0, hK, hZ0⟩ := hv
  have hx := B.exec
  have hb := B.bytes
  have hr := B.returns
  have hts := atoms_spec (ws := wsX4_firstError) B.pre
  have hown : s.vm.findClass RX4 = some m.cls := findClass_of_methodNamed B.named
  have hlocks := B.notSynchronized
  subst hav
  have hw : Hw D cy (AA cy S n) s.heap S n s.heap [] := Hw.start hsz hP0 hD0
  have hA : ∀ q, s.heap.size ≤ q → AA cy S n q := fun q h => Or.inr (hsz ▸ h)
  have hE : EX S S := EX.rf
  have F : CallFix p m c cX4_firstError 2 s _ wsX4_firstError RX4 := ⟨hx, hb, hml, hown, hts⟩
  have hB40 : ∀ (Sb : PS) (H1 : Heap) (lo1 : List Loc) (x0 : Nat) (ls : Array Slot), lv_has ls 2 [(0, .ref x0)] → Hw D cy (AA cy S n) s.heap Sb n H1 lo1 → EX S Sb → vd Sb x0 4 → f_X4_firstError_B40 Sb x0 = some res → W p l e (headSpec wsX4_firstError ({ frames := 3, cells := 0, slots := 0, locals := 65 } : Room)).room s m ([.ref y0] : List Value).toArray below meth c H1 lo1 0 0 (MQ below (va_Qi (fun (r : Int32) (u : PS × Nat) => r = res.1 ∧ u = (res.2, n)) (BW D cy S n) (AA cy S n)) ([.ref y0] : List Value).toArray s 0 0 (AA cy S n)) (F0 m 40 ls []) := by
    intro Sb H1 lo1 x0 ls hl hw hE v_x0 hf
    unfold f_X4_firstError_B40 at hf
    refine lv_aload_n hx hb dX4_firstError_40 rfl (lv_at hl 0 rfl) ?_
    refine q_get F hK hw.1 v_x0.1 (pF_4 (S := Sb) v_x0.2) (fun w h => List.mem_cons_of_mem _ (List.mem_append_left _ (List.mem_append_right _ h))) rfl 5 (by decide) (hts (.fieldLink RX4 38 "SharedModuli" "length" "I") (List.mem_of_getElem? (i := 2) rfl)) (v := .int (fI Sb 69 x0)) rfl dX4_firstError_41 ?_
    exact W.iret (v := (fI Sb 69 x0)) hx hb hr (fun t ht hW => ⟨⟨_, (Sb, n), rfl, po2 hf, BW.of hw hE ht⟩, hw.2.2.1.F ht⟩) hw.2.2.1.2.2 dX4_firstError_44
  have hB32 : ∀ (Sb : PS) (H1 : Heap) (lo1 : List Loc) (x1 : Int32) (ls : Array Slot), lv_has ls 2 [(1, .int x1)] → Hw D cy (AA cy S n) s.heap Sb n H1 lo1 → EX S Sb → f_X4_firstError_B32 Sb x1 = some res → W p l e (headSpec wsX4_firstError ({ frames := 3, cells := 0, slots := 0, locals := 65 } : Room)).room s m ([.ref y0] : List Value).toArray below meth c H1 lo1 0 0 (MQ below (va_Qi (fun (r : Int32) (u : PS × Nat) => r = res.1 ∧ u = (res.2, n)) (BW D cy S n) (AA cy S n)) ([.ref y0] : List Value).toArray s 0 0 (AA cy S n)) (F0 m 32 ls []) := by
    intro Sb H1 lo1 x1 ls hl hw hE hf
    unfold f_X4_firstError_B32 at hf
    refine lv_iload_n hx hb dX4_firstError_32 rfl (lv_at hl 0 rfl) ?_
    exact W.iret (v := x1) hx hb hr (fun t ht hW => ⟨⟨_, (Sb, n), rfl, po2 hf, BW.of hw hE ht⟩, hw.2.2.1.F ht⟩) hw.2.2.1.2.2 dX4_firstError_33
  have hL9 : ∀ (fu9 : Nat), ∀ (Sb : PS) (H1 : Heap) (lo1 : List Loc) (x0 : Nat) (x1 : Int32) (ls : Array Slot), lv_has ls 2 [(0, .ref x0), (1, .int x1)] → Hw D cy (AA cy S n) s.heap Sb n H1 lo1 → EX S Sb → vd Sb x0 4 → f_X4_firstError_L9 f_X4_firstError_B40 f_X4_firstError_B32 fu9 Sb x0 x1 = some res → W p l e (headSpec wsX4_firstError ({ frames := 3, cells := 0, slots := 0, locals := 65 } : Room)).room s m ([.ref y0] : List Value).toArray below meth c H1 lo1 0 0 (MQ below (va_Qi (fun (r : Int32) (u : PS × Nat) => r = res.1 ∧ u = (res.2, n)) (BW D cy S n) (AA cy S n)) ([.ref y0] : List Value).toArray s 0 0 (AA cy S n)) (F0 m 9 ls []) := by
    intro fu9
    induction fu9 with
    | zero =>
      intro Sb H1 lo1 x0 x1 ls hl hw hE v_x0 hf
      have hf : (none : Option (Int32 × PS)) = some res := hf
      cases hf
    | succ fu9 ih9 =>
      intro Sb H1 lo1 x0 x1 ls hl hw hE v_x0 hf
      have hf : f_X4_firstError_L9s (f_X4_firstError_L9 f_X4_firstError_B40 f_X4_firstError_B32 fu9) f_X4_firstError_B40 f_X4_firstError_B32 Sb x0 x1 = some res := hf
      unfold f_X4_firstError_L9s at hf
      refine lv_iload_n hx hb dX4_firstError_9 rfl (lv_at hl 1 rfl) ?_
      refine lv_aload_n hx hb dX4_firstError_10 rfl (lv_at hl 0 rfl) ?_
      refine q_get F hK hw.1 v_x0.1 (pF_4 (S := Sb) v_x0.2) (fun w h => List.mem_cons_of_mem _ (List.mem_append_left _ (List.mem_append_right _ h))) rfl 5 (by decide) (hts (.fieldLink RX4 38 "SharedModuli" "length" "I") (List.mem_of_getElem? (i := 2) rfl)) (v := .int (fI Sb 69 x0)) rfl dX4_firstError_11 ?_
      refine lv_icmp_ge (tgt := 40) hx hb dX4_firstError_14 (by decide) (fun c14 => ?_) (fun c14 => ?_)
      · have hf := it_t c14 hf
        exact hB40 Sb _ _ x0 _ (lv_sub hl [0] rfl) hw hE v_x0 hf
      · have hf := it_f c14 hf
        refine lv_aload_n hx hb dX4_firstError_17 rfl (lv_at hl 0 rfl) ?_
        obtain ⟨b15, e16, v_b15, hf⟩ := rq_some hf
        refine q_get F hK hw.1 v_x0.1 (pF_4 (S := Sb) v_x0.2) (fun w h => List.mem_cons_of_mem _ (List.mem_append_left _ (List.mem_append_right _ h))) rfl 6 (by decide) (hts (.fieldLink RX4 44 "SharedModuli" "scanne\x72" "LSharedModuli$Scanner;") (List.mem_of_getElem? (i := 1) rfl)) (v := .ref b15) (congrArg (fun z => some (va_rf z)) e16) dX4_firstError_18 ?_
        refine lv_aload_n hx hb dX4_firstError_21 rfl (lv_at hl 0 rfl) ?_
        refine lv_iload_n hx hb dX4_firstError_22 rfl (lv_at hl 1 rfl) ?_
        obtain ⟨t17, h18, hf⟩ := bd_some hf
        refine vp_callSi (va_runV (As := [.int x1]) (rest := [.ref b15]) F (c_X4_codeAt l D cy (H := _) hw.1 v_x0 h18) (cwV 1 hts gX4_firstError_X4_codeAt rfl rfl rfl ⟨rfl, ph_X4_codeAt.1, ph_X4_codeAt.2, pd_X4_codeAt⟩ ⟨Nat.le_of_ble_eq_true rfl, Nat.le_of_ble_eq_true rfl⟩) ⟨PcR.bl, (q_rcv hK hw.1 v_x0.1 (pF_4 (S := Sb) v_x0.2) rfl), PcR.in hK⟩ rfl rfl hl.1 rfl (lv_room (Nat.le_of_ble_eq_true rfl)) dX4_firstError_23 ⟨Nat.zero_le _, Nat.zero_le _⟩).run (fun r19 er19 => ?_)
        subst r19
        obtain ⟨t20, h21, hf⟩ := bd_some hf
        refine q_calli (va_runV (As := [.int t17]) (rest := []) F (c_X2_takes l D cy (S := Sb) v_b15 h21) (cwV 1 hts gX4_firstError_X2_takes rfl rfl rfl ⟨rfl, ph_X2_takes.1, ph_X2_takes.2, pd_X2_takes⟩ ⟨Nat.le_of_ble_eq_true rfl, Nat.le_of_ble_eq_true rfl⟩) ⟨PcW.bl, (q_rcv hK hw.1 v_b15.1 (pF_2 (S := Sb) v_b15.2) rfl), PcW.in hK hw hA (fun z => z.elim)⟩ rfl rfl hl.1 rfl (lv_room (Nat.le_of_ble_eq_true rfl)) dX4_firstError_26 ⟨Nat.zero_le _, Nat.zero_le _⟩) hw hA (fun H locs hw hX => ?_)
        have hE := hE.tr hX
        have v_x0 := hX _ _ v_x0
        have v_b15 := hX _ _ v_b15
        refine lv_if_ne (tgt := 34) hx hb dX4_firstError_29 (by decide) (fun c22 => ?_) (fun c22 => ?_)
        · have hf := it_f c22 hf
          refine lv_iinc (v := x1 + 1) (lv' := [(1, .int (x1 + 1)), (0, .ref x0)]) hx hb dX4_firstError_34 hl (k := 1) rfl (by rfl) (by decide) rfl (fun ls hl => ?_)
          refine lv_goto (tgt := 9) hx hb dX4_firstError_37 (by decide) ?_
          exact ih9 t20.2 _ _ x0 (x1 + 1) _ (lv_sub hl [1, 0] rfl) hw hE v_x0 hf
        · have hf := it_t c22 hf
          exact hB32 t20.2 _ _ x1 _ (lv_sub hl [1] rfl) hw hE  hf
  have hl := lv_entry ([.ref y0]) (n := 2) (Nat.le_of_ble_eq_true rfl)
  rw [lg_entry_eq]
  generalize (lg_sl ([.ref y0]) ++ List.replicate (2 - (lg_sl ([.ref y0])).length) Slot.unset).toArray = ls at hl ⊢
  have hl : lv_has ls 2 [(0, .ref y0)] := hl
  unfold f_X4_firstError at hf
  refine lv_aload_n hx hb dX4_firstError_0 rfl (lv_at hl 0 rfl) ?_
  obtain ⟨b23, e24, v_b23, hf⟩ := rq_some hf
  refine q_get F hK hw.1 v_y0.1 (pF_4 (S := S) v_y0.2) (fun w h => List.mem_cons_of_mem _ (List.mem_append_left _ (List.mem_append_right _ h))) rfl 6 (by decide) (hts (.fieldLink RX4 44 "SharedModuli" "scanne\x72" "LSharedModuli$Scanner;") (List.mem_of_getElem? (i := 1) rfl)) (v := .ref b23) (congrArg (fun z => some (va_rf z)) e24) dX4_firstError_1 ?_
  obtain ⟨t25, h26, hf⟩ := bd_some hf
  refine q_callv (va_runVN (As := []) (rest := []) F (c_X2_start l D cy (S := S) v_b23 h26) ⟨(va_cnB 0 hts gX4_firstError_X2_start_n157 rfl rfl rfl (nk_m_RX4_157 hK.2.1) (hts (.initialized RX2) (List.mem_of_getElem? (i := 4) rfl)) ⟨ph_X2_start.1, ph_X2_start.2, pd_X2_start⟩ ⟨Nat.le_of_ble_eq_true rfl, Nat.le_of_ble_eq_true rfl⟩), (hts (.instanceMethod yX2_start) (List.mem_of_getElem? (i := 3) rfl)), (hts (.selects RX2 yX2_start yX2_start) (List.mem_of_getElem? (i := 5) rfl))⟩ ⟨PcW.bl, (q_rcv hK hw.1 v_b23.1 (pF_2 (S := S) v_b23.2) rfl), PcW.in hK hw hA (fun z => z.elim)⟩ rfl rfl hl.1 rfl (lv_room (Nat.le_of_ble_eq_true rfl)) dX4_firstError_4 ⟨Nat.zero_le _, Nat.zero_le _⟩) hw hA (fun H locs hw hX => ?_)
  have hE := hE.tr hX
  have v_y0 := hX _ _ v_y0
  have v_b23 := hX _ _ v_b23
  refine lv_iconst (v := 0) hx hb dX4_firstError_7 (by decide) ?_
  refine lv_istore_n (lv' := [(1, .int 0), (0, .ref y0)]) hx hb dX4_firstError_8 rfl hl (by decide) rfl (fun ls hl => ?_)
  exact hL9 FU t25 _ _ y0 0 _ (lv_sub hl [1, 0] rfl) hw hE v_y0 hf
def f_X4_readConditions_B115 (S : PS) (n : Nat) (x1 : Int32) : Option (Int32 × PS × Nat) :=
  some (x1, S, n)
def f_X4_readConditions_B109 (kL11 : PS → Nat → Nat → Int32 → Int32 → Option (Int32 × PS × Nat)) (ke115 : PS → Nat → Int32 → Option (Int32 × PS × Nat)) (ke74 : PS → Nat → Int32 → Option (Int32 × PS × Nat)) (S : PS) (n : Nat) (x0 : Nat) (x1 : Int32) (x2 : Int32) : Option (Int32 × PS × Nat) :=
  kL11 S n x0 x1 (x2 + 1)
def f_X4_readConditions_B88 (kL11 : PS → Nat → Nat → Int32 → Int32 → Option (Int32 × PS × Nat)) (ke115 : PS → Nat → Int32 → Option (Int32 × PS × Nat)) (ke74 : PS → Nat → Int32 → Option (Int32 × PS × Nat)) (S : PS) (n : Nat) (x0 : Nat) (x1 : Int32) (x2 : Int32) : Option (Int32 × PS × Nat) :=
  if (fI S 69 x0) ≤ x2 then (f_X4_readConditions_B109 kL11 ke115 ke74 S n x0 x1 x2) else
  rq (fR S 70 x0) S 2 fun b2 =>
  bd (f_X4_codeAt S x0 x2) fun t4 =>
  bd (f_X2_takes S b2 t4) fun t7 =>
  f_X4_readConditions_B109 kL11 ke115 ke74 t7.2 n x0 x1 x2
def f_X4_readConditions_B74 (S : PS) (n : Nat) (x1 : Int32) : Option (Int32 × PS × Nat) :=
  some (x1, S, n)
def f_X4_readConditions_B37 (kL11 : PS → Nat → Nat → Int32 → Int32 → Option (Int32 × PS × Nat)) (ke115 : PS → Nat → Int32 → Option (Int32 × PS × Nat)) (ke74 : PS → Nat → Int32 → Option (Int32 × PS × Nat)) (S : PS) (n : Nat) (x0 : Nat) (x1 : Int32) (x2 : Int32) : Option (Int32 × PS × Nat) :=
  rq (fR (nO S n 0) 70 x0) (nO S n 0) 2 fun b10 =>
  rq (fR (nO S n 0) 70 x0) (nO S n 0) 2 fun b12 =>
  rq (fR (nO S n 0) 70 x0) (nO S n 0) 2 fun b14 =>
  bd (f_X0_init (nO S n 0) n (fI (nO S n 0) 34 b10) (fI (nO S n 0) 35 b12) (fI (nO S n 0) 33 b14)) fun t16 =>
  bd (f_X4_isRefused t16 x0 n) fun t18 =>
  if t18 = 0 then (rq (fR t16 64 x0) t16 3 fun b22 =>
  bd (f_X3_put t16 b22 n) fun t24 =>
  f_X4_readConditions_B88 kL11 ke115 ke74 t24.2 (n + 1) x0 (x1 + 1) x2) else
  ke74 t16 (n + 1) x1
def f_X4_readConditions_L11s (kL11 : PS → Nat → Nat → Int32 → Int32 → Option (Int32 × PS × Nat)) (ke115 : PS → Nat → Int32 → Option (Int32 × PS × Nat)) (ke74 : PS → Nat → Int32 → Option (Int32 × PS × Nat)) (S : PS) (n : Nat) (x0 : Nat) (x1 : Int32) (x2 : Int32) : Option (Int32 × PS × Nat) :=
  if (fI S 69 x0) < x2 then (ke115 S n x1) else
  if x2 = (fI S 69 x0) then (f_X4_readConditions_B37 kL11 ke115 ke74 S n x0 x1 x2) else
  bd (f_X4_codeAt S x0 x2) fun t28 =>
  if t28 = 59 then (f_X4_readConditions_B37 kL11 ke115 ke74 S n x0 x1 x2) else
  f_X4_readConditions_B88 kL11 ke115 ke74 S n x0 x1 x2
def f_X4_readConditions_L11 (ke115 : PS → Nat → Int32 → Option (Int32 × PS × Nat)) (ke74 : PS → Nat → Int32 → Option (Int32 × PS × Nat)) (fu : Nat) : PS → Nat → Nat → Int32 → Int32 → Option (Int32 × PS × Nat) := fx (fun kL => f_X4_readConditions_L11s kL ke115 ke74) (fun _ _ _ _ _ => none) fu
def f_X4_readConditions (S : PS) (n : Nat) (x0 : Nat) : Option (Int32 × PS × Nat) :=
  rq (fR S 70 x0) S 2 fun b32 =>
  bd (f_X2_start S b32) fun t34 =>
  f_X4_readConditions_L11 f_X4_readConditions_B115 f_X4_readConditions_B74 62 t34 n x0 0 0
set_option maxHeartbeats 4000000 in
set_option maxRecDepth 100000 in
theorem c_X4_readConditions (l : Launch) (D : va_G) (cy : cyT) {S : PS} {n : Nat} {y0 : Nat} (v_y0 : vd S y0 4) {res : Int32 × PS × Nat} (hf : f_X4_readConditions S n y0 = some res) : Met l yX4_readConditions wsX4_readConditions ({ frames := 5, cells := 62, slots := 310, locals := 119 } : Room) (PcW False D cy S n [.ref y0]) (va_Qi (fun (r : Int32) (u : PS × Nat) => r = res.1 ∧ u = res.2) (BW D cy S n) (AA cy S n)) 62 310 (AA cy S n) := by
  refine Met.ofW (cc := cX4_readConditions) (maxL := 4) (ret := (some .int)) (by decide) rfl ?_
  intro p e s m args below meth c s₁ B hml hv
  obtain ⟨hav, hsz, hP0, hD0, hK, hZ0⟩ := hv
  have hx := B.exec
  have hb := B.bytes
  have hr := B.returns
  have hts := atoms_spec (ws := wsX4_readConditions) B.pre
  have hown : s.vm.findClass RX4 = some m.cls := findClass_of_methodNamed B.named
  have hlocks := B.notSynchronized
  subst hav
  have hw : Hw D cy (AA cy S n) s.heap S n s.heap [] := Hw.start hsz hP0 hD0
  have hA : ∀ q, s.heap.size ≤ q → AA cy S n q := fun q h => Or.inr (hsz ▸ h)
  have hE : EX S S := EX.rf
  have F : CallFix p m c cX4_readConditions 4 s _ wsX4_readConditions RX4 := ⟨hx, hb, hml, hown, hts⟩
  have hB115 : ∀ (Sb : PS) (nb : Nat) (H1 : Heap) (lo1 : List Loc) (kc ks : Nat) (_ : kc + 0 ≤ 62) (_ : ks + 0 ≤ 310) (x1 : Int32) (ls : Array Slot), lv_has ls 4 [(1, .int x1)] → Hw D cy (AA cy S n) s.heap Sb nb H1 lo1 → EX S Sb → f_X4_readConditions_B115 Sb nb x1 = some res → W p l e (headSpec wsX4_readConditions ({ frames := 5, cells := 62, slots := 310, locals := 119 } : Room)).room s m ([.ref y0] : List Value).toArray below meth c H1 lo1 kc ks (MQ below (va_Qi (fun (r : Int32) (u : PS × Nat) => r = res.1 ∧ u = res.2) (BW D cy S n) (AA cy S n)) ([.ref y0] : List Value).toArray s 62 310 (AA cy S n)) (F0 m 115 ls []) := by
    intro Sb nb H1 lo1 kc ks hkc hks x1 ls hl hw hE hf
    unfold f_X4_readConditions_B115 at hf
    refine lv_iload_n hx hb dX4_readConditions_115 rfl (lv_at hl 0 rfl) ?_
    refine W.widen (k := 62) (n := 310) (by omega) (by omega) ?_
    exact W.iret (v := x1) hx hb hr (fun t ht hW => ⟨⟨_, (Sb, nb), rfl, po3 hf, BW.of hw hE ht⟩, hw.2.2.1.F ht⟩) hw.2.2.1.2.2 dX4_readConditions_116
  have hB74 : ∀ (Sb : PS) (nb : Nat) (H1 : Heap) (lo1 : List Loc) (kc ks : Nat) (_ : kc + 0 ≤ 62) (_ : ks + 0 ≤ 310) (x1 : Int32) (ls : Array Slot), lv_has ls 4 [(1, .int x1)] → Hw D cy (AA cy S n) s.heap Sb nb H1 lo1 → EX S Sb → f_X4_readConditions_B74 Sb nb x1 = some res → W p l e (headSpec wsX4_readConditions ({ frames := 5, cells := 62, slots := 310, locals := 119 } : Room)).room s m ([.ref y0] : List Value).toArray below meth c H1 lo1 kc ks (MQ below (va_Qi (fun (r : Int32) (u : PS × Nat) => r = res.1 ∧ u = res.2) (BW D cy S n) (AA cy S n)) ([.ref y0] : List Value).toArray s 62 310 (AA cy S n)) (F0 m 74 ls []) := by
    intro Sb nb H1 lo1 kc ks hkc hks x1 ls hl hw hE hf
    unfold f_X4_readConditions_B74 at hf
    refine lv_iload_n hx hb dX4_readConditions_74 rfl (lv_at hl 0 rfl) ?_
    refine W.widen (k := 62) (n := 310) (by omega) (by omega) ?_
    exact W.iret (v := x1) hx hb hr (fun t ht hW => ⟨⟨_, (Sb, nb), rfl, po3 hf, BW.of hw hE ht⟩, hw.2.2.1.F ht⟩) hw.2.2.1.2.2 dX4_readConditions_75
  have hL11 : ∀ (fu11 : Nat), ∀ (Sb : PS) (nb : Nat) (H1 : Heap) (lo1 : List Loc) (kc ks : Nat) (_ : kc + (fu11 * 1 + 0) ≤ 62) (_ : ks + (fu11 * 5 + 0) ≤ 310) (x0 : Nat) (x1 : Int32) (x2 : Int32) (ls : Array Slot), lv_has ls 4 [(0, .ref x0), (1, .int x1), (2, .int x2)] → Hw D cy (AA cy S n) s.heap Sb nb H1 lo1 → EX S Sb → vd Sb x0 4 → f_X4_readConditions_L11 f_X4_readConditions_B115 f_X4_readConditions_B74 fu11 Sb nb x0 x1 x2 = some res → W p l e (headSpec wsX4_readConditions ({ frames := 5, cells := 62, slots := 310, locals := 119 } : Room)).room s m ([.ref y0] : List Value).toArray below meth c H1 lo1 kc ks (MQ below (va_Qi (fun (r : Int32) (u : PS × Nat) => r = res.1 ∧ u = res.2) (BW D cy S n) (AA cy S n)) ([.ref y0] : List Value).toArray s 62 310 (AA cy S n)) (F0 m 11 ls []) := by
    intro fu11
    induction fu11 with
    | zero =>
      intro Sb nb H1 lo1 kc ks hkc hks x0 x1 x2 ls hl hw hE v_x0 hf
      have hf : (none : Option (Int32 × PS × Nat)) = some res := hf
      cases hf
    | succ fu11 ih11 =>
      have hB109 : ∀ (Sb : PS) (nb : Nat) (H1 : Heap) (lo1 : List Loc) (kc ks : Nat) (_ : kc + (0 + fu11 * 1 + 0) ≤ 62) (_ : ks + (0 + fu11 * 5 + 0) ≤ 310) (x0 : Nat) (x1 : Int32) (x2 : Int32) (ls : Array Slot), lv_has ls 4 [(0, .ref x0), (1, .int x1), (2, .int x2)] → Hw D cy (AA cy S n) s.heap Sb nb H1 lo1 → EX S Sb → vd Sb x0 4 → f_X4_readConditions_B109 (f_X4_readConditions_L11 f_X4_readConditions_B115 f_X4_readConditions_B74 fu11) f_X4_readConditions_B115 f_X4_readConditions_B74 Sb nb x0 x1 x2 = some res → W p l e (headSpec wsX4_readConditions ({ frames := 5, cells := 62, slots := 310, locals := 119 } : Room)).room s m ([.ref y0] : List Value).toArray below meth c H1 lo1 kc ks (MQ below (va_Qi (fun (r : Int32) (u : PS × Nat) => r = res.1 ∧ u = res.2) (BW D cy S n) (AA cy S n)) ([.ref y0] : List Value).toArray s 62 310 (AA cy S n)) (F0 m 109 ls []) := by
        intro Sb nb H1 lo1 kc ks hkc hks x0 x1 x2 ls hl hw hE v_x0 hf
        unfold f_X4_readConditions_B109 at hf
        refine lv_iinc (v := x2 + 1) (lv' := [(2, .int (x2 + 1)), (0, .ref x0), (1, .int x1)]) hx hb dX4_readConditions_109 hl (k := 2) rfl (by rfl) (by decide) rfl (fun ls hl => ?_)
        refine lv_goto (tgt := 11) hx hb dX4_readConditions_112 (by decide) ?_
        exact ih11 Sb nb _ _ _ _ (by omega) (by omega) x0 x1 (x2 + 1) _ (lv_sub hl [1, 2, 0] rfl) hw hE v_x0 hf
      have hB88 : ∀ (Sb : PS) (nb : Nat) (H1 : Heap) (lo1 : List Loc) (kc ks : Nat) (_ : kc + (0 + fu11 * 1 + 0) ≤ 62) (_ : ks + (0 + fu11 * 5 + 0) ≤ 310) (x0 : Nat) (x1 : Int32) (x2 : Int32) (ls : Array Slot), lv_has ls 4 [(0, .ref x0), (1, .int x1), (2, .int x2)] → Hw D cy (AA cy S n) s.heap Sb nb H1 lo1 → EX S Sb → vd Sb x0 4 → f_X4_readConditions_B88 (f_X4_readConditions_L11 f_X4_readConditions_B115 f_X4_readConditions_B74 fu11) f_X4_readConditions_B115 f_X4_readConditions_B74 Sb nb x0 x1 x2 = some res → W p l e (headSpec wsX4_readConditions ({ frames := 5, cells := 62, slots := 310, locals := 119 } : Room)).room s m ([.ref y0] : List Value).toArray below meth c H1 lo1 kc ks (MQ below (va_Qi (fun (r : Int32) (u : PS × Nat) => r = res.1 ∧ u = res.2) (BW D cy S n) (AA cy S n)) ([.ref y0] : List Value).toArray s 62 310 (AA cy S n)) (F0 m 88 ls []) := by
        intro Sb nb H1 lo1 kc ks hkc hks x0 x1 x2 ls hl hw hE v_x0 hf
        unfold f_X4_readConditions_B88 at hf
        refine lv_iload_n hx hb dX4_readConditions_88 rfl (lv_at hl 2 rfl) ?_
        refine lv_aload_n hx hb dX4_readConditions_89 rfl (lv_at hl 0 rfl) ?_
        refine q_get F hK hw.1 v_x0.1 (pF_4 (S := Sb) v_x0.2) (fun w h => List.mem_cons_of_mem _ (List.mem_append_left _ (List.mem_append_left _ (List.mem_append_left _ (List.mem_append_right _ h))))) rfl 5 (by decide) (hts (.fieldLink RX4 38 "SharedModuli" "length" "I") (List.mem_of_getElem? (i := 2) rfl)) (v := .int (fI Sb 69 x0)) rfl dX4_readConditions_90 ?_
        refine lv_icmp_ge (tgt := 109) hx hb dX4_readConditions_93 (by decide) (fun c36 => ?_) (fun c36 => ?_)
        · have hf := it_t c36 hf
          exact hB109 Sb nb _ _ _ _ (by omega) (by omega) x0 x1 x2 _ (lv_sub hl [0, 1, 2] rfl) hw hE v_x0 hf
        · have hf := it_f c36 hf
          refine lv_aload_n hx hb dX4_readConditions_96 rfl (lv_at hl 0 rfl) ?_
          obtain ⟨b37, e38, v_b37, hf⟩ := rq_some hf
          refine q_get F hK hw.1 v_x0.1 (pF_4 (S := Sb) v_x0.2) (fun w h => List.mem_cons_of_mem _ (List.mem_append_left _ (List.mem_append_left _ (List.mem_append_left _ (List.mem_append_right _ h))))) rfl 6 (by decide) (hts (.fieldLink RX4 44 "SharedModuli" "scanne\x72" "LSharedModuli$Scanner;") (List.mem_of_getElem? (i := 1) rfl)) (v := .ref b37) (congrArg (fun z => some (va_rf z)) e38) dX4_readConditions_97 ?_
          refine lv_aload_n hx hb dX4_readConditions_100 rfl (lv_at hl 0 rfl) ?_
          refine lv_iload_n hx hb dX4_readConditions_101 rfl (lv_at hl 2 rfl) ?_
          obtain ⟨t39, h40, hf⟩ := bd_some hf
          refine vp_callSi (va_runV (As := [.int x2]) (rest := [.ref b37]) F (c_X4_codeAt l D cy (H := _) hw.1 v_x0 h40) (cwV 1 hts gX4_readConditions_X4_codeAt rfl rfl rfl ⟨rfl, ph_X4_codeAt.1, ph_X4_codeAt.2, pd_X4_codeAt⟩ ⟨Nat.le_of_ble_eq_true rfl, Nat.le_of_ble_eq_true rfl⟩) ⟨PcR.bl, (q_rcv hK hw.1 v_x0.1 (pF_4 (S := Sb) v_x0.2) rfl), PcR.in hK⟩ rfl rfl hl.1 rfl (lv_room (Nat.le_of_ble_eq_true rfl)) dX4_readConditions_102 ⟨by show _ ≤ 62; omega, by show _ ≤ 310; omega⟩).run (fun r41 er41 => ?_)
          subst r41
          obtain ⟨t42, h43, hf⟩ := bd_some hf
          refine q_calli (va_runV (As := [.int t39]) (rest := []) F (c_X2_takes l D cy (S := Sb) v_b37 h43) (cwV 1 hts gX4_readConditions_X2_takes rfl rfl rfl ⟨rfl, ph_X2_takes.1, ph_X2_takes.2, pd_X2_takes⟩ ⟨Nat.le_of_ble_eq_true rfl, Nat.le_of_ble_eq_true rfl⟩) ⟨PcW.bl, (q_rcv hK hw.1 v_b37.1 (pF_2 (S := Sb) v_b37.2) rfl), PcW.in hK hw hA (fun z => z.elim)⟩ rfl rfl hl.1 rfl (lv_room (Nat.le_of_ble_eq_true rfl)) dX4_readConditions_105 ⟨by show _ ≤ 62; omega, by show _ ≤ 310; omega⟩) hw hA (fun H locs hw hX => ?_)
          have hE := hE.tr hX
          have v_x0 := hX _ _ v_x0
          have v_b37 := hX _ _ v_b37
          refine lv_pop hx hb dX4_readConditions_108 rfl ?_
          exact hB109 t42.2 nb _ _ _ _ (by omega) (by omega) x0 x1 x2 _ (lv_sub hl [0, 1, 2] rfl) hw hE v_x0 hf
      have hB37 : ∀ (Sb : PS) (nb : Nat) (H1 : Heap) (lo1 : List Loc) (kc ks : Nat) (_ : kc + (1 + fu11 * 1 + 0) ≤ 62) (_ : ks + (5 + fu11 * 5 + 0) ≤ 310) (x0 : Nat) (x1 : Int32) (x2 : Int32) (ls : Array Slot), lv_has ls 4 [(0, .ref x0), (1, .int x1), (2, .int x2)] → Hw D cy (AA cy S n) s.heap Sb nb H1 lo1 → EX S Sb → vd Sb x0 4 → f_X4_readConditions_B37 (f_X4_readConditions_L11 f_X4_readConditions_B115 f_X4_readConditions_B74 fu11) f_X4_readConditions_B115 f_X4_readConditions_B74 Sb nb x0 x1 x2 = some res → W p l e (headSpec wsX4_readConditions ({ frames := 5, cells := 62, slots := 310, locals := 119 } : Room)).room s m ([.ref y0] : List Value).toArray below meth c H1 lo1 kc ks (MQ below (va_Qi (fun (r : Int32) (u : PS × Nat) => r = res.1 ∧ u = res.2) (BW D cy S n) (AA cy S n)) ([.ref y0] : List Value).toArray s 62 310 (AA cy S n)) (F0 m 37 ls []) := by
        intro Sb nb H1 lo1 kc ks hkc hks x0 x1 x2 ls hl hw hE v_x0 hf
        unfold f_X4_readConditions_B37 at hf
        have hfr := hw.fresh
        refine q_new F hK hw hA (fun w h => List.mem_cons_of_mem _ (List.mem_append_left _ (List.mem_append_left _ (List.mem_append_right _ h)))) tyX0 tyX0_ok (hts (.classLink RX4 7 RX0) (List.mem_of_getElem? (i := 3) rfl)) (hts (.instantiable RX0 5) (List.mem_of_getElem? (i := 4) rfl)) (hts (.initialized RX0) (List.mem_of_getElem? (i := 5) rfl)) rfl (fs := [.int 0, .int 0, .int 0, .int 0, .int 0]) (fun j hj => by rcases (show j = 0 ∨ j = 1 ∨ j = 2 ∨ j = 3 ∨ j = 4 by omega) with rfl | rfl | rfl | rfl | rfl <;> rfl) (by show _ ≤ 62; omega) (by show _ ≤ 310; omega) dX4_readConditions_37 (S1 := nO Sb nb 0) (fun hq => nw_0 hq) (fun H hw => ?_)
        have hX := EX.nO (k := 0) hfr
        have hE := hE.tr hX
        have v_x0 := hX _ _ v_x0
        have v_q44 : vd (nO Sb nb 0) (nb) 0 := vd_nO
        refine lv_dup hx hb dX4_readConditions_40 rfl ?_
        refine lv_aload_n hx hb dX4_readConditions_41 rfl (lv_at hl 0 rfl) ?_
        obtain ⟨b45, e46, v_b45, hf⟩ := rq_some hf
        refine q_get F hK hw.1 v_x0.1 (pF_4 (S := nO Sb nb 0) v_x0.2) (fun w h => List.mem_cons_of_mem _ (List.mem_append_left _ (List.mem_append_left _ (List.mem_append_left _ (List.mem_append_right _ h))))) rfl 6 (by decide) (hts (.fieldLink RX4 44 "SharedModuli" "scanne\x72" "LSharedModuli$Scanner;") (List.mem_of_getElem? (i := 1) rfl)) (v := .ref b45) (congrArg (fun z => some (va_rf z)) e46) dX4_readConditions_42 ?_
        refine q_getN F hK hw.1 v_b45.1 (pF_2 (S := nO Sb nb 0) v_b45.2) (fun w h => List.mem_cons_of_mem _ (List.mem_append_left _ (List.mem_append_right _ h))) rfl 2 (by decide) (nk_f_RX4_327 hK.2.1) (v := .int (fI (nO Sb nb 0) 34 b45)) rfl dX4_readConditions_45 ?_
        refine lv_aload_n hx hb dX4_readConditions_48 rfl (lv_at hl 0 rfl) ?_
        obtain ⟨b47, e48, v_b47, hf⟩ := rq_some hf
        refine q_get F hK hw.1 v_x0.1 (pF_4 (S := nO Sb nb 0) v_x0.2) (fun w h => List.mem_cons_of_mem _ (List.mem_append_left _ (List.mem_append_left _ (List.mem_append_left _ (List.mem_append_right _ h))))) rfl 6 (by decide) (hts (.fieldLink RX4 44 "SharedModuli" "scanne\x72" "LSharedModuli$Scanner;") (List.mem_of_getElem? (i := 1) rfl)) (v := .ref b47) (congrArg (fun z => some (va_rf z)) e48) dX4_readConditions_49 ?_
        refine q_getN F hK hw.1 v_b47.1 (pF_2 (S := nO Sb nb 0) v_b47.2) (fun w h => List.mem_cons_of_mem _ (List.mem_append_left _ (List.mem_append_right _ h))) rfl 3 (by decide) (nk_f_RX4_328 hK.2.1) (v := .int (fI (nO Sb nb 0) 35 b47)) rfl dX4_readConditions_52 ?_
        refine lv_aload_n hx hb dX4_readConditions_55 rfl (lv_at hl 0 rfl) ?_
        obtain ⟨b49, e50, v_b49, hf⟩ := rq_some hf
        refine q_get F hK hw.1 v_x0.1 (pF_4 (S := nO Sb nb 0) v_x0.2) (fun w h => List.mem_cons_of_mem _ (List.mem_append_left _ (List.mem_append_left _ (List.mem_append_left _ (List.mem_append_right _ h))))) rfl 6 (by decide) (hts (.fieldLink RX4 44 "SharedModuli" "scanne\x72" "LSharedModuli$Scanner;") (List.mem_of_getElem? (i := 1) rfl)) (v := .ref b49) (congrArg (fun z => some (va_rf z)) e50) dX4_readConditions_56 ?_
        refine q_getN F hK hw.1 v_b49.1 (pF_2 (S := nO Sb nb 0) v_b49.2) (fun w h => List.mem_cons_of_mem _ (List.mem_append_left _ (List.mem_append_right _ h))) rfl 1 (by decide) (nk_f_RX4_329 hK.2.1) (v := .int (fI (nO Sb nb 0) 33 b49)) rfl dX4_readConditions_59 ?_
        obtain ⟨t51, h52, hf⟩ := bd_some hf
        refine q_callv (va_runI (As := [.int (fI (nO Sb nb 0) 34 b45), .int (fI (nO Sb nb 0) 35 b47), .int (fI (nO Sb nb 0) 33 b49)]) (rest := [.ref nb]) F (c_X0_init l D cy (S := nO Sb nb 0) v_q44 h52) (cwI 3 hts gX4_readConditions_X0_init rfl rfl rfl (hts (.initialized RX0) (List.mem_of_getElem? (i := 5) rfl)) (hts (.methodLink RX4 9 yX0_init) (List.mem_of_getElem? (i := 21) rfl)) (hts (.instanceMethod yX0_init) (List.mem_of_getElem? (i := 22) rfl)) rfl ⟨ph_X0_init.1, ph_X0_init.2, pd_X0_init⟩ ⟨Nat.le_of_ble_eq_true rfl, Nat.le_of_ble_eq_true rfl⟩) ⟨PcW.bl, PcW.in hK hw hA (fun z => z.elim)⟩ rfl rfl hl.1 rfl (lv_room (Nat.le_of_ble_eq_true rfl)) dX4_readConditions_62 ⟨by show _ ≤ 62; omega, by show _ ≤ 310; omega⟩) hw hA (fun H locs hw hX => ?_)
        have hE := hE.tr hX
        have v_x0 := hX _ _ v_x0
        have v_q44 := hX _ _ v_q44
        have v_b45 := hX _ _ v_b45
        have v_b47 := hX _ _ v_b47
        have v_b49 := hX _ _ v_b49
        refine lv_astore_n (lv' := [(3, .ref nb), (0, .ref x0), (1, .int x1), (2, .int x2)]) hx hb dX4_readConditions_65 rfl hl (by decide) rfl (fun ls hl => ?_)
        refine lv_aload_n hx hb dX4_readConditions_66 rfl (lv_at hl 1 rfl) ?_
        refine lv_aload_n hx hb dX4_readConditions_67 rfl (lv_at hl 0 rfl) ?_
        obtain ⟨t53, h54, hf⟩ := bd_some hf
        refine vp_callSi (va_runV (As := [.ref nb]) (rest := []) F (c_X4_isRefused l D cy (H := _) hw.1 v_x0 v_q44 h54) (cwV 1 hts gX4_readConditions_X4_isRefused rfl rfl rfl ⟨rfl, ph_X4_isRefused.1, ph_X4_isRefused.2, pd_X4_isRefused⟩ ⟨Nat.le_of_ble_eq_true rfl, Nat.le_of_ble_eq_true rfl⟩) ⟨PcR.bl, (q_rcv hK hw.1 v_x0.1 (pF_4 (S := t51) v_x0.2) rfl), PcR.in hK⟩ rfl rfl hl.1 rfl (lv_room (Nat.le_of_ble_eq_true rfl)) dX4_readConditions_68 ⟨by show _ ≤ 62; omega, by show _ ≤ 310; omega⟩).run (fun r55 er55 => ?_)
        subst r55
        refine lv_if_eq (tgt := 76) hx hb dX4_readConditions_71 (by decide) (fun c56 => ?_) (fun c56 => ?_)
        · have hf := it_t c56 hf
          refine lv_aload_n hx hb dX4_readConditions_76 rfl (lv_at hl 1 rfl) ?_
          obtain ⟨b57, e58, v_b57, hf⟩ := rq_some hf
          refine q_get F hK hw.1 v_x0.1 (pF_4 (S := t51) v_x0.2) (fun w h => List.mem_cons_of_mem _ (List.mem_append_left _ (List.mem_append_left _ (List.mem_append_left _ (List.mem_append_right _ h))))) rfl 0 (by decide) (hts (.fieldLink RX4 17 "SharedModuli" "now" "LSharedModuli$State;") (List.mem_of_getElem? (i := 6) rfl)) (v := .ref b57) (congrArg (fun z => some (va_rf z)) e58) dX4_readConditions_77 ?_
          refine lv_aload_n hx hb dX4_readConditions_80 rfl (lv_at hl 0 rfl) ?_
          obtain ⟨t59, h60, hf⟩ := bd_some hf
          refine q_calli (va_runV (As := [.ref nb]) (rest := []) F (c_X3_put l D cy (S := t51) v_b57 v_q44 h60) (cwV 1 hts gX4_readConditions_X3_put rfl rfl rfl ⟨rfl, ph_X3_put.1, ph_X3_put.2, pd_X3_put⟩ ⟨Nat.le_of_ble_eq_true rfl, Nat.le_of_ble_eq_true rfl⟩) ⟨PcW.bl, (q_rcv hK hw.1 v_b57.1 (pF_3 (S := t51) v_b57.2) rfl), PcW.in hK hw hA (fun z => z.elim)⟩ rfl rfl hl.1 rfl (lv_room (Nat.le_of_ble_eq_true rfl)) dX4_readConditions_81 ⟨by show _ ≤ 62; omega, by show _ ≤ 310; omega⟩) hw hA (fun H locs hw hX => ?_)
          have hE := hE.tr hX
          have v_x0 := hX _ _ v_x0
          have v_q44 := hX _ _ v_q44
          have v_b45 := hX _ _ v_b45
          have v_b47 := hX _ _ v_b47
          have v_b49 := hX _ _ v_b49
          have v_b57 := hX _ _ v_b57
          refine lv_pop hx hb dX4_readConditions_84 rfl ?_
          refine lv_iinc (v := x1 + 1) (lv' := [(1, .int (x1 + 1)), (3, .ref nb), (0, .ref x0), (2, .int x2)]) hx hb dX4_readConditions_85 hl (k := 2) rfl (by rfl) (by decide) rfl (fun ls hl => ?_)
          exact hB88 t59.2 (nb + 1) _ _ _ _ (by omega) (by omega) x0 (x1 + 1) x2 _ (lv_sub hl [2, 0, 3] rfl) hw hE v_x0 hf
        · have hf := it_f c56 hf
          exact hB74 t51 (nb + 1) _ _ _ _ (by omega) (by omega) x1 _ (lv_sub hl [2] rfl) hw hE  hf
      intro Sb nb H1 lo1 kc ks hkc hks x0 x1 x2 ls hl hw hE v_x0 hf
      have hf : f_X4_readConditions_L11s (f_X4_readConditions_L11 f_X4_readConditions_B115 f_X4_readConditions_B74 fu11) f_X4_readConditions_B115 f_X4_readConditions_B74 Sb nb x0 x1 x2 = some res := hf
      unfold f_X4_readConditions_L11s at hf
      refine lv_iload_n hx hb dX4_readConditions_11 rfl (lv_at hl 2 rfl) ?_
      refine lv_aload_n hx hb dX4_readConditions_12 rfl (lv_at hl 0 rfl) ?_
      refine q_get F hK hw.1 v_x0.1 (pF_4 (S := Sb) v_x0.2) (fun w h => List.mem_cons_of_mem _ (List.mem_append_left _ (List.mem_append_left _ (List.mem_append_left _ (List.mem_append_right _ h))))) rfl 5 (by decide) (hts (.fieldLink RX4 38 "SharedModuli" "length" "I") (List.mem_of_getElem? (i := 2) rfl)) (v := .int (fI Sb 69 x0)) rfl dX4_readConditions_13 ?_
      refine lv_icmp_gt (tgt := 115) hx hb dX4_readConditions_16 (by decide) (fun c61 => ?_) (fun c61 => ?_)
      · have hf := it_t c61 hf
        exact hB115 Sb nb _ _ _ _ (by omega) (by omega) x1 _ (lv_sub hl [1] rfl) hw hE  hf
      · have hf := it_f c61 hf
        refine lv_iload_n hx hb dX4_readConditions_19 rfl (lv_at hl 2 rfl) ?_
        refine lv_aload_n hx hb dX4_readConditions_20 rfl (lv_at hl 0 rfl) ?_
        refine q_get F hK hw.1 v_x0.1 (pF_4 (S := Sb) v_x0.2) (fun w h => List.mem_cons_of_mem _ (List.mem_append_left _ (List.mem_append_left _ (List.mem_append_left _ (List.mem_append_right _ h))))) rfl 5 (by decide) (hts (.fieldLink RX4 38 "SharedModuli" "length" "I") (List.mem_of_getElem? (i := 2) rfl)) (v := .int (fI Sb 69 x0)) rfl dX4_readConditions_21 ?_
        refine lv_icmp_eq (tgt := 37) hx hb dX4_readConditions_24 (by decide) (fun c62 => ?_) (fun c62 => ?_)
        · have hf := it_t c62 hf
          exact hB37 Sb nb _ _ _ _ (by omega) (by omega) x0 x1 x2 _ (lv_sub hl [0, 1, 2] rfl) hw hE v_x0 hf
        · have hf := it_f c62 hf
          refine lv_aload_n hx hb dX4_readConditions_27 rfl (lv_at hl 0 rfl) ?_
          refine lv_iload_n hx hb dX4_readConditions_28 rfl (lv_at hl 2 rfl) ?_
          obtain ⟨t63, h64, hf⟩ := bd_some hf
          refine vp_callSi (va_runV (As := [.int x2]) (rest := []) F (c_X4_codeAt l D cy (H := _) hw.1 v_x0 h64) (cwV 1 hts gX4_readConditions_X4_codeAt rfl rfl rfl ⟨rfl, ph_X4_codeAt.1, ph_X4_codeAt.2, pd_X4_codeAt⟩ ⟨Nat.le_of_ble_eq_true rfl, Nat.le_of_ble_eq_true rfl⟩) ⟨PcR.bl, (q_rcv hK hw.1 v_x0.1 (pF_4 (S := Sb) v_x0.2) rfl), PcR.in hK⟩ rfl rfl hl.1 rfl (lv_room (Nat.le_of_ble_eq_true rfl)) dX4_readConditions_29 ⟨by show _ ≤ 62; omega, by show _ ≤ 310; omega⟩).run (fun r65 er65 => ?_)
          subst r65
          refine lv_bipush (v := 59) hx hb dX4_readConditions_32 (by decide) ?_
          refine lv_icmp_ne (tgt := 88) hx hb dX4_readConditions_34 (by decide) (fun c66 => ?_) (fun c66 => ?_)
          · have hf := it_f c66 hf
            exact hB88 Sb nb _ _ _ _ (by omega) (by omega) x0 x1 x2 _ (lv_sub hl [0, 1, 2] rfl) hw hE v_x0 hf
          · have hf := it_t c66 hf
            exact hB37 Sb nb _ _ _ _ (by omega) (by omega) x0 x1 x2 _ (lv_sub hl [0, 1, 2] rfl) hw hE v_x0 hf
  have hl := lv_entry ([.ref y0]) (n := 4) (Nat.le_of_ble_eq_true rfl)
  rw [lg_entry_eq]
  generalize (lg_sl ([.ref y0]) ++ List.replicate (4 - (lg_sl ([.ref y0])).length) Slot.unset).toArray = ls at hl ⊢
  have hl : lv_has ls 4 [(0, .ref y0)] := hl
  unfold f_X4_readConditions at hf
  refine lv_iconst (v := 0) hx hb dX4_readConditions_0 (by decide) ?_
  refine lv_istore_n (lv' := [(1, .int 0), (0, .ref y0)]) hx hb dX4_readConditions_1 rfl hl (by decide) rfl (fun ls hl => ?_)
  refine lv_aload_n hx hb dX4_readConditions_2 rfl (lv_at hl 1 rfl) ?_
  obtain ⟨b67, e68, v_b67, hf⟩ := rq_some hf
  refine q_get F hK hw.1 v_y0.1 (pF_4 (S := S) v_y0.2) (fun w h => List.mem_cons_of_mem _ (List.mem_append_left _ (List.mem_append_left _ (List.mem_append_left _ (List.mem_append_right _ h))))) rfl 6 (by decide) (hts (.fieldLink RX4 44 "SharedModuli" "scanne\x72" "LSharedModuli$Scanner;") (List.mem_of_getElem? (i := 1) rfl)) (v := .ref b67) (congrArg (fun z => some (va_rf z)) e68) dX4_readConditions_3 ?_
  obtain ⟨t69, h70, hf⟩ := bd_some hf
  refine q_callv (va_runVN (As := []) (rest := []) F (c_X2_start l D cy (S := S) v_b67 h70) ⟨(va_cnB 0 hts gX4_readConditions_X2_start_n157 rfl rfl rfl (nk_m_RX4_157 hK.2.1) (hts (.initialized RX2) (List.mem_of_getElem? (i := 8) rfl)) ⟨ph_X2_start.1, ph_X2_start.2, pd_X2_start⟩ ⟨Nat.le_of_ble_eq_true rfl, Nat.le_of_ble_eq_true rfl⟩), (hts (.instanceMethod yX2_start) (List.mem_of_getElem? (i := 7) rfl)), (hts (.selects RX2 yX2_start yX2_start) (List.mem_of_getElem? (i := 9) rfl))⟩ ⟨PcW.bl, (q_rcv hK hw.1 v_b67.1 (pF_2 (S := S) v_b67.2) rfl), PcW.in hK hw hA (fun z => z.elim)⟩ rfl rfl hl.1 rfl (lv_room (Nat.le_of_ble_eq_true rfl)) dX4_readConditions_6 ⟨by show _ ≤ 62; omega, by show _ ≤ 310; omega⟩) hw hA (fun H locs hw hX => ?_)
  have hE := hE.tr hX
  have v_y0 := hX _ _ v_y0
  have v_b67 := hX _ _ v_b67
  refine lv_iconst (v := 0) hx hb dX4_readConditions_9 (by decide) ?_
  refine lv_istore_n (lv' := [(2, .int 0), (1, .int 0), (0, .ref y0)]) hx hb dX4_readConditions_10 rfl hl (by decide) rfl (fun ls hl => ?_)
  exact hL11 62 t69 n _ _ _ _ (by omega) (by omega) y0 0 0 _ (lv_sub hl [2, 1, 0] rfl) hw hE v_y0 hf
def f_X4_read_B21 (S : PS) (n : Nat) : Option ((Int32 ⊕ Nat) × PS × Nat) :=
  some (.inr 0, S, n)
def f_X4_read (S : PS) (n : Nat) (x0 : Nat) : Option ((Int32 ⊕ Nat) × PS × Nat) :=
  bd (f_X4_firstError S x0) fun t1 =>
  if t1.1 < (fI t1.2 69 x0) then (f_X4_read_B21 t1.2 n) else
  rq (fR t1.2 70 x0) t1.2 2 fun b4 =>
  bd (f_X2_isComplete t1.2 b4) fun t6 =>
  if t6 = 0 then (f_X4_read_B21 t1.2 n) else
  bd (f_X4_save t1.2 x0) fun t10 =>
  bd (f_X4_readConditions t10 n x0) fun t12 =>
  some (.inl t12.1, sI t12.2.1 69 x0 0, t12.2.2)
set_option maxHeartbeats 4000000 in
set_option maxRecDepth 100000 in
theorem c_X4_read (l : Launch) (hst : l.stackTraces = false) (D : va_G) (cy : cyT) {S : PS} {n : Nat} {y0 : Nat} (v_y0 : vd S y0 4) {res : (Int32 ⊕ Nat) × PS × Nat} (hf : f_X4_read S n y0 = some res) : vx_Met l yX4_read wsX4_read ({ frames := 6, cells := 62, slots := 310, locals := 142 } : Room) (PcW True D cy S n [.ref y0]) (va_Qi (fun (r : Int32) (u : PS × Nat) => Sum.inl r = res.1 ∧ u = res.2) (BW D cy S n) (AA cy S n)) (vx_X (fun k : Nat => res.1 = .inr k) (fun E k t => XO D cy S n res.2.1 E k t) (AA cy S n)) 62 310 (AA cy S n) := by
  refine vx_ofW (cc := cX4_read) (maxL := 2) (ret := (some .int)) (by decide) rfl ?_
  intro p e s m args below meth c s₁ B hml hex hv
  obtain ⟨hav, hsz, hP0, hD0, hK, hZ0⟩ := hv
  have hx := B.exec
  have hb := B.bytes
  have hr := B.returns
  have hts := atoms_spec (ws := wsX4_read) B.pre
  have hown : s.vm.findClass RX4 = some m.cls := findClass_of_methodNamed B.named
  have hlocks := B.notSynchronized
  subst hav
  have hw : Hw D cy (AA cy S n) s.heap S n s.heap [] := Hw.start hsz hP0 hD0
  have hA : ∀ q, s.heap.size ≤ q → AA cy S n q := fun q h => Or.inr (hsz ▸ h)
  have hE : EX S S := EX.rf
  have hZ := hZ0 trivial
  have F : CallFix p m c cX4_read 2 s _ wsX4_read RX4 := ⟨hx, hb, hml, hown, hts⟩
  have hB21 : ∀ (Sb : PS) (nb : Nat) (H1 : Heap) (lo1 : List Loc) (kc ks : Nat) (_ : kc + 1 ≤ 62) (_ : ks + 6 ≤ 310)  (ls : Array Slot), lv_has ls 2 [] → Hw D cy (AA cy S n) s.heap Sb nb H1 lo1 → EX S Sb → f_X4_read_B21 Sb nb = some res → W p l e (headSpec wsX4_read ({ frames := 6, cells := 62, slots := 310, locals := 142 } : Room)).room s m ([.ref y0] : List Value).toArray below meth c H1 lo1 kc ks (vx_MQ below (va_Qi (fun (r : Int32) (u : PS × Nat) => Sum.inl r = res.1 ∧ u = res.2) (BW D cy S n) (AA cy S n)) (vx_X (fun k : Nat => res.1 = .inr k) (fun E k t => XO D cy S n res.2.1 E k t) (AA cy S n)) ([.ref y0] : List Value).toArray s 62 310 (AA cy S n)) (F0 m 21 ls []) := by
    intro Sb nb H1 lo1 kc ks hkc hks ls hl hw hE hf
    unfold f_X4_read_B21 at hf
    obtain ⟨sa, hsa⟩ := sk_172 hK.2.2.1
    refine vx_throwS hx hb hst (names := ["java/lang/RuntimeException", "java/lang/Exception"]) hown (by decide +kernel) (by decide +kernel) (hts (.classLink RX4 59 "java/lang/IllegalArgumentException") (List.mem_of_getElem? (i := 1) rfl)) (hts (.initialized "java/lang/IllegalArgumentException") (List.mem_of_getElem? (i := 2) rfl)) hsa (vx_hat (B := xb_63) (fun w h => hts w (List.mem_cons_of_mem _ (List.mem_append_right _ h))) xn_63 (xk_63 hK.2.2.2.2.2)) xg_63 hZ.1 hZ.2.1 hw.2.2.1 (hl.1.trans hml.symm) dX4_read_21 dX4_read_24 dX4_read_25 dX4_read_27 dX4_read_30 (fun x h => (hex x h).elim) (Nat.le_of_ble_eq_true rfl) (Nat.le_of_ble_eq_true rfl) (by show _ ≤ 62; omega) (by show _ ≤ 310; omega) hlocks (fun t hvm hz hk => ?_) hw.2.2.1.2.2 (by omega) (by omega)
    exact xo_of hw hE hz hk (by show (_ : String) = _; rfl) (po3x hf).1 (po3x hf).2
  have hl := lv_entry ([.ref y0]) (n := 2) (Nat.le_of_ble_eq_true rfl)
  rw [lg_entry_eq]
  generalize (lg_sl ([.ref y0]) ++ List.replicate (2 - (lg_sl ([.ref y0])).length) Slot.unset).toArray = ls at hl ⊢
  have hl : lv_has ls 2 [(0, .ref y0)] := hl
  unfold f_X4_read at hf
  refine lv_aload_n hx hb dX4_read_0 rfl (lv_at hl 0 rfl) ?_
  obtain ⟨t14, h15, hf⟩ := bd_some hf
  refine q_calli (va_runV (As := []) (rest := []) F (c_X4_firstError l D cy (S := S) v_y0 h15) (cwV 0 hts gX4_read_X4_firstError rfl rfl rfl ⟨rfl, ph_X4_firstError.1, ph_X4_firstError.2, pd_X4_firstError⟩ ⟨Nat.le_of_ble_eq_true rfl, Nat.le_of_ble_eq_true rfl⟩) ⟨PcW.bl, (q_rcv hK hw.1 v_y0.1 (pF_4 (S := S) v_y0.2) rfl), PcW.in hK hw hA (fun z => z.elim)⟩ rfl rfl hl.1 rfl (lv_room (Nat.le_of_ble_eq_true rfl)) dX4_read_1 ⟨by show _ ≤ 62; omega, by show _ ≤ 310; omega⟩) hw hA (fun H locs hw hX => ?_)
  have hE := hE.tr hX
  have v_y0 := hX _ _ v_y0
  refine lv_aload_n hx hb dX4_read_4 rfl (lv_at hl 0 rfl) ?_
  refine q_get F hK hw.1 v_y0.1 (pF_4 (S := t14.2) v_y0.2) (fun w h => List.mem_cons_of_mem _ (List.mem_append_left _ (List.mem_append_left _ (List.mem_append_left _ (List.mem_append_left _ (List.mem_append_right _ h)))))) rfl 5 (by decide) (hts (.fieldLink RX4 38 "SharedModuli" "length" "I") (List.mem_of_getElem? (i := 3) rfl)) (v := .int (fI t14.2 69 y0)) rfl dX4_read_5 ?_
  refine lv_icmp_lt (tgt := 21) hx hb dX4_read_8 (by decide) (fun c16 => ?_) (fun c16 => ?_)
  · have hf := it_t c16 hf
    exact hB21 t14.2 n _ _ _ _ (by omega) (by omega) _ (lv_sub hl [] rfl) hw hE  hf
  · have hf := it_f c16 hf
    refine lv_aload_n hx hb dX4_read_11 rfl (lv_at hl 0 rfl) ?_
    obtain ⟨b17, e18, v_b17, hf⟩ := rq_some hf
    refine q_get F hK hw.1 v_y0.1 (pF_4 (S := t14.2) v_y0.2) (fun w h => List.mem_cons_of_mem _ (List.mem_append_left _ (List.mem_append_left _ (List.mem_append_left _ (List.mem_append_left _ (List.mem_append_right _ h)))))) rfl 6 (by decide) (hts (.fieldLink RX4 44 "SharedModuli" "scanne\x72" "LSharedModuli$Scanner;") (List.mem_of_getElem? (i := 4) rfl)) (v := .ref b17) (congrArg (fun z => some (va_rf z)) e18) dX4_read_12 ?_
    obtain ⟨t19, h20, hf⟩ := bd_some hf
    refine vp_callSi (va_runV (As := []) (rest := []) F (c_X2_isComplete l D cy (H := _) hw.1 v_b17 h20) (cwV 0 hts gX4_read_X2_isComplete rfl rfl rfl ⟨rfl, ph_X2_isComplete.1, ph_X2_isComplete.2, pd_X2_isComplete⟩ ⟨Nat.le_of_ble_eq_true rfl, Nat.le_of_ble_eq_true rfl⟩) ⟨PcR.bl, (q_rcv hK hw.1 v_b17.1 (pF_2 (S := t14.2) v_b17.2) rfl), PcR.in hK⟩ rfl rfl hl.1 rfl (lv_room (Nat.le_of_ble_eq_true rfl)) dX4_read_15 ⟨by show _ ≤ 62; omega, by show _ ≤ 310; omega⟩).run (fun r21 er21 => ?_)
    subst r21
    refine lv_if_ne (tgt := 31) hx hb dX4_read_18 (by decide) (fun c22 => ?_) (fun c22 => ?_)
    · have hf := it_f c22 hf
      refine lv_aload_n hx hb dX4_read_31 rfl (lv_at hl 0 rfl) ?_
      obtain ⟨t23, h24, hf⟩ := bd_some hf
      refine q_callv (va_runV (As := []) (rest := []) F (c_X4_save l D cy (S := t14.2) v_y0 h24) (cwV 0 hts gX4_read_X4_save rfl rfl rfl ⟨rfl, ph_X4_save.1, ph_X4_save.2, pd_X4_save⟩ ⟨Nat.le_of_ble_eq_true rfl, Nat.le_of_ble_eq_true rfl⟩) ⟨PcW.bl, (q_rcv hK hw.1 v_y0.1 (pF_4 (S := t14.2) v_y0.2) rfl), PcW.in hK hw hA (fun z => z.elim)⟩ rfl rfl hl.1 rfl (lv_room (Nat.le_of_ble_eq_true rfl)) dX4_read_32 ⟨by show _ ≤ 62; omega, by show _ ≤ 310; omega⟩) hw hA (fun H locs hw hX => ?_)
      have hE := hE.tr hX
      have v_y0 := hX _ _ v_y0
      have v_b17 := hX _ _ v_b17
      refine lv_aload_n hx hb dX4_read_35 rfl (lv_at hl 0 rfl) ?_
      obtain ⟨t25, h26, hf⟩ := bd_some hf
      refine q_calli (va_runV (As := []) (rest := []) F (c_X4_readConditions l D cy (S := t23) v_y0 h26) (cwV 0 hts gX4_read_X4_readConditions rfl rfl rfl ⟨rfl, ph_X4_readConditions.1, ph_X4_readConditions.2, pd_X4_readConditions⟩ ⟨Nat.le_of_ble_eq_true rfl, Nat.le_of_ble_eq_true rfl⟩) ⟨PcW.bl, (q_rcv hK hw.1 v_y0.1 (pF_4 (S := t23) v_y0.2) rfl), PcW.in hK hw hA (fun z => z.elim)⟩ rfl rfl hl.1 rfl (lv_room (Nat.le_of_ble_eq_true rfl)) dX4_read_36 ⟨by show _ ≤ 62; omega, by show _ ≤ 310; omega⟩) hw hA (fun H locs hw hX => ?_)
      have hE := hE.tr hX
      have v_y0 := hX _ _ v_y0
      have v_b17 := hX _ _ v_b17
      refine lv_istore_n (lv' := [(1, .int t25.1), (0, .ref y0)]) hx hb dX4_read_39 rfl hl (by decide) rfl (fun ls hl => ?_)
      refine lv_aload_n hx hb dX4_read_40 rfl (lv_at hl 1 rfl) ?_
      refine lv_iconst (v := 0) hx hb dX4_read_41 (by decide) ?_
      refine q_put F hK hw v_y0.1 (pF_4 (S := t25.2.1) v_y0.2) (fun w h => List.mem_cons_of_mem _ (List.mem_append_left _ (List.mem_append_left _ (List.mem_append_left _ (List.mem_append_left _ (List.mem_append_right _ h)))))) tyX4 tyX4_ok nmX4 rfl 5 (by decide) (hts (.fieldLink RX4 38 "SharedModuli" "length" "I") (List.mem_of_getElem? (i := 3) rfl)) (Or.inl rfl) (tyX4_ok 5 (by decide)) rfl rfl (Nat.le_of_ble_eq_true rfl) (S1 := sI t25.2.1 69 y0 0) (st_69 (S := t25.2.1) v_y0.2 0) dX4_read_42 (fun H locs hw => ?_)
      refine lv_iload_n hx hb dX4_read_45 rfl (lv_at hl 0 rfl) ?_
      refine vx_ret ?_
      refine W.widen (k := 62) (n := 310) (by omega) (by omega) ?_
      exact W.iret (v := t25.1) hx hb hr (fun t ht hW => ⟨⟨_, (sI t25.2.1 69 y0 0, t25.2.2), rfl, po3t hf, BW.of hw hE ht⟩, hw.2.2.1.F ht⟩) hw.2.2.1.2.2 dX4_read_46
    · have hf := it_t c22 hf
      exact hB21 t14.2 n _ _ _ _ (by omega) (by omega) _ (lv_sub hl [] rfl) hw hE  hf
def f_X4_undo (S : PS) (x0 : Nat) : Option ((Int32 ⊕ Nat) × PS) :=
  if 1 ≤ (fI S 67 x0) then (rq (fR (sI S 67 x0 ((fI S 67 x0) - (1 : Int32))) 64 x0) (sI S 67 x0 ((fI S 67 x0) - (1 : Int32))) 3 fun b2 =>
  bd (f_X4_savedAt (sI S 67 x0 ((fI S 67 x0) - (1 : Int32))) x0 ((fI (sI S 67 x0 ((fI S 67 x0) - (1 : Int32))) 66 x0) + (fI (sI S 67 x0 ((fI S 67 x0) - (1 : Int32))) 67 x0))) fun t4 =>
  bd (f_X3_copyFrom (sI S 67 x0 ((fI S 67 x0) - (1 : Int32))) b2 t4) fun t7 =>
  some (.inl (fI t7 67 x0), t7)) else
  some (.inr 1, S)
set_option maxHeartbeats 4000000 in
set_option maxRecDepth 100000 in
theorem c_X4_undo (l : Launch) (hst : l.stackTraces = false) (D : va_G) (cy : cyT) {S : PS} {n : Nat} {y0 : Nat} (v_y0 : vd S y0 4) {res : (Int32 ⊕ Nat) × PS} (hf : f_X4_undo S y0 = some res) : vx_Met l yX4_undo wsX4_undo ({ frames := 6, cells := 1, slots := 6, locals := 90 } : Room) (PcW True D cy S n [.ref y0]) (va_Qi (fun (r : Int32) (u : PS × Nat) => Sum.inl r = res.1 ∧ u = (res.2, n)) (BW D cy S n) (AA cy S n)) (vx_X (fun k : Nat => res.1 = .inr k) (fun E k t => XO D cy S n res.2 E k t) (AA cy S n)) 1 6 (AA cy S n) := by
  refine vx_ofW (cc := cX4_undo) (maxL := 1) (ret := (some .int)) (by decide) rfl ?_
  intro p e s m args below meth c s₁ B hml hex hv
  obtain ⟨hav, hsz, hP0, hD0, hK, hZ0⟩ := hv
  have hx := B.exec
  have hb := B.bytes
  have hr := B.returns
  have hts := atoms_spec (ws := wsX4_undo) B.pre
  have hown : s.vm.findClass RX4 = some m.cls := findClass_of_methodNamed B.named
  have hlocks := B.notSynchronized
  subst hav
  have hw : Hw D cy (AA cy S n) s.heap S n s.heap [] := Hw.start hsz hP0 hD0
  have hA : ∀ q, s.heap.size ≤ q → AA cy S n q := fun q h => Or.inr (hsz ▸ h)
  have hE : EX S S := EX.rf
  have hZ := hZ0 trivial
  have F : CallFix p m c cX4_undo 1 s _ wsX4_undo RX4 := ⟨hx, hb, hml, hown, hts⟩
  have hl := lv_entry ([.ref y0]) (n := 1) (Nat.le_of_ble_eq_true rfl)
  rw [lg_entry_eq]
  generalize (lg_sl ([.ref y0]) ++ List.replicate (1 - (lg_sl ([.ref y0])).length) Slot.unset).toArray = ls at hl ⊢
  have hl : lv_has ls 1 [(0, .ref y0)] := hl
  unfold f_X4_undo at hf
  refine lv_aload_n hx hb dX4_undo_0 rfl (lv_at hl 0 rfl) ?_
  refine q_get F hK hw.1 v_y0.1 (pF_4 (S := S) v_y0.2) (fun w h => List.mem_cons_of_mem _ (List.mem_append_left _ (List.mem_append_left _ (List.mem_append_right _ h)))) rfl 3 (by decide) (hts (.fieldLink RX4 31 "SharedModuli" "savedStates" "I") (List.mem_of_getElem? (i := 3) rfl)) (v := .int (fI S 67 y0)) rfl dX4_undo_1 ?_
  refine lv_iconst (v := 1) hx hb dX4_undo_4 (by decide) ?_
  refine lv_icmp_ge (tgt := 18) hx hb dX4_undo_5 (by decide) (fun c9 => ?_) (fun c9 => ?_)
  · have hf := it_t c9 hf
    refine lv_aload_n hx hb dX4_undo_18 rfl (lv_at hl 0 rfl) ?_
    refine lv_dup hx hb dX4_undo_19 rfl ?_
    refine q_get F hK hw.1 v_y0.1 (pF_4 (S := S) v_y0.2) (fun w h => List.mem_cons_of_mem _ (List.mem_append_left _ (List.mem_append_left _ (List.mem_append_right _ h)))) rfl 3 (by decide) (hts (.fieldLink RX4 31 "SharedModuli" "savedStates" "I") (List.mem_of_getElem? (i := 3) rfl)) (v := .int (fI S 67 y0)) rfl dX4_undo_20 ?_
    refine lv_iconst (v := 1) hx hb dX4_undo_23 (by decide) ?_
    refine lv_isub hx hb dX4_undo_24 ?_
    refine q_put F hK hw v_y0.1 (pF_4 (S := S) v_y0.2) (fun w h => List.mem_cons_of_mem _ (List.mem_append_left _ (List.mem_append_left _ (List.mem_append_right _ h)))) tyX4 tyX4_ok nmX4 rfl 3 (by decide) (hts (.fieldLink RX4 31 "SharedModuli" "savedStates" "I") (List.mem_of_getElem? (i := 3) rfl)) (Or.inl rfl) (tyX4_ok 3 (by decide)) rfl rfl (Nat.le_of_ble_eq_true rfl) (S1 := sI S 67 y0 ((fI S 67 y0) - (1 : Int32))) (st_67 (S := S) v_y0.2 ((fI S 67 y0) - (1 : Int32))) dX4_undo_25 (fun H locs hw => ?_)
    refine lv_aload_n hx hb dX4_undo_28 rfl (lv_at hl 0 rfl) ?_
    obtain ⟨b10, e11, v_b10, hf⟩ := rq_some hf
    refine q_get F hK hw.1 v_y0.1 (pF_4 (S := sI S 67 y0 ((fI S 67 y0) - (1 : Int32))) v_y0.2) (fun w h => List.mem_cons_of_mem _ (List.mem_append_left _ (List.mem_append_left _ (List.mem_append_right _ h)))) rfl 0 (by decide) (hts (.fieldLink RX4 17 "SharedModuli" "now" "LSharedModuli$State;") (List.mem_of_getElem? (i := 4) rfl)) (v := .ref b10) (congrArg (fun z => some (va_rf z)) e11) dX4_undo_29 ?_
    refine lv_aload_n hx hb dX4_undo_32 rfl (lv_at hl 0 rfl) ?_
    refine lv_aload_n hx hb dX4_undo_33 rfl (lv_at hl 0 rfl) ?_
    refine q_get F hK hw.1 v_y0.1 (pF_4 (S := sI S 67 y0 ((fI S 67 y0) - (1 : Int32))) v_y0.2) (fun w h => List.mem_cons_of_mem _ (List.mem_append_left _ (List.mem_append_left _ (List.mem_append_right _ h)))) rfl 2 (by decide) (hts (.fieldLink RX4 27 "SharedModuli" "oldestSaved" "I") (List.mem_of_getElem? (i := 5) rfl)) (v := .int (fI (sI S 67 y0 ((fI S 67 y0) - (1 : Int32))) 66 y0)) rfl dX4_undo_34 ?_
    refine lv_aload_n hx hb dX4_undo_37 rfl (lv_at hl 0 rfl) ?_
    refine q_get F hK hw.1 v_y0.1 (pF_4 (S := sI S 67 y0 ((fI S 67 y0) - (1 : Int32))) v_y0.2) (fun w h => List.mem_cons_of_mem _ (List.mem_append_left _ (List.mem_append_left _ (List.mem_append_right _ h)))) rfl 3 (by decide) (hts (.fieldLink RX4 31 "SharedModuli" "savedStates" "I") (List.mem_of_getElem? (i := 3) rfl)) (v := .int (fI (sI S 67 y0 ((fI S 67 y0) - (1 : Int32))) 67 y0)) rfl dX4_undo_38 ?_
    refine lv_iadd hx hb dX4_undo_41 ?_
    obtain ⟨t12, h13, hf⟩ := bd_some hf
    refine va_csr (va_runV (As := [.int ((fI (sI S 67 y0 ((fI S 67 y0) - (1 : Int32))) 66 y0) + (fI (sI S 67 y0 ((fI S 67 y0) - (1 : Int32))) 67 y0))]) (rest := [.ref b10]) F (c_X4_savedAt l D cy (H := _) hw.1 v_y0 h13) (cwV 1 hts gX4_undo_X4_savedAt rfl rfl rfl ⟨rfl, ph_X4_savedAt.1, ph_X4_savedAt.2, pd_X4_savedAt⟩ ⟨Nat.le_of_ble_eq_true rfl, Nat.le_of_ble_eq_true rfl⟩) ⟨PcR.bl, (q_rcv hK hw.1 v_y0.1 (pF_4 (S := sI S 67 y0 ((fI S 67 y0) - (1 : Int32))) v_y0.2) rfl), PcR.in hK⟩ rfl rfl hl.1 rfl (lv_room (Nat.le_of_ble_eq_true rfl)) dX4_undo_42 ⟨by show _ ≤ 1; omega, by show _ ≤ 6; omega⟩).run (fun r14 er14 => ?_)
    obtain ⟨er14, v_t12⟩ := er14
    subst r14
    obtain ⟨t15, h16, hf⟩ := bd_some hf
    refine q_callv (va_runV (As := [.ref t12]) (rest := []) F (c_X3_copyFrom l D cy (S := sI S 67 y0 ((fI S 67 y0) - (1 : Int32))) v_b10 v_t12 h16) (cwV 1 hts gX4_undo_X3_copyFrom rfl rfl rfl ⟨rfl, ph_X3_copyFrom.1, ph_X3_copyFrom.2, pd_X3_copyFrom⟩ ⟨Nat.le_of_ble_eq_true rfl, Nat.le_of_ble_eq_true rfl⟩) ⟨PcW.bl, (q_rcv hK hw.1 v_b10.1 (pF_3 (S := sI S 67 y0 ((fI S 67 y0) - (1 : Int32))) v_b10.2) rfl), PcW.in hK hw hA (fun z => z.elim)⟩ rfl rfl hl.1 rfl (lv_room (Nat.le_of_ble_eq_true rfl)) dX4_undo_45 ⟨by show _ ≤ 1; omega, by show _ ≤ 6; omega⟩) hw hA (fun H locs hw hX => ?_)
    have hE := hE.tr hX
    have v_y0 := hX _ _ v_y0
    have v_b10 := hX _ _ v_b10
    have v_t12 := hX _ _ v_t12
    refine lv_aload_n hx hb dX4_undo_48 rfl (lv_at hl 0 rfl) ?_
    refine q_get F hK hw.1 v_y0.1 (pF_4 (S := t15) v_y0.2) (fun w h => List.mem_cons_of_mem _ (List.mem_append_left _ (List.mem_append_left _ (List.mem_append_right _ h)))) rfl 3 (by decide) (hts (.fieldLink RX4 31 "SharedModuli" "savedStates" "I") (List.mem_of_getElem? (i := 3) rfl)) (v := .int (fI t15 67 y0)) rfl dX4_undo_49 ?_
    refine vx_ret ?_
    refine W.widen (k := 1) (n := 6) (by omega) (by omega) ?_
    exact W.iret (v := (fI t15 67 y0)) hx hb hr (fun t ht hW => ⟨⟨_, (t15, n), rfl, po2t hf, BW.of hw hE ht⟩, hw.2.2.1.F ht⟩) hw.2.2.1.2.2 dX4_undo_52
  · have hf := it_f c9 hf
    obtain ⟨sa, hsa⟩ := sk_177 hK.2.2.1
    refine vx_throwS hx hb hst (names := ["java/lang/RuntimeException", "java/lang/Exception"]) hown (by decide +kernel) (by decide +kernel) (hts (.classLink RX4 70 "java/lang/IllegalStateException") (List.mem_of_getElem? (i := 1) rfl)) (hts (.initialized "java/lang/IllegalStateException") (List.mem_of_getElem? (i := 2) rfl)) hsa (vx_hat (B := xb_74) (fun w h => hts w (List.mem_cons_of_mem _ (List.mem_append_right _ h))) xn_74 (xk_74 hK.2.2.2.2.2)) xg_74 hZ.1 hZ.2.1 hw.2.2.1 (hl.1.trans hml.symm) dX4_undo_8 dX4_undo_11 dX4_undo_12 dX4_undo_14 dX4_undo_17 (fun x h => (hex x h).elim) (Nat.le_of_ble_eq_true rfl) (Nat.le_of_ble_eq_true rfl) (by show _ ≤ 1; omega) (by show _ ≤ 6; omega) hlocks (fun t hvm hz hk => ?_) hw.2.2.1.2.2 (by omega) (by omega)
    exact xo_of hw hE hz hk (by show (_ : String) = _; rfl) (po2x hf).1 (po2x hf).2

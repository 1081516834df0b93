/-! ===== the law, from its entry ===== -/
theorem va_P_l {D : va_G} {cl : List vw_C} {w1 w2 : va_W} {H : Heap} (h : va_P D cl (w1 ++ w2) H) : va_P D cl w1 H := fun k q hk => h k q (by rw [List.getElem?_append_left (List.getElem?_eq_some_iff.mp hk).1]; exact hk)
theorem va_P_r {D : va_G} {cl : List vw_C} {w1 w2 : va_W} {H : Heap} (h : va_P D cl (w1 ++ w2) H) : va_P D cl w2 H := fun k q hk => h (w1.length + k) q (by rw [List.getElem?_append_right (Nat.le_add_right _ _), Nat.add_sub_cancel_left]; exact hk)
theorem va_D_l {A : Nat → Prop} {w1 w2 : va_W} (h : va_D A (w1 ++ w2)) : va_D A w1 := ⟨fun i j p q hi hj e => h.1 i j p q (by rw [List.getElem?_append_left (List.getElem?_eq_some_iff.mp hi).1]; exact hi) (by rw [List.getElem?_append_left (List.getElem?_eq_some_iff.mp hj).1]; exact hj) e, fun k q hk => h.2 k q (by rw [List.getElem?_append_left (List.getElem?_eq_some_iff.mp hk).1]; exact hk)⟩
theorem va_D_r {A : Nat → Prop} {w1 w2 : va_W} (h : va_D A (w1 ++ w2)) : va_D A w2 := ⟨fun i j p q hi hj e => by
  have := h.1 (w1.length + i) (w1.length + j) p q (by rw [List.getElem?_append_right (Nat.le_add_right _ _), Nat.add_sub_cancel_left]; exact hi) (by rw [List.getElem?_append_right (Nat.le_add_right _ _), Nat.add_sub_cancel_left]; exact hj) e
  omega, fun k q hk => h.2 (w1.length + k) q (by rw [List.getElem?_append_right (Nat.le_add_right _ _), Nat.add_sub_cancel_left]; exact hk)⟩
theorem va_D_x {A : Nat → Prop} {w1 w2 : va_W} (h : va_D A (w1 ++ w2)) {i j : Nat} {p q : Nat × va_E} (hi : w1[i]? = some p) (hj : w2[j]? = some q) : p.1 ≠ q.1 := fun e => by
  have hl := (List.getElem?_eq_some_iff.mp hi).1
  have := h.1 i (w1.length + j) p q (by rw [List.getElem?_append_left hl]; exact hi) (by rw [List.getElem?_append_right (Nat.le_add_right _ _), Nat.add_sub_cancel_left]; exact hj) e
  omega
theorem va_D_app {A : Nat → Prop} {w1 w2 : va_W} (h1 : va_D A w1) (h2 : va_D A w2) (hx : ∀ (i j : Nat) (p q : Nat × va_E), w1[i]? = some p → w2[j]? = some q → p.1 ≠ q.1) : va_D A (w1 ++ w2) := by
  refine ⟨fun i j p q hi hj e => ?_, fun k q hk => ?_⟩
  · by_cases a : i < w1.length
    · by_cases b : j < w1.length
      · rw [List.getElem?_append_left a] at hi
        rw [List.getElem?_append_left b] at hj
        exact h1.1 i j p q hi hj e
      · rw [List.getElem?_append_left a] at hi
        rw [List.getElem?_append_right (Nat.not_lt.mp b)] at hj
        exact absurd e (hx _ _ _ _ hi hj)
    · by_cases b : j < w1.length
      · rw [List.getElem?_append_right (Nat.not_lt.mp a)] at hi
        rw [List.getElem?_append_left b] at hj
        exact absurd e.symm (hx _ _ _ _ hj hi)
      · rw [List.getElem?_append_right (Nat.not_lt.mp a)] at hi
        rw [List.getElem?_append_right (Nat.not_lt.mp b)] at hj
        have := h2.1 _ _ p q hi hj e
        omega
  · by_cases a : k < w1.length
    · rw [List.getElem?_append_left a] at hk
      exact h1.2 k q hk
    · rw [List.getElem?_append_right (Nat.not_lt.mp a)] at hk
      exact h2.2 _ q hk
/-- the empty picture -/
def pE : PS := ([], fun _ => 0, fun _ _ => 0, fun _ _ => 0, fun _ _ => none, fun _ => 0, fun _ _ => 0, fun _ _ => none)
theorem wl_pE {cy : cyT} : wl cy pE = [] := rfl
theorem frn_nO {q k : Nat} : frn (nO pE q k) (q + 1) := fun a ha hm => by
  have hm : a ∈ ([] : List Nat) ++ [q] := hm
  rw [List.nil_append, List.mem_singleton] at hm
  omega
set_option maxHeartbeats 4000000 in
set_option maxRecDepth 100000 in
theorem whole_start {p : Program} {e : Env} {s : State} {m : MethodId} {below : List Frame} {meth : Method} {c : Code} (l : Launch) (hflags : l.flags = flags0) {b L : Nat} {xs : Nat → Int32} (hL : L ≤ 2560) (C0 : lw_At p s m meth c b L xs) : W p l e room_1 s m #[Value.ref b] below meth c s.heap [] 0 0 (lw_Z below #[Value.ref b] s) (entryFrame m ([Value.ref b] : List Value).toArray 9) := by
  obtain ⟨hx, hb, hr, hml, hown, hts0, hX, hbl, hlocks, hgv⟩ := id C0
  have hst : l.stackTraces = false := by
    unfold Launch.stackTraces
    rw [hflags]
    decide +kernel
  have hts : ∀ w ∈ wsL_law, w.before #[Value.ref b] s = true := fun w h => hts0 w (wsL_law_in w h)
  have hown : s.vm.findClass RL = some m.cls := hown
  have hb : c.code = cL_law := hb
  have F : CallFix p m c cL_law 9 s #[Value.ref b] wsL_law RL := ⟨hx, hb, hml, hown, hts⟩
  obtain ⟨D, cy, hK⟩ := kn_of hts0 hgv
  have hNC := ncw_of hgv
  have hZ := hz_of hts0 hgv
  have hA : ∀ q, s.heap.size ≤ q → (LL s) q := fun _ h => h
  have hl := lv_entry ([.ref b]) (n := 9) (Nat.le_of_ble_eq_true rfl)
  rw [lg_entry_eq]
  generalize (lg_sl ([.ref b]) ++ List.replicate (9 - (lg_sl ([.ref b])).length) Slot.unset).toArray = ls at hl ⊢
  have hl : lv_has ls 9 [(0, .ref b)] := hl
  have hw : Hw D cy (LL s) s.heap pE s.heap.size s.heap [] := ⟨fun k q h => by rw [wl_pE] at h; simp at h, ⟨fun i j p q h => by rw [wl_pE] at h; simp at h, fun k q h => by rw [wl_pE] at h; simp at h⟩, va_S.rf, rfl⟩
  refine q_new F hK hw hA inlX4 tyX4 tyX4_ok (hts (.classLink RL 8 RX4) (List.mem_of_getElem? (i := 0) rfl)) (hts (.instantiable RX4 8) (List.mem_of_getElem? (i := 1) rfl)) (hts (.initialized RX4) (List.mem_of_getElem? (i := 2) rfl)) rfl (fs := [.null, .null, .int 0, .int 0, .null, .int 0, .null, .null]) (fun j hj => by rcases (show j = 0 ∨ j = 1 ∨ j = 2 ∨ j = 3 ∨ j = 4 ∨ j = 5 ∨ j = 6 ∨ j = 7 by omega) with rfl | rfl | rfl | rfl | rfl | rfl | rfl | rfl <;> rfl) (by show _ ≤ 779852; omega) (by show _ ≤ 6756547; omega) dL_law_0 (S1 := nO pE s.heap.size 4) (fun hq => nw_4 hq) (fun H hw => ?_)
  refine lv_dup hx hb dL_law_3 rfl ?_
  obtain ⟨SX, eX, hXX⟩ := x_init (S := nO pE s.heap.size 4) (n := s.heap.size + 1) (x := s.heap.size) vd_nO frn_nO (Nat.lt_succ_self _)
  refine q_callv (va_runI (As := []) (rest := [.ref s.heap.size]) F (c_X4_init l D cy (S := nO pE s.heap.size 4) vd_nO eX) (cwI 0 hts gL_law_X4_init rfl rfl rfl (hts (.initialized RX4) (List.mem_of_getElem? (i := 2) rfl)) (hts (.methodLink RL 86 yX4_init) (List.mem_of_getElem? (i := 8) rfl)) (hts (.instanceMethod yX4_init) (List.mem_of_getElem? (i := 9) rfl)) rfl ⟨ph_X4_init.1, ph_X4_init.2, pd_X4_init⟩ ⟨Nat.le_of_ble_eq_true rfl, Nat.le_of_ble_eq_true rfl⟩) ⟨PcW.bl, PcW.in hK hw hA (fun z => z.elim)⟩ rfl rfl hl.1 rfl (lv_room (Nat.le_of_ble_eq_true rfl)) dL_law_4 ⟨by show _ ≤ 779852; omega, by show _ ≤ 6756547; omega⟩) hw hA (fun H locs hw hE => ?_)
  refine lv_astore_n (lv' := [(1, .ref s.heap.size), (0, .ref b)]) hx hb dL_law_7 rfl hl (by decide) rfl (fun ls hl => ?_)
  obtain ⟨pX, dX, hS, hsz⟩ := hw
  refine va_new (ci := 5) (fs := [.int 0, .null, .null, .int 0, .null, .int 0, .long 0, .long 0, .null, .int 0, .int 0, .int 0, .long 0]) (C := RX5) (T := TX5) (N := 13) hx hb hts inlX5 tyX5 tyX5_ok hown (hts (.classLink RL 87 RX5) (List.mem_of_getElem? (i := 3) rfl)) (hts (.instantiable RX5 13) (List.mem_of_getElem? (i := 4) rfl)) (hts (.initialized RX5) (List.mem_of_getElem? (i := 5) rfl)) hK.1 pX dX hS hA rfl (fun j hj => by rcases (show j = 0 ∨ j = 1 ∨ j = 2 ∨ j = 3 ∨ j = 4 ∨ j = 5 ∨ j = 6 ∨ j = 7 ∨ j = 8 ∨ j = 9 ∨ j = 10 ∨ j = 11 ∨ j = 12 by omega) with rfl | rfl | rfl | rfl | rfl | rfl | rfl | rfl | rfl | rfl | rfl | rfl | rfl <;> rfl) (by show _ ≤ 779852; omega) (by show _ ≤ 6756547; omega) dL_law_8 (fun h H pXM dXM hS => ?_)
  have pX := va_P_l pXM
  have eM0 := nw_5 (cy := cy) (S := pE) (q := h) (fun z => nomatch z)
  have pM0 : va_P D vwCl (wl cy (nO pE h 5)) H := by
    rw [← eM0]
    exact va_P_r pXM
  have dX := va_D_l dXM
  have dM0 : va_D (LL s) (wl cy (nO pE h 5)) := by
    rw [← eM0]
    exact va_D_r dXM
  have ds0 : ∀ a, a ∈ PL SX → a ∉ PL (nO pE h 5) := fun a ha hm => by
    obtain ⟨k, hk⟩ := wl_at (cy := cy) ha
    have hm : a ∈ ([] : List Nat) ++ [h] := hm
    rw [List.nil_append, List.mem_singleton] at hm
    exact va_D_x dXM hk (j := 0) rfl hm
  refine lv_dup hx hb dL_law_11 rfl ?_
  have vM : vd (nO pE h 5) h 5 := vd_nO
  obtain ⟨eM, hMM⟩ := m_init (S := nO pE h 5) (n := H.size) (h := h) vM (wl_frn pM0 rfl) (if_pos rfl) (if_pos rfl)
  have hwM : Hw D cy (LL s) s.heap (nO pE h 5) H.size H locs := ⟨pM0, dM0, hS, rfl⟩
  have hgt : ∀ q, H.size ≤ q → s.heap.size ≤ q := fun _ hq => Nat.le_trans hS.1 hq
  refine va_callv (va_runI (As := []) (rest := [.ref h]) F (c_X5_init l D cy (S := nO pE h 5) vM eM) (cwI 0 hts gL_law_X5_init rfl rfl rfl (hts (.initialized RX5) (List.mem_of_getElem? (i := 5) rfl)) (hts0 (.methodLink RL 89 yX5_init) (in_sw_o _ (List.mem_of_getElem? (i := 9) rfl))) (hts0 (.instanceMethod yX5_init) (in_sw_o _ (List.mem_of_getElem? (i := 10) rfl))) rfl ⟨ph_X5_init.1, ph_X5_init.2, pd_X5_init⟩ ⟨Nat.le_of_ble_eq_true rfl, Nat.le_of_ble_eq_true rfl⟩) ⟨PcW.bl, PcW.in hK hwM hA (fun z => z.elim)⟩ rfl rfl hl.1 rfl (lv_room (Nat.le_of_ble_eq_true rfl)) dL_law_12 ⟨by show _ ≤ 779852; omega, by show _ ≤ 6756547; omega⟩) hS (fun q _ hq => LH.fre hwM hgt q hq) (LH.fre hwM hgt) (fun u t H1 locs1 ht hvm hw2 hB hz hk hS2 => ?_)
  subst hw2
  obtain ⟨b1, b2, b3, b4⟩ := hB
  rw [ht] at b1
  have pX1 := wl_stay pX (H1 := H1) (fun q hq => hk q (wl_lt pX hq) (fun hh => by
    rcases AA_of hh with hh | hh
    · exact ds0 q hq hh
    · have := wl_lt pX hq
      omega))
  have ds : ∀ a, a ∈ PL SX → a ∉ PL (r5 (nO pE h 5) H.size h) := fun a ha hm => by
    rcases wl_dAA b2 hm with hh | hh
    · exact ds0 a ha hh
    · have := wl_lt pX ha
      omega
  have dM : va_D (LL s) (wl cy (r5 (nO pE h 5) H.size h)) := b2.weaken (fun _ _ _ hh => LH.fre hwM hgt _ hh)
  refine lv_astore_n (lv' := [(2, .ref h), (1, .ref s.heap.size), (0, .ref b)]) hx hb dL_law_15 rfl hl (by decide) rfl (fun ls hl => ?_)
  refine lv_iconst (v := 1) hx hb dL_law_16 (by decide) ?_
  have hK0 : va_K D vwCl [] s := hK.1.sub [] rfl
  refine va_newa hx hb (atype := .long) (hts (.arrayClass .long) (List.mem_of_getElem? (i := 6) rfl)) (ty := .long) rfl hK0 (pX1.app b1) (va_D_app dX dM (fun i j p q hi hj e => ds _ (wl_mem hi) (e ▸ wl_mem hj))) hS2 hA (N' := 1) (a0 := (1, .inr (.inl (fun _ => 0)))) (fun cA => rfl) (by decide) (by decide) (by decide) (by show _ ≤ 779852; omega) (by show _ ≤ 6756547; omega) dL_law_17 (fun qo cL H hKL pA dA hS => ?_)
  have hLH : LH D cy cL (LL s) s.heap SX (r5 (nO pE h 5) _ h) qo (fun _ => 0) H locs1 := ⟨va_P_l (va_P_l pA), va_P_r (va_P_l pA), va_P_r pA, dX, dM, (va_D_r dA).2 0 _ rfl, ds, fun hm => by
    obtain ⟨k, hk⟩ := wl_at (cy := cy) hm
    exact va_D_x dA (p := (qo, pF cy SX qo)) (i := k) (j := 0) (by rw [List.getElem?_append_left (List.getElem?_eq_some_iff.mp hk).1]; exact hk) rfl rfl, fun hm => by
    obtain ⟨k, hk⟩ := wl_at (cy := cy) hm
    exact va_D_x dA (p := (qo, pF cy (r5 (nO pE h 5) _ h) qo)) (i := (wl cy SX).length + k) (j := 0) (by rw [List.getElem?_append_right (Nat.le_add_right _ _), Nat.add_sub_cancel_left]; exact hk) rfl rfl, hS⟩
  refine lv_astore_n (lv' := [(3, .ref qo), (2, .ref h), (1, .ref s.heap.size), (0, .ref b)]) hx hb dL_law_19 rfl hl (by decide) rfl (fun ls hl => ?_)
  refine lv_iconst (v := nI (5 * 0)) hx hb dL_law_20 (by decide) ?_
  refine lv_istore (lv' := [(4, .int (nI (5 * 0))), (3, .ref qo), (2, .ref h), (1, .ref s.heap.size), (0, .ref b)]) hx hb dL_law_21 hl (by decide) rfl (fun ls hl => ?_)
  refine W.widen (k := 36 + 312 * 0) (n := 720 + 1872 * 0) (by omega) (by omega) ?_
  exact law_loop hst hL C0 ⟨hK, hKL, hNC, hZ⟩ 513 0 rfl (Nat.zero_le _) _ _ _ _ _ _ _ ⟨o0_ok, hXX, hMM, hLH, lv_sub hl [4, 3, 2, 1, 0] rfl⟩

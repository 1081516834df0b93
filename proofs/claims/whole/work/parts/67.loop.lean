/-! ===== the law's loop ===== -/
theorem and31 (v : Int32) : ∃ k : Nat, k < 32 ∧ v &&& 31 = nI k := by
  refine ⟨(v &&& 31).toBitVec.toNat, ?_, ?_⟩
  · have h : (v &&& 31).toBitVec = v.toBitVec &&& 31#32 := rfl
    rw [h, BitVec.toNat_and]
    exact Nat.lt_of_le_of_lt Nat.and_le_right (by decide)
  · apply Int32.toBitVec_inj.mp
    show _ = BitVec.ofNat 32 _
    simp
theorem gtl {L t : Nat} (hL : L ≤ 2560) (ht : 5 * t ≤ 2560) (h : ¬ (nI L - 5 < nI (5 * t))) : 5 * t + 5 ≤ L := by
  by_cases h5 : 5 ≤ L
  · have e1 : nI L = nI (L - 5) + 5 := by
      show _ = nI (L - 5) + nI 5
      rw [nI_add, Nat.sub_add_cancel h5]
    rw [e1, Int32.add_sub_cancel, nI_ltI (by omega) (by omega)] at h
    omega
  · exfalso
    apply h
    refine Int32.lt_of_lt_of_le (b := nI 0) ?_ (nI_le (Nat.zero_le _) (by omega))
    rcases (show L = 0 ∨ L = 1 ∨ L = 2 ∨ L = 3 ∨ L = 4 by omega) with rfl | rfl | rfl | rfl | rfl <;> decide
theorem vp_k {L i k : Nat} (hL : L ≤ 2560) (h : i + k < L) : vp_in (nI i + nI k) L := by
  rw [nI_add]
  exact vp_in_nI h (by omega)
set_option maxHeartbeats 4000000 in
set_option maxRecDepth 100000 in
theorem law_loop {p : Program} {l : Launch} {e : Env} {s : State} {m : MethodId} {below : List Frame} {meth : Method} {c : Code} {b L : Nat} {xs : Nat → Int32} (hst : l.stackTraces = false) (hL9 : L ≤ 2560) (C0 : lw_At p s m meth c b L xs) {D : va_G} {cy : cyT} {cL : ClassId} (hK : LK D cy cL s) {x h qo : Nat} {T : Nat → TR} {sa bu sc jo z sv bf rs : Nat} : ∀ d t : Nat, t + d = 513 → 5 * t ≤ L → LN p l e s m below meth c D cy cL b x h qo T sa bu sc jo z sv bf rs (nI (5 * t)) (36 + 312 * t) (720 + 1872 * t) 23 := by
  intro d
  induction d with
  | zero =>
    intro t h1 h2
    omega
  | succ d ih =>
    intro t h1 h2 o SX SM f H locs ls V
    obtain ⟨hO, hXX, hMM, hL, hl⟩ := id V
    obtain ⟨hx, hb, hr, hml, hown, hts0, hX, hbl, hlocks, hgv⟩ := id C0
    have hb : c.code = cL_law := hb
    have hbA : ¬ (LL s) b := Nat.not_le.mpr hbl
    refine lv_iload hx hb dL_law_23 (lv_at hl 4 rfl) ?_
    refine lv_aload_n hx hb dL_law_25 rfl (lv_at hl 0 rfl) ?_
    refine va_slen hx hb hX hbl hbA hL.S dL_law_26 ?_
    refine lv_iconst (v := 5) hx hb dL_law_27 (by decide) ?_
    refine lv_isub hx hb dL_law_28 ?_
    refine lv_icmp_gt (tgt := 1627) hx hb dL_law_29 (by decide) (fun c1 => ?_) (fun c1 => ?_)
    · refine lv_iconst (v := 1) hx hb dL_law_1627 (by decide) ?_
      refine va_forget (fun q hq => hL.S.2.2 q hq) ?_
      refine W.widen (k := 779852) (n := 6756547) (by omega) (by omega) ?_
      exact lw_ret (d0 := s.drawn) (Drawn.sameBut.refl s.drawn lw_cs) hx hb hr hlocks dL_law_1628
    · have h5 : 5 * t + 5 ≤ L := gtl hL9 (by omega) c1
      have hi : vp_in (nI (5 * t) + 1) L ∧ vp_in (nI (5 * t) + 2) L ∧ vp_in (nI (5 * t) + 3) L ∧ vp_in (nI (5 * t) + 4) L := ⟨vp_k (k := 1) hL9 (by omega), vp_k (k := 2) hL9 (by omega), vp_k (k := 3) hL9 (by omega), vp_k (k := 4) hL9 (by omega)⟩
      have K : LN p l e s m below meth c D cy cL b x h qo T sa bu sc jo z sv bf rs (nI (5 * t)) (36 + 312 * t + 312) (720 + 1872 * t + 1872) 1621 := by
        intro o SX SM f H locs ls V
        obtain ⟨hO, hXX, hMM, hL, hl⟩ := V
        refine lv_iinc (v := nI (5 * (t + 1))) (lv' := [(4, .int (nI (5 * (t + 1)))), (0, .ref b), (1, .ref x), (2, .ref h), (3, .ref qo)]) hx hb dL_law_1621 hl (k := 4) rfl (by show nI (5 * t) + nI 5 = _; rw [nI_add]; rfl) (by decide) rfl (fun ls hl => ?_)
        refine lv_goto (tgt := 23) hx hb dL_law_1624 (by decide) ?_
        have W0 := ih (t + 1) (by omega) (by omega) o SX SM f H locs ls ⟨hO, hXX, hMM, hL, lv_sub hl [1, 2, 3, 4, 0] rfl⟩
        rw [show 36 + 312 * (t + 1) = 36 + 312 * t + 312 by omega, show 720 + 1872 * (t + 1) = 720 + 1872 * t + 1872 by omega] at W0
        exact W0
      refine lv_aload_n hx hb dL_law_32 rfl (lv_at hl 0 rfl) ?_
      refine lv_iload hx hb dL_law_33 (lv_at hl 4 rfl) ?_
      refine va_sld hx hb hX hbl hbA hL.S (vp_in_nI (by omega) (by omega)) dL_law_35 ?_
      refine lv_bipush (v := 31) hx hb dL_law_36 (by decide) ?_
      refine lv_iand hx hb dL_law_38 ?_
      obtain ⟨k, k32, ek⟩ := and31 (xs (nI (5 * t)).toNatClampNeg)
      rw [ek]
      have hc9 : 36 + 312 * t + 312 ≤ 779852 := by omega
      have hs9 : 720 + 1872 * t + 1872 ≤ 6756547 := by omega
      by_cases q0 : k = 0
      · subst q0
        refine lv_tableIn (off := 117) (tgt := 156) hx hb dL_law_39 (by decide) (by decide) rfl (by decide) ?_
        exact law_c0 hst C0 hK hi hc9 hs9 K _ _ _ _ _ _ _ V
      by_cases q1 : k = 1
      · subst q1
        refine lv_tableIn (off := 197) (tgt := 236) hx hb dL_law_39 (by decide) (by decide) rfl (by decide) ?_
        exact law_c1 hst C0 hK hi hc9 hs9 K _ _ _ _ _ _ _ V
      by_cases q2 : k = 2
      · subst q2
        refine lv_tableIn (off := 253) (tgt := 292) hx hb dL_law_39 (by decide) (by decide) rfl (by decide) ?_
        exact law_c2 hst C0 hK hi hc9 hs9 K _ _ _ _ _ _ _ V
      by_cases q3 : k = 3
      · subst q3
        refine lv_tableIn (off := 309) (tgt := 348) hx hb dL_law_39 (by decide) (by decide) rfl (by decide) ?_
        exact law_c3 hst C0 hK hi hc9 hs9 K _ _ _ _ _ _ _ V
      by_cases q4 : k = 4
      · subst q4
        refine lv_tableIn (off := 365) (tgt := 404) hx hb dL_law_39 (by decide) (by decide) rfl (by decide) ?_
        exact law_c4 hst C0 hK hi hc9 hs9 K _ _ _ _ _ _ _ V
      by_cases q5 : k = 5
      · subst q5
        refine lv_tableIn (off := 409) (tgt := 448) hx hb dL_law_39 (by decide) (by decide) rfl (by decide) ?_
        exact law_c5 hst C0 hK hi hc9 hs9 K _ _ _ _ _ _ _ V
      by_cases q6 : k = 6
      · subst q6
        refine lv_tableIn (off := 453) (tgt := 492) hx hb dL_law_39 (by decide) (by decide) rfl (by decide) ?_
        exact law_c6 hst C0 hK hi hc9 hs9 K _ _ _ _ _ _ _ V
      by_cases q7 : k = 7
      · subst q7
        refine lv_tableIn (off := 509) (tgt := 548) hx hb dL_law_39 (by decide) (by decide) rfl (by decide) ?_
        exact law_c7 hst C0 hK hi hc9 hs9 K _ _ _ _ _ _ _ V
      by_cases q8 : k = 8
      · subst q8
        refine lv_tableIn (off := 522) (tgt := 561) hx hb dL_law_39 (by decide) (by decide) rfl (by decide) ?_
        exact law_c8 hst C0 hK hi hc9 hs9 K _ _ _ _ _ _ _ V
      by_cases q9 : k = 9
      · subst q9
        refine lv_tableIn (off := 535) (tgt := 574) hx hb dL_law_39 (by decide) (by decide) rfl (by decide) ?_
        exact law_c9 hst C0 hK hi hc9 hs9 K _ _ _ _ _ _ _ V
      by_cases q10 : k = 10
      · subst q10
        refine lv_tableIn (off := 579) (tgt := 618) hx hb dL_law_39 (by decide) (by decide) rfl (by decide) ?_
        exact law_c10 hst C0 hK hi hc9 hs9 K _ _ _ _ _ _ _ V
      by_cases q11 : k = 11
      · subst q11
        refine lv_tableIn (off := 623) (tgt := 662) hx hb dL_law_39 (by decide) (by decide) rfl (by decide) ?_
        exact law_c11 hst C0 hK hi hc9 hs9 K _ _ _ _ _ _ _ V
      by_cases q12 : k = 12
      · subst q12
        refine lv_tableIn (off := 691) (tgt := 730) hx hb dL_law_39 (by decide) (by decide) rfl (by decide) ?_
        exact law_c12 hst C0 hK hi hc9 hs9 K _ _ _ _ _ _ _ V
      by_cases q13 : k = 13
      · subst q13
        refine lv_tableIn (off := 759) (tgt := 798) hx hb dL_law_39 (by decide) (by decide) rfl (by decide) ?_
        exact law_c13 hst C0 hK hi hc9 hs9 K _ _ _ _ _ _ _ V
      by_cases q14 : k = 14
      · subst q14
        refine lv_tableIn (off := 814) (tgt := 853) hx hb dL_law_39 (by decide) (by decide) rfl (by decide) ?_
        exact law_c14 hst C0 hK hi hc9 hs9 K _ _ _ _ _ _ _ V
      by_cases q15 : k = 15
      · subst q15
        refine lv_tableIn (off := 870) (tgt := 909) hx hb dL_law_39 (by decide) (by decide) rfl (by decide) ?_
        exact law_c15 hst C0 hK hi hc9 hs9 K _ _ _ _ _ _ _ V
      by_cases q16 : k = 16
      · subst q16
        refine lv_tableIn (off := 938) (tgt := 977) hx hb dL_law_39 (by decide) (by decide) rfl (by decide) ?_
        exact law_c16 hst C0 hK hi hc9 hs9 K _ _ _ _ _ _ _ V
      by_cases q17 : k = 17
      · subst q17
        refine lv_tableIn (off := 1037) (tgt := 1076) hx hb dL_law_39 (by decide) (by decide) rfl (by decide) ?_
        exact law_c17 hst C0 hK hi hc9 hs9 K _ _ _ _ _ _ _ V
      by_cases q18 : k = 18
      · subst q18
        refine lv_tableIn (off := 1124) (tgt := 1163) hx hb dL_law_39 (by decide) (by decide) rfl (by decide) ?_
        exact law_c18 hst C0 hK hi hc9 hs9 K _ _ _ _ _ _ _ V
      by_cases q19 : k = 19
      · subst q19
        refine lv_tableIn (off := 1255) (tgt := 1294) hx hb dL_law_39 (by decide) (by decide) rfl (by decide) ?_
        exact law_c19 hst C0 hK hi hc9 hs9 K _ _ _ _ _ _ _ V
      by_cases q20 : k = 20
      · subst q20
        refine lv_tableIn (off := 1343) (tgt := 1382) hx hb dL_law_39 (by decide) (by decide) rfl (by decide) ?_
        exact law_c20 hst C0 hK hi hc9 hs9 K _ _ _ _ _ _ _ V
      by_cases q21 : k = 21
      · subst q21
        refine lv_tableIn (off := 1434) (tgt := 1473) hx hb dL_law_39 (by decide) (by decide) rfl (by decide) ?_
        exact law_c21 hst C0 hK hi hc9 hs9 K _ _ _ _ _ _ _ V
      by_cases q22 : k = 22
      · subst q22
        refine lv_tableIn (off := 1501) (tgt := 1540) hx hb dL_law_39 (by decide) (by decide) rfl (by decide) ?_
        exact law_c22 hst C0 hK hi hc9 hs9 K _ _ _ _ _ _ _ V
      by_cases q23 : k = 23
      · subst q23
        refine lv_tableIn (off := 1514) (tgt := 1553) hx hb dL_law_39 (by decide) (by decide) rfl (by decide) ?_
        exact law_c23 hst C0 hK hi hc9 hs9 K _ _ _ _ _ _ _ V
      by_cases q24 : k = 24
      · subst q24
        refine lv_tableIn (off := 1527) (tgt := 1566) hx hb dL_law_39 (by decide) (by decide) rfl (by decide) ?_
        exact law_c24 hst C0 hK hi hc9 hs9 K _ _ _ _ _ _ _ V
      by_cases q25 : k = 25
      · subst q25
        refine lv_tableIn (off := 1568) (tgt := 1607) hx hb dL_law_39 (by decide) (by decide) rfl (by decide) ?_
        exact law_c25 hst C0 hK hi hc9 hs9 K _ _ _ _ _ _ _ V
      rcases (show k = 26 ∨ k = 27 ∨ k = 28 ∨ k = 29 ∨ k = 30 ∨ k = 31 by omega) with rfl | rfl | rfl | rfl | rfl | rfl
      · refine lv_tableOut (tgt := 1621) hx hb dL_law_39 (by decide) (by decide) ?_
        refine W.widen (k := 36 + 312 * t + 312) (n := 720 + 1872 * t + 1872) (by omega) (by omega) ?_
        exact K _ _ _ _ _ _ _ V
      · refine lv_tableOut (tgt := 1621) hx hb dL_law_39 (by decide) (by decide) ?_
        refine W.widen (k := 36 + 312 * t + 312) (n := 720 + 1872 * t + 1872) (by omega) (by omega) ?_
        exact K _ _ _ _ _ _ _ V
      · refine lv_tableOut (tgt := 1621) hx hb dL_law_39 (by decide) (by decide) ?_
        refine W.widen (k := 36 + 312 * t + 312) (n := 720 + 1872 * t + 1872) (by omega) (by omega) ?_
        exact K _ _ _ _ _ _ _ V
      · refine lv_tableOut (tgt := 1621) hx hb dL_law_39 (by decide) (by decide) ?_
        refine W.widen (k := 36 + 312 * t + 312) (n := 720 + 1872 * t + 1872) (by omega) (by omega) ?_
        exact K _ _ _ _ _ _ _ V
      · refine lv_tableOut (tgt := 1621) hx hb dL_law_39 (by decide) (by decide) ?_
        refine W.widen (k := 36 + 312 * t + 312) (n := 720 + 1872 * t + 1872) (by omega) (by omega) ?_
        exact K _ _ _ _ _ _ _ V
      · refine lv_tableOut (tgt := 1621) hx hb dL_law_39 (by decide) (by decide) ?_
        refine W.widen (k := 36 + 312 * t + 312) (n := 720 + 1872 * t + 1872) (by omega) (by omega) ?_
        exact K _ _ _ _ _ _ _ V

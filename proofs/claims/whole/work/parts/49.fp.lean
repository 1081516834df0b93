/-! ===== doubles ===== -/
theorem nn_fin {x : UInt64} {s : Bool} {c : Nat} {q : Int} (h : FP.Core.val64 x = .fin s c q) : x &&& 0x7fffffffffffffff ≤ 0x7ff0000000000000 := by
  have h1 := (FP.Core.fin_bits x).mp ⟨s, c, q, h⟩
  rw [UInt64.le_iff_toNat_le, UInt64.toNat_and]
  show x.toNat &&& 9223372036854775807 ≤ 9218868437227405312
  rw [show (9223372036854775807 : Nat) = 2 ^ 63 - 1 by decide, Nat.and_two_pow_sub_one_eq_mod]
  omega
theorem v_two : FP.Core.val64 4611686018427387904 = .fin false (2 ^ 52) (-51) := by decide +kernel
theorem v_52 : FP.Core.val64 4841369599423283200 = .fin false (2 ^ 52) 0 := by decide +kernel
theorem v_one : FP.Core.val64 FP.dconst1 = .fin false (2 ^ 52) (-52) := by decide +kernel
theorem v_zero : FP.Core.val64 FP.dconst0 = .fin false 0 (-1074) := by decide +kernel
theorem q_min : FP.Core.Fmt.qmin FP.Core.b64 = -1074 := by decide
theorem q_max : FP.Core.Fmt.qmax FP.Core.b64 = 971 := by decide
theorem fit64 {C : Nat} {q : Int} (h1 : 2 ^ 52 ≤ C) (h2 : C < 2 ^ 53) (h3 : -1074 ≤ q) (h4 : q ≤ 971) : FP.Core.fits FP.Core.b64 (.fin false C q) := ⟨h2, by rw [q_min]; exact h3, by rw [q_max]; exact h4, Or.inr h1⟩
theorem d_dbl {x : UInt64} {C : Nat} {Q : Int} (h : FP.Core.val64 x = .fin false C Q) (h1 : 2 ^ 52 ≤ C) (h2 : C < 2 ^ 53) (h3 : -1074 ≤ Q) (h4 : Q < 971) : FP.Core.val64 (FP.dmul x 4611686018427387904) = .fin false C (Q + 1) := by
  show FP.Core.val64 (FP.Core.dmul x 4611686018427387904) = _
  rw [FP.Core.val64_dmul, h, v_two]
  show FP.Core.roundRatio FP.Core.b64 false (C * 2 ^ 52) 1 (Q + -51) = _
  refine FP.Core.roundRatio_exact FP.Core.good_b64 (by decide) (fit64 h1 h2 (by omega) (by omega)) ?_
  rw [show (Q + -51 - (Q + 1)).toNat = 0 by omega, show (Q + 1 - (Q + -51)).toNat = 52 by omega, Nat.pow_zero, Nat.mul_one, Nat.mul_one]
theorem cmp_lt {a b : Int} (h : a < b) : compare a b = .lt := by
  simp only [compare, compareOfLessAndEq]
  rw [if_pos h]
theorem cmp_gt {a b : Int} (h : b < a) : compare a b = .gt := by
  simp only [compare, compareOfLessAndEq]
  rw [if_neg (by omega), if_neg (by omega)]
theorem cmp_eq {a b : Int} (h : a = b) : compare a b = .eq := by
  simp only [compare, compareOfLessAndEq]
  rw [if_neg (by omega), if_pos h]
/-- measured by the lesser exponent -/
def un (C : Nat) (Q e : Int) : Nat := C * 2 ^ (Q - e).toNat
theorem d_cmp {x y : UInt64} {C D : Nat} {Q R : Int} (h : FP.Core.val64 x = .fin false C Q) (h2 : FP.Core.val64 y = .fin false D R) : FP.dcmp x y = some (compare (un C Q (min Q R) : Int) (un D R (min Q R) : Int)) := by
  show FP.Core.order (FP.Core.val64 x) (FP.Core.val64 y) = _
  rw [h, h2]
  rfl
theorem un_s {C : Nat} {Q : Int} : un C Q Q = C := by
  unfold un
  rw [Int.sub_self]
  exact Nat.mul_one C
theorem un_le {D : Nat} {R e : Int} : D ≤ un D R e := Nat.le_mul_of_pos_right D (Nat.two_pow_pos _)
theorem un_gt {R e : Int} (h : e < R) : 2 ^ 53 ≤ un (2 ^ 52) R e := by
  unfold un
  have h1 : (2 : Nat) ^ 1 ≤ 2 ^ (R - e).toNat := Nat.pow_le_pow_right (by decide) (by omega)
  have h2 : 2 ^ 52 * 2 ^ 1 ≤ 2 ^ 52 * 2 ^ (R - e).toNat := Nat.mul_le_mul_left _ h1
  exact h2
/-- a number below one in the making: C, 53 digits, s steps below one -/
def dz (x : UInt64) (C s : Nat) : Prop := FP.Core.val64 x = .fin false C (-52 - (s : Int)) ∧ 2 ^ 52 ≤ C ∧ C < 2 ^ 53 ∧ s ≤ 60
theorem dz.nn {x : UInt64} {C s : Nat} (h : dz x C s) : x &&& 0x7fffffffffffffff ≤ 0x7ff0000000000000 := nn_fin h.1
theorem dz.dbl {x : UInt64} {C s : Nat} (h : dz x C (s + 1)) : dz (FP.dmul x 4611686018427387904) C s := by
  obtain ⟨a, b, c, d⟩ := h
  have := d_dbl a b c (by omega) (by omega)
  rw [show -52 - ((s + 1 : Nat) : Int) + 1 = -52 - (s : Int) by omega] at this
  exact ⟨this, b, c, by omega⟩
theorem dz.lt1 {x : UInt64} {C s : Nat} (h : dz x C (s + 1)) : FP.dcmp x FP.dconst1 = some .lt := by
  obtain ⟨a, b, c, d⟩ := h
  rw [d_cmp a v_one, show min (-52 - ((s + 1 : Nat) : Int)) (-52) = -52 - ((s + 1 : Nat) : Int) by omega, un_s]
  have := un_gt (R := -52) (e := -52 - ((s + 1 : Nat) : Int)) (by omega)
  rw [cmp_lt (by omega)]
theorem dz.ge1 {x : UInt64} {C : Nat} (h : dz x C 0) : FP.dcmp x FP.dconst1 = some .eq ∨ FP.dcmp x FP.dconst1 = some .gt := by
  obtain ⟨a, b, c, d⟩ := h
  have a : FP.Core.val64 x = .fin false C (-52) := a
  rw [d_cmp a v_one, show min (-52 : Int) (-52) = -52 by decide, un_s, un_s]
  by_cases q : C = 2 ^ 52
  · exact Or.inl (by rw [cmp_eq (by rw [q])])
  · exact Or.inr (by rw [cmp_gt (by omega)])
theorem dz.lt2 {x : UInt64} {C s : Nat} (h : dz x C s) : FP.dcmp x 4611686018427387904 = some .lt := by
  obtain ⟨a, b, c, d⟩ := h
  rw [d_cmp a v_two, show min (-52 - (s : Int)) (-51) = -52 - (s : Int) by omega, un_s]
  have := un_gt (R := -51) (e := -52 - (s : Int)) (by omega)
  rw [cmp_lt (by omega)]
theorem dz.gt0 {x : UInt64} {C s : Nat} (h : dz x C s) : FP.dcmp x FP.dconst0 = some .gt := by
  obtain ⟨a, b, c, d⟩ := h
  rw [d_cmp a v_zero, show min (-52 - (s : Int)) (-1074) = -1074 by omega, un_s]
  have := un_le (D := C) (R := -52 - (s : Int)) (e := -1074)
  rw [cmp_gt (by omega)]
theorem dz.self {x : UInt64} {C s : Nat} (h : dz x C s) : FP.dcmp x x = some .eq := by
  rw [d_cmp h.1 h.1, cmp_eq rfl]
theorem z_self : FP.dcmp FP.dconst0 FP.dconst0 = some .eq := by rw [d_cmp v_zero v_zero, cmp_eq rfl]
theorem z_nn : FP.dconst0 &&& 0x7fffffffffffffff ≤ 0x7ff0000000000000 := nn_fin v_zero
/-! the least digit of an exact number -/
theorem nrm {m : Nat} (h0 : 0 < m) (h : m < 2 ^ 53) : ∃ k, k ≤ 52 ∧ 2 ^ 52 ≤ m * 2 ^ k ∧ m * 2 ^ k < 2 ^ 53 := by
  have hne : m ≠ 0 := by omega
  have l1 : m.log2 < 53 := (Nat.log2_lt hne).mpr h
  have l2 := Nat.log2_self_le hne
  have l3 : m < 2 ^ (m.log2 + 1) := (Nat.log2_lt hne).mp (Nat.lt_succ_self _)
  refine ⟨52 - m.log2, by omega, ?_, ?_⟩
  · have e : (2 : Nat) ^ 52 = 2 ^ m.log2 * 2 ^ (52 - m.log2) := by rw [← Nat.pow_add]; congr 1; omega
    rw [e]
    exact Nat.mul_le_mul_right _ l2
  · have e : (2 : Nat) ^ 53 = 2 ^ (m.log2 + 1) * 2 ^ (52 - m.log2) := by rw [← Nat.pow_add]; congr 1; omega
    rw [e]
    exact Nat.mul_lt_mul_of_pos_right l3 (Nat.two_pow_pos _)
theorem d_sub1 {x : UInt64} {C : Nat} (h : dz x C 0) : FP.Core.val64 (FP.dsub x FP.dconst1) = FP.Core.roundRatio FP.Core.b64 false (C - 2 ^ 52) 1 (-52) := by
  obtain ⟨a, b, c, d⟩ := h
  have a : FP.Core.val64 x = .fin false C (-52) := a
  show FP.Core.val64 (FP.Core.dsub x FP.Core.dconst1) = _
  rw [FP.Core.val64_dsub, a, show FP.Core.val64 FP.Core.dconst1 = .fin false (2 ^ 52) (-52) from v_one]
  have ev : FP.Core.sumUnits false C (-52) (!false) (2 ^ 52) (-52) (min (-52) (-52)) = ((C - 2 ^ 52 : Nat) : Int) := by
    show ((un C (-52) (-52) : Nat) : Int) + -((un (2 ^ 52) (-52) (-52) : Nat) : Int) = _
    rw [un_s, un_s]
    omega
  show FP.Core.round FP.Core.b64 (.fin (FP.Core.sumSign false (!false) (FP.Core.sumUnits false C (-52) (!false) (2 ^ 52) (-52) (min (-52) (-52)))) (FP.Core.sumUnits false C (-52) (!false) (2 ^ 52) (-52) (min (-52) (-52))).natAbs (min (-52) (-52))) = _
  rw [ev, Int.natAbs_natCast]
  have es : FP.Core.sumSign false (!false) ((C - 2 ^ 52 : Nat) : Int) = false := by
    unfold FP.Core.sumSign
    split
    · rfl
    · exact decide_eq_false (by omega)
  rw [es]
  rfl
/-- the fraction's digits, made a whole number -/
theorem d_frac {x : UInt64} {C : Nat} (h : dz x C 0) : (FP.dsub x FP.dconst1 &&& 0x7fffffffffffffff ≤ 0x7ff0000000000000) ∧ (FP.dmul (FP.dsub x FP.dconst1) 4841369599423283200 &&& 0x7fffffffffffffff ≤ 0x7ff0000000000000) ∧ FP.d2l (FP.dmul (FP.dsub x FP.dconst1) 4841369599423283200) = zL ((C : Int) - 2 ^ 52) := by
  have hs := d_sub1 h
  obtain ⟨a, b, c, d⟩ := h
  have pm := FP.Core.val64_dmul (FP.dsub x FP.dconst1) 4841369599423283200
  rw [v_52] at pm
  by_cases q : C = 2 ^ 52
  · have hs : FP.Core.val64 (FP.dsub x FP.dconst1) = .fin false 0 (-1074) := by
      rw [hs, q]
      show FP.Core.roundRatio FP.Core.b64 false 0 1 (-52) = _
      unfold FP.Core.roundRatio
      rw [if_pos rfl, q_min]
    have hm : FP.Core.val64 (FP.dmul (FP.dsub x FP.dconst1) 4841369599423283200) = .fin false 0 (-1074) := by
      refine pm.trans ?_
      rw [hs]
      show FP.Core.roundRatio FP.Core.b64 false (0 * 2 ^ 52) 1 (-1074 + 0) = _
      unfold FP.Core.roundRatio
      rw [if_pos (Nat.zero_mul _), q_min]
    refine ⟨nn_fin hs, nn_fin hm, ?_⟩
    show FP.Core.toL (FP.Core.val64 (FP.dmul (FP.dsub x FP.dconst1) 4841369599423283200)) = _
    rw [hm, q]
    decide +kernel
  · obtain ⟨k, k1, k2, k3⟩ := nrm (m := C - 2 ^ 52) (by omega) (by omega)
    generalize hM : C - 2 ^ 52 = M at *
    have hs : FP.Core.val64 (FP.dsub x FP.dconst1) = .fin false (M * 2 ^ k) (-52 - (k : Int)) := by
      rw [hs]
      refine FP.Core.roundRatio_exact FP.Core.good_b64 (by decide) (fit64 k2 k3 (by omega) (by omega)) ?_
      rw [show (-52 - (-52 - (k : Int))).toNat = k by omega, show (-52 - (k : Int) - -52).toNat = 0 by omega, Nat.pow_zero, Nat.mul_one, Nat.mul_one]
    have hm : FP.Core.val64 (FP.dmul (FP.dsub x FP.dconst1) 4841369599423283200) = .fin false (M * 2 ^ k) (-(k : Int)) := by
      refine pm.trans ?_
      rw [hs]
      show FP.Core.roundRatio FP.Core.b64 false (M * 2 ^ k * 2 ^ 52) 1 (-52 - (k : Int) + 0) = _
      refine FP.Core.roundRatio_exact FP.Core.good_b64 (by decide) (fit64 k2 k3 (by omega) (by omega)) ?_
      rw [show (-52 - (k : Int) + 0 - -(k : Int)).toNat = 0 by omega, show (-(k : Int) - (-52 - (k : Int) + 0)).toNat = 52 by omega, Nat.pow_zero, Nat.mul_one, Nat.mul_one]
    refine ⟨nn_fin hs, nn_fin hm, ?_⟩
    show FP.Core.toL (FP.Core.val64 (FP.dmul (FP.dsub x FP.dconst1) 4841369599423283200)) = _
    rw [hm]
    show Int64.ofInt (max (-2 ^ 63) (min (2 ^ 63 - 1) (((M * 2 ^ k * 2 ^ (-(k : Int)).toNat / 2 ^ (- -(k : Int)).toNat : Nat) : Int)))) = _
    rw [show (-(k : Int)).toNat = 0 by omega, show (- -(k : Int)).toNat = k by omega, Nat.pow_zero, Nat.mul_one, Nat.mul_div_cancel _ (Nat.two_pow_pos k)]
    exact congrArg Int64.ofInt (by omega)
/-- the digits, made a whole number -/
theorem d_all {x : UInt64} {C : Nat} (h : dz x C 0) : (FP.dmul x 4841369599423283200 &&& 0x7fffffffffffffff ≤ 0x7ff0000000000000) ∧ FP.d2l (FP.dmul x 4841369599423283200) = zL (C : Int) := by
  obtain ⟨a, b, c, d⟩ := h
  have a : FP.Core.val64 x = .fin false C (-52) := a
  have pm := FP.Core.val64_dmul x 4841369599423283200
  rw [v_52, a] at pm
  have hm : FP.Core.val64 (FP.dmul x 4841369599423283200) = .fin false C 0 := by
    refine pm.trans ?_
    show FP.Core.roundRatio FP.Core.b64 false (C * 2 ^ 52) 1 (-52 + 0) = _
    refine FP.Core.roundRatio_exact FP.Core.good_b64 (by decide) (fit64 b c (by decide) (by decide)) ?_
    rw [show (-52 + 0 - 0 : Int).toNat = 0 by decide, show (0 - (-52 + 0) : Int).toNat = 52 by decide, Nat.pow_zero, Nat.mul_one, Nat.mul_one]
  refine ⟨nn_fin hm, ?_⟩
  show FP.Core.toL (FP.Core.val64 (FP.dmul x 4841369599423283200)) = _
  rw [hm]
  show Int64.ofInt (max (-2 ^ 63) (min (2 ^ 63 - 1) (((C * 2 ^ (0 : Int).toNat / 2 ^ (-0 : Int).toNat : Nat) : Int)))) = _
  rw [show (0 : Int).toNat = 0 by decide, show (-0 : Int).toNat = 0 by decide, Nat.pow_zero, Nat.mul_one, Nat.div_one]
  exact congrArg Int64.ofInt (by omega)
/-! one over a whole number -/
def dn (N : Nat) : UInt64 := FP.ddiv FP.dconst1 (FP.l2d (lN N))
theorem dn_ratio {N : Nat} (h0 : 0 < N) (h : N ≤ LIM) : FP.Core.val64 (dn N) = FP.Core.roundRatio FP.Core.b64 false 1 N 0 := by
  unfold LIM at h
  have w := FP.Core.l2d_int (a := lN N) (by rw [pk_lT (by omega)]; omega)
  have fit := FP.Core.val64_fits (FP.Core.l2d (lN N))
  unfold FP.Core.DInt at w
  rw [pk_lT (by omega)] at w
  show FP.Core.val64 (FP.Core.ddiv FP.Core.dconst1 (FP.Core.l2d (lN N))) = _
  rw [FP.Core.val64_ddiv, show FP.Core.val64 FP.Core.dconst1 = .fin false (2 ^ 52) (-52) from v_one]
  generalize FP.Core.val64 (FP.Core.l2d (lN N)) = D at w fit
  cases D with
  | nan => exact w.elim
  | inf s => exact w.elim
  | fin t d r =>
    have w : FP.Core.signed t (d * 2 ^ r.toNat) = (N : Int) * ((2 ^ (-r).toNat : Nat) : Int) := w
    have hpos : 0 < N * 2 ^ (-r).toNat := Nat.mul_pos h0 (Nat.two_pow_pos _)
    have ht : t = false := by
      cases t
      · rfl
      · have w : -((d * 2 ^ r.toNat : Nat) : Int) = (N : Int) * ((2 ^ (-r).toNat : Nat) : Int) := w
        have : ((N * 2 ^ (-r).toNat : Nat) : Int) = (N : Int) * ((2 ^ (-r).toNat : Nat) : Int) := by push_cast; rfl
        omega
    subst ht
    have w2 : d * 2 ^ r.toNat = N * 2 ^ (-r).toNat := by
      have w : ((d * 2 ^ r.toNat : Nat) : Int) = (N : Int) * ((2 ^ (-r).toNat : Nat) : Int) := w
      have : ((N * 2 ^ (-r).toNat : Nat) : Int) = (N : Int) * ((2 ^ (-r).toNat : Nat) : Int) := by push_cast; rfl
      omega
    have hd : d ≠ 0 := fun e => by rw [e, Nat.zero_mul] at w2; omega
    show (if d = 0 then _ else FP.Core.roundRatio FP.Core.b64 (false != false) (2 ^ 52) d (-52 - r)) = _
    rw [if_neg hd]
    refine FP.Core.roundRatio_congr (f := FP.Core.b64) (s := false) (A := 2 ^ 52) (B := d) (A' := 1) (B' := N) (e := -52 - r) (e' := 0) (Nat.pos_of_ne_zero hd) h0 ?_
    refine Nat.eq_of_mul_eq_mul_right (Nat.two_pow_pos r.toNat) ?_
    have hx : 52 + (-52 - r - 0).toNat + r.toNat = (-r).toNat + (0 - (-52 - r)).toNat := by omega
    calc 2 ^ 52 * N * 2 ^ (-52 - r - 0).toNat * 2 ^ r.toNat = N * 2 ^ (52 + (-52 - r - 0).toNat + r.toNat) := by simp only [Nat.pow_add]; ac_rfl
      _ = (N * 2 ^ (-r).toNat) * 2 ^ (0 - (-52 - r)).toNat := by rw [hx, Nat.pow_add, Nat.mul_assoc]
      _ = 1 * d * 2 ^ (0 - (-52 - r)).toNat * 2 ^ r.toNat := by rw [← w2, Nat.one_mul]; ac_rfl
theorem dn_dz {N : Nat} (h0 : 0 < N) (h : N ≤ LIM) : ∃ C s, dz (dn N) C s := by
  have e := dn_ratio h0 h
  unfold LIM at h
  by_cases q1 : N = 1
  · subst q1
    refine ⟨2 ^ 52, 0, ?_, Nat.le_refl _, by decide, by decide⟩
    rw [e]
    exact FP.Core.roundRatio_exact FP.Core.good_b64 (by decide) (fit64 (Nat.le_refl _) (by decide) (by decide) (by decide)) (by decide)
  · have hne : N ≠ 0 := by omega
    have l1 : N.log2 < 50 := (Nat.log2_lt hne).mpr (by omega)
    have l2 : 1 ≤ N.log2 := (Nat.le_log2 hne).mpr (by omega)
    have hlead : -50 ≤ FP.Core.leading 1 N ∧ FP.Core.leading 1 N ≤ -1 := by
      unfold FP.Core.leading
      have : (1 : Nat).log2 = 0 := by decide
      rw [this]
      dsimp only
      split <;> omega
    have hq : FP.Core.quantum FP.Core.b64 1 N 0 = FP.Core.leading 1 N - 52 := by
      unfold FP.Core.quantum
      rw [q_min]
      show max (-1074) (FP.Core.leading 1 N + 0 - (53 - 1)) = _
      omega
    have fit := FP.Core.roundRatio_fits FP.Core.good_b64 false 1 h0 0
    unfold FP.Core.roundRatio FP.Core.roundAt FP.Core.settle FP.Core.bound at e fit
    rw [if_neg (by decide), hq] at e fit
    generalize FP.Core.leading 1 N = L at *
    generalize FP.Core.nearest (FP.Core.unitsNum 1 0 (L - 52)) (FP.Core.unitsDen N 0 (L - 52)) = c at e fit
    rw [q_max] at e fit
    by_cases hc : c < 2 ^ 53
    · rw [if_pos (show c < 2 ^ FP.Core.Fmt.p FP.Core.b64 from hc), if_pos (by omega)] at e fit
      obtain ⟨f1, f2, f3, f4⟩ := fit
      rw [q_min] at f4
      have f4 : 2 ^ 52 ≤ c := by
        rcases f4 with f4 | f4
        · omega
        · exact f4
      exact ⟨c, (-L).toNat, by rw [e]; congr 1; omega, f4, hc, by omega⟩
    · rw [if_neg (show ¬ c < 2 ^ FP.Core.Fmt.p FP.Core.b64 from hc), if_pos (by omega)] at e
      refine ⟨2 ^ 52, (-L - 1).toNat, ?_, Nat.le_refl _, by decide, by omega⟩
      rw [e]
      show FP.Core.Datum.fin false (2 ^ 52) (L - 52 + 1) = _
      congr 1
      omega
/-! the bits of a density -/
def zb (e : Int) (C : Nat) : Int64 := (zL e <<< ((52 : Int32).toInt64 &&& 63)) + zL ((C : Int) - 2 ^ 52)
theorem x_bitsOf {x : UInt64} {C s : Nat} (h : dz x C s) : f_X4_bitsOf x = some (zb (1023 - (s : Int)) C) := by
  have loop : ∀ s fu (x : UInt64) (e : Int) j, dz x C s → s < fu → j + s ≤ 100 → f_X4_bitsOf_L18 f_X4_bitsOf_B50 fu x (zL e) (nI j) = some (zb (e - (s : Int)) C) := by
    intro s
    induction s with
    | zero =>
      intro fu x e j h hf hj
      obtain ⟨fu, rfl⟩ : ∃ g, fu = g + 1 := ⟨fu - 1, by omega⟩
      show f_X4_bitsOf_L18s (f_X4_bitsOf_L18 f_X4_bitsOf_B50 fu) f_X4_bitsOf_B50 x (zL e) (nI j) = _
      unfold f_X4_bitsOf_L18s f_X4_bitsOf_B50
      obtain ⟨n1, n2, e1⟩ := d_frac h
      have ge : (0 : Int32) ≤ Op.cmpValue (FP.dcmp x FP.dconst1) .g := by
        rcases h.ge1 with q | q <;> rw [q] <;> decide
      rw [if_neg (show ¬ (1023 : Int32) ≤ nI j from nle (a := 1023) (by omega) (by decide)), if_pos ge, ck_t n1, ck_t n2, e1]
      unfold zb
      rw [show e - ((0 : Nat) : Int) = e by omega]
    | succ s ih =>
      intro fu x e j h hf hj
      obtain ⟨fu, rfl⟩ : ∃ g, fu = g + 1 := ⟨fu - 1, by omega⟩
      show f_X4_bitsOf_L18s (f_X4_bitsOf_L18 f_X4_bitsOf_B50 fu) f_X4_bitsOf_B50 x (zL e) (nI j) = _
      unfold f_X4_bitsOf_L18s
      rw [if_neg (show ¬ (1023 : Int32) ≤ nI j from nle (a := 1023) (by omega) (by decide)), h.lt1, if_neg (by decide), ck_t h.dbl.nn, nI_1, show zL e - (1 : Int64) = zL (e - 1) from zL_sub e 1, ih fu _ (e - 1) (j + 1) h.dbl (by omega) (by omega)]
      congr 2
      omega
  unfold f_X4_bitsOf
  rw [h.gt0, if_pos (by decide)]
  exact loop s FU x 1023 1 h (by have := h.2.2.2; unfold FU; omega) (by have := h.2.2.2; omega)
def bt (N : Nat) : Int64 := (f_X4_bitsOf (dn N)).getD 0
theorem bt_e {N C s : Nat} (h : dz (dn N) C s) : bt N = zb (1023 - (s : Int)) C := by
  unfold bt
  rw [x_bitsOf h]
  rfl
theorem m_bitsOf {x : UInt64} {C s : Nat} (h : dz x C s) : f_X5_bitsOf x = some (zb (1023 - (s : Int)) C) := by
  have loop : ∀ s fu (x : UInt64) (e : Int), dz x C s → s < fu → f_X5_bitsOf_L38 f_X5_bitsOf_B59 fu x (zL e) = some (zb (e - (s : Int)) C) := by
    intro s
    induction s with
    | zero =>
      intro fu x e h hf
      obtain ⟨fu, rfl⟩ : ∃ g, fu = g + 1 := ⟨fu - 1, by omega⟩
      show f_X5_bitsOf_L38s (f_X5_bitsOf_L38 f_X5_bitsOf_B59 fu) f_X5_bitsOf_B59 x (zL e) = _
      unfold f_X5_bitsOf_L38s f_X5_bitsOf_B59
      obtain ⟨n1, e1⟩ := d_all h
      have ge : (0 : Int32) ≤ Op.cmpValue (FP.dcmp x FP.dconst1) .g := by
        rcases h.ge1 with q | q <;> rw [q] <;> decide
      rw [if_pos ge, ck_t n1, e1]
      unfold zb
      rw [show e - ((0 : Nat) : Int) = e by omega, Int64.sub_eq_add_neg, Int64.add_assoc, ← Int64.sub_eq_add_neg, show (4503599627370496 : Int64) = zL (2 ^ 52) from rfl, zL_sub]
    | succ s ih =>
      intro fu x e h hf
      obtain ⟨fu, rfl⟩ : ∃ g, fu = g + 1 := ⟨fu - 1, by omega⟩
      show f_X5_bitsOf_L38s (f_X5_bitsOf_L38 f_X5_bitsOf_B59 fu) f_X5_bitsOf_B59 x (zL e) = _
      unfold f_X5_bitsOf_L38s
      rw [h.lt1, if_neg (by decide), ck_t h.dbl.nn, show zL e - (1 : Int64) = zL (e - 1) from zL_sub e 1, ih fu _ (e - 1) h.dbl (by omega)]
      congr 2
      omega
  have h60 := h.2.2.2
  unfold f_X5_bitsOf
  rw [h.gt0, if_neg (by decide)]
  show f_X5_bitsOf_L15s (f_X5_bitsOf_L15 (f_X5_bitsOf_L38 f_X5_bitsOf_B59 FU) 2999) (f_X5_bitsOf_L38 f_X5_bitsOf_B59 FU) x 1023 = _
  unfold f_X5_bitsOf_L15s
  rw [h.lt2, if_pos (by decide)]
  exact loop s FU x 1023 h (by unfold FU; omega)
theorem x_bitsZ : f_X4_bitsOf FP.dconst0 = some 0 := by
  unfold f_X4_bitsOf
  rw [z_self, if_neg (by decide)]
theorem m_bitsZ : f_X5_bitsOf FP.dconst0 = some 0 := by
  unfold f_X5_bitsOf
  rw [z_self, if_pos (by decide)]

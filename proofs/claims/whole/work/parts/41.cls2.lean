/-! ===== the class: what several conditions come to ===== -/
/-- only the joint's two numbers have changed -/
def scj (S S1 : PS) : Prop := PL S1 = PL S ∧ PK S1 = PK S ∧ fI S1 = fI S ∧ fR S1 = fR S ∧ aN S1 = aN S ∧ aI S1 = aI S ∧ aR S1 = aR S
theorem scj.rf {S : PS} : scj S S := ⟨rfl, rfl, rfl, rfl, rfl, rfl, rfl⟩
theorem scj.tr {S S1 S2 : PS} (h : scj S S1) (g : scj S1 S2) : scj S S2 := ⟨g.1.trans h.1, g.2.1.trans h.2.1, g.2.2.1.trans h.2.2.1, g.2.2.2.1.trans h.2.2.2.1, g.2.2.2.2.1.trans h.2.2.2.2.1, g.2.2.2.2.2.1.trans h.2.2.2.2.2.1, g.2.2.2.2.2.2.trans h.2.2.2.2.2.2⟩
theorem scj.L {S : PS} {i a : Nat} {v : Int64} : scj S (sL S i a v) := ⟨rfl, rfl, rfl, rfl, rfl, rfl, rfl⟩
theorem fL_ne {S : PS} {i j a c : Nat} {v : Int64} (h : j ≠ i) : fL (sL S i a v) j c = fL S j c := by
  show u2 (fL S) i a v j c = _
  exact u2_nf h
theorem fL_s {S : PS} {i a : Nat} {v : Int64} : fL (sL S i a v) i a = v := u2_self
theorem CD.sj {S S1 : PS} {c : Nat} {y : CT} (h : CD S c y) (e : scj S S1) : CD S1 c y := by
  obtain ⟨e1, e2, e3, -⟩ := e
  unfold CD vd at *
  rw [e1, e2, e3]
  exact h
theorem cg_sc {m : Nat} {x y : Int} (g : Nat) (h : cg m x y) : cg (g * m) (g * x) (g * y) := by
  unfold cg at *
  obtain ⟨k, hk⟩ := h
  exact ⟨k, by rw [← Int.mul_sub, hk]; push_cast; rw [Int.mul_assoc]⟩
theorem x_take {S : PS} {jo c : Nat} {x : CT} (hc : CD S c x) (g : gd x) (hv : vo x = false) {N R : Nat} (hN : fL S 16 jo = lN N) (hR : fL S 17 jo = lN R) (hl : R < N) (hs : R % Nat.gcd N (bm x) = br x % Nat.gcd N (bm x)) (hb : Nat.lcm N (bm x) ≤ LIM) : ∃ S1 R1, f_X1_take S jo c = some S1 ∧ scj S S1 ∧ fL S1 16 jo = lN (Nat.lcm N (bm x)) ∧ fL S1 17 jo = lN R1 ∧ R1 < Nat.lcm N (bm x) ∧ R1 % N = R ∧ R1 % bm x = br x := by
  have bp := bm_pos g
  have bl := bm_le g
  have sb := br_spec g hv
  have hN0 : 0 < N := by omega
  have hNl : N ≤ Nat.lcm N (bm x) := lcm_ge bp
  have hlc : Nat.lcm N (bm x) = N * (bm x / Nat.gcd N (bm x)) := by
    rw [Nat.lcm_eq_mul_div, Nat.mul_div_assoc _ (Nat.gcd_dvd_right _ _)]
  have gp : 0 < Nat.gcd N (bm x) := Nat.gcd_pos_of_pos_right _ bp
  have gl : Nat.gcd N (bm x) ≤ bm x := Nat.le_of_dvd bp (Nat.gcd_dvd_right _ _)
  have co : Nat.gcd (N / Nat.gcd N (bm x)) (bm x / Nat.gcd N (bm x)) = 1 := Nat.coprime_div_gcd_div_gcd gp
  have eN : N = Nat.gcd N (bm x) * (N / Nat.gcd N (bm x)) := (Nat.mul_div_cancel' (Nat.gcd_dvd_left _ _)).symm
  have eb : bm x = Nat.gcd N (bm x) * (bm x / Nat.gcd N (bm x)) := (Nat.mul_div_cancel' (Nat.gcd_dvd_right _ _)).symm
  have fp : 0 < bm x / Nat.gcd N (bm x) := Nat.div_pos gl gp
  have fl : bm x / Nat.gcd N (bm x) ≤ bm x := Nat.div_le_self _ _
  have nl : N / Nat.gcd N (bm x) ≤ N := Nat.div_le_self _ _
  unfold LIM at hb
  generalize hG : Nat.gcd N (bm x) = G at *
  generalize hF : bm x / G = F at *
  generalize hM : N / G = M at *
  have m1 := Int.emod_nonneg ((br x : Int) - R) (show (bm x : Int) ≠ 0 by omega)
  have m2 := Int.emod_lt_of_pos ((br x : Int) - R) (show (0 : Int) < bm x by omega)
  obtain ⟨E, hE⟩ : ∃ E : Nat, ((br x : Int) - R) % (bm x : Int) = E := ⟨_, (Int.toNat_of_nonneg m1).symm⟩
  rw [hE] at m1 m2
  have cE : cg (bm x) (E : Int) ((br x : Int) - R) := by
    unfold cg
    have := Int.emod_add_mul_ediv ((br x : Int) - R) (bm x : Int)
    rw [hE] at this
    exact ⟨-(((br x : Int) - R) / (bm x : Int)), by rw [Int.mul_neg]; omega⟩
  have hGE : G ∣ E := by
    have c1 := cE.dv (show G ∣ bm x from ⟨F, eb⟩)
    have c2 : cg G ((br x : Int) - R) 0 := by
      have := (cg_nat.mpr hs).sy
      unfold cg at *
      rw [Int.sub_zero]
      exact this
    have := cg_nat (z := 0) |>.mp (by exact_mod_cast c1.tr c2)
    exact Nat.dvd_of_mod_eq_zero (by rw [this]; exact Nat.zero_mod _)
  have eE : E = G * (E / G) := (Nat.mul_div_cancel' hGE).symm
  have El : E / G ≤ E := Nat.div_le_self _ _
  generalize hP : E / G = P at *
  obtain ⟨t, et, t1, t2, tc⟩ := x_inv (a := M) (n := F) (k := 50) fp (by omega) (by omega) (by omega) (by decide)
  rw [co] at tc
  have b1 : (P : Int) * t ≤ 999 * 999 := Int.le_trans (Int.mul_le_mul_of_nonneg_left (show t ≤ 999 by omega) (by omega)) (Int.mul_le_mul_of_nonneg_right (show (P : Int) ≤ 999 by omega) (by omega))
  have b3 : -((P : Int) * t) ≤ 999 * 999 := by
    rw [← Int.mul_neg]
    exact Int.le_trans (Int.mul_le_mul_of_nonneg_left (show -t ≤ 999 by omega) (by omega)) (Int.mul_le_mul_of_nonneg_right (show (P : Int) ≤ 999 by omega) (by omega))
  have m3 := Int.emod_nonneg ((P : Int) * t) (show (F : Int) ≠ 0 by omega)
  have m4 := Int.emod_lt_of_pos ((P : Int) * t) (show (0 : Int) < F by omega)
  obtain ⟨T, hT⟩ : ∃ T : Nat, ((P : Int) * t) % (F : Int) = T := ⟨_, (Int.toNat_of_nonneg m3).symm⟩
  rw [hT] at m3 m4
  have cT : cg F (T : Int) ((P : Int) * t) := by
    unfold cg
    have := Int.emod_add_mul_ediv ((P : Int) * t) (F : Int)
    rw [hT] at this
    exact ⟨-(((P : Int) * t) / (F : Int)), by rw [Int.mul_neg]; omega⟩
  have hup : N * (T + 1) ≤ N * F := Nat.mul_le_mul_left _ (by omega)
  rw [Nat.mul_add, Nat.mul_one] at hup
  refine ⟨sL (sL S 17 jo (lN (R + N * T))) 16 jo (lN (Nat.lcm N (bm x))), R + N * T, ?_, scj.L.tr scj.L, fL_s, ?_, ?_, ?_, ?_⟩
  · unfold f_X1_take
    rw [hN, hR, hc.fbm hv, hc.fbr hv, nI_l (by omega), nI_l (by omega), x_cd (k := 10) (by omega) (by omega) (by omega) (by decide), bd_s, hG, x_share (by omega) gp (by omega), bd_s, hF, lN_z (br x), lN_z R, zL_sub, x_rest (by omega) (by omega) bp (by omega), bd_s, hE, ← lN_z, x_share (by omega) gp (by omega), bd_s, hP, x_share (by omega) gp (by omega), bd_s, hM, et, bd_s, lN_z P, zL_mul, x_rest (by omega) (by omega) fp (by omega), bd_s, hT, ← lN_z, ← lN_z, lN_mul, lN_add]
    have e16 : fL (sL S 17 jo (lN (R + N * T))) 16 jo = lN N := (fL_ne (by decide)).trans hN
    rw [e16, lN_mul, hlc]
  · exact (fL_ne (by decide)).trans fL_s
  · rw [hlc]; omega
  · rw [Nat.add_mul_mod_self_left, Nat.mod_eq_of_lt hl]
  · have c1 : cg F ((M : Int) * T) (P : Int) := by
      have d1 := cT.ml (M : Int)
      have d2 := tc.ml (P : Int)
      have e1 : (M : Int) * ((P : Int) * t) = (P : Int) * (t * M) := by
        rw [Int.mul_comm (M : Int), Int.mul_assoc]
      have e3 : (P : Int) * ((1 : Nat) : Int) = P := Int.mul_one _
      rw [e1] at d1
      rw [e3] at d2
      exact d1.tr d2
    have c2 := cg_sc G c1
    rw [← eb] at c2
    have e4 : (G : Int) * ((M : Int) * T) = ((N * T : Nat) : Int) := by
      have : (N : Int) = G * M := by exact_mod_cast eN
      push_cast
      rw [this, Int.mul_assoc]
    have e5 : (G : Int) * (P : Int) = (E : Int) := by exact_mod_cast eE.symm
    rw [e4, e5] at c2
    have c3 := (cg.rf (m := bm x) (y := (R : Int))).ad (c2.tr cE)
    have e6 : (R : Int) + ((br x : Int) - R) = br x := by omega
    rw [e6] at c3
    have c4 : cg (bm x) ((R + N * T : Nat) : Int) (br x : Int) := by
      push_cast
      push_cast at c3
      exact c3
    have := cg_nat.mp c4
    rwa [Nat.mod_eq_of_lt sb.1] at this
theorem x_tells {S : PS} {jo c : Nat} {x : CT} (hc : CD S c x) (g : gd x) {N R : Nat} (hN : fL S 16 jo = lN N) (hR : fL S 17 jo = lN R) (hl : R < N) (hb : N ≤ LIM) : f_X1_tells S jo c = some (b2 (!vo x && (decide (N % bm x = 0) && decide (R % bm x = br x)))) := by
  unfold LIM at hb
  unfold f_X1_tells f_X1_tells_B39 f_X1_tells_B40
  rw [hc.void g, bd_s]
  cases hv : vo x
  · have l1 := bm_le g
    have p1 := bm_pos g
    have m1 := Nat.mod_lt N p1
    rw [b2_f, if_pos rfl, hN, hR, hc.fbm hv, nI_l (by omega), x_restN (by omega) p1 (by omega), bd_s, x_ful hc g (by omega), bd_s, fu_br g hv]
    by_cases q : N % bm x = 0
    · rw [if_pos (by rw [q]; rfl), decide_eq_true q]
      cases decide (R % bm x = br x)
      · rw [b2_f, if_pos rfl]; exact ckb0
      · rw [b2_t, if_neg n10]; exact ckb1
    · rw [if_neg (fun z => q ((lN_n0 (by omega)).mp z)), decide_eq_false q]; exact ckb0
  · rw [b2_t, if_neg n10]; exact ckb0
theorem x_least {S : PS} {jo N R y : Nat} (hN : fL S 16 jo = lN N) (hR : fL S 17 jo = lN R) (hl : R < N) (hb : N ≤ LIM) (hy : y ≤ LIM) : f_X1_leastFrom S jo (lN y) = some (lN (af N R y)) := by
  unfold LIM at *
  have hm := Nat.mod_lt y (show 0 < N by omega)
  have hd := Nat.div_add_mod y N
  have hd2 : (N : Int) * ((y / N : Nat) : Int) + ((y % N : Nat) : Int) = y := by exact_mod_cast hd
  unfold f_X1_leastFrom
  rw [hN, hR, lN_z R, lN_z y, zL_sub, x_rest (by omega) (by omega) (by omega) (by omega), bd_s, zL_add, lN_z]
  congr 2
  unfold af
  by_cases q : y % N ≤ R
  · rw [if_pos q]
    have e : ((R : Int) - y) % (N : Int) = R - (y % N : Nat) := by
      rw [show (R : Int) - y = (R - (y % N : Nat)) + N * (-((y / N : Nat) : Int)) by rw [Int.mul_neg]; omega, Int.add_mul_emod_self_left]
      exact Int.emod_eq_of_lt (by omega) (by omega)
    omega
  · rw [if_neg q]
    have e : ((R : Int) - y) % (N : Int) = R + N - (y % N : Nat) := by
      rw [show (R : Int) - y = (R + N - (y % N : Nat)) + N * (-((y / N : Nat) : Int) - 1) by rw [Int.mul_sub, Int.mul_neg, Int.mul_one]; omega, Int.add_mul_emod_self_left]
      exact Int.emod_eq_of_lt (by omega) (by omega)
    omega
/-- how many up to a number leave R by N -/
def cu (N R : Nat) (t : Int) : Nat := if t < R then 0 else (t - R).toNat / N + 1
theorem x_upto {S : PS} {jo N R : Nat} {t : Int} (hN : fL S 16 jo = lN N) (hR : fL S 17 jo = lN R) (hl : R < N) (hb : N ≤ LIM) (h1 : -1 ≤ t) (h2 : t ≤ LIM) : f_X1_answersUpTo S jo (zL t) = some (lN (cu N R t)) := by
  unfold LIM at *
  unfold f_X1_answersUpTo f_X1_answersUpTo_B28 cu
  rw [hR, hN, lN_z R]
  by_cases q : t < R
  · rw [if_neg (fun z => by have := (zL_le (by omega) (by omega) (by omega) (by omega)).mp z; omega), if_pos q]; rfl
  · rw [if_pos ((zL_le (by omega) (by omega) (by omega) (by omega)).mpr (by omega)), if_neg q, zL_sub]
    obtain ⟨d, hd⟩ : ∃ d : Nat, t - R = d := ⟨_, (Int.toNat_of_nonneg (show 0 ≤ t - R by omega)).symm⟩
    rw [hd, ← lN_z, x_share (by omega) (by omega) (by omega), bd_s, lN_1, Int.toNat_natCast]
theorem dv_e {N k r : Nat} (h : r < N) : (N * k + r) / N = k := by
  rw [Nat.mul_add_div (by omega), Nat.div_eq_of_lt h, Nat.add_zero]
theorem cu_bw {N R y z : Nat} (hl : R < N) (hz : y ≤ z) : cu N R z = cu N R ((y : Int) - 1) + (if af N R y ≤ z then (z - af N R y) / N + 1 else 0) := by
  have hm := Nat.mod_lt y (show 0 < N by omega)
  have hd := Nat.div_add_mod y N
  have ab := af_b (y := y) hl
  obtain ⟨j, ej, ej2⟩ : ∃ j, af N R y = R + N * j ∧ cu N R ((y : Int) - 1) = j := by
    unfold af cu
    by_cases q : y % N ≤ R
    · refine ⟨y / N, by rw [if_pos q]; omega, ?_⟩
      rcases Nat.eq_zero_or_pos (y / N) with h0 | h0
      · rw [h0, Nat.mul_zero] at hd
        rw [if_pos (by omega), h0]
      · have h3 : N * 1 ≤ N * (y / N) := Nat.mul_le_mul_left _ h0
        have h4 : N * (y / N - 1) = N * (y / N) - N := by rw [Nat.mul_sub, Nat.mul_one]
        rw [if_neg (by omega)]
        have e : ((y : Int) - 1 - R).toNat = N * (y / N - 1) + (N + y % N - 1 - R) := by omega
        rw [e, dv_e (by omega)]
        omega
    · refine ⟨y / N + 1, by rw [if_neg q, Nat.mul_add, Nat.mul_one]; omega, ?_⟩
      rw [if_neg (by omega)]
      have e : ((y : Int) - 1 - R).toNat = N * (y / N) + (y % N - 1 - R) := by omega
      rw [e, dv_e (by omega)]
  rw [ej2]
  rw [ej] at ab ⊢
  unfold cu
  by_cases q : R + N * j ≤ z
  · rw [if_pos q, if_neg (by omega)]
    have e : ((z : Int) - R).toNat = N * j + (z - (R + N * j)) := by omega
    rw [e, Nat.mul_add_div (by omega)]
    omega
  · rw [if_neg q]
    rcases Nat.eq_zero_or_pos j with h0 | h0
    · subst h0
      rw [if_pos (by omega)]
    · have h3 : N * 1 ≤ N * j := Nat.mul_le_mul_left _ h0
      have h4 : N * (j - 1) = N * j - N := by rw [Nat.mul_sub, Nat.mul_one]
      rw [if_neg (by omega)]
      have e : ((z : Int) - R).toNat = N * (j - 1) + (z - R - N * (j - 1)) := by omega
      rw [e, dv_e (by omega)]
      omega

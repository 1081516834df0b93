/-! ===== the class: arithmetic ===== -/
/-- Euclid's way from x, y needs at most m steps -/
def EU : Nat → Nat → Nat → Prop
  | 0, _, y => y = 0
  | m + 1, x, y => y = 0 ∨ EU m y (x % y)
theorem half_lt {y r : Nat} (h : r < y) (h0 : 0 < r) : 2 * (y % r) < y := by
  have h1 := Nat.mod_lt y h0
  have h2 := Nat.div_add_mod y r
  have h3 : 1 ≤ y / r := (Nat.one_le_div_iff h0).mpr (Nat.le_of_lt h)
  have h4 : r * 1 ≤ r * (y / r) := Nat.mul_le_mul_left r h3
  omega
theorem eu_log : ∀ k x y, y < 2 ^ k → EU (2 * k) x y
  | 0, _, y, h => by
    show y = 0
    have : (2 : Nat) ^ 0 = 1 := rfl
    omega
  | k + 1, x, y, h => by
    show y = 0 ∨ EU (2 * k + 1) y (x % y)
    by_cases q : y = 0
    · exact Or.inl q
    · refine Or.inr ?_
      have h1 := Nat.mod_lt x (Nat.pos_of_ne_zero q)
      show x % y = 0 ∨ EU (2 * k) (x % y) (y % (x % y))
      by_cases r : x % y = 0
      · exact Or.inl r
      · have := half_lt h1 (Nat.pos_of_ne_zero r)
        have e : (2 : Nat) ^ (k + 1) = 2 * 2 ^ k := by rw [Nat.pow_succ, Nat.mul_comm]
        exact Or.inr (eu_log k _ _ (by omega))
theorem lN_p0 {n : Nat} (h : n < 2 ^ 63) : lN n ≤ 0 ↔ n = 0 := by rw [l0, pk_lLE h (by decide)]; omega
theorem x_cd {a b k : Nat} (ha : a < 2 ^ 62) (hb : b < 2 ^ 62) (hk : b < 2 ^ k) (hk2 : k ≤ 90) : f_X4_commonDivisor (lN a) (lN b) = some (lN (Nat.gcd a b)) := by
  have key : ∀ m fu x y j, EU m x y → j + m ≤ 190 → m < fu → x < 2 ^ 62 → y < 2 ^ 62 → f_X4_commonDivisor_L9 f_X4_commonDivisor_B45 fu (lN x) (lN y) (nI j) = some (lN (Nat.gcd x y)) := by
    intro m
    induction m with
    | zero =>
      intro fu x y j hE hj hf hx hy
      have hE : y = 0 := hE
      subst hE
      obtain ⟨fu, rfl⟩ : ∃ g, fu = g + 1 := ⟨fu - 1, by omega⟩
      show f_X4_commonDivisor_L9s (f_X4_commonDivisor_L9 f_X4_commonDivisor_B45 fu) f_X4_commonDivisor_B45 (lN x) (lN 0) (nI j) = _
      unfold f_X4_commonDivisor_L9s
      rw [if_neg (show ¬ (200 : Int32) ≤ nI j from nle (a := 200) (by omega) (by decide)), if_pos ((lN_p0 (by decide)).mpr rfl), Nat.gcd_zero_right]
      rfl
    | succ m ih =>
      intro fu x y j hE hj hf hx hy
      obtain ⟨fu, rfl⟩ : ∃ g, fu = g + 1 := ⟨fu - 1, by omega⟩
      show f_X4_commonDivisor_L9s (f_X4_commonDivisor_L9 f_X4_commonDivisor_B45 fu) f_X4_commonDivisor_B45 (lN x) (lN y) (nI j) = _
      unfold f_X4_commonDivisor_L9s
      rw [if_neg (show ¬ (200 : Int32) ≤ nI j from nle (a := 200) (by omega) (by decide))]
      by_cases q : y = 0
      · subst q
        rw [if_pos ((lN_p0 (by decide)).mpr rfl), Nat.gcd_zero_right]
        rfl
      · have hp := Nat.pos_of_ne_zero q
        have hm := Nat.mod_lt x hp
        rcases hE with hE | hE
        · exact absurd hE q
        · rw [if_neg (fun z => q ((lN_p0 (by omega)).mp z)), ckl (by omega) hp, pk_lRem (by omega) hp (by omega), nI_1, ih fu y (x % y) (j + 1) hE (by omega) (by omega) hy (by omega), Nat.gcd_comm y (x % y), ← Nat.gcd_rec, Nat.gcd_comm]
  exact key (2 * k) FU a b 0 (eu_log k a b hk) (by omega) (by unfold FU; omega) ha hb
theorem zL_0le {a : Int} (h : -2 ^ 63 ≤ a) (h2 : a < 2 ^ 63) : 0 ≤ zL a ↔ 0 ≤ a := zL_le (a := 0) (by decide) (by decide) h h2
theorem x_rest {y : Int} {n : Nat} (h1 : -2 ^ 62 ≤ y) (h2 : y < 2 ^ 62) (h0 : 0 < n) (hn : n < 2 ^ 62) : f_X4_rest (zL y) (lN n) = some (zL (y % n)) := by
  have e := Int.tmod_eq_emod (a := y) (b := (n : Int))
  have m1 := Int.emod_nonneg y (show (n : Int) ≠ 0 by omega)
  have m2 := Int.emod_lt_of_pos y (show (0 : Int) < n by omega)
  unfold f_X4_rest f_X4_rest_B29
  rw [if_pos (show (1 : Int64) ≤ lN n by rw [l1, pk_lLE (by decide) (by omega)]; omega), ckl (by omega) h0, lN_z, zL_rem h1 h2 (by omega) (by omega)]
  by_cases q : 0 ≤ y ∨ (n : Int) ∣ y
  · rw [if_pos q] at e
    rw [if_pos ((zL_0le (by omega) (by omega)).mpr (by omega))]
    rw [e]
    congr 2
    omega
  · rw [if_neg q, Int.natAbs_natCast] at e
    rw [if_neg (fun z => by have := (zL_0le (by omega) (by omega)).mp z; omega), zL_add]
    congr 2
    omega
theorem x_restN {a n : Nat} (h2 : a < 2 ^ 62) (h0 : 0 < n) (hn : n < 2 ^ 62) : f_X4_rest (lN a) (lN n) = some (lN (a % n)) := by
  rw [lN_z a, x_rest (by omega) (by omega) h0 hn, lN_z]
  rfl
theorem x_share {a n : Nat} (ha : a < 2 ^ 63) (h0 : 0 < n) (hn : n < 2 ^ 63) : f_X4_share (lN a) (lN n) = some (lN (a / n)) := by
  unfold f_X4_share f_X4_share_B13
  rw [if_pos (show (1 : Int64) ≤ lN n by rw [l1, pk_lLE (by decide) (by omega)]; omega), ckl hn h0, pk_lDiv ha h0 hn]
theorem cg_s {m : Nat} {x y z w : Int} (h : cg m x y) (h2 : cg m z w) : cg m (x - z) (y - w) := by
  have := h.ad (h2.ml (-1))
  have e1 : x + -1 * z = x - z := by omega
  have e2 : y + -1 * w = y - w := by omega
  rw [e1, e2] at this
  exact this
theorem x_inv {a n k : Nat} (hn : 0 < n) (hn2 : n < 2 ^ 62) (ha : a < 2 ^ 62) (hk : a < 2 ^ k) (hk2 : k ≤ 90) : ∃ t : Int, f_X4_inverse (lN a) (lN n) = some (zL t) ∧ -n ≤ t ∧ t ≤ n ∧ cg n (t * a) (Nat.gcd a n : Nat) := by
  have key : ∀ m fu x y j (p t : Int) (T B : Nat), EU m x y → j + m ≤ 190 → m < fu → 0 < x → x < 2 ^ 62 → y < 2 ^ 62 → x * T + y * B = n → B ≤ n → ((t = T ∧ p = -B) ∨ (t = -T ∧ p = B)) → cg n (t * a) y → cg n (p * a) x → Nat.gcd x y = Nat.gcd a n → ∃ v : Int, f_X4_inverse_L15 f_X4_inverse_B79 fu (lN x) (lN y) (zL p) (zL t) (nI j) = some (zL v) ∧ -n ≤ v ∧ v ≤ n ∧ cg n (v * a) (Nat.gcd a n : Nat) := by
    intro m
    induction m with
    | zero =>
      intro fu x y j p t T B hE hj hf hx0 hx hy hs hB hsg c1 c2 hgc
      have hE : y = 0 := hE
      subst hE
      obtain ⟨fu, rfl⟩ : ∃ g, fu = g + 1 := ⟨fu - 1, by omega⟩
      refine ⟨p, ?_, by omega, by omega, ?_⟩
      · show f_X4_inverse_L15s (f_X4_inverse_L15 f_X4_inverse_B79 fu) f_X4_inverse_B79 (lN x) (lN 0) (zL p) (zL t) (nI j) = _
        unfold f_X4_inverse_L15s
        rw [if_neg (show ¬ (200 : Int32) ≤ nI j from nle (a := 200) (by omega) (by decide)), if_pos ((lN_p0 (by decide)).mpr rfl)]
        rfl
      · rw [Nat.gcd_zero_right] at hgc
        rw [← hgc]; exact c2
    | succ m ih =>
      intro fu x y j p t T B hE hj hf hx0 hx hy hs hB hsg c1 c2 hgc
      obtain ⟨fu, rfl⟩ : ∃ g, fu = g + 1 := ⟨fu - 1, by omega⟩
      rw [show f_X4_inverse_L15 f_X4_inverse_B79 (fu + 1) (lN x) (lN y) (zL p) (zL t) (nI j) = f_X4_inverse_L15s (f_X4_inverse_L15 f_X4_inverse_B79 fu) f_X4_inverse_B79 (lN x) (lN y) (zL p) (zL t) (nI j) from rfl]
      unfold f_X4_inverse_L15s
      rw [if_neg (show ¬ (200 : Int32) ≤ nI j from nle (a := 200) (by omega) (by decide))]
      by_cases q : y = 0
      · subst q
        refine ⟨p, ?_, by omega, by omega, ?_⟩
        · rw [if_pos ((lN_p0 (by decide)).mpr rfl)]
          rfl
        · rw [Nat.gcd_zero_right] at hgc
          rw [← hgc]; exact c2
      · have hp := Nat.pos_of_ne_zero q
        have hm := Nat.mod_lt x hp
        have hdm := Nat.div_add_mod x y
        rcases hE with hE | hE
        · exact absurd hE q
        · rw [if_neg (fun z => q ((lN_p0 (by omega)).mp z)), ckl (by omega) hp, pk_lRem (by omega) hp (by omega), pk_lDiv (by omega) hp (by omega), nI_1, lN_z (x / y), zL_mul, zL_sub]
          have hTn : T ≤ n := by
            have : 1 * T ≤ x * T := Nat.mul_le_mul_right T hx0
            omega
          refine ih fu y (x % y) (j + 1) t (p - ((x / y : Nat) : Int) * t) (B + x / y * T) T hE (by omega) (by omega) hp hy (by omega) ?_ hTn ?_ ?_ c1 ?_
          · have e1 : y * (B + x / y * T) = y * B + y * (x / y) * T := by rw [Nat.mul_add, Nat.mul_assoc]
            have e2 : x * T = (y * (x / y)) * T + x % y * T := by rw [← Nat.add_mul, hdm]
            rw [e1]
            omega
          · rcases hsg with ⟨s1, s2⟩ | ⟨s1, s2⟩
            · refine Or.inr ⟨?_, s1⟩
              rw [s1, s2]
              push_cast
              omega
            · refine Or.inl ⟨?_, s1⟩
              rw [s1, s2, Int.mul_neg]
              push_cast
              omega
          · have c3 := cg_s c2 (c1.ml ((x / y : Nat) : Int))
            have e1 : p * a - ((x / y : Nat) : Int) * (t * a) = (p - ((x / y : Nat) : Int) * t) * a := by rw [Int.sub_mul, Int.mul_assoc]
            have e2 : (x : Int) - ((x / y : Nat) : Int) * y = ((x % y : Nat) : Int) := by
              have h9 : (y : Int) * ((x / y : Nat) : Int) + ((x % y : Nat) : Int) = x := by exact_mod_cast hdm
              rw [Int.mul_comm]
              omega
            rw [e1, e2] at c3
            exact c3
          · rw [Nat.gcd_comm y (x % y), ← Nat.gcd_rec, Nat.gcd_comm]; exact hgc
  have e0 : (0 : Int64) = zL 0 := rfl
  have e1 : (1 : Int64) = zL 1 := rfl
  have := key (2 * k) FU n a 0 0 1 1 0 (eu_log k n a hk) (by omega) (by unfold FU; omega) hn hn2 ha (by omega) (by omega) (Or.inl ⟨rfl, rfl⟩) (by rw [Int.one_mul]; exact cg.rf) (by
    unfold cg
    rw [Int.zero_mul]
    exact ⟨-1, by omega⟩) (Nat.gcd_comm n a)
  exact this
/-! ===== the class: conditions ===== -/
def bmI (x : CT) : Int32 := if vo x = true then -1 else nI (bm x)
def brI (x : CT) : Int32 := if vo x = true then -1 else nI (br x)
def CD (S : PS) (c : Nat) (y : CT) : Prop := vd S c 0 ∧ fI S 0 c = nI y.1 ∧ fI S 1 c = nI y.2.1 ∧ fI S 2 c = nI y.2.2.1 ∧ fI S 3 c = bmI y ∧ fI S 4 c = brI y
def mkC (S : PS) (c : Nat) (x : CT) : PS := sI (sI (sI (sI (sI S 0 c (nI x.1)) 1 c (nI x.2.1)) 2 c (nI x.2.2.1)) 3 c (bmI x)) 4 c (brI x)
theorem x_mk {S : PS} {c : Nat} {x : CT} (g : gd x) : f_X0_init S c (nI x.1) (nI x.2.1) (nI x.2.2.1) = some (mkC S c x) := by
  have gp := gg_pos g
  have gl := gg_le g
  have hdm := gg_dm x
  have bp := bm_pos g
  have bl := bm_le g
  obtain ⟨g1, g2, g3, g4, g5⟩ := id g
  unfold f_X0_init f_X0_init_B99 mkC
  rw [nI_l (by omega), nI_l (by omega), nI_l (by omega), x_cd (k := 10) (by omega) (by omega) (by omega) (by decide), bd_s]
  show bd (f_X4_rest (lN x.2.1) (lN (gg x))) _ = _
  rw [x_restN (by omega) gp (by omega), bd_s]
  have hml := Nat.mod_lt x.2.1 gp
  show (if lN (x.2.1 % gg x) = 0 then bd (f_X4_share (lN x.2.2.1) (lN (gg x))) (fun t8 => bd (f_X4_share (lN x.2.1) (lN (gg x))) fun t11 => bd (f_X4_share (lN x.1) (lN (gg x))) fun t14 => bd (f_X4_inverse t14 t8) fun t17 => bd (f_X4_rest (t11 * t17) t8) fun t20 => some (sI (sI (sI (sI (sI S 0 c (nI x.1)) 1 c (nI x.2.1)) 2 c (nI x.2.2.1)) 3 c t8.toInt32) 4 c t20.toInt32)) else some (sI (sI (sI (sI (sI S 0 c (nI x.1)) 1 c (nI x.2.1)) 2 c (nI x.2.2.1)) 3 c (-1)) 4 c (-1))) = _
  cases hv : vo x
  · have hg := vo_f hv
    have s := br_spec g hv
    have e0 : x.2.1 % gg x = 0 := Nat.mod_eq_zero_of_dvd hg
    have d1 : x.1 / gg x ≤ x.1 := Nat.div_le_self _ _
    have d2 : x.2.1 / gg x ≤ x.2.1 := Nat.div_le_self _ _
    rw [if_pos (by rw [e0]; rfl), x_share (by omega) gp (by omega), bd_s, x_share (by omega) gp (by omega), bd_s, x_share (by omega) gp (by omega), bd_s]
    show bd (f_X4_inverse (lN (x.1 / gg x)) (lN (bm x))) (fun t17 => bd (f_X4_rest (lN (x.2.1 / gg x) * t17) (lN (bm x))) fun t20 => some (sI (sI (sI (sI (sI S 0 c (nI x.1)) 1 c (nI x.2.1)) 2 c (nI x.2.2.1)) 3 c (lN (bm x)).toInt32) 4 c t20.toInt32)) = _
    have co : Nat.gcd (x.1 / gg x) (bm x) = 1 := Nat.coprime_div_gcd_div_gcd gp
    generalize hA : x.1 / gg x = A at *
    generalize hB : x.2.1 / gg x = B at *
    obtain ⟨t, e, t1, t2, tc⟩ := x_inv (a := A) (n := bm x) (k := 10) bp (by omega) (by omega) (by omega) (by decide)
    rw [co] at tc
    have b1 : (B : Int) * t ≤ 999 * 999 := Int.le_trans (Int.mul_le_mul_of_nonneg_left (show t ≤ 999 by omega) (by omega)) (Int.mul_le_mul_of_nonneg_right (show (B : Int) ≤ 999 by omega) (by omega))
    have b3 : -((B : Int) * t) ≤ 999 * 999 := by
      rw [← Int.mul_neg]
      exact Int.le_trans (Int.mul_le_mul_of_nonneg_left (show -t ≤ 999 by omega) (by omega)) (Int.mul_le_mul_of_nonneg_right (show (B : Int) ≤ 999 by omega) (by omega))
    rw [e, bd_s, lN_z B, zL_mul, x_rest (by omega) (by omega) bp (by omega), bd_s]
    have hres : (B : Int) * t % (bm x : Int) = (br x : Int) := by
      have cA : cg (bm x) ((A : Int) * br x) (B : Int) := by
        have c0 : cg x.2.2.1 ((x.1 : Int) * br x) (x.2.1 : Int) := by
          have := cg_nat.mpr s.2.1
          push_cast at this
          exact this
        obtain ⟨a', ha'⟩ : gg x ∣ x.1 := Nat.gcd_dvd_left _ _
        obtain ⟨b', hb'⟩ := hg
        obtain ⟨n', hn'⟩ := hdm
        have ea : A = a' := hA ▸ Nat.div_eq_of_eq_mul_right gp ha'
        have eb : B = b' := hB ▸ Nat.div_eq_of_eq_mul_right gp hb'
        have en : bm x = n' := Nat.div_eq_of_eq_mul_right gp hn'
        rw [ea, eb, en]
        unfold cg at c0 ⊢
        obtain ⟨q, hq⟩ := c0
        refine ⟨q, ?_⟩
        have gz : (gg x : Int) ≠ 0 := by omega
        apply Int.eq_of_mul_eq_mul_left gz
        have h1 : (x.1 : Int) = gg x * a' := by exact_mod_cast ha'
        have h2 : (x.2.1 : Int) = gg x * b' := by exact_mod_cast hb'
        have h3 : (x.2.2.1 : Int) = gg x * n' := by exact_mod_cast hn'
        rw [h1, h2, h3] at hq
        rw [Int.mul_sub, ← Int.mul_assoc, hq, Int.mul_assoc]
      have cB : cg (bm x) ((B : Int) * t) (br x : Int) := by
        have c1 := (cA.ml t).sy
        have c2 := tc.ml (br x : Int)
        have e1 : t * (B : Int) = (B : Int) * t := Int.mul_comm _ _
        have e2 : (br x : Int) * (t * (A : Int)) = t * ((A : Int) * (br x : Int)) := by
          rw [Int.mul_comm (br x : Int), Int.mul_assoc]
        rw [e1] at c1
        rw [e2] at c2
        have c3 := c1.tr c2
        have e3 : (br x : Int) * ((1 : Nat) : Int) = br x := Int.mul_one _
        rw [e3] at c3
        exact c3
      have h5 := Int.emod_emod_of_dvd ((B : Int) * t) (Int.dvd_refl (bm x : Int))
      have h6 : (((B : Int) * t) - br x) % (bm x : Int) = 0 := Int.emod_eq_zero_of_dvd cB
      have h7 := Int.emod_eq_emod_iff_emod_sub_eq_zero.mpr h6
      rw [h7]
      exact Int.emod_eq_of_lt (by omega) (by omega)
    rw [hres, ← lN_z, lN_i, lN_i]
    unfold bmI brI
    rw [hv]
    rfl
  · have e0 : ¬ x.2.1 % gg x = 0 := by
      unfold vo at hv
      exact of_decide_eq_true hv
    rw [if_neg (fun z => e0 ((lN_n0 (by omega)).mp z))]
    unfold bmI brI
    rw [hv]
    rfl
theorem CD.void {S : PS} {c : Nat} {y : CT} (h : CD S c y) (g : gd y) : f_X0_isVoid S c = some (b2 (vo y)) := by
  unfold f_X0_isVoid f_X0_isVoid_B13
  rw [h.2.2.2.2.1]
  have bl := bm_le g
  unfold bmI
  cases vo y
  · rw [if_neg (show ¬ (if false = true then (-1 : Int32) else nI (bm y)) = -1 from nm1 (by omega))]; exact ckb0
  · rw [if_pos rfl]; exact ckb1
theorem CD.fbm {S : PS} {c : Nat} {y : CT} (h : CD S c y) (hv : vo y = false) : fI S 3 c = nI (bm y) := by
  rw [h.2.2.2.2.1]; unfold bmI; rw [hv]; rfl
theorem CD.fbr {S : PS} {c : Nat} {y : CT} (h : CD S c y) (hv : vo y = false) : fI S 4 c = nI (br y) := by
  rw [h.2.2.2.2.2]; unfold brI; rw [hv]; rfl
theorem x_partner {S : PS} {c d : Nat} {x y : CT} (hc : CD S c x) (hd : CD S d y) (gx : gd x) (gy : gd y) : f_X0_isPartnerOf S c d = some (b2 (ag x y)) := by
  unfold f_X0_isPartnerOf f_X0_isPartnerOf_B14 f_X0_isPartnerOf_B57 ag
  rw [hc.void gx, hd.void gy, bd_s, bd_s]
  cases hv : vo x
  · rw [b2_f, if_pos rfl]
    cases hv2 : vo y
    · have l1 := bm_le gx
      have l2 := bm_le gy
      have p1 := bm_pos gx
      have s1 := br_lt gx hv
      have s2 := br_lt gy hv2
      have gp : 0 < Nat.gcd (bm x) (bm y) := Nat.gcd_pos_of_pos_left _ p1
      have gl : Nat.gcd (bm x) (bm y) ≤ bm x := Nat.le_of_dvd p1 (Nat.gcd_dvd_left _ _)
      have m1 := Nat.mod_lt (br x) gp
      have m2 := Nat.mod_lt (br y) gp
      rw [b2_f, if_pos rfl, hc.fbm hv, hd.fbm hv2, hc.fbr hv, hd.fbr hv2, nI_l (by omega), nI_l (by omega), nI_l (by omega), nI_l (by omega), x_cd (k := 10) (by omega) (by omega) (by omega) (by decide), bd_s, x_restN (by omega) gp (by omega), bd_s, x_restN (by omega) gp (by omega), bd_s]
      by_cases q : br x % Nat.gcd (bm x) (bm y) = br y % Nat.gcd (bm x) (bm y)
      · rw [if_pos (by rw [q]), decide_eq_true q]; exact ckb1
      · rw [if_neg (fun z => q ((pk_lEQ (by omega) (by omega)).mp z)), decide_eq_false q]; exact ckb0
    · rw [b2_t, if_neg n10]; rfl
  · rw [b2_t, if_neg n10]; rfl
theorem fu_void {x : CT} (g : gd x) (hv : vo x = true) (y : Nat) : fu x y = false := decide_eq_false (br_void g hv y)
theorem fu_br {x : CT} (g : gd x) (hv : vo x = false) (y : Nat) : fu x y = decide (y % bm x = br x) := by
  unfold fu
  exact decide_eq_decide.mpr (br_iff g hv y)
theorem x_ful {S : PS} {c : Nat} {x : CT} (hc : CD S c x) (g : gd x) {y : Nat} (hy : y < 2 ^ 62) : f_X0_isFulfilledBy S c (lN y) = some (b2 (fu x y)) := by
  unfold f_X0_isFulfilledBy f_X0_isFulfilledBy_B29 f_X0_isFulfilledBy_B30
  rw [hc.void g, bd_s]
  cases hv : vo x
  · have l1 := bm_le g
    have p1 := bm_pos g
    have s1 := br_lt g hv
    have m1 := Nat.mod_lt y p1
    rw [b2_f, if_pos rfl, hc.fbm hv, hc.fbr hv, nI_l (by omega), nI_l (by omega), x_restN hy p1 (by omega), bd_s, fu_br g hv]
    by_cases q : y % bm x = br x
    · rw [if_pos (by rw [q]), decide_eq_true q]; exact ckb1
    · rw [if_neg (fun z => q ((pk_lEQ (by omega) (by omega)).mp z)), decide_eq_false q]; exact ckb0
  · rw [b2_t, if_neg n10, fu_void g hv]; exact ckb0

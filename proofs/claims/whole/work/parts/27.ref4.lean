/-! ===== signed numbers ===== -/
def zL (n : Int) : Int64 := Int64.ofInt n
theorem lN_z (n : Nat) : lN n = zL n := Int64.ofInt_eq_ofNat.symm
theorem zL_add (a b : Int) : zL a + zL b = zL (a + b) := (Int64.ofInt_add a b).symm
theorem zL_sub (a b : Int) : zL a - zL b = zL (a - b) := (Int64.ofInt_sub a b).symm
theorem zL_mul (a b : Int) : zL a * zL b = zL (a * b) := (Int64.ofInt_mul a b).symm
theorem zL_t {a : Int} (h : -2 ^ 63 ≤ a) (h2 : a < 2 ^ 63) : (zL a).toInt = a := Int64.toInt_ofInt_of_le h h2
theorem zL_lt {a b : Int} (h : -2 ^ 63 ≤ a) (h2 : a < 2 ^ 63) (h3 : -2 ^ 63 ≤ b) (h4 : b < 2 ^ 63) : zL a < zL b ↔ a < b := by
  rw [Int64.lt_iff_toInt_lt, zL_t h h2, zL_t h3 h4]
theorem zL_le {a b : Int} (h : -2 ^ 63 ≤ a) (h2 : a < 2 ^ 63) (h3 : -2 ^ 63 ≤ b) (h4 : b < 2 ^ 63) : zL a ≤ zL b ↔ a ≤ b := by
  rw [Int64.le_iff_toInt_le, zL_t h h2, zL_t h3 h4]
theorem zL_eq {a b : Int} (h : -2 ^ 63 ≤ a) (h2 : a < 2 ^ 63) (h3 : -2 ^ 63 ≤ b) (h4 : b < 2 ^ 63) : zL a = zL b ↔ a = b := by
  rw [← Int64.toInt_inj, zL_t h h2, zL_t h3 h4]
theorem zL_div {a b : Int} (h : -2 ^ 62 ≤ a) (h2 : a < 2 ^ 62) (h3 : 0 < b) (h4 : b < 2 ^ 63) : zL a / zL b = zL (a.tdiv b) := by
  rw [← Int64.toInt_inj, Int64.toInt_div_of_ne_left _ _ (fun z => by
    have := congrArg Int64.toInt z
    rw [zL_t (by omega) (by omega), Int64.toInt_minValue] at this
    omega), zL_t (by omega) (by omega), zL_t (by omega) h4]
  have e : (a.tdiv b).natAbs = a.natAbs / b.natAbs := Int.natAbs_tdiv a b
  have e2 := Nat.div_le_self a.natAbs b.natAbs
  rw [zL_t (by omega) (by omega)]
theorem zL_rem {a b : Int} (h : -2 ^ 62 ≤ a) (h2 : a < 2 ^ 62) (h3 : 0 < b) (h4 : b < 2 ^ 63) : zL a - zL a / zL b * zL b = zL (a.tmod b) := by
  rw [zL_div h h2 h3 h4, zL_mul, zL_sub]
  congr 1
  have := Int.tmod_add_mul_tdiv a b
  rw [Int.mul_comm] at this
  omega
theorem zL_n0 {a : Int} (h : -2 ^ 63 ≤ a) (h2 : a < 2 ^ 63) : zL a = 0 ↔ a = 0 := zL_eq (b := 0) h h2 (by decide) (by decide)
theorem l_1 : (-1 : Int64) = zL (-1) := by decide
/-! ===== the reference: counts ===== -/
def sm (g : Nat → Nat) : Nat → Nat
  | 0 => 0
  | n + 1 => sm g n + g n
theorem sm_le {g : Nat → Nat} {b : Nat} : ∀ n, (∀ i, i < n → g i ≤ b) → sm g n ≤ n * b
  | 0, _ => by simp [sm]
  | n + 1, h => by
    have ih := sm_le n (fun i hi => h i (by omega))
    have h2 := h n (by omega)
    show sm g n + g n ≤ _
    rw [Nat.add_mul, Nat.one_mul]
    omega
theorem ct_s {p : Nat → Bool} {n : Nat} (h : p n = true) : ct p (n + 1) = ct p n + 1 := by
  show ct p n + (if p n = true then 1 else 0) = _
  rw [if_pos h]
theorem ct_n {p : Nat → Bool} {n : Nat} (h : p n = false) : ct p (n + 1) = ct p n := by
  show ct p n + (if p n = true then 1 else 0) = _
  rw [if_neg (by rw [h]; decide)]; rfl
theorem nI_0a (n : Nat) : nI n + 0 = nI n := by rw [i0, nI_add]; rfl
theorem nI_1a (n : Nat) : nI n + 1 = nI (n + 1) := nI_1 n
/-- how many that are on do not agree with one, itself left out -/
def agn (f : Nat → CT) (sz c : Nat) : Nat := ct (fun d => !decide (d = c) && ((f d).2.2.2 && !ag (f c) (f d))) sz
theorem agn_le (f : Nat → CT) (sz c : Nat) : agn f sz c ≤ sz := ct_le _ _
theorem m_against {S : PS} {h hz sz k : Nat} {f : Nat → CT} (H : MV S h hz sz k f) {c : Nat} (hc : c < k) : f_X5_against S h (nI c) = some (nI (agn f sz c)) := by
  have hk := H.2.2.1
  have hk2 := H.2.2.2.1
  unfold f_X5_against
  refine lp_asc (L := fun n d => f_X5_against_L4 S (f_X5_against_B50 S) n h (nI c) (nI (ct (fun d => !decide (d = c) && ((f d).2.2.2 && !ag (f c) (f d))) d)) (nI d)) (e := sz) (fun n => ?_) (fun n d hd => ?_) FU 0 (by omega) (by unfold FU; omega)
  · show f_X5_against_L4s S (f_X5_against_L4 S (f_X5_against_B50 S) n) (f_X5_against_B50 S) h (nI c) (nI (agn f sz c)) (nI sz) = _
    unfold f_X5_against_L4s
    rw [m_z0 H, ck_t (m_in0 H), m_sz H, if_pos (Int32.le_refl _)]
    rfl
  · show f_X5_against_L4s S (f_X5_against_L4 S (f_X5_against_B50 S) n) (f_X5_against_B50 S) h (nI c) (nI (ct (fun d => !decide (d = c) && ((f d).2.2.2 && !ag (f c) (f d))) d)) (nI d) = f_X5_against_L4 S (f_X5_against_B50 S) n h (nI c) (nI (ct (fun d => !decide (d = c) && ((f d).2.2.2 && !ag (f c) (f d))) (d + 1))) (nI (d + 1))
    unfold f_X5_against_L4s f_X5_against_B41 f_X5_against_B42
    rw [m_z0 H, ck_t (m_in0 H), m_sz H, if_neg (nle hd (by omega)), nI_1, nI_0a, nI_1a]
    by_cases q : d = c
    · rw [if_pos (by rw [q]), ct_n (by rw [decide_eq_true q]; rfl)]
    · rw [if_neg (fun z => q ((nI_eq (by omega) (by omega)).mp z)), m_isOn H (by omega), bd_s]
      cases ho : (f d).2.2.2
      · rw [b2_f, if_pos rfl, ct_n (by rw [ho]; simp)]
      · rw [b2_t, if_neg n10, m_go H hc (by omega), bd_s]
        cases ha : ag (f c) (f d)
        · rw [b2_f, if_pos rfl, ct_s (by rw [ho, ha, decide_eq_false q]; rfl)]
        · rw [b2_t, if_neg n10, ct_n (by rw [ho, ha]; simp)]
theorem m_voids {S : PS} {h hz sz k : Nat} {f : Nat → CT} (H : MV S h hz sz k f) : f_X5_voids S h = some (nI (ct (fun c => vo (f c)) sz)) := by
  have hk := H.2.2.1
  have hk2 := H.2.2.2.1
  unfold f_X5_voids
  refine lp_asc (L := fun n d => f_X5_voids_L4 S (f_X5_voids_B36 S) n h (nI (ct (fun c => vo (f c)) d)) (nI d)) (e := sz) (fun n => ?_) (fun n d hd => ?_) FU 0 (by omega) (by unfold FU; omega)
  · show f_X5_voids_L4s S (f_X5_voids_L4 S (f_X5_voids_B36 S) n) (f_X5_voids_B36 S) h (nI (ct (fun c => vo (f c)) sz)) (nI sz) = _
    unfold f_X5_voids_L4s
    rw [m_z0 H, ck_t (m_in0 H), m_sz H, if_pos (Int32.le_refl _)]
    rfl
  · show f_X5_voids_L4s S (f_X5_voids_L4 S (f_X5_voids_B36 S) n) (f_X5_voids_B36 S) h (nI (ct (fun c => vo (f c)) d)) (nI d) = f_X5_voids_L4 S (f_X5_voids_B36 S) n h (nI (ct (fun c => vo (f c)) (d + 1))) (nI (d + 1))
    unfold f_X5_voids_L4s f_X5_voids_B28
    rw [m_z0 H, ck_t (m_in0 H), m_sz H, if_neg (nle hd (by omega)), nI_1, nI_0a, nI_1a, m_void H (by omega), bd_s]
    cases ho : vo (f d)
    · rw [b2_f, if_pos rfl, ct_n ho]
    · rw [b2_t, if_neg n10, ct_s ho]
/-- quarrels, each of them twice -/
def qq (f : Nat → CT) (sz : Nat) : Nat → Nat := sm (fun c => if (f c).2.2.2 = true then agn f sz c else 0)
theorem m_quarrels {S : PS} {h hz sz k : Nat} {f : Nat → CT} (H : MV S h hz sz k f) : f_X5_quarrels S h = some (nI (qq f sz sz / 2)) := by
  have hk := H.2.2.1
  have hk2 := H.2.2.2.1
  have hq : qq f sz sz ≤ sz * 11 := sm_le sz (fun i hi => by
    have := agn_le f sz i
    split <;> omega)
  unfold f_X5_quarrels
  refine lp_asc (L := fun n d => f_X5_quarrels_L4 S (f_X5_quarrels_B40 S) n h (nI (qq f sz d)) (nI d)) (e := sz) (fun n => ?_) (fun n d hd => ?_) FU 0 (by omega) (by unfold FU; omega)
  · show f_X5_quarrels_L4s S (f_X5_quarrels_L4 S (f_X5_quarrels_B40 S) n) (f_X5_quarrels_B40 S) h (nI (qq f sz sz)) (nI sz) = _
    unfold f_X5_quarrels_L4s
    rw [m_z0 H, ck_t (m_in0 H), m_sz H, if_pos (Int32.le_refl _)]
    unfold f_X5_quarrels_B40
    rw [i2, pk_div (by omega) (by decide) (by decide)]
  · show f_X5_quarrels_L4s S (f_X5_quarrels_L4 S (f_X5_quarrels_B40 S) n) (f_X5_quarrels_B40 S) h (nI (qq f sz d)) (nI d) = f_X5_quarrels_L4 S (f_X5_quarrels_B40 S) n h (nI (qq f sz (d + 1))) (nI (d + 1))
    have eq : qq f sz (d + 1) = qq f sz d + (if (f d).2.2.2 = true then agn f sz d else 0) := rfl
    unfold f_X5_quarrels_L4s f_X5_quarrels_B32
    rw [m_z0 H, ck_t (m_in0 H), m_sz H, if_neg (nle hd (by omega)), nI_1, nI_0a, m_isOn H (by omega), bd_s, eq]
    cases ho : (f d).2.2.2
    · rw [b2_f, if_pos rfl, if_neg (by decide)]; rfl
    · rw [b2_t, if_neg n10, m_against H (by omega), bd_s, nI_add, if_pos rfl]
theorem m_toldMany {S : PS} {h hz sz k : Nat} {f : Nat → CT} (H : MV S h hz sz k f) (h10 : sz ≤ 10) (hok : ok f sz) : ∃ S1, f_X5_toldMany S h = some (nI (ct (td f sz) sz), S1) ∧ scr S S1 := by
  have loop : ∀ n c S', sz + 1 ≤ n + c → c ≤ sz → scr S S' → ∃ S1, f_X5_toldMany_L4 f_X5_toldMany_B36 n S' h (nI (ct (td f sz) c)) (nI c) = some (nI (ct (td f sz) sz), S1) ∧ scr S S1 := by
    intro n
    induction n with
    | zero => intro c S' h1 h2; omega
    | succ n ih =>
      intro c S' h1 h2 cs
      have H' := H.scr cs
      rw [show f_X5_toldMany_L4 f_X5_toldMany_B36 (n + 1) S' h (nI (ct (td f sz) c)) (nI c) = f_X5_toldMany_L4s (f_X5_toldMany_L4 f_X5_toldMany_B36 n) f_X5_toldMany_B36 S' h (nI (ct (td f sz) c)) (nI c) from rfl]
      unfold f_X5_toldMany_L4s f_X5_toldMany_B28
      rw [m_z0 H', ck_t (m_in0 H'), m_sz H']
      rcases Nat.eq_or_lt_of_le h2 with q | q
      · subst q
        exact ⟨S', by rw [if_pos (Int32.le_refl _)]; rfl, cs⟩
      · obtain ⟨S1, e, c1⟩ := m_isTold H' h10 hok q
        have I := ih (c + 1) S1 (by omega) (by omega) (cs.tr c1)
        rw [if_neg (nle q (by omega)), e, bd_s, nI_1, nI_0a, nI_1a]
        cases ht : td f sz c
        · rw [ct_n ht] at I
          rw [b2_f, if_pos rfl]; exact I
        · rw [ct_s ht] at I
          rw [b2_t, if_neg n10]; exact I
  exact loop FU 0 S (by unfold FU; omega) (by omega) scr.rf
/-- the first of the greatest possible sets below n -/
def mb (f : Nat → CT) : Nat → Nat
  | 0 => 0
  | n + 1 => if (decide (pc (mb f n) < pc n) && ps n f) = true then n else mb f n
theorem mb_le (f : Nat → CT) : ∀ n, mb f (n + 1) ≤ n
  | 0 => by unfold mb; split <;> exact Nat.le_refl _
  | n + 1 => by
    have := mb_le f n
    unfold mb
    split <;> omega
theorem ps_0 (f : Nat → CT) : ps 0 f = true := ps_iff.mpr (fun c d _ _ b => by rw [Nat.zero_testBit] at b; cases b)
theorem mb_ps (f : Nat → CT) : ∀ n, ps (mb f n) f = true
  | 0 => ps_0 f
  | n + 1 => by
    unfold mb
    split
    · rename_i q
      rw [Bool.and_eq_true] at q
      exact q.2
    · exact mb_ps f n
theorem mb_lt {f : Nat → CT} {n : Nat} (h : 0 < n) : mb f n < n := by
  cases n with
  | zero => omega
  | succ n => have := mb_le f n; omega
theorem m_most {S : PS} {h hz sz k : Nat} {f : Nat → CT} (H : MV S h hz sz k f) (h10 : sz ≤ 10) : f_X5_mostTogether S h = some (nI (mb f (2 ^ sz))) := by
  have hk := H.2.2.1
  have h2 : (2 : Nat) ^ sz ≤ 2 ^ 10 := pw h10
  have hp : 0 < (2 : Nat) ^ sz := Nat.two_pow_pos sz
  unfold f_X5_mostTogether
  have e1 : mb f 1 = 0 := by unfold mb; split <;> rfl
  have body := lp_asc (L := fun n d => f_X5_mostTogether_L4 S (f_X5_mostTogether_B47 S) n h (nI (mb f d)) (nI d)) (e := 2 ^ sz) (r := some (nI (mb f (2 ^ sz)))) (fun n => by
    show f_X5_mostTogether_L4s S (f_X5_mostTogether_L4 S (f_X5_mostTogether_B47 S) n) (f_X5_mostTogether_B47 S) h (nI (mb f (2 ^ sz))) (nI (2 ^ sz)) = _
    unfold f_X5_mostTogether_L4s
    rw [m_z0 H, ck_t (m_in0 H), m_sz H, n_shl (by omega), if_pos (Int32.le_refl _)]
    rfl) (fun n d hd => by
    show f_X5_mostTogether_L4s S (f_X5_mostTogether_L4 S (f_X5_mostTogether_B47 S) n) (f_X5_mostTogether_B47 S) h (nI (mb f d)) (nI d) = f_X5_mostTogether_L4 S (f_X5_mostTogether_B47 S) n h (nI (mb f (d + 1))) (nI (d + 1))
    have eq : mb f (d + 1) = if (decide (pc (mb f d) < pc d) && ps d f) = true then d else mb f d := rfl
    have hm : mb f d ≤ d := by
      cases d with
      | zero => exact Nat.le_refl _
      | succ d => have := mb_le f d; omega
    have p1 := pc_le d
    have p2 := pc_le (mb f d)
    unfold f_X5_mostTogether_L4s f_X5_mostTogether_B39 f_X5_mostTogether_B40
    rw [m_z0 H, ck_t (m_in0 H), m_sz H, n_shl (by omega), if_neg (nle hd (by omega)), m_bits (by omega), bd_s, m_bits (by omega), bd_s, nI_1, eq]
    by_cases q : pc (mb f d) < pc d
    · have hd2 : d < 2 ^ k := Nat.lt_of_lt_of_le hd (pw hk)
      have hd3 : d < 2 ^ (sz + 1) := Nat.lt_of_lt_of_le hd (pw (by omega))
      rw [if_neg (nle q (by omega)), m_poss H hd2 hd3 (by omega) h10, bd_s, decide_eq_true q]
      cases ho : ps d f
      · rw [b2_f, if_pos rfl]; rfl
      · rw [b2_t, if_neg n10]; rfl
    · rw [if_pos (nI_le (by omega) (by omega)), decide_eq_false q]; rfl) FU 1 (by omega) (by unfold FU; omega)
  rw [e1] at body
  exact body

/-! ===== conditions: factor, remainder, modulus, on ===== -/
abbrev CT : Type := Nat × Nat × Nat × Bool
def gd (x : CT) : Prop := 1 ≤ x.1 ∧ x.1 ≤ 999 ∧ x.2.1 ≤ 999 ∧ 1 ≤ x.2.2.1 ∧ x.2.2.1 ≤ 999
def gg (x : CT) : Nat := Nat.gcd x.1 x.2.2.1
def vo (x : CT) : Bool := decide (¬ x.2.1 % gg x = 0)
def bm (x : CT) : Nat := x.2.2.1 / gg x
def br (x : CT) : Nat := lst (fun r => decide ((x.1 * r) % x.2.2.1 = x.2.1 % x.2.2.1)) (bm x)
def ag (x y : CT) : Bool := !vo x && (!vo y && decide (br x % Nat.gcd (bm x) (bm y) = br y % Nat.gcd (bm x) (bm y)))
def b2 (b : Bool) : Int32 := if b = true then 1 else 0
theorem b2_t : b2 true = 1 := rfl
theorem b2_f : b2 false = 0 := rfl
theorem gg_pos {x : CT} (h : gd x) : 0 < gg x := Nat.gcd_pos_of_pos_left _ h.1
theorem gg_le {x : CT} (h : gd x) : gg x ≤ 999 := Nat.le_trans (Nat.le_of_dvd h.1 (Nat.gcd_dvd_left _ _)) h.2.1
theorem gg_dm (x : CT) : gg x ∣ x.2.2.1 := Nat.gcd_dvd_right _ _
theorem bm_pos {x : CT} (h : gd x) : 0 < bm x := Nat.div_pos (Nat.le_of_dvd h.2.2.2.1 (gg_dm x)) (gg_pos h)
theorem bm_le {x : CT} (h : gd x) : bm x ≤ 999 := Nat.le_trans (Nat.div_le_self _ _) h.2.2.2.2
theorem vo_f {x : CT} (h : vo x = false) : gg x ∣ x.2.1 := by
  unfold vo at h
  have := of_decide_eq_false h
  exact Nat.dvd_of_mod_eq_zero (Classical.not_not.mp this)
theorem br_spec {x : CT} (h : gd x) (hv : vo x = false) : br x < bm x ∧ (x.1 * br x) % x.2.2.1 = x.2.1 % x.2.2.1 ∧ ∀ j, j < br x → ¬ (x.1 * j) % x.2.2.1 = x.2.1 % x.2.2.1 := by
  obtain ⟨y, hy, e⟩ := lin_ex (a := x.1) (m := x.2.2.1) h.2.2.2.1 (vo_f hv)
  have q := lst_ex (p := fun r => decide ((x.1 * r) % x.2.2.1 = x.2.1 % x.2.2.1)) (n := bm x) ⟨y, hy, decide_eq_true e⟩
  exact ⟨q.1, of_decide_eq_true q.2.1, fun j hj => of_decide_eq_false (q.2.2 j hj)⟩
theorem br_lt {x : CT} (h : gd x) (hv : vo x = false) : br x < 999 := Nat.lt_of_lt_of_le (br_spec h hv).1 (bm_le h)
/-- a number fulfils a condition just if it leaves the bare remainder by the bare modulus -/
theorem br_iff {x : CT} (h : gd x) (hv : vo x = false) (y : Nat) : (x.1 * y) % x.2.2.1 = x.2.1 % x.2.2.1 ↔ y % bm x = br x := by
  have s := br_spec h hv
  have e : (x.1 * y) % x.2.2.1 = (x.1 * br x) % x.2.2.1 ↔ y % bm x = br x % bm x := by
    rw [← cg_nat, ← cg_nat]
    have := cg_lin (a := x.1) (m := x.2.2.1) h.2.2.2.1 (y := (y : Int)) (z := (br x : Int))
    push_cast
    exact this
  rw [← s.2.1, e, Nat.mod_eq_of_lt s.1]
theorem br_void {x : CT} (h : gd x) (hv : vo x = true) (y : Nat) : ¬ (x.1 * y) % x.2.2.1 = x.2.1 % x.2.2.1 := by
  intro e
  unfold vo at hv
  have hn := of_decide_eq_true hv
  apply hn
  have c := cg_nat.mpr e
  have c2 := c.dv (gg_dm x)
  have c3 := cg_nat.mp c2
  rw [← c3]
  exact Nat.mod_eq_zero_of_dvd (Nat.dvd_trans (Nat.gcd_dvd_left _ _) (Nat.dvd_mul_right _ _))
theorem ag_sy (x y : CT) : ag x y = ag y x := by
  unfold ag
  rw [Nat.gcd_comm (bm y) (bm x)]
  cases vo x <;> cases vo y <;> simp [eq_comm]
/-! ===== plain functions run ===== -/
theorem bd_s {α β : Type} (t : α) (k : α → Option β) : bd (some t) k = k t := rfl
theorem ck_t {α : Type} {P : Prop} [Decidable P] {e : Option α} (h : P) : ck (decide P) e = e := by unfold ck; rw [if_pos (decide_eq_true h)]
theorem ckb1 {α : Type} {e : Option α} : ck (decide ((1 : Int32) &&& 1 = 1)) e = e := ck_t (by decide)
theorem ckb0 {α : Type} {e : Option α} : ck (decide ((0 : Int32) &&& 1 = 0)) e = e := ck_t (by decide)
theorem ckb2 {α : Type} {e : Option α} (b : Bool) : ck (decide (b2 b &&& 1 = b2 b)) e = e := by cases b <;> exact ck_t (by decide)
theorem rq_e {α : Type} {o : Option Nat} {S : PS} {k b : Nat} {f : Nat → Option α} (h : o = some b) (hv : vd S b k) : rq o S k f = f b := by
  subst h
  unfold rq
  exact ck_t hv
theorem cl0 : (0 : Int32).toNatClampNeg = 0 := by decide
theorem i0 : (0 : Int32) = nI 0 := rfl
theorem i1 : (1 : Int32) = nI 1 := rfl
theorem i2 : (2 : Int32) = nI 2 := rfl
theorem i3 : (3 : Int32) = nI 3 := rfl
theorem i4 : (4 : Int32) = nI 4 := rfl
theorem nI_n0 {n : Nat} (h : n < 2 ^ 31) : nI n = 0 ↔ n = 0 := by rw [i0]; exact nI_eq h (by decide)
theorem nI_p0 {n : Nat} (h : n < 2 ^ 31) : nI n ≤ 0 ↔ n = 0 := by rw [i0, nI_leI h (by decide)]; omega
theorem ckn {α : Type} {e : Option α} {n : Nat} (h : n < 2 ^ 31) (hp : 0 < n) : ck (decide (¬ nI n = 0)) e = e := ck_t (fun z => by have := (nI_n0 h).mp z; omega)
/-! ===== the reference's reads ===== -/
def MZ (S : PS) (h hz : Nat) : Prop := vd S h 5 ∧ fR S 81 h = some hz ∧ vd S hz 6 ∧ aN S hz = 45
def ZV (r : Nat → Int32) (k : Nat) (f : Nat → CT) : Prop := ∀ c, c < k → r (1 + 4 * c) = nI (f c).1 ∧ r (2 + 4 * c) = nI (f c).2.1 ∧ r (3 + 4 * c) = nI (f c).2.2.1 ∧ r (4 + 4 * c) = b2 (f c).2.2.2 ∧ gd (f c)
/-- the reference h with its row hz: sz conditions, k of them laid -/
def MV (S : PS) (h hz sz k : Nat) (f : Nat → CT) : Prop := MZ S h hz ∧ aI S hz 0 = nI sz ∧ sz ≤ k ∧ k ≤ 11 ∧ ZV (aI S hz) k f
theorem m_z0 {S : PS} {h hz sz k : Nat} {f : Nat → CT} (H : MV S h hz sz k f) {α : Type} (e : Nat → Option α) : (rq (fR S 81 h) S 6 fun b => e b) = e hz := rq_e H.1.2.1 H.1.2.2.1
theorem m_in {S : PS} {h hz sz k : Nat} {f : Nat → CT} (H : MV S h hz sz k f) {j : Nat} (hj : j < 45) : ¬ (nI j < 0 ∨ aN S hz ≤ (nI j).toNatClampNeg) := by rw [H.1.2.2.2]; exact nI_in hj (by decide)
theorem m_of {S : PS} {h hz sz k : Nat} {f : Nat → CT} (H : MV S h hz sz k f) {c j : Nat} (hc : c < 11) (hj : j < 4) : f_X5_of S h (nI c) (nI j) = some (aI S hz (1 + 4 * c + j)) := by
  unfold f_X5_of
  rw [m_z0 H, i1, i4, pk_mul, nI_add, nI_add, ck_t (m_in H (by omega)), nI_clamp (by omega)]
theorem m_of0 {S : PS} {h hz sz k : Nat} {f : Nat → CT} (H : MV S h hz sz k f) {c : Nat} (hc : c < k) : f_X5_of S h (nI c) 0 = some (nI (f c).1) := by
  rw [i0, m_of H (Nat.lt_of_lt_of_le hc H.2.2.2.1) (by decide)]; exact congrArg some (H.2.2.2.2 c hc).1
theorem m_of1 {S : PS} {h hz sz k : Nat} {f : Nat → CT} (H : MV S h hz sz k f) {c : Nat} (hc : c < k) : f_X5_of S h (nI c) 1 = some (nI (f c).2.1) := by
  rw [i1, m_of H (Nat.lt_of_lt_of_le hc H.2.2.2.1) (by decide), show 1 + 4 * c + 1 = 2 + 4 * c by omega]; exact congrArg some (H.2.2.2.2 c hc).2.1
theorem m_of2 {S : PS} {h hz sz k : Nat} {f : Nat → CT} (H : MV S h hz sz k f) {c : Nat} (hc : c < k) : f_X5_of S h (nI c) 2 = some (nI (f c).2.2.1) := by
  rw [i2, m_of H (Nat.lt_of_lt_of_le hc H.2.2.2.1) (by decide), show 1 + 4 * c + 2 = 3 + 4 * c by omega]; exact congrArg some (H.2.2.2.2 c hc).2.2.1
theorem m_of3 {S : PS} {h hz sz k : Nat} {f : Nat → CT} (H : MV S h hz sz k f) {c : Nat} (hc : c < k) : f_X5_of S h (nI c) 3 = some (b2 (f c).2.2.2) := by
  rw [i3, m_of H (Nat.lt_of_lt_of_le hc H.2.2.2.1) (by decide), show 1 + 4 * c + 3 = 4 + 4 * c by omega]; exact congrArg some (H.2.2.2.2 c hc).2.2.2.1
theorem m_gd {S : PS} {h hz sz k : Nat} {f : Nat → CT} (H : MV S h hz sz k f) {c : Nat} (hc : c < k) : gd (f c) := (H.2.2.2.2 c hc).2.2.2.2
theorem m_sz {S : PS} {h hz sz k : Nat} {f : Nat → CT} (H : MV S h hz sz k f) : aI S hz (0 : Int32).toNatClampNeg = nI sz := by rw [cl0]; exact H.2.1
theorem m_in0 {S : PS} {h hz sz k : Nat} {f : Nat → CT} (H : MV S h hz sz k f) : ¬ ((0 : Int32) < 0 ∨ aN S hz ≤ (0 : Int32).toNatClampNeg) := m_in H (j := 0) (by decide)
theorem m_common {a : Nat} (ha : a < 2 ^ 31) {b : Nat} (hb : b < 2000) : f_X5_common (nI a) (nI b) = some (nI (Nat.gcd a b)) := by
  unfold f_X5_common
  have key : ∀ n b a, b < n → a < 2 ^ 31 → b < 2 ^ 31 → f_X5_common_L4 f_X5_common_B21 n (nI a) (nI b) = some (nI (Nat.gcd a b)) := by
    intro n
    induction n with
    | zero => intro b a h; omega
    | succ n ih =>
      intro b a h ha hb
      show f_X5_common_L4s (f_X5_common_L4 f_X5_common_B21 n) f_X5_common_B21 (nI a) (nI b) = _
      unfold f_X5_common_L4s
      by_cases q : b = 0
      · subst q
        rw [if_pos ((nI_p0 (by decide)).mpr rfl), Nat.gcd_zero_right]
        rfl
      · have hp : 0 < b := Nat.pos_of_ne_zero q
        have hm := Nat.mod_lt a hp
        rw [if_neg (fun z => q ((nI_p0 hb).mp z)), ckn hb hp, pk_rem ha hp hb, ih (a % b) b (by omega) hb (by omega)]
        rw [Nat.gcd_comm b (a % b), ← Nat.gcd_rec, Nat.gcd_comm]
  exact key FU b a (by unfold FU; omega) ha (by omega)
theorem m_void {S : PS} {h hz sz k : Nat} {f : Nat → CT} (H : MV S h hz sz k f) {c : Nat} (hc : c < k) : f_X5_isVoid S h (nI c) = some (b2 (vo (f c))) := by
  have g := m_gd H hc
  have gp := gg_pos g
  have gl := gg_le g
  obtain ⟨g1, g2, g3, g4, g5⟩ := id g
  unfold f_X5_isVoid
  rw [m_of1 H hc, bd_s, m_of0 H hc, bd_s, m_of2 H hc, bd_s, m_common (by omega) (by omega), bd_s]
  show ck (decide (¬ nI (gg (f c)) = 0)) _ = _
  rw [ckn (by omega) (by omega), show Nat.gcd (f c).1 (f c).2.2.1 = gg (f c) from rfl, pk_rem (by omega) gp (by omega)]
  have hm := Nat.mod_lt (f c).2.1 gp
  unfold vo
  by_cases q : (f c).2.1 % gg (f c) = 0
  · rw [if_pos ((nI_n0 (by omega)).mpr q), decide_eq_false (by simp [q])]; exact ckb0
  · rw [if_neg (fun z => q ((nI_n0 (by omega)).mp z)), decide_eq_true q]; exact ckb1
theorem m_mod {S : PS} {h hz sz k : Nat} {f : Nat → CT} (H : MV S h hz sz k f) {c : Nat} (hc : c < k) : f_X5_modulus S h (nI c) = some (nI (bm (f c))) := by
  have g := m_gd H hc
  have gp := gg_pos g
  have gl := gg_le g
  obtain ⟨g1, g2, g3, g4, g5⟩ := id g
  unfold f_X5_modulus
  rw [m_of2 H hc, bd_s, m_of0 H hc, bd_s, bd_s, m_common (by omega) (by omega), bd_s]
  show ck (decide (¬ nI (gg (f c)) = 0)) _ = _
  rw [ckn (by omega) (by omega), show Nat.gcd (f c).1 (f c).2.2.1 = gg (f c) from rfl, pk_div (by omega) gp (by omega)]
  rfl
/-- what is 0 by m, of a difference -/
theorem sub_rem {p q m : Nat} (hp : p < 2 ^ 30) (hq : q < 2 ^ 30) (h0 : 0 < m) (hm : m < 2 ^ 30) : (nI p - nI q) - (nI p - nI q) / nI m * nI m = 0 ↔ p % m = q % m := by
  rw [← Int32.toInt_inj, rem_toInt, pk_sub_toInt hp hq, nI_toInt (by omega), Int32.toInt_zero, ← cg_nat]
  unfold cg
  rw [Int.dvd_iff_tmod_eq_zero]
theorem m_rest {S : PS} {h hz sz k : Nat} {f : Nat → CT} (H : MV S h hz sz k f) {c : Nat} (hc : c < k) (hv : vo (f c) = false) : f_X5_rest S h (nI c) = some (nI (br (f c))) := by
  have g := m_gd H hc
  have s := br_spec g hv
  have hb := bm_le g
  obtain ⟨g1, g2, g3, g4, g5⟩ := id g
  unfold f_X5_rest
  have body : ∀ n x, x < 1000 → f_X5_rest_L2 S (f_X5_rest_B33 S) (n + 1) h (nI c) (nI x) = if ((f c).1 * x) % (f c).2.2.1 = (f c).2.1 % (f c).2.2.1 then some (nI x) else f_X5_rest_L2 S (f_X5_rest_B33 S) n h (nI c) (nI (x + 1)) := by
    intro n x hx
    show f_X5_rest_L2s S (f_X5_rest_L2 S (f_X5_rest_B33 S) n) (f_X5_rest_B33 S) h (nI c) (nI x) = _
    unfold f_X5_rest_L2s
    have hax : (f c).1 * x ≤ 999 * 999 := Nat.mul_le_mul g2 (by omega)
    rw [m_of0 H hc, bd_s, m_of1 H hc, bd_s, m_of2 H hc, bd_s, ckn (by omega) (by omega), pk_mul, nI_1]
    by_cases q : ((f c).1 * x) % (f c).2.2.1 = (f c).2.1 % (f c).2.2.1
    · rw [if_pos q, if_pos ((sub_rem (by omega) (by omega) g4 (by omega)).mpr q)]; rfl
    · rw [if_neg q, if_neg (fun z => q ((sub_rem (by omega) (by omega) g4 (by omega)).mp z))]
  exact lp_asc (L := fun n x => f_X5_rest_L2 S (f_X5_rest_B33 S) n h (nI c) (nI x)) (e := br (f c)) (r := some (nI (br (f c)))) (fun n => by
    show f_X5_rest_L2 S (f_X5_rest_B33 S) (n + 1) h (nI c) (nI (br (f c))) = _
    rw [body n _ (by omega), if_pos s.2.1]) (fun n x hx => by
    show f_X5_rest_L2 S (f_X5_rest_B33 S) (n + 1) h (nI c) (nI x) = _
    rw [body n x (by omega), if_neg (s.2.2 x hx)]) FU 0 (by omega) (by unfold FU; omega)
theorem m_go {S : PS} {h hz sz k : Nat} {f : Nat → CT} (H : MV S h hz sz k f) {c d : Nat} (hc : c < k) (hd : d < k) : f_X5_goTogether S h (nI c) (nI d) = some (b2 (ag (f c) (f d))) := by
  have g := m_gd H hc
  have g' := m_gd H hd
  unfold f_X5_goTogether ag
  rw [m_void H hc, bd_s]
  cases hv : vo (f c) with
  | true => rw [b2_t, if_neg (by decide)]; rfl
  | false =>
    rw [b2_f, if_pos rfl, m_void H hd, bd_s]
    cases hv2 : vo (f d) with
    | true => rw [b2_t, if_neg (by decide)]; rfl
    | false =>
      have l1 := bm_le g
      have l2 := bm_le g'
      have p1 := bm_pos g
      have s1 := br_lt g hv
      have s2 := br_lt g' hv2
      have gp : 0 < Nat.gcd (bm (f c)) (bm (f d)) := Nat.gcd_pos_of_pos_left _ p1
      have gl : Nat.gcd (bm (f c)) (bm (f d)) ≤ bm (f c) := Nat.le_of_dvd p1 (Nat.gcd_dvd_left _ _)
      have m1 := Nat.mod_lt (br (f c)) gp
      have m2 := Nat.mod_lt (br (f d)) gp
      rw [b2_f, if_pos rfl, m_mod H hc, bd_s, m_mod H hd, bd_s, m_common (by omega) (by omega), bd_s, m_rest H hc hv, bd_s, ckn (by omega) (by omega), m_rest H hd hv2, bd_s, ckn (by omega) (by omega), pk_rem (by omega) gp (by omega), pk_rem (by omega) gp (by omega)]
      by_cases q : br (f c) % Nat.gcd (bm (f c)) (bm (f d)) = br (f d) % Nat.gcd (bm (f c)) (bm (f d))
      · rw [if_pos (by rw [q]), decide_eq_true q]; exact ckb1
      · rw [if_neg (fun z => q ((nI_eq (by omega) (by omega)).mp z)), decide_eq_false q]; exact ckb0

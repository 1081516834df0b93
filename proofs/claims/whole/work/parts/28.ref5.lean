/-! ===== the reference: answers ===== -/
theorem ckl {α : Type} {e : Option α} {n : Nat} (h : n < 2 ^ 63) (hp : 0 < n) : ck (decide (¬ lN n = 0)) e = e := ck_t (fun z => by have := (lN_n0 h).mp z; omega)
theorem zL_l0 {a : Int} (h : -2 ^ 63 ≤ a) (h2 : a < 2 ^ 63) : zL a < 0 ↔ a < 0 := zL_lt (b := 0) h h2 (by decide) (by decide)
theorem ns {s : Nat} {f : Nat → CT} {k : Nat} (hs : s < 2 ^ k) (hk : k ≤ 11) : s < 2 ^ 31 := Nat.lt_of_lt_of_le hs (Nat.le_trans (pw hk) (by decide))
def jb (s : Nat) (f : Nat → CT) (w : Int32) : Int64 := if ps s f = true then (if w = 0 then lN (NN s f 11) else lN (RR s f)) else -1
theorem m_joinedBy {S : PS} {h hz sz k : Nat} {f : Nat → CT} (H : MV S h hz sz k f) {s : Nat} (hs : s < 2 ^ k) (hs2 : s < 2 ^ (sz + 1)) (h10 : sz ≤ 10) (hN : ps s f = true → NN s f 11 ≤ LIM) (w : Int32) : ∃ S1, f_X5_joinedBy S h (nI s) w = some (jb s f w, S1) ∧ scr S S1 := by
  obtain ⟨S1, e, cs, v⟩ := m_join H hs hs2 h10 hN
  refine ⟨S1, ?_, cs⟩
  unfold f_X5_joinedBy f_X5_joinedBy_B29 jb
  rw [e, bd_s]
  cases hp : ps s f
  · rw [b2_f, if_pos rfl, if_neg (by decide)]
  · rw [b2_t, if_neg n10, if_pos rfl]
    by_cases q : w = 0
    · rw [if_pos q, if_pos q, (v hp).1]
    · rw [if_neg q, if_neg q, (v hp).2]
/-- the least from a number on that leaves R by N -/
def af (N R y : Nat) : Nat := y + (if y % N ≤ R then R - y % N else R + N - y % N)
theorem af_b {N R y : Nat} (h : R < N) : y ≤ af N R y ∧ af N R y < y + N := by
  have := Nat.mod_lt y (show 0 < N by omega)
  unfold af
  split <;> omega
theorem m_answerFrom {S : PS} {h N R y : Nat} (hN : fL S 86 h = lN N) (hR : fL S 87 h = lN R) (hl : R < N) (hb : N ≤ LIM) (hy : y ≤ LIM) : f_X5_answerFrom S h (lN y) = some (lN (af N R y)) := by
  unfold LIM at *
  have hm := Nat.mod_lt y (show 0 < N by omega)
  unfold f_X5_answerFrom f_X5_answerFrom_B37 af
  rw [hN, hR, ckl (by omega) (by omega), pk_lRem (by omega) (by omega) (by omega)]
  by_cases q : y % N ≤ R
  · rw [if_neg (fun z => by have := (pk_lLT (by omega) (by omega)).mp z; omega), if_pos q, lN_sub q, lN_add]
  · rw [if_pos ((pk_lLT (by omega) (by omega)).mpr (by omega)), if_neg q, lN_z R, lN_z (y % N), lN_z N, zL_sub, zL_add, lN_z y, zL_add, lN_z]
    congr 2
    omega
/-- the set that is on joined, as the reference joins it -/
theorem m_joinOn {S : PS} {h hz sz k : Nat} {f : Nat → CT} (H : MV S h hz sz k f) (h10 : sz ≤ 10) (ho : ok f sz) : ∃ S1, f_X5_join S h (nI (onm f sz)) = some (b2 (ps (onm f sz) f), S1) ∧ scr S S1 ∧ (ps (onm f sz) f = true → fL S1 86 h = lN (NN (onm f sz) f 11) ∧ fL S1 87 h = lN (RR (onm f sz) f) ∧ RR (onm f sz) f < NN (onm f sz) f 11 ∧ NN (onm f sz) f 11 ≤ LIM) := by
  have hk := H.2.2.1
  obtain ⟨S1, e, cs, v⟩ := m_join H (onm_k hk) (onm_k (by omega)) h10 (tg_N ho)
  exact ⟨S1, e, cs, fun p => ⟨(v p).1, (v p).2, (RR_spec p (fun d _ b => m_gds H (onm_k hk) b)).1, tg_N ho p⟩⟩
def aw (f : Nat → CT) (sz y i : Nat) : Int64 := if ps (onm f sz) f = true then lN (af (NN (onm f sz) f 11) (RR (onm f sz) f) y + i * NN (onm f sz) f 11) else -1
theorem m_answered {S : PS} {h hz sz k : Nat} {f : Nat → CT} (H : MV S h hz sz k f) (h10 : sz ≤ 10) (ho : ok f sz) {y i : Nat} (hy : y ≤ LIM) (hi : i < 2 ^ 31) : ∃ S1, f_X5_answered S h (lN y) (nI i) = some (aw f sz y i, S1) ∧ scr S S1 := by
  obtain ⟨S1, e, cs, v⟩ := m_joinOn H h10 ho
  refine ⟨S1, ?_, cs⟩
  unfold f_X5_answered f_X5_answered_B30 aw
  rw [m_onSet H, bd_s, e, bd_s]
  cases hp : ps (onm f sz) f
  · rw [b2_f, if_pos rfl, if_neg (by decide)]
  · obtain ⟨v1, v2, v3, v4⟩ := v hp
    rw [b2_t, if_neg n10, if_pos rfl, m_answerFrom v1 v2 v3 v4 hy, bd_s, v1, nI_l hi, lN_mul, lN_add]
def nr (N R y : Nat) : Nat := if af N R y < N then af N R y else if af N R y - y < y - (af N R y - N) then af N R y else af N R y - N
def nw (f : Nat → CT) (sz y : Nat) : Int64 := if ps (onm f sz) f = true then lN (nr (NN (onm f sz) f 11) (RR (onm f sz) f) y) else -1
theorem m_nearest {S : PS} {h hz sz k : Nat} {f : Nat → CT} (H : MV S h hz sz k f) (h10 : sz ≤ 10) (ho : ok f sz) {y : Nat} (hy : y ≤ LIM) : ∃ S1, f_X5_nearestTo S h (lN y) = some (nw f sz y, S1) ∧ scr S S1 := by
  obtain ⟨S1, e, cs, v⟩ := m_joinOn H h10 ho
  refine ⟨S1, ?_, cs⟩
  unfold f_X5_nearestTo f_X5_nearestTo_B53 f_X5_nearestTo_B52 f_X5_nearestTo_B53 nw
  rw [m_onSet H, bd_s, e, bd_s]
  cases hp : ps (onm f sz) f
  · rw [b2_f, if_pos rfl, if_neg (by decide)]
  · obtain ⟨v1, v2, v3, v4⟩ := v hp
    have ab := af_b (y := y) v3
    rw [b2_t, if_neg n10, if_pos rfl, m_answerFrom v1 v2 v3 v4 hy, bd_s, v1]
    unfold nr
    unfold LIM at *
    generalize af (NN (onm f sz) f 11) (RR (onm f sz) f) y = a at ab
    generalize NN (onm f sz) f 11 = N at *
    rw [lN_z a, lN_z N, lN_z y, zL_sub, zL_sub, zL_sub]
    by_cases q : a < N
    · rw [if_pos ((zL_l0 (by omega) (by omega)).mpr (by omega)), if_pos q, lN_z]
    · rw [if_neg (fun z => by have := (zL_l0 (by omega) (by omega)).mp z; omega), if_neg q]
      by_cases q2 : a - y < y - (a - N)
      · rw [if_pos ((zL_lt (by omega) (by omega) (by omega) (by omega)).mpr (by omega)), if_pos q2, lN_z]
      · rw [if_neg (fun z => by have := (zL_lt (by omega) (by omega) (by omega) (by omega)).mp z; omega), if_neg q2, lN_z]
        congr 3
        omega
def bw (f : Nat → CT) (sz y z : Nat) : Nat := if z < y then 0 else if ps (onm f sz) f = true then (if af (NN (onm f sz) f 11) (RR (onm f sz) f) y ≤ z then (z - af (NN (onm f sz) f 11) (RR (onm f sz) f) y) / NN (onm f sz) f 11 + 1 else 0) else 0
theorem m_between {S : PS} {h hz sz k : Nat} {f : Nat → CT} (H : MV S h hz sz k f) (h10 : sz ≤ 10) (ho : ok f sz) {y z : Nat} (hy : y ≤ LIM) (hz' : z ≤ LIM) : ∃ S1, f_X5_manyBetween S h (lN y) (lN z) = some (lN (bw f sz y z), S1) ∧ scr S S1 := by
  have hyz : y < 2 ^ 63 ∧ z < 2 ^ 63 := by unfold LIM at *; omega
  unfold f_X5_manyBetween f_X5_manyBetween_B17 f_X5_manyBetween_B48 bw
  by_cases q : z < y
  · exact ⟨S, by rw [if_pos ((pk_lLT hyz.2 hyz.1).mpr q), if_pos q]; rfl, scr.rf⟩
  · obtain ⟨S1, e, cs, v⟩ := m_joinOn H h10 ho
    refine ⟨S1, ?_, cs⟩
    rw [if_neg (fun x => q ((pk_lLT hyz.2 hyz.1).mp x)), if_neg q, m_onSet H, bd_s, e, bd_s]
    cases hp : ps (onm f sz) f
    · rw [b2_f, if_pos rfl, if_neg (by decide)]; rfl
    · obtain ⟨v1, v2, v3, v4⟩ := v hp
      have ab := af_b (y := y) v3
      rw [b2_t, if_neg n10, if_pos rfl, m_answerFrom v1 v2 v3 v4 hy, bd_s, v1]
      unfold LIM at *
      generalize af (NN (onm f sz) f 11) (RR (onm f sz) f) y = a at ab
      generalize NN (onm f sz) f 11 = N at *
      by_cases q2 : a ≤ z
      · rw [if_pos ((pk_lLE (by omega) (by omega)).mpr q2), if_pos q2, ckl (by omega) (by omega), lN_sub q2, pk_lDiv (by omega) (by omega) (by omega), lN_1]
      · rw [if_neg (fun x => q2 ((pk_lLE (by omega) (by omega)).mp x)), if_neg q2]; rfl
/-- a condition's number is fulfilled by y -/
def fu (x : CT) (y : Nat) : Bool := decide ((x.1 * y) % x.2.2.1 = x.2.1 % x.2.2.1)
theorem sub_remL {p q m : Nat} (hp : p < 2 ^ 61) (hq : q < 2 ^ 61) (h0 : 0 < m) (hm : m < 2 ^ 61) : (lN p - lN q) - (lN p - lN q) / lN m * lN m = 0 ↔ p % m = q % m := by
  rw [lN_z, lN_z, lN_z, zL_sub, zL_rem (by omega) (by omega) (by omega) (by omega)]
  have h1 := Int.natAbs_tmod ((p : Int) - q) m
  have h2 : ((p : Int) - q).natAbs % (m : Int).natAbs ≤ ((p : Int) - q).natAbs := Nat.mod_le _ _
  rw [zL_n0 (by omega) (by omega), ← cg_nat]
  unfold cg
  rw [Int.dvd_iff_tmod_eq_zero]
theorem m_missed {S : PS} {h hz sz k : Nat} {f : Nat → CT} (H : MV S h hz sz k f) {y : Nat} (hy : y ≤ LIM) : f_X5_missed S h (lN y) = some (nI (ct (fun c => (f c).2.2.2 && !fu (f c) y) sz)) := by
  have hk := H.2.2.1
  have hk2 := H.2.2.2.1
  unfold LIM at hy
  unfold f_X5_missed
  refine lp_asc (L := fun n d => f_X5_missed_L5 S (f_X5_missed_B84 S) n h (lN y) (nI (ct (fun c => (f c).2.2.2 && !fu (f c) y) d)) (nI d)) (e := sz) (fun n => ?_) (fun n d hd => ?_) FU 0 (by omega) (by unfold FU; omega)
  · show f_X5_missed_L5s S (f_X5_missed_L5 S (f_X5_missed_B84 S) n) (f_X5_missed_B84 S) h (lN y) (nI (ct (fun c => (f c).2.2.2 && !fu (f c) y) sz)) (nI sz) = _
    unfold f_X5_missed_L5s
    rw [m_z0 H, ck_t (m_in0 H), m_sz H, if_pos (Int32.le_refl _)]
    rfl
  · show f_X5_missed_L5s S (f_X5_missed_L5 S (f_X5_missed_B84 S) n) (f_X5_missed_B84 S) h (lN y) (nI (ct (fun c => (f c).2.2.2 && !fu (f c) y) d)) (nI d) = f_X5_missed_L5 S (f_X5_missed_B84 S) n h (lN y) (nI (ct (fun c => (f c).2.2.2 && !fu (f c) y) (d + 1))) (nI (d + 1))
    obtain ⟨g1, g2, g3, g4, g5⟩ := m_gd H (show d < k by omega)
    have hm : (f d).1 * y ≤ 999 * 1000000000000000 := Nat.mul_le_mul g2 hy
    unfold f_X5_missed_L5s f_X5_missed_B54 f_X5_missed_B75 f_X5_missed_B76
    rw [m_z0 H, ck_t (m_in0 H), m_sz H, if_neg (nle hd (by omega)), nI_1, nI_0a, nI_1a, m_of0 H (by omega), bd_s, m_of1 H (by omega), bd_s, m_of2 H (by omega), bd_s, cknL (by omega) (by omega), m_isOn H (by omega), bd_s, bd_s, nI_l (by omega), nI_l (by omega), nI_l (by omega), lN_mul]
    by_cases q : ((f d).1 * y) % (f d).2.2.1 = (f d).2.1 % (f d).2.2.1
    · have e : ((f d).2.2.2 && !fu (f d) y) = false := by unfold fu; rw [decide_eq_true q]; simp
      rw [if_pos ((sub_remL (by omega) (by omega) (by omega) (by omega)).mpr q), if_neg n10, ct_n e]
      split <;> rfl
    · rw [if_neg (fun z => q ((sub_remL (by omega) (by omega) (by omega) (by omega)).mp z)), if_pos (show (0 : Int32) = 0 from rfl)]
      cases ho : (f d).2.2.2
      · rw [b2_f, if_pos rfl, ct_n (by rw [ho]; rfl)]
      · rw [b2_t, if_neg n10, ct_s (by unfold fu; rw [ho, decide_eq_false q]; rfl)]

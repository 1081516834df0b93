/-! ===== the reference: joining ===== -/
theorem l0 : (0 : Int64) = lN 0 := rfl
theorem l1 : (1 : Int64) = lN 1 := rfl
theorem lN_n0 {n : Nat} (h : n < 2 ^ 63) : lN n = 0 ↔ n = 0 := by rw [l0]; exact pk_lEQ h (by decide)
theorem cknL {α : Type} {e : Option α} {n : Nat} (h : n < 2 ^ 31) (hp : 0 < n) : ck (decide (¬ (nI n).toInt64 = 0)) e = e := ck_t (fun z => by rw [nI_l h] at z; have := (lN_n0 (Nat.lt_trans h (by decide))).mp z; omega)
theorem m_commonOf {a b : Nat} (ha : a < 2 ^ 63) (h0 : 0 < b) (hb : b < 2000) : f_X5_commonOf (lN a) (nI b) = some (nI (Nat.gcd a b)) := by
  unfold f_X5_commonOf
  have hm := Nat.mod_lt a h0
  rw [if_neg (fun z => by have := (nI_n0 (by omega)).mp z; omega), cknL (by omega) h0, nI_l (by omega), pk_lRem ha h0 (by omega), lN_i, m_common (by omega) (by omega), bd_s]
  show some (nI (Nat.gcd b (a % b))) = _
  rw [Nat.gcd_comm b, ← Nat.gcd_rec, Nat.gcd_comm]
theorem m_great {S : PS} {h hz sz k : Nat} {f : Nat → CT} (H : MV S h hz sz k f) {s : Nat} (hs : s < 2 ^ k) (hs2 : s < 2 ^ (sz + 1)) (h10 : sz ≤ 10) : f_X5_isTooGreat S h (nI s) = some (b2 (tg s f)) := by
  have hk2 := H.2.2.2.1
  have hs31 : s < 2 ^ 31 := Nat.lt_of_lt_of_le hs2 (Nat.pow_le_pow_right (by decide) (by omega))
  have inb : ∀ c, s.testBit c = true → c < k := fun c hb => by
    rcases Nat.lt_or_ge c k with q | q
    · exact q
    · rw [bit_hi hs q] at hb; cases hb
  have hg : ∀ c, s.testBit c = true → gd (f c) := fun c hb => m_gd H (inb c hb)
  have W := fun n => wd_sp (s := s) (f := f) n (fun c _ b => hg c b)
  unfold f_X5_isTooGreat
  refine lp_asc (L := fun n c => f_X5_isTooGreat_L5 S (f_X5_isTooGreat_B71 S) n h (nI s) (lN (wd s f c)) (nI c)) (e := sz + 1) (fun n => ?_) (fun n c hc => ?_) FU 0 (by omega) (by unfold FU; omega)
  · show f_X5_isTooGreat_L5s S (f_X5_isTooGreat_L5 S (f_X5_isTooGreat_B71 S) n) (f_X5_isTooGreat_B71 S) h (nI s) (lN (wd s f (sz + 1))) (nI (sz + 1)) = _
    unfold f_X5_isTooGreat_L5s
    rw [m_z0 H, ck_t (m_in0 H), m_sz H, if_pos (nI_lt (by omega) (by omega))]
    unfold f_X5_isTooGreat_B71 f_X5_isTooGreat_B84
    obtain ⟨p, a, b, c⟩ := W (sz + 1)
    have e := wd_tg (s := s) (f := f) (n := sz + 1) (by omega) hs2 (fun c _ b => hg c b)
    unfold LIM at b e
    by_cases q : tg s f = true
    · have := e.mpr q
      rw [if_neg (fun z => by rw [limL, pk_lLE (by omega) (by decide)] at z; unfold LIM at z; omega), q]; exact ckb1
    · rw [if_pos (by rw [limL, pk_lLE (by omega) (by decide)]; unfold LIM; exact Nat.le_of_not_lt (fun z => q (e.mp z))), Bool.not_eq_true _ |>.mp q]; exact ckb0
  · show f_X5_isTooGreat_L5s S (f_X5_isTooGreat_L5 S (f_X5_isTooGreat_B71 S) n) (f_X5_isTooGreat_B71 S) h (nI s) (lN (wd s f c)) (nI c) = f_X5_isTooGreat_L5 S (f_X5_isTooGreat_B71 S) n h (nI s) (lN (wd s f (c + 1))) (nI (c + 1))
    unfold f_X5_isTooGreat_L5s
    obtain ⟨p, a, b, d⟩ := W c
    unfold LIM at b
    rw [m_z0 H, ck_t (m_in0 H), m_sz H, if_neg (fun z => by have := (nI_ltI (by omega) (by omega)).mp z; omega), n_bitv hs31 (by omega)]
    have skip : wd s f (c + 1) = wd s f c → f_X5_isTooGreat_B65 S (f_X5_isTooGreat_L5 S (f_X5_isTooGreat_B71 S) n) (f_X5_isTooGreat_B71 S) h (nI s) (lN (wd s f c)) (nI c) = f_X5_isTooGreat_L5 S (f_X5_isTooGreat_B71 S) n h (nI s) (lN (wd s f (c + 1))) (nI (c + 1)) := by
      intro e
      unfold f_X5_isTooGreat_B65
      rw [e, nI_1]
    have eq : wd s f (c + 1) = if (s.testBit c && (!vo (f c) && decide (wd s f c ≤ LIM))) = true then Nat.lcm (wd s f c) (bm (f c)) else wd s f c := rfl
    cases hb : s.testBit c
    · rw [b2_f, if_neg (by decide)]
      exact skip (by rw [eq, hb]; rfl)
    · have hck := inb c hb
      have g := m_gd H hck
      have bp := bm_pos g
      have bl := bm_le g
      rw [b2_t, if_pos rfl, m_void H hck, bd_s]
      cases hv : vo (f c)
      · rw [b2_f, if_pos rfl]
        by_cases q : wd s f c ≤ LIM
        · have q1 := q
          unfold LIM at q1
          have gp : 0 < Nat.gcd (wd s f c) (bm (f c)) := Nat.gcd_pos_of_pos_left _ p
          have gl : Nat.gcd (wd s f c) (bm (f c)) ≤ bm (f c) := Nat.le_of_dvd bp (Nat.gcd_dvd_right _ _)
          rw [if_neg (fun z => by rw [limL, pk_lLT (by decide) (by omega)] at z; unfold LIM at z; omega), m_mod H hck, bd_s, m_commonOf (by omega) bp (by omega), bd_s, cknL (by omega) gp, bd_s, nI_l (by omega), nI_l (by omega), pk_lDiv (by omega) gp (by omega), lN_mul, div_lcm]
          unfold f_X5_isTooGreat_B65
          rw [eq, hb, hv, decide_eq_true q, nI_1]
          rfl
        · have q1 := q
          unfold LIM at q1
          rw [if_pos (by rw [limL, pk_lLT (by decide) (by omega)]; unfold LIM; omega)]
          exact skip (by rw [eq, hb, hv, decide_eq_false q]; rfl)
      · rw [b2_t, if_neg (by decide)]
        exact skip (by rw [eq, hb, hv]; rfl)
/-- only the reference's n and r have changed -/
def scr (S S1 : PS) : Prop := PL S1 = PL S ∧ PK S1 = PK S ∧ fI S1 = fI S ∧ fR S1 = fR S ∧ aN S1 = aN S ∧ aI S1 = aI S ∧ aR S1 = aR S ∧ ∀ i a, i ≠ 86 → i ≠ 87 → fL S1 i a = fL S i a
theorem scr.rf {S : PS} : scr S S := ⟨rfl, rfl, rfl, rfl, rfl, rfl, rfl, fun _ _ _ _ => rfl⟩
theorem scr.tr {S S1 S2 : PS} (h : scr S S1) (g : scr S1 S2) : scr S S2 := ⟨g.1.trans h.1, g.2.1.trans h.2.1, g.2.2.1.trans h.2.2.1, g.2.2.2.1.trans h.2.2.2.1, g.2.2.2.2.1.trans h.2.2.2.2.1, g.2.2.2.2.2.1.trans h.2.2.2.2.2.1, g.2.2.2.2.2.2.1.trans h.2.2.2.2.2.2.1, fun i a p q => (g.2.2.2.2.2.2.2 i a p q).trans (h.2.2.2.2.2.2.2 i a p q)⟩
theorem scr.n {S : PS} {a : Nat} {v : Int64} : scr S (sL S 86 a v) := ⟨rfl, rfl, rfl, rfl, rfl, rfl, rfl, fun _ _ p _ => u2_nf p⟩
theorem scr.r {S : PS} {a : Nat} {v : Int64} : scr S (sL S 87 a v) := ⟨rfl, rfl, rfl, rfl, rfl, rfl, rfl, fun _ _ _ q => u2_nf q⟩
theorem MV.scr {S S1 : PS} {h hz sz k : Nat} {f : Nat → CT} (H : MV S h hz sz k f) (c : scr S S1) : MV S1 h hz sz k f := by
  obtain ⟨c1, c2, c3, c4, c5, c6, -⟩ := c
  unfold MV MZ vd at *
  rw [c1, c2, c4, c5, c6]
  exact H
theorem fL_n {S : PS} {a : Nat} {v : Int64} : fL (sL S 86 a v) 86 a = v := u2_self
theorem fL_r {S : PS} {a : Nat} {v : Int64} : fL (sL S 87 a v) 87 a = v := u2_self
theorem fL_nr {S : PS} {a : Nat} {v : Int64} : fL (sL S 86 a v) 87 a = fL S 87 a := by
  show u2 (fL S) 86 a v 87 a = _
  exact u2_nf (by decide)
theorem fL_rn {S : PS} {a : Nat} {v : Int64} : fL (sL S 87 a v) 86 a = fL S 86 a := by
  show u2 (fL S) 87 a v 86 a = _
  exact u2_nf (by decide)
theorem m_joinOne {S : PS} {h hz sz k : Nat} {f : Nat → CT} (H : MV S h hz sz k f) {c : Nat} (hc : c < k) (hv : vo (f c) = false) {N R : Nat} (hN : fL S 86 h = lN N) (hR : fL S 87 h = lN R) (hl : R < N) (hs : R % Nat.gcd N (bm (f c)) = br (f c) % Nat.gcd N (bm (f c))) (hb : Nat.lcm N (bm (f c)) ≤ LIM) : ∃ S1 R1, f_X5_joinOne S h (nI c) = some S1 ∧ scr S S1 ∧ fL S1 86 h = lN (Nat.lcm N (bm (f c))) ∧ fL S1 87 h = lN R1 ∧ R1 < Nat.lcm N (bm (f c)) ∧ R1 % N = R ∧ R1 % bm (f c) = br (f c) := by
  have g := m_gd H hc
  have bp := bm_pos g
  have bl := bm_le g
  have sb := br_spec g hv
  have gp : 0 < Nat.gcd N (bm (f c)) := Nat.gcd_pos_of_pos_right _ bp
  have gl : Nat.gcd N (bm (f c)) ≤ bm (f c) := Nat.le_of_dvd bp (Nat.gcd_dvd_right _ _)
  have hNl : N ≤ Nat.lcm N (bm (f c)) := lcm_ge bp
  unfold LIM at hb
  obtain ⟨y, hy, ey⟩ := sol bp hs
  rw [Nat.mod_eq_of_lt sb.1] at ey
  obtain ⟨j1, j2, j3⟩ := lst_ex (p := fun j => decide ((R + N * j) % bm (f c) = br (f c))) (n := bm (f c) / Nat.gcd N (bm (f c))) ⟨y, hy, decide_eq_true ey⟩
  generalize hj : lst (fun j => decide ((R + N * j) % bm (f c) = br (f c))) (bm (f c) / Nat.gcd N (bm (f c))) = J at j1 j2 j3
  have j2 := of_decide_eq_true j2
  have j3 : ∀ j, j < J → ¬ (R + N * j) % bm (f c) = br (f c) := fun j hj => of_decide_eq_false (j3 j hj)
  have hdl : bm (f c) / Nat.gcd N (bm (f c)) ≤ bm (f c) := Nat.div_le_self _ _
  have hlc : Nat.lcm N (bm (f c)) = N * (bm (f c) / Nat.gcd N (bm (f c))) := by
    rw [Nat.lcm_eq_mul_div, Nat.mul_div_assoc _ (Nat.gcd_dvd_right _ _)]
  have hup : ∀ j, j ≤ J → R + N * j < Nat.lcm N (bm (f c)) := by
    intro j hj
    rw [hlc]
    have h1 : N * (j + 1) ≤ N * (bm (f c) / Nat.gcd N (bm (f c))) := Nat.mul_le_mul_left _ (by omega)
    rw [Nat.mul_add, Nat.mul_one] at h1
    omega
  refine ⟨sL (sL S 87 h (lN (R + N * J))) 86 h (lN (Nat.lcm N (bm (f c)))), R + N * J, ?_, ?_, ?_, ?_, hup J (Nat.le_refl J), ?_, j2⟩
  rotate_left
  · exact (scr.r (a := h) (v := lN (R + N * J))).tr (scr.n (a := h) (v := lN (Nat.lcm N (bm (f c)))))
  · exact fL_n
  · rw [fL_nr]; exact fL_r
  · rw [Nat.add_mul_mod_self_left, Nat.mod_eq_of_lt hl]
  unfold f_X5_joinOne
  rw [m_mod H hc, bd_s, m_rest H hc hv, bd_s, hN, m_commonOf (by omega) bp (by omega), bd_s, hR]
  have body := lp_asc (L := fun n j => f_X5_joinOne_L28 f_X5_joinOne_B51 n S h (nI (bm (f c))) (nI (br (f c))) (nI (Nat.gcd N (bm (f c)))) (lN (R + N * j))) (e := J) (r := some (sL (sL S 87 h (lN (R + N * J))) 86 h (lN (Nat.lcm N (bm (f c)))))) (fun n => by
    have := hup J (Nat.le_refl J)
    have hm := Nat.mod_lt (R + N * J) bp
    show f_X5_joinOne_L28s (f_X5_joinOne_L28 f_X5_joinOne_B51 n) f_X5_joinOne_B51 S h (nI (bm (f c))) (nI (br (f c))) (nI (Nat.gcd N (bm (f c)))) (lN (R + N * J)) = _
    unfold f_X5_joinOne_L28s
    rw [cknL (by omega) bp, nI_l (by omega), nI_l (by omega), pk_lRem (by omega) bp (by omega), if_pos (by rw [j2])]
    unfold f_X5_joinOne_B51
    rw [cknL (by omega) gp, fL_rn, hN, nI_l (by omega), nI_l (by omega), pk_lDiv (by omega) gp (by omega), lN_mul, div_lcm]) (fun n j hjJ => by
    have := hup j (by omega)
    have hm := Nat.mod_lt (R + N * j) bp
    show f_X5_joinOne_L28s (f_X5_joinOne_L28 f_X5_joinOne_B51 n) f_X5_joinOne_B51 S h (nI (bm (f c))) (nI (br (f c))) (nI (Nat.gcd N (bm (f c)))) (lN (R + N * j)) = _
    unfold f_X5_joinOne_L28s
    rw [cknL (by omega) bp, nI_l (by omega), nI_l (by omega), pk_lRem (by omega) bp (by omega), if_neg (fun z => j3 j hjJ ((pk_lEQ (by omega) (by omega)).mp z)), hN, lN_add, Nat.add_assoc, ← Nat.mul_succ]) FU 0 (by omega) (by unfold FU; omega)
  exact body

/-! ===== the reference: joined sets, what is told ===== -/
theorem n10 : ¬ (1 : Int32) = 0 := by decide
theorem nle {a b : Nat} (h : b < a) (ha : a < 2 ^ 31) : ¬ nI a ≤ nI b := fun z => by have := (nI_leI ha (by omega)).mp z; omega
theorem nlt {a b : Nat} (h : b ≤ a) (ha : a < 2 ^ 31) : ¬ nI a < nI b := fun z => by have := (nI_ltI ha (by omega)).mp z; omega
theorem NN_dvd {s : Nat} {f : Nat → CT} {d : Nat} (b : s.testBit d = true) : ∀ c, d < c → bm (f d) ∣ NN s f c
  | 0, h => by omega
  | c + 1, h => by
    unfold NN
    rcases Nat.lt_or_ge d c with q | q
    · have ih := NN_dvd (f := f) b c q
      split
      · exact Nat.dvd_trans ih (Nat.dvd_lcm_left _ _)
      · exact ih
    · have e : d = c := by omega
      subst e
      rw [if_pos b]
      exact Nat.dvd_lcm_right _ _
theorem NN_t {s : Nat} {f : Nat → CT} {c : Nat} (b : s.testBit c = true) : NN s f (c + 1) = Nat.lcm (NN s f c) (bm (f c)) := by
  show (if s.testBit c = true then _ else _) = _
  rw [if_pos b]
theorem NN_f {s : Nat} {f : Nat → CT} {c : Nat} (b : s.testBit c = false) : NN s f (c + 1) = NN s f c := by
  show (if s.testBit c = true then _ else _) = _
  rw [if_neg (by rw [b]; decide)]
theorem ji_f {s : Nat} {f : Nat → CT} {c R : Nat} (b : s.testBit c = false) (J : JI s f c (NN s f c) R) : JI s f (c + 1) (NN s f (c + 1)) R := ⟨rfl, by rw [NN_f b]; exact J.2.1, fun d hd h => J.2.2 d (by
  rcases Nat.lt_or_ge d c with q | q
  · exact q
  · rw [show d = c by omega, b] at h; cases h) h⟩
theorem ji_t {s : Nat} {f : Nat → CT} {c R R1 : Nat} (b : s.testBit c = true) (J : JI s f c (NN s f c) R) (h1 : R1 < Nat.lcm (NN s f c) (bm (f c))) (h2 : R1 % NN s f c = R) (h3 : R1 % bm (f c) = br (f c)) : JI s f (c + 1) (NN s f (c + 1)) R1 := ⟨rfl, by rw [NN_t b]; exact h1, fun d hd h => by
  rcases Nat.lt_or_ge d c with q | q
  · rw [← J.2.2 d q h, ← h2, Nat.mod_mod_of_dvd _ (NN_dvd h c q)]
  · rw [show d = c by omega]; exact h3⟩
theorem ji_ex {s : Nat} {f : Nat → CT} (hp : ps s f = true) (hg : ∀ d, d < 11 → s.testBit d = true → gd (f d)) : ∀ c, c ≤ 11 → ∃ R, JI s f c (NN s f c) R
  | 0, _ => ⟨0, rfl, Nat.one_pos, fun d hd => by omega⟩
  | c + 1, h => by
    obtain ⟨R, J⟩ := ji_ex hp hg c (by omega)
    cases b : s.testBit c
    · exact ⟨R, ji_f b J⟩
    · have g := hg c (by omega) b
      have bp := bm_pos g
      obtain ⟨j, hj, e⟩ := sol bp (ji_sol hp J (by omega) b hg)
      rw [Nat.mod_eq_of_lt (br_spec g (ps_vo hp (by omega) b)).1] at e
      refine ⟨R + NN s f c * j, ji_t b J ?_ ?_ e⟩
      · rw [Nat.lcm_eq_mul_div, Nat.mul_div_assoc _ (Nat.gcd_dvd_right _ _)]
        have h1 : NN s f c * (j + 1) ≤ NN s f c * (bm (f c) / Nat.gcd (NN s f c) (bm (f c))) := Nat.mul_le_mul_left _ (by omega)
        have h2 := J.2.1
        rw [Nat.mul_add, Nat.mul_one] at h1
        omega
      · rw [Nat.add_mul_mod_self_left, Nat.mod_eq_of_lt J.2.1]
theorem RR_spec {s : Nat} {f : Nat → CT} (hp : ps s f = true) (hg : ∀ d, d < 11 → s.testBit d = true → gd (f d)) : RR s f < NN s f 11 ∧ ∀ d, d < 11 → s.testBit d = true → RR s f % bm (f d) = br (f d) := by
  obtain ⟨R, J⟩ := ji_ex hp hg 11 (Nat.le_refl _)
  have := (ji_RR J).2
  subst this
  exact J.2
theorem m_join {S : PS} {h hz sz k : Nat} {f : Nat → CT} (H : MV S h hz sz k f) {s : Nat} (hs : s < 2 ^ k) (hs2 : s < 2 ^ (sz + 1)) (h10 : sz ≤ 10) (hN : ps s f = true → NN s f 11 ≤ LIM) : ∃ S1, f_X5_join S h (nI s) = some (b2 (ps s f), S1) ∧ scr S S1 ∧ (ps s f = true → fL S1 86 h = lN (NN s f 11) ∧ fL S1 87 h = lN (RR s f)) := by
  have hk2 := H.2.2.2.1
  have hs3 : s < 2 ^ 11 := Nat.lt_of_lt_of_le hs (Nat.pow_le_pow_right (by decide) hk2)
  have hs31 : s < 2 ^ 31 := Nat.lt_of_lt_of_le hs3 (by decide)
  have inb : ∀ c, s.testBit c = true → c < k := fun c hb => by
    rcases Nat.lt_or_ge c k with q | q
    · exact q
    · rw [bit_hi hs q] at hb; cases hb
  have hg : ∀ d, d < 11 → s.testBit d = true → gd (f d) := fun d _ b => m_gd H (inb d b)
  unfold f_X5_join
  have c0 : scr S (sL (sL S 86 h 1) 87 h 0) := scr.n.tr scr.r
  have H0 := H.scr c0
  rw [m_poss H0 hs hs2 hs3 h10, bd_s]
  cases hp : ps s f
  · exact ⟨sL (sL S 86 h 1) 87 h 0, by rw [b2_f, if_pos rfl], c0, fun z => by cases z⟩
  · rw [b2_t, if_neg (by decide)]
    have loop : ∀ n c S' R, sz + 2 ≤ n + c → c ≤ sz + 1 → scr S S' → fL S' 86 h = lN (NN s f c) → fL S' 87 h = lN R → JI s f c (NN s f c) R → ∃ S1, f_X5_join_L22 f_X5_join_B52 n S' h (nI s) (nI c) = some (1, S1) ∧ scr S S1 ∧ (true = true → fL S1 86 h = lN (NN s f 11) ∧ fL S1 87 h = lN (RR s f)) := by
      intro n
      induction n with
      | zero => intro c S' R h1 h2; omega
      | succ n ih =>
        intro c S' R h1 h2 cs e1 e2 J
        have H' := H.scr cs
        rw [show f_X5_join_L22 f_X5_join_B52 (n + 1) S' h (nI s) (nI c) = f_X5_join_L22s (f_X5_join_L22 f_X5_join_B52 n) f_X5_join_B52 S' h (nI s) (nI c) from rfl]
        unfold f_X5_join_L22s
        rw [m_z0 H', ck_t (m_in0 H'), m_sz H']
        rcases Nat.eq_or_lt_of_le h2 with q | q
        · subst q
          have jr := ji_RR (ji_tail (by omega) hs2 J)
          rw [if_pos (nI_lt (by omega) (by omega))]
          exact ⟨S', rfl, cs, fun _ => ⟨by rw [e1, jr.1], by rw [e2, jr.2]⟩⟩
        · rw [if_neg (nlt (by omega) (by omega)), n_bitv hs31 (by omega)]
          cases hb : s.testBit c
          · rw [b2_f, if_neg (by decide)]
            unfold f_X5_join_B46
            rw [nI_1]
            exact ih (c + 1) S' R (by omega) (by omega) cs (by rw [NN_f hb]; exact e1) e2 (ji_f hb J)
          · have hck := inb c hb
            have hl : NN s f (c + 1) ≤ LIM := Nat.le_trans (NN_mono (by omega) hg) (hN hp)
            obtain ⟨S1, R1, w1, w2, w3, w4, w5, w6, w7⟩ := m_joinOne H' hck (ps_vo hp (by omega) hb) e1 e2 J.2.1 (ji_sol hp J (by omega) hb hg) (by rw [← NN_t hb]; exact hl)
            rw [b2_t, if_pos rfl, w1, bd_s]
            unfold f_X5_join_B46
            rw [nI_1]
            exact ih (c + 1) S1 R1 (by omega) (by omega) (cs.tr w2) (by rw [NN_t hb]; exact w3) w4 (ji_t hb J w5 w6 w7)
    exact loop FU 0 _ 0 (by unfold FU; omega) (by omega) c0 (by rw [fL_rn, fL_n]; rfl) (by rw [fL_r]; rfl) ⟨rfl, Nat.one_pos, fun d hd => by omega⟩
/-- a set is possible and tells a condition -/
def tl (s : Nat) (f : Nat → CT) (x : CT) : Bool := ps s f && (!vo x && (decide (NN s f 11 % bm x = 0) && decide (RR s f % bm x = br x)))
theorem m_tells {S : PS} {h hz sz k : Nat} {f : Nat → CT} (H : MV S h hz sz k f) {s c : Nat} (hs : s < 2 ^ k) (hs2 : s < 2 ^ (sz + 1)) (h10 : sz ≤ 10) (hN : ps s f = true → NN s f 11 ≤ LIM) (hc : c < k) : ∃ S1, f_X5_tells S h (nI s) (nI c) = some (b2 (tl s f (f c)), S1) ∧ scr S S1 := by
  obtain ⟨S1, e, cs, w⟩ := m_join H hs hs2 h10 hN
  have H1 := H.scr cs
  refine ⟨S1, ?_, cs⟩
  unfold f_X5_tells tl
  rw [e, bd_s]
  cases hp : ps s f
  · rw [b2_f, if_pos rfl]; rfl
  · have g := m_gd H hc
    have bp := bm_pos g
    have bl := bm_le g
    have hg : ∀ d, d < 11 → s.testBit d = true → gd (f d) := fun d _ b => m_gd H (by
      rcases Nat.lt_or_ge d k with q | q
      · exact q
      · rw [bit_hi hs q] at b; cases b)
    have rs := (RR_spec hp hg).1
    have nl := hN hp
    unfold LIM at nl
    rw [b2_t, if_neg n10, m_void H1 hc, bd_s]
    cases hv : vo (f c)
    · have m1 := Nat.mod_lt (NN s f 11) bp
      have m2 := Nat.mod_lt (RR s f) bp
      have b1 := br_lt g hv
      rw [b2_f, if_pos rfl, m_mod H1 hc, bd_s, cknL (by omega) bp, (w hp).1, (w hp).2, nI_l (by omega), pk_lRem (by omega) bp (by omega)]
      by_cases q : NN s f 11 % bm (f c) = 0
      · rw [if_pos ((lN_n0 (by omega)).mpr q), bd_s, cknL (by omega) bp, m_rest H1 hc hv, bd_s, nI_l (n := bm (f c)) (by omega), nI_l (n := br (f c)) (by omega), pk_lRem (by omega) bp (by omega)]
        by_cases q2 : RR s f % bm (f c) = br (f c)
        · rw [if_pos (by rw [q2]), decide_eq_true q, decide_eq_true q2]; exact ckb1
        · rw [if_neg (fun z => q2 ((pk_lEQ (by omega) (by omega)).mp z)), decide_eq_true q, decide_eq_false q2]; exact ckb0
      · rw [if_neg (fun z => q ((lN_n0 (by omega)).mp z)), decide_eq_false q]; exact ckb0
    · rw [b2_t, if_neg (by decide)]; exact ckb0
/-- one that is on is told by the others that are on -/
def td (f : Nat → CT) (sz c : Nat) : Bool := (f c).2.2.2 && tl (an (onm f sz) (2 ^ c)) f (f c)
/-- N of a part of a set that is not too great -/
theorem sp_sub {s s' : Nat} {f : Nat → CT} (h : ∀ i, s.testBit i = true → s'.testBit i = true) : ∀ n, sp s f n ∣ sp s' f n
  | 0 => Nat.dvd_refl _
  | n + 1 => by
    have ih := sp_sub (f := f) h n
    unfold sp
    by_cases q : (s.testBit n && !vo (f n)) = true
    · rw [if_pos q]
      rw [Bool.and_eq_true] at q
      rw [if_pos (by rw [h n q.1, q.2]; rfl)]
      exact Nat.lcm_dvd (Nat.dvd_trans ih (Nat.dvd_lcm_left _ _)) (Nat.dvd_lcm_right _ _)
    · rw [if_neg q]
      split
      · exact Nat.dvd_trans ih (Nat.dvd_lcm_left _ _)
      · exact ih
theorem tg_sub {s s' : Nat} {f : Nat → CT} (h : ∀ i, s.testBit i = true → s'.testBit i = true) (hg : ∀ c, c < 11 → s'.testBit c = true → gd (f c)) (ht : tg s' f = false) : tg s f = false := by
  unfold tg at *
  have h1 := of_decide_eq_false ht
  have h2 := Nat.le_of_dvd (sp_pos 11 hg) (sp_sub (f := f) h 11)
  exact decide_eq_false (by omega)
theorem tg_N {s : Nat} {f : Nat → CT} (ht : tg s f = false) (hp : ps s f = true) : NN s f 11 ≤ LIM := by
  rw [NN_sp 11 (fun c hc b => ps_vo hp hc b)]
  unfold tg at ht
  have : ¬ LIM < sp s f 11 := of_decide_eq_false ht
  show sp s f 11 ≤ LIM
  omega
/-- what stands is not too great -/
def ok (f : Nat → CT) (sz : Nat) : Prop := tg (onm f sz) f = false
theorem an_bc {a c i : Nat} (ha : a < 2 ^ 31) : (an a (2 ^ c)).testBit i = (a.testBit i && !decide (c = i)) := by
  rw [an_bit ha, Nat.testBit_two_pow]
theorem an_sub {a c i : Nat} (ha : a < 2 ^ 31) (h : (an a (2 ^ c)).testBit i = true) : a.testBit i = true := by
  rw [an_bc ha, Bool.and_eq_true] at h
  exact h.1
theorem m_gds {S : PS} {h hz sz k : Nat} {f : Nat → CT} (H : MV S h hz sz k f) {s : Nat} (hs : s < 2 ^ k) {d : Nat} (b : s.testBit d = true) : gd (f d) := m_gd H (by
  rcases Nat.lt_or_ge d k with q | q
  · exact q
  · rw [bit_hi hs q] at b; cases b)
theorem pw {a b : Nat} (h : a ≤ b) : (2 : Nat) ^ a ≤ 2 ^ b := Nat.pow_le_pow_right (by decide) h
theorem onm_k {f : Nat → CT} {sz k : Nat} (h : sz ≤ k) : onm f sz < 2 ^ k := Nat.lt_of_lt_of_le (onm_lt f sz) (pw h)
theorem m_isTold {S : PS} {h hz sz k : Nat} {f : Nat → CT} (H : MV S h hz sz k f) (h10 : sz ≤ 10) (ho : ok f sz) {c : Nat} (hc : c < sz) : ∃ S1, f_X5_isTold S h (nI c) = some (b2 (td f sz c), S1) ∧ scr S S1 := by
  have hk := H.2.2.1
  unfold f_X5_isTold td
  rw [m_isOn H (by omega), bd_s]
  cases hv : (f c).2.2.2
  · exact ⟨S, by rw [b2_f, if_pos rfl]; exact ckb0, scr.rf⟩
  · have o31 : onm f sz < 2 ^ 31 := onm_k (by omega)
    have l1 := Nat.lt_of_le_of_lt (an_le (onm f sz) (2 ^ c)) (onm_k hk)
    have l2 := Nat.lt_of_le_of_lt (an_le (onm f sz) (2 ^ c)) (onm_k (f := f) (show sz ≤ sz + 1 by omega))
    obtain ⟨S1, e, cs⟩ := m_tells H l1 l2 h10 (tg_N (tg_sub (fun i => an_sub o31) (fun c _ b => m_gds H (onm_k hk) b) ho)) (show c < k by omega)
    refine ⟨S1, ?_, cs⟩
    rw [b2_t, if_neg (by decide), m_onSet H, bd_s, n_shl (by omega), n_an, e, bd_s]
    cases tl (an (onm f sz) (2 ^ c)) f (f c)
    · rw [b2_f, if_pos rfl]; exact ckb0
    · rw [b2_t, if_neg n10]; exact ckb1

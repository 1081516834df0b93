/-! ===== the class: conditions changed ===== -/
/-- only the row of partners of t has changed -/
def pf (t : TR) (S S1 : PS) : Prop := stf t S S1 ∧ (∀ i a, fI S1 i a = fI S i a) ∧ ∀ a, aR S1 a = aR S a
theorem SC.kq {S S1 : PS} {t : TR} {y : CS} (h : SC S t y) (p : pf t S S1) : SC S1 t y := by
  obtain ⟨R, f1, c⟩ := h
  obtain ⟨e, g1, g2⟩ := p
  refine ⟨R.st e (fun k d hk hd => ?_), (g1 _ _).trans f1, fun k hk => ?_⟩
  · rw [g2] at hd; exact R.2.2.2.2.2.2.2.2 k d hk hd
  · obtain ⟨d, d1, d2⟩ := c k hk
    exact ⟨d, by rw [g2]; exact d1, d2.st e⟩
theorem x_find {S : PS} {t : TR} {y : CS} (H : SC S t y) (hx : y.1 ≤ 10) (hg : ∀ c, c < y.1 → gd (y.2 c)) : ∃ S1, f_X3_findPartners S t.1 = some S1 ∧ pf t S S1 ∧ ∀ k, k < 10 → aI S1 t.2.2 k = nI (pmk y k) := by
  have loop : ∀ n d S', 11 ≤ n + d → d ≤ 10 → pf t S S' → (∀ k, k < d → aI S' t.2.2 k = nI (pmk y k)) → ∃ S1, f_X3_findPartners_L2 f_X3_findPartners_B44 n S' t.1 (nI d) = some S1 ∧ pf t S S1 ∧ ∀ k, k < 10 → aI S1 t.2.2 k = nI (pmk y k) := by
    intro n
    induction n with
    | zero => intro d S' h1 h2; omega
    | succ n ih =>
      intro d S' h1 h2 p hm
      have H' := H.kq p
      have RT := H'.1
      rw [show f_X3_findPartners_L2 f_X3_findPartners_B44 (n + 1) S' t.1 (nI d) = f_X3_findPartners_L2s (f_X3_findPartners_L2 f_X3_findPartners_B44 n) f_X3_findPartners_B44 S' t.1 (nI d) from rfl]
      unfold f_X3_findPartners_L2s f_X3_findPartners_B44
      rw [rq_e RT.2.2.2.1 RT.2.2.2.2.2.1, RT.2.2.2.2.2.2.2.1]
      rcases Nat.eq_or_lt_of_le h2 with q | q
      · exact ⟨S', by rw [q, if_pos (show nI 10 ≤ nI 10 from Int32.le_refl _)], p, fun k hk => hm k (by omega)⟩
      · have fin : ∀ v, v = nI (pmk y d) → ∃ S1, f_X3_findPartners_B37 (f_X3_findPartners_L2 (fun S => some S) n) (fun S => some S) S' t.1 (nI d) t.2.2 (nI d) v = some S1 ∧ pf t S S1 ∧ ∀ k, k < 10 → aI S1 t.2.2 k = nI (pmk y k) := by
          intro v hv
          unfold f_X3_findPartners_B37
          rw [RT.2.2.2.2.2.2.2.1, ck_t (nI_in q (by decide)), nI_1]
          refine ih (d + 1) _ (by omega) (by omega) ⟨p.1.tr stf.A, p.2.1, p.2.2⟩ (fun k hk => ?_)
          by_cases z : k = d
          · rw [z, aI_As (by omega), hv]
          · rw [aI_An (by omega) z]; exact hm k (by omega)
        rw [if_neg (nle q (by decide)), rq_e RT.2.2.2.1 RT.2.2.2.2.2.1, H'.2.1]
        by_cases r : d < y.1
        · obtain ⟨c, c1, c2⟩ := H'.get hx r
          rw [if_neg (nle r (by omega)), c1, bd_s, H'.pof hx hg c2 (hg d r), bd_s]
          exact fin _ (by unfold pmk; rw [if_pos r])
        · rw [if_pos (nI_le (by omega) (by omega))]
          exact fin _ (by unfold pmk; rw [if_neg r]; rfl)
  exact loop FU 0 S (by unfold FU; omega) (by omega) ⟨stf.rf, fun _ _ => rfl, fun _ => rfl⟩ (fun k hk => absurd hk (Nat.not_lt_zero k))
theorem x_repl {S : PS} {t : TR} (R : SR S t) {k c : Nat} (hk : k < 10) : f_X3_replace S t.1 (nI k) c = some (sQ S t.2.1 (nI k) (some c)) := by
  unfold f_X3_replace f_X3_replace_B20
  rw [if_neg (nneg (by omega)), rq_e R.2.2.1 R.2.2.2.2.1, R.2.2.2.2.2.2.1, if_neg (nle hk (by decide)), rq_e R.2.2.1 R.2.2.2.2.1, R.2.2.2.2.2.2.1, ck_t (nI_in hk (by decide))]
theorem SR.rp {S : PS} {t : TR} (R : SR S t) {k c : Nat} (hk : k < 10) (hc : vd S c 0) : SR (sQ S t.2.1 (nI k) (some c)) t := R.st stf.Q (fun j d hj hd => by
  by_cases z : j = k
  · subst z
    rw [aR_Qs (by omega)] at hd
    exact Option.some.inj hd ▸ hc
  · rw [aR_Qn (by omega) z] at hd
    exact R.2.2.2.2.2.2.2.2 j d hj hd)
theorem SR.al {S S1 : PS} {u : TR} (h : SR S u) (e : ∀ t, stf t S S1) : SR S1 u := h.ot (e (u.1 + 1, u.2.1 + 1, u.2.2 + 1)) (by show u.2.1 ≠ u.2.1 + 1; omega)
/-- from what findPartners leaves to a whole state -/
theorem SC.sv {S S1 : PS} {t : TR} {y : CS} (h : SC S t y) (p : pf t S S1) (m : ∀ k, k < 10 → aI S1 t.2.2 k = nI (pmk y k)) (e : fI S 52 t.1 = nI (onm y.2 y.1)) : SV S1 t y := by
  have h1 := h.kq p
  exact ⟨h1.1, h1.2.1, (p.2.1 _ _).trans e, h1.2.2, m⟩
theorem SR.ow {S S1 : PS} {t : TR} (h : SR S t) (e : stf t S S1) (g : ∀ a, aR S1 a = aR S a) : SR S1 t := h.st e (fun k c hk hc => by rw [g] at hc; exact h.2.2.2.2.2.2.2.2 k c hk hc)
theorem onm_put {f : Nat → CT} {n : Nat} {z : CT} (hz : z.2.2.2 = true) : onm (fa f n z) (n + 1) = onm f n ||| 2 ^ n := by
  show msk _ (n + 1) = _
  unfold msk
  rw [if_pos (by show (fa f n z n).2.2.2 = true; rw [fa_s]; exact hz)]
  show onm (fa f n z) n ||| _ = _
  rw [onm_fa]
theorem fa_gd1 {y : CS} {z : CT} (hg : ∀ c, c < y.1 → gd (y.2 c)) (gz : gd z) : ∀ c, c < y.1 + 1 → gd (fa y.2 y.1 z c) := fun c hc => by
  by_cases q : c = y.1
  · rw [q, fa_s]; exact gz
  · rw [fa_n q]; exact hg c (by omega)
theorem x_put {S : PS} {t : TR} {y : CS} (V : SV S t y) (hx : y.1 < 10) (hg : ∀ c, c < y.1 → gd (y.2 c)) {c : Nat} {z : CT} (hc : CD S c z) (gz : gd z) (hz : z.2.2.2 = true) : ∃ S1, f_X3_put S t.1 c = some (nI y.1, S1) ∧ stf t S S1 ∧ hi S S1 ∧ SV S1 t (y.1 + 1, fa y.2 y.1 z) := by
  obtain ⟨R, f1, f2, cd, m⟩ := V
  unfold f_X3_put
  rw [f1, x_repl R hx, bd_s, x_bit (by omega), bd_s]
  have e51 : fI (sQ S t.2.1 (nI y.1) (some c)) 51 t.1 = nI y.1 := f1
  have e52 : fI (sI (sQ S t.2.1 (nI y.1) (some c)) 51 t.1 (nI (y.1 + 1))) 52 t.1 = nI (onm y.2 y.1) := (fI_ne (by decide)).trans f2
  rw [e51, nI_1, e52, n_or]
  have st1 : stf t S (sQ S t.2.1 (nI y.1) (some c)) := stf.Q
  have st2 : stf t (sQ S t.2.1 (nI y.1) (some c)) (sI (sI (sQ S t.2.1 (nI y.1) (some c)) 51 t.1 (nI (y.1 + 1))) 52 t.1 (nI (onm y.2 y.1 ||| 2 ^ y.1))) := (stf.I (by decide) (fun _ => rfl)).tr (stf.I (by decide) (fun _ => rfl))
  have HC : SC (sI (sI (sQ S t.2.1 (nI y.1) (some c)) 51 t.1 (nI (y.1 + 1))) 52 t.1 (nI (onm y.2 y.1 ||| 2 ^ y.1))) t (y.1 + 1, fa y.2 y.1 z) := by
    refine ⟨(R.rp hx hc.1).ow st2 (fun _ => rfl), (fI_ne (by decide)).trans fI_s, fun k hk => ?_⟩
    have hk : k < y.1 + 1 := hk
    show ∃ d, aR (sQ S t.2.1 (nI y.1) (some c)) t.2.1 k = some d ∧ CD _ d (fa y.2 y.1 z k)
    by_cases q : k = y.1
    · rw [q, fa_s]
      exact ⟨c, aR_Qs (by omega), hc.st (st1.tr st2)⟩
    · obtain ⟨d, d1, d2⟩ := cd k (by omega)
      rw [fa_n q]
      exact ⟨d, by rw [aR_Qn (by omega) q]; exact d1, d2.st (st1.tr st2)⟩
  obtain ⟨S1, e, p, pm⟩ := x_find HC (by show y.1 + 1 ≤ 10; omega) ((fa_gd1 hg gz))
  rw [e, bd_s]
  refine ⟨S1, rfl, (st1.tr st2).tr p.1, ?_, HC.sv p pm ?_⟩
  · exact ((hi.I (S := sQ S t.2.1 (nI y.1) (some c)) (Or.inl rfl)).tr (hi.I (Or.inr rfl))).tr (fun i a _ _ => p.2.1 i a)
  · show fI (sI _ 52 t.1 _) 52 t.1 = nI (onm (fa y.2 y.1 z) (y.1 + 1))
    rw [fI_s, onm_put hz]
/-! dropping -/
theorem onm_drop {f : Nat → CT} {n c : Nat} (hn : n ≤ 10) (hc : c < n) : (onm f n &&& (2 ^ c - 1)) ||| an (onm f n / 2 ^ 1) (2 ^ c - 1) = onm (rmf f c) (n - 1) := by
  have o := onm_lt f n
  have o10 : onm f n < 2 ^ 10 := Nat.lt_of_lt_of_le o (pw hn)
  have o31 : onm f n / 2 ^ 1 < 2 ^ 31 := by omega
  apply Nat.eq_of_testBit_eq
  intro i
  rw [Nat.testBit_or, Nat.testBit_and, an_bit o31, Nat.testBit_div_two_pow, onm_bit, onm_bit, onm_bit, Nat.testBit_two_pow_sub_one]
  unfold rmf
  by_cases q : i < c
  · rw [if_pos q, decide_eq_true q, decide_eq_true (show i < n by omega), decide_eq_true (show i < n - 1 by omega)]
    simp
  · rw [if_neg q, decide_eq_false q]
    by_cases r : i < n - 1
    · rw [decide_eq_true r, decide_eq_true (show i + 1 < n by omega)]
      simp
    · rw [decide_eq_false r, decide_eq_false (show ¬ i + 1 < n by omega)]
      simp
theorem x_drop {S : PS} {t : TR} {y : CS} (V : SV S t y) (hx : y.1 ≤ 10) (hg : ∀ c, c < y.1 → gd (y.2 c)) {j : Nat} (hj : j < y.1) : ∃ S1, f_X3_drop S t.1 (nI j) = some S1 ∧ stf t S S1 ∧ hi S S1 ∧ SV S1 t (y.1 - 1, rmf y.2 j) := by
  obtain ⟨R, f1, f2, cd, m⟩ := V
  have loop : ∀ n k S', y.1 + 1 ≤ n + k → j ≤ k → k ≤ y.1 → stf t S S' → (∀ i a, fI S' i a = fI S i a) → SR S' t → (∀ i, i < k → i < y.1 - 1 → ∃ c, aR S' t.2.1 i = some c ∧ CD S c (rmf y.2 j i)) → (∀ i, k ≤ i → aR S' t.2.1 i = aR S t.2.1 i) → ∃ S1, f_X3_drop_L2 f_X3_drop_B28 n S' t.1 (nI j) (nI k) = some S1 ∧ stf t S S1 ∧ hi S S1 ∧ SV S1 t (y.1 - 1, rmf y.2 j) := by
    intro n
    induction n with
    | zero => intro k S' h1 h2 h3; omega
    | succ n ih =>
      intro k S' h1 h2 h3 st fi RT g1 g2
      rw [show f_X3_drop_L2 f_X3_drop_B28 (n + 1) S' t.1 (nI j) (nI k) = f_X3_drop_L2s (f_X3_drop_L2 f_X3_drop_B28 n) f_X3_drop_B28 S' t.1 (nI j) (nI k) from rfl]
      unfold f_X3_drop_L2s
      rw [fi, f1]
      rcases Nat.eq_or_lt_of_le h3 with q | q
      · have p2 : 0 < (2 : Nat) ^ j := Nat.two_pow_pos j
        have o := onm_lt y.2 y.1
        have o10 : onm y.2 y.1 < 2 ^ 10 := Nat.lt_of_lt_of_le o (pw hx)
        have e1 : nI (2 ^ j) - (1 : Int32) = nI (2 ^ j - 1) := pk_sub (b := 1) (by omega)
        have e2 : nI (onm y.2 y.1) >>> ((1 : Int32) &&& 31) = nI (onm y.2 y.1 / 2 ^ 1) := pk_shrN (by omega) _ 1 (s_l 1 (by decide))
        unfold f_X3_drop_B28
        rw [if_pos (by rw [q]; exact Int32.le_refl _), x_bit (by omega), bd_s, fi, f2, e1, e2, n_and, n_an, n_or, onm_drop hx hj]
        have st2 : stf t S' (sI (sI S' 52 t.1 (nI (onm (rmf y.2 j) (y.1 - 1)))) 51 t.1 (nI (y.1 - 1))) := (stf.I (by decide) (fun _ => rfl)).tr (stf.I (by decide) (fun _ => rfl))
        have e3 : fI (sI S' 52 t.1 (nI (onm (rmf y.2 j) (y.1 - 1)))) 51 t.1 - (1 : Int32) = nI (y.1 - 1) := by
          rw [fI_ne (by decide), fi, f1]
          exact pk_sub (b := 1) (by omega)
        rw [e3]
        have HC : SC (sI (sI S' 52 t.1 (nI (onm (rmf y.2 j) (y.1 - 1)))) 51 t.1 (nI (y.1 - 1))) t (y.1 - 1, rmf y.2 j) := by
          refine ⟨RT.ow st2 (fun _ => rfl), fI_s, fun i hi => ?_⟩
          have hi : i < y.1 - 1 := hi
          obtain ⟨c, c1, c2⟩ := g1 i (by omega) hi
          exact ⟨c, c1, (c2.st st).st st2⟩
        obtain ⟨S1, e, p, pm⟩ := x_find HC (by show y.1 - 1 ≤ 10; omega) (fun i hi => by
          have hi : i < y.1 - 1 := hi
          show gd (rmf y.2 j i)
          unfold rmf
          split
          · exact hg i (by omega)
          · exact hg (i + 1) (by omega))
        rw [e, bd_s]
        refine ⟨S1, rfl, (st.tr st2).tr p.1, fun i a n1 n2 => ?_, HC.sv p pm ?_⟩
        · rw [p.2.1, fI_ne n1, fI_ne n2, fi]
        · rw [fI_ne (by decide)]
          exact fI_s
      · obtain ⟨c, c1, c2, c3⟩ := x_at RT (k := k + 1) (by omega)
        rw [if_neg (nle q (by omega)), nI_1a, c1, bd_s, x_repl RT (by omega), bd_s]
        refine ih (k + 1) _ (by omega) (by omega) (by omega) (st.tr stf.Q) fi (RT.rp (by omega) c2) (fun i h4 h5 => ?_) (fun i h4 => ?_)
        · by_cases z : i = k
          · subst z
            refine ⟨c, aR_Qs (by omega), ?_⟩
            obtain ⟨e, e1, e2⟩ := cd (i + 1) (by omega)
            have e1' : aR S' t.2.1 (i + 1) = some e := by rw [g2 _ (by omega)]; exact e1
            rw [c3 (by omega) e e1']
            unfold rmf
            rw [if_neg (by omega)]
            exact e2
          · obtain ⟨e, e1, e2⟩ := g1 i (by omega) h5
            exact ⟨e, by rw [aR_Qn (by omega) z]; exact e1, e2⟩
        · rw [aR_Qn (by omega) (by omega)]; exact g2 i (by omega)
  unfold f_X3_drop
  refine loop FU j S (by unfold FU; omega) (Nat.le_refl _) (by omega) stf.rf (fun _ _ => rfl) R (fun i h4 h5 => ?_) (fun _ _ => rfl)
  obtain ⟨e, e1, e2⟩ := cd i (by omega)
  refine ⟨e, e1, ?_⟩
  unfold rmf
  rw [if_pos h4]
  exact e2
/-! the switches -/
theorem pmk_cg {f g : Nat → CT} {n : Nat} (h : ∀ c d, c < n → d < n → ag (g c) (g d) = ag (f c) (f d)) (k : Nat) : pmk (n, g) k = pmk (n, f) k := by
  unfold pmk
  by_cases q : k < n
  · rw [if_pos q, if_pos q]
    exact msk_cg n (fun i hi => h k i q hi)
  · rw [if_neg q, if_neg q]
/-- the same conditions but for the switches -/
theorem SV.sw {S : PS} {t : TR} {n : Nat} {f g : Nat → CT} (V : SV S t (n, f)) (hg : ∀ c, c < n → ∃ b, g c = wn (f c) b) {v : Int32} (hv : v = nI (onm g n)) : SV (sI S 52 t.1 v) t (n, g) := by
  obtain ⟨R, f1, f2, cd, m⟩ := V
  have st : stf t S (sI S 52 t.1 v) := stf.I (by decide) (fun _ => rfl)
  refine ⟨R.ow st (fun _ => rfl), (fI_ne (by decide)).trans f1, fI_s.trans hv, fun k hk => ?_, fun k hk => ?_⟩
  · obtain ⟨c, c1, c2⟩ := cd k hk
    obtain ⟨b, eb⟩ := hg k hk
    refine ⟨c, c1, ?_⟩
    have c3 := c2.st st
    show CD _ c (g k)
    rw [eb]
    exact c3
  · have e : pmk (n, g) k = pmk (n, f) k := pmk_cg (fun c d hc hd => by
      obtain ⟨b1, e1⟩ := hg c hc
      obtain ⟨b2, e2⟩ := hg d hd
      rw [e1, e2]
      rfl) k
    show aI S t.2.2 k = nI (pmk (n, g) k)
    rw [e]; exact m k hk
theorem fa_wn {f : Nat → CT} {c : Nat} {b : Bool} : ∀ i, ∃ b', fa f c (wn (f c) b) i = wn (f i) b' := fun i => by
  by_cases q : i = c
  · rw [q, fa_s]; exact ⟨b, rfl⟩
  · rw [fa_n q]; exact ⟨(f i).2.2.2, rfl⟩
theorem onm_off {f : Nat → CT} {n c : Nat} (hn : n ≤ 10) : onm (fa f c (wn (f c) false)) n = an (onm f n) (2 ^ c) := by
  have o31 : onm f n < 2 ^ 31 := onm_k (by omega)
  apply Nat.eq_of_testBit_eq
  intro i
  rw [an_bc o31, onm_bit, onm_bit]
  by_cases q : i = c
  · rw [q, fa_s, decide_eq_true rfl]
    show (decide (c < n) && false) = _
    simp
  · rw [fa_n q, decide_eq_false (show ¬ c = i from fun z => q z.symm)]
    simp
theorem onm_tog {f : Nat → CT} {n c : Nat} (hc : c < n) : onm (fa f c (wn (f c) (!(f c).2.2.2))) n = onm f n ^^^ 2 ^ c := by
  apply Nat.eq_of_testBit_eq
  intro i
  rw [Nat.testBit_xor, onm_bit, onm_bit, Nat.testBit_two_pow]
  by_cases q : i = c
  · rw [q, fa_s, decide_eq_true rfl, decide_eq_true hc]
    show (true && !(f c).2.2.2) = _
    cases (f c).2.2.2 <;> rfl
  · rw [fa_n q, decide_eq_false (show ¬ c = i from fun z => q z.symm), Bool.xor_false]
theorem onm_on1 {f : Nat → CT} {n c : Nat} (hc : c < n) (h : (f c).2.2.2 = false) : onm f n ^^^ 2 ^ c = onm f n ||| 2 ^ c := by
  apply Nat.eq_of_testBit_eq
  intro i
  rw [Nat.testBit_xor, or_bit, onm_bit, Nat.testBit_two_pow]
  by_cases q : i = c
  · rw [q, h]; simp
  · rw [decide_eq_false (show ¬ c = i from fun z => q z.symm)]; simp
theorem onm_off1 {f : Nat → CT} {n c : Nat} (hn : n ≤ 10) (hc : c < n) (h : (f c).2.2.2 = true) : onm f n ^^^ 2 ^ c = an (onm f n) (2 ^ c) := by
  have o31 : onm f n < 2 ^ 31 := onm_k (by omega)
  apply Nat.eq_of_testBit_eq
  intro i
  rw [Nat.testBit_xor, an_bc o31, onm_bit, Nat.testBit_two_pow]
  by_cases q : i = c
  · rw [q, h, decide_eq_true hc]; simp
  · rw [decide_eq_false (show ¬ c = i from fun z => q z.symm)]; simp
theorem onm_agf {f : Nat → CT} {n s : Nat} (hs : s < 2 ^ n) : onm (agf f s) n = s := by
  apply Nat.eq_of_testBit_eq
  intro i
  rw [onm_bit]
  show (decide (i < n) && s.testBit i) = s.testBit i
  by_cases q : i < n
  · rw [decide_eq_true q]; rfl
  · rw [decide_eq_false q, bit_hi hs (by omega)]; rfl

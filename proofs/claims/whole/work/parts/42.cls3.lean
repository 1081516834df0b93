/-! ===== the class: a state of conditions ===== -/
/-- old cells hold what they held (but for the joint's numbers) -/
def keep (S S1 : PS) : Prop := EX S S1 ∧ ∀ a, a ∈ PL S → (∀ i, fI S1 i a = fI S i a) ∧ (∀ i, fR S1 i a = fR S i a) ∧ aN S1 a = aN S a ∧ aI S1 a = aI S a ∧ aR S1 a = aR S a
theorem keep.rf {S : PS} : keep S S := ⟨EX.rf, fun _ _ => ⟨fun _ => rfl, fun _ => rfl, rfl, rfl, rfl⟩⟩
theorem EX.m {S S1 : PS} (h : EX S S1) {a : Nat} (ha : a ∈ PL S) : a ∈ PL S1 := (h a (PK S a) ⟨ha, rfl⟩).1
theorem keep.tr {S S1 S2 : PS} (h : keep S S1) (g : keep S1 S2) : keep S S2 := ⟨h.1.tr g.1, fun a ha => by
  obtain ⟨a1, a2, a3, a4, a5⟩ := h.2 a ha
  obtain ⟨b1, b2, b3, b4, b5⟩ := g.2 a (h.1.m ha)
  exact ⟨fun i => (b1 i).trans (a1 i), fun i => (b2 i).trans (a2 i), b3.trans a3, b4.trans a4, b5.trans a5⟩⟩
theorem scj.k {S S1 : PS} (c : scj S S1) : keep S S1 := by
  obtain ⟨e1, e2, e3, e4, e5, e6, e7⟩ := c
  refine ⟨fun a k q => by unfold vd at *; rw [e1, e2]; exact q, fun a _ => ⟨fun i => by rw [e3], fun i => by rw [e4], by rw [e5], by rw [e6], by rw [e7]⟩⟩
theorem CD.kp {S S1 : PS} {c : Nat} {y : CT} (h : CD S c y) (k : keep S S1) : CD S1 c y := by
  obtain ⟨v, e0, e1, e2, e3, e4⟩ := h
  have f := (k.2 c v.1).1
  exact ⟨k.1 c 0 v, (f 0).trans e0, (f 1).trans e1, (f 2).trans e2, (f 3).trans e3, (f 4).trans e4⟩
/-- a state: its object, its row of conditions, its row of partners -/
abbrev TR : Type := Nat × Nat × Nat
def SR (S : PS) (t : TR) : Prop := vd S t.1 3 ∧ (∃ bl, fR S 48 t.1 = some bl ∧ vd S bl 0) ∧ fR S 49 t.1 = some t.2.1 ∧ fR S 50 t.1 = some t.2.2 ∧ vd S t.2.1 7 ∧ vd S t.2.2 6 ∧ aN S t.2.1 = 10 ∧ aN S t.2.2 = 10 ∧ ∀ k c, k < 10 → aR S t.2.1 k = some c → vd S c 0
def pmk (x : CS) (k : Nat) : Nat := if k < x.1 then msk (fun d => ag (x.2 k) (x.2 d)) x.1 else 0
def SV (S : PS) (t : TR) (x : CS) : Prop := SR S t ∧ fI S 51 t.1 = nI x.1 ∧ fI S 52 t.1 = nI (onm x.2 x.1) ∧ (∀ k, k < x.1 → ∃ c, aR S t.2.1 k = some c ∧ CD S c (x.2 k)) ∧ ∀ k, k < 10 → aI S t.2.2 k = nI (pmk x k)
/-- the same without the switches and the partners -/
def SC (S : PS) (t : TR) (x : CS) : Prop := SR S t ∧ fI S 51 t.1 = nI x.1 ∧ ∀ k, k < x.1 → ∃ c, aR S t.2.1 k = some c ∧ CD S c (x.2 k)
theorem SV.sc {S : PS} {t : TR} {x : CS} (h : SV S t x) : SC S t x := ⟨h.1, h.2.1, h.2.2.2.1⟩
theorem SR.kp {S S1 : PS} {t : TR} (h : SR S t) (k : keep S S1) : SR S1 t := by
  obtain ⟨v, ⟨bl, b1, b2⟩, e1, e2, v1, v2, n1, n2, r⟩ := h
  obtain ⟨p1, p2, p3, p4, p5⟩ := k.2 _ v1.1
  obtain ⟨q1, q2, q3, q4, q5⟩ := k.2 _ v2.1
  obtain ⟨r1, r2, r3, r4, r5⟩ := k.2 _ v.1
  exact ⟨k.1 _ _ v, ⟨bl, (r2 48).trans b1, k.1 _ _ b2⟩, (r2 49).trans e1, (r2 50).trans e2, k.1 _ _ v1, k.1 _ _ v2, p3.trans n1, q3.trans n2, fun j c hj hc => by rw [p5] at hc; exact k.1 _ _ (r j c hj hc)⟩
theorem SV.kp {S S1 : PS} {t : TR} {x : CS} (h : SV S t x) (k : keep S S1) : SV S1 t x := by
  obtain ⟨R, e1, e2, c, m⟩ := h
  obtain ⟨r1, r2, r3, r4, r5⟩ := k.2 _ R.1.1
  obtain ⟨p1, p2, p3, p4, p5⟩ := k.2 _ R.2.2.2.2.1.1
  obtain ⟨q1, q2, q3, q4, q5⟩ := k.2 _ R.2.2.2.2.2.1.1
  exact ⟨R.kp k, (r1 51).trans e1, (r1 52).trans e2, fun j hj => by
    obtain ⟨d, d1, d2⟩ := c j hj
    exact ⟨d, by rw [p5]; exact d1, d2.kp k⟩, fun j hj => by rw [q4]; exact m j hj⟩
theorem nneg {k : Nat} (h : k < 2 ^ 31) : ¬ nI k < 0 := nlt (b := 0) (Nat.zero_le _) h
theorem x_at {S : PS} {t : TR} (H : SR S t) {k : Nat} (hk : k < 2 ^ 31) : ∃ c, f_X3_at S t.1 (nI k) = some c ∧ vd S c 0 ∧ (k < 10 → ∀ d, aR S t.2.1 k = some d → c = d) := by
  obtain ⟨v, ⟨bl, b1, b2⟩, e1, e2, v1, v2, n1, n2, r⟩ := H
  unfold f_X3_at f_X3_at_B22
  rw [if_neg (nneg hk), rq_e e1 v1, rq_e b1 b2, n1]
  by_cases q : k < 10
  · rw [if_neg (nle q (by decide)), rq_e e1 v1, n1, ck_t (nI_in q (by decide)), nI_clamp hk]
    cases hc : aR S t.2.1 k with
    | none => exact ⟨bl, rfl, b2, fun _ d hd => by cases hd⟩
    | some c =>
      have vc := r k c q hc
      refine ⟨c, ?_, vc, fun _ d hd => Option.some.inj hd⟩
      dsimp only [nl]
      rw [rq_e e1 v1, n1, ck_t (show ¬ (nI k < 0 ∨ 10 ≤ k) from fun h9 => h9.elim (nneg hk) (fun h8 => by omega)), rq_e hc vc]
  · rw [if_pos (nI_le (by omega) hk)]
    exact ⟨bl, rfl, b2, fun z => absurd z q⟩
theorem SC.get {S : PS} {t : TR} {x : CS} (H : SC S t x) (hx : x.1 ≤ 10) {k : Nat} (hk : k < x.1) : ∃ c, f_X3_at S t.1 (nI k) = some c ∧ CD S c (x.2 k) := by
  obtain ⟨c, c1, c2, c3⟩ := x_at H.1 (k := k) (by omega)
  obtain ⟨d, d1, d2⟩ := H.2.2 k hk
  rw [c3 (by omega) d d1] at c1
  exact ⟨d, c1, d2⟩
theorem SV.get {S : PS} {t : TR} {x : CS} (H : SV S t x) (hx : x.1 ≤ 10) {k : Nat} (hk : k < x.1) : ∃ c, f_X3_at S t.1 (nI k) = some c ∧ CD S c (x.2 k) := H.sc.get hx hk
theorem SV.pat {S : PS} {t : TR} {x : CS} (H : SV S t x) {k : Nat} (hk : k < 10) : f_X3_partnersAt S t.1 (nI k) = some (nI (pmk x k)) := by
  obtain ⟨⟨v, -, e1, e2, v1, v2, n1, n2, r⟩, h51, h52, c, m⟩ := H
  unfold f_X3_partnersAt f_X3_partnersAt_B22 f_X3_partnersAt_B23
  rw [if_neg (nneg (by omega)), rq_e e2 v2, n2, if_neg (nle hk (by decide)), rq_e e2 v2, n2, ck_t (nI_in hk (by decide)), nI_clamp (by omega), m k hk]
theorem SV.has {S : PS} {t : TR} {x : CS} (H : SV S t x) (c : Int32) : f_X3_has S t.1 c = some (b2 (thI c x.1)) := by
  unfold f_X3_has f_X3_has_B16 f_X3_has_B17 thI
  rw [H.2.1]
  by_cases a : c < 0
  · rw [if_pos a, decide_eq_false (Int32.not_le.mpr a)]; exact ckb0
  · rw [if_neg a, decide_eq_true (Int32.not_lt.mp a)]
    by_cases b : nI x.1 ≤ c
    · rw [if_pos b, decide_eq_false (Int32.not_lt.mpr b)]; exact ckb0
    · rw [if_neg b, decide_eq_true (Int32.not_le.mp b)]; exact ckb1
theorem x_bit {k : Nat} (h : k < 31) : f_X4_bit (nI k) = some (nI (2 ^ k)) := by
  unfold f_X4_bit
  rw [n_shl h]
theorem thI_t {k n : Nat} (h : k < n) (hn : n < 2 ^ 31) : thI (nI k) n = true := by
  unfold thI
  rw [decide_eq_true (show (0 : Int32) ≤ nI k from Int32.not_lt.mp (nneg (by omega))), decide_eq_true (nI_lt h hn)]
  rfl
theorem SV.isOn {S : PS} {t : TR} {x : CS} (H : SV S t x) (hx : x.1 ≤ 10) {k : Nat} (hk : k < x.1) : f_X3_isOn S t.1 (nI k) = some (b2 (x.2 k).2.2.2) := by
  unfold f_X3_isOn f_X3_isOn_B24 f_X3_isOn_B25
  rw [H.has, bd_s, thI_t hk (by omega), b2_t, if_neg n10, x_bit (by omega), bd_s, H.2.2.1]
  have e := onm_bit x.2 x.1 k
  rw [decide_eq_true hk, Bool.true_and] at e
  by_cases q : (x.2 k).2.2.2 = true
  · rw [if_neg (fun z => by rw [n_ab (by omega), e, q] at z; cases z), q]; exact ckb1
  · rw [if_pos (by rw [n_ab (by omega), e]; exact Bool.not_eq_true _ |>.mp q), Bool.not_eq_true _ |>.mp q]; exact ckb0
theorem SC.pof {S : PS} {t : TR} {x : CS} (H : SC S t x) (hx : x.1 ≤ 10) (hg : ∀ c, c < x.1 → gd (x.2 c)) {c : Nat} {y : CT} (hc : CD S c y) (gy : gd y) : f_X3_partnersOf S t.1 c = some (nI (msk (fun d => ag y (x.2 d)) x.1)) := by
  unfold f_X3_partnersOf
  refine lp_asc (L := fun n d => f_X3_partnersOf_L4 S (f_X3_partnersOf_B37 S) n t.1 c (nI (msk (fun d => ag y (x.2 d)) d)) (nI d)) (e := x.1) (fun n => ?_) (fun n d hd => ?_) FU 0 (by omega) (by unfold FU; omega)
  · show f_X3_partnersOf_L4s S (f_X3_partnersOf_L4 S (f_X3_partnersOf_B37 S) n) (f_X3_partnersOf_B37 S) t.1 c (nI (msk (fun d => ag y (x.2 d)) x.1)) (nI x.1) = _
    unfold f_X3_partnersOf_L4s f_X3_partnersOf_B37
    rw [H.2.1, if_pos (Int32.le_refl _)]
  · show f_X3_partnersOf_L4s S (f_X3_partnersOf_L4 S (f_X3_partnersOf_B37 S) n) (f_X3_partnersOf_B37 S) t.1 c (nI (msk (fun d => ag y (x.2 d)) d)) (nI d) = f_X3_partnersOf_L4 S (f_X3_partnersOf_B37 S) n t.1 c (nI (msk (fun d => ag y (x.2 d)) d ||| (if ag y (x.2 d) = true then 2 ^ d else 0))) (nI (d + 1))
    obtain ⟨e, e1, e2⟩ := H.get hx hd
    unfold f_X3_partnersOf_L4s f_X3_partnersOf_B31
    rw [H.2.1, if_neg (nle hd (by omega)), e1, bd_s, x_partner hc e2 gy (hg d hd), bd_s, nI_1]
    cases ag y (x.2 d)
    · rw [b2_f, if_pos rfl, if_neg (by decide), Nat.or_zero]
    · rw [b2_t, if_neg n10, x_bit (by omega), bd_s, n_or, if_pos rfl]
theorem SV.voids {S : PS} {t : TR} {x : CS} (H : SV S t x) (hx : x.1 ≤ 10) (hg : ∀ c, c < x.1 → gd (x.2 c)) : f_X3_voidOnes S t.1 = some (nI (ct (fun c => vo (x.2 c)) x.1)) := by
  unfold f_X3_voidOnes
  refine lp_asc (L := fun n d => f_X3_voidOnes_L4 S (f_X3_voidOnes_B32 S) n t.1 (nI (ct (fun c => vo (x.2 c)) d)) (nI d)) (e := x.1) (fun n => ?_) (fun n d hd => ?_) FU 0 (by omega) (by unfold FU; omega)
  · show f_X3_voidOnes_L4s S (f_X3_voidOnes_L4 S (f_X3_voidOnes_B32 S) n) (f_X3_voidOnes_B32 S) t.1 (nI (ct (fun c => vo (x.2 c)) x.1)) (nI x.1) = _
    unfold f_X3_voidOnes_L4s f_X3_voidOnes_B32
    rw [H.2.1, if_pos (Int32.le_refl _)]
  · show f_X3_voidOnes_L4s S (f_X3_voidOnes_L4 S (f_X3_voidOnes_B32 S) n) (f_X3_voidOnes_B32 S) t.1 (nI (ct (fun c => vo (x.2 c)) d)) (nI d) = f_X3_voidOnes_L4 S (f_X3_voidOnes_B32 S) n t.1 (nI (ct (fun c => vo (x.2 c)) (d + 1))) (nI (d + 1))
    obtain ⟨e, e1, e2⟩ := H.get hx hd
    unfold f_X3_voidOnes_L4s f_X3_voidOnes_B26
    rw [H.2.1, if_neg (nle hd (by omega)), e1, bd_s, e2.void (hg d hd), bd_s, nI_1, nI_1a]
    cases hv : vo (x.2 d)
    · rw [b2_f, if_pos rfl, ct_n hv]
    · rw [b2_t, if_neg n10, ct_s hv]
theorem pmk_bit {x : CS} {k i : Nat} (hk : k < x.1) : (pmk x k).testBit i = (decide (i < x.1) && ag (x.2 k) (x.2 i)) := by
  unfold pmk
  rw [if_pos hk, msk_bit]
theorem pmk_lt {x : CS} {k : Nat} : pmk x k < 2 ^ x.1 := by
  unfold pmk
  split
  · exact msk_lt _ _
  · exact Nat.two_pow_pos _
theorem bt_lt {s n i : Nat} (hs : s < 2 ^ n) (b : s.testBit i = true) : i < n := by
  rcases Nat.lt_or_ge i n with q | q
  · exact q
  · rw [bit_hi hs q] at b; cases b
theorem an_0 {a b : Nat} (ha : a < 2 ^ 31) : nI (an a b) = 0 ↔ ∀ i, a.testBit i = true → b.testBit i = true := by
  have h1 := an_le a b
  rw [nI_n0 (by omega)]
  constructor
  · intro h i hi
    have := an_bit (b := b) (i := i) ha
    rw [h, Nat.zero_testBit, hi, Bool.true_and] at this
    cases q : b.testBit i
    · rw [q] at this; cases this
    · rfl
  · intro h
    apply Nat.eq_of_testBit_eq
    intro i
    rw [an_bit ha, Nat.zero_testBit]
    cases q : a.testBit i
    · rfl
    · rw [h i q]; rfl
theorem SV.poss {S : PS} {t : TR} {x : CS} (H : SV S t x) (hx : x.1 ≤ 10) {s : Nat} (hs : s < 2 ^ x.1) : f_X3_arePossible S t.1 (nI s) = some (b2 (ps s x.2)) := by
  have hs31 : s < 2 ^ 31 := ns (f := x.2) hs (by omega)
  have key : ∀ n k, x.1 < n + k → k ≤ x.1 → (∀ i d, i < k → s.testBit i = true → s.testBit d = true → ag (x.2 i) (x.2 d) = true) → f_X3_arePossible_L2 S (f_X3_arePossible_B39 S) (f_X3_arePossible_B31 S) n t.1 (nI s) (nI k) = some (b2 (ps s x.2)) := by
    intro n
    induction n with
    | zero => intro k h1 h2; omega
    | succ n ih =>
      intro k h1 h2 h3
      show f_X3_arePossible_L2s S (f_X3_arePossible_L2 S (f_X3_arePossible_B39 S) (f_X3_arePossible_B31 S) n) (f_X3_arePossible_B39 S) (f_X3_arePossible_B31 S) t.1 (nI s) (nI k) = _
      unfold f_X3_arePossible_L2s
      rw [H.2.1]
      rcases Nat.eq_or_lt_of_le h2 with q | q
      · rw [if_pos (by rw [q]; exact Int32.le_refl _)]
        have : ps s x.2 = true := ps_iff.mpr (fun c d _ _ b1 b2 => h3 c d (by rw [q]; exact bt_lt hs b1) b1 b2)
        rw [this]; rfl
      · unfold f_X3_arePossible_B33
        rw [if_neg (nle q (by omega)), x_bit (by omega), bd_s, H.pat (by omega), bd_s, n_an, nI_1]
        cases hb : s.testBit k
        · rw [if_pos ((n_ab (by omega)).mpr hb)]
          exact ih (k + 1) (by omega) (by omega) (fun i d hi b1 b2 => by
            rcases Nat.lt_or_ge i k with r | r
            · exact h3 i d r b1 b2
            · rw [show i = k by omega, hb] at b1; cases b1)
        · rw [if_neg (fun z => by rw [n_ab (by omega), hb] at z; cases z)]
          by_cases r : ∀ d, s.testBit d = true → ag (x.2 k) (x.2 d) = true
          · rw [if_pos ((an_0 hs31).mpr (fun i hi => by rw [pmk_bit q, decide_eq_true (bt_lt hs hi), r i hi]; rfl))]
            exact ih (k + 1) (by omega) (by omega) (fun i d hi b1 b2 => by
              rcases Nat.lt_or_ge i k with w | w
              · exact h3 i d w b1 b2
              · rw [show i = k by omega]; exact r d b2)
          · rw [if_neg (fun z => r (fun d hd => by
              have := (an_0 hs31).mp z d hd
              rw [pmk_bit q, Bool.and_eq_true] at this
              exact this.2))]
            have : ps s x.2 = false := by
              cases hp : ps s x.2
              · rfl
              · exact absurd (fun d hd => ps_iff.mp hp k d (by omega) (by have := bt_lt hs hd; omega) hb hd) r
            rw [this]; rfl
  exact key FU 0 (by unfold FU; omega) (by omega) (fun i d hi => by omega)
/-- widened by one more -/
def wd1 (n : Nat) (y : CT) : Nat := if (!vo y && decide (n ≤ LIM)) = true then Nat.lcm n (bm y) else n
theorem x_widened {S : PS} {c n : Nat} {y : CT} (hc : CD S c y) (g : gd y) (h0 : 0 < n) (hn : n ≤ LIM * 999) : f_X4_widened S (lN n) c = some (lN (wd1 n y)) := by
  have bp := bm_pos g
  have bl := bm_le g
  unfold LIM at hn
  unfold f_X4_widened f_X4_widened_B15 wd1
  rw [hc.void g, bd_s]
  cases hv : vo y
  · rw [b2_f, if_pos rfl]
    by_cases q : n ≤ LIM
    · have q1 := q
      unfold LIM at q1
      have gp : 0 < Nat.gcd n (bm y) := Nat.gcd_pos_of_pos_left _ h0
      have gl : Nat.gcd n (bm y) ≤ bm y := Nat.le_of_dvd bp (Nat.gcd_dvd_right _ _)
      rw [if_pos (by rw [limL, pk_lLE (by omega) (by decide)]; exact q), hc.fbm hv, nI_l (by omega), x_cd (k := 10) (by omega) (by omega) (by omega) (by decide), bd_s, x_share (by omega) gp (by omega), bd_s, lN_mul, div_lcm, decide_eq_true q]
      rfl
    · rw [if_neg (fun z => by rw [limL, pk_lLE (by omega) (by decide)] at z; exact q z), decide_eq_false q]
      rfl
  · rw [b2_t, if_neg n10]; rfl
theorem SV.span {S : PS} {t : TR} {x : CS} (H : SV S t x) (hx : x.1 ≤ 10) (hg : ∀ c, c < x.1 → gd (x.2 c)) {s : Nat} (hs : s < 2 ^ x.1) : f_X3_span S t.1 (nI s) = some (lN (wd s x.2 x.1)) := by
  unfold f_X3_span
  have W := fun n => wd_sp (s := s) (f := x.2) n (fun c _ b => hg c (bt_lt hs b))
  refine lp_asc (L := fun n d => f_X3_span_L5 S (f_X3_span_B41 S) n t.1 (nI s) (lN (wd s x.2 d)) (nI d)) (e := x.1) (fun n => ?_) (fun n d hd => ?_) FU 0 (by omega) (by unfold FU; omega)
  · show f_X3_span_L5s S (f_X3_span_L5 S (f_X3_span_B41 S) n) (f_X3_span_B41 S) t.1 (nI s) (lN (wd s x.2 x.1)) (nI x.1) = _
    unfold f_X3_span_L5s f_X3_span_B41
    rw [H.2.1, if_pos (Int32.le_refl _)]
  · show f_X3_span_L5s S (f_X3_span_L5 S (f_X3_span_B41 S) n) (f_X3_span_B41 S) t.1 (nI s) (lN (wd s x.2 d)) (nI d) = f_X3_span_L5 S (f_X3_span_B41 S) n t.1 (nI s) (lN (if (s.testBit d && (!vo (x.2 d) && decide (wd s x.2 d ≤ LIM))) = true then Nat.lcm (wd s x.2 d) (bm (x.2 d)) else wd s x.2 d)) (nI (d + 1))
    obtain ⟨e, e1, e2⟩ := H.get hx hd
    obtain ⟨w1, -, w2, -⟩ := W d
    unfold f_X3_span_L5s f_X3_span_B35
    rw [H.2.1, if_neg (nle hd (by omega)), x_bit (by omega), bd_s, e1, bd_s, x_widened e2 (hg d hd) w1 w2, bd_s, nI_1]
    cases hb : s.testBit d
    · rw [if_pos ((n_ab (by omega)).mpr hb), Bool.false_and, if_neg (by decide)]
    · rw [if_neg (fun z => by rw [n_ab (by omega), hb] at z; cases z), Bool.true_and]
      rfl
/-- quarrels, each of them once -/
def ql (f : Nat → CT) : Nat → Nat := sm (fun k => if (f k).2.2.2 = true then ct (fun d => (f d).2.2.2 && !ag (f k) (f d)) k else 0)
theorem tot_low {p : Nat → Nat → Bool} (hs : ∀ c d, p c d = p d c) : ∀ n, sm (fun c => ct (fun d => !decide (d = c) && p c d) n) n = 2 * sm (fun k => ct (p k) k) n
  | 0 => rfl
  | n + 1 => by
    have ih := tot_low hs n
    have e1 : ∀ m, m ≤ n → sm (fun c => ct (fun d => !decide (d = c) && p c d) (n + 1)) m = sm (fun c => ct (fun d => !decide (d = c) && p c d) n) m + ct (fun c => p c n) m := by
      intro m
      induction m with
      | zero => intro _; rfl
      | succ m ihm =>
        intro hm
        have := ihm (by omega)
        show sm (fun c => ct (fun d => !decide (d = c) && p c d) (n + 1)) m + (ct (fun d => !decide (d = m) && p m d) n + (if (!decide (n = m) && p m n) = true then 1 else 0)) = (sm (fun c => ct (fun d => !decide (d = c) && p c d) n) m + ct (fun d => !decide (d = m) && p m d) n) + (ct (fun c => p c n) m + (if p m n = true then 1 else 0))
        rw [decide_eq_false (show ¬ n = m by omega), Bool.not_false, Bool.true_and]
        omega
    show sm (fun c => ct (fun d => !decide (d = c) && p c d) (n + 1)) n + (ct (fun d => !decide (d = n) && p n d) n + (if (!decide (n = n) && p n n) = true then 1 else 0)) = 2 * (sm (fun k => ct (p k) k) n + ct (p n) n)
    rw [e1 n (Nat.le_refl _), ih, decide_eq_true (show n = n from rfl)]
    have e2 : ct (fun d => !decide (d = n) && p n d) n = ct (p n) n := ct_cg (fun i hi => by rw [decide_eq_false (show ¬ i = n by omega)]; rfl)
    have e3 : ct (fun c => p c n) n = ct (p n) n := ct_cg (fun i _ => hs i n)
    rw [e2, e3]
    simp
    omega
theorem sm_cg {g g' : Nat → Nat} : ∀ n, (∀ i, i < n → g i = g' i) → sm g n = sm g' n
  | 0, _ => rfl
  | n + 1, h => by
    show sm g n + g n = sm g' n + g' n
    rw [sm_cg n (fun i hi => h i (by omega)), h n (by omega)]
theorem ct_f {n : Nat} {p : Nat → Bool} (h : ∀ i, i < n → p i = false) : ct p n = 0 := by
  rw [ct_tail (n := 0) (Nat.zero_le _) (fun i _ hi => h i hi)]; rfl
theorem qq_ql (f : Nat → CT) (n : Nat) : qq f n n / 2 = ql f n := by
  have e := tot_low (p := fun c d => (f c).2.2.2 && ((f d).2.2.2 && !ag (f c) (f d))) (fun c d => by
    show ((f c).2.2.2 && ((f d).2.2.2 && !ag (f c) (f d))) = ((f d).2.2.2 && ((f c).2.2.2 && !ag (f d) (f c)))
    rw [ag_sy (f d) (f c)]
    cases (f c).2.2.2 <;> cases (f d).2.2.2 <;> rfl) n
  have e1 : qq f n n = sm (fun c => ct (fun d => !decide (d = c) && ((f c).2.2.2 && ((f d).2.2.2 && !ag (f c) (f d)))) n) n := sm_cg n (fun i hi => by
    show (if (f i).2.2.2 = true then agn f n i else 0) = _
    cases ho : (f i).2.2.2
    · rw [if_neg (by decide)]
      exact (ct_f (fun j hj => by simp)).symm
    · rw [if_pos rfl]
      exact ct_cg (fun j hj => by simp))
  have e2 : ql f n = sm (fun k => ct (fun d => (f k).2.2.2 && ((f d).2.2.2 && !ag (f k) (f d))) k) n := sm_cg n (fun i hi => by
    show (if (f i).2.2.2 = true then _ else 0) = _
    cases ho : (f i).2.2.2
    · rw [if_neg (by decide)]
      exact (ct_f (fun j hj => by simp)).symm
    · rw [if_pos rfl]
      exact ct_cg (fun j hj => by simp))
  rw [e1, e2, e]
  omega
theorem pc_ct {a n : Nat} {p : Nat → Bool} (hn : n ≤ 11) (h : ∀ i, i < 11 → a.testBit i = (decide (i < n) && p i)) : pc a = ct p n := by
  unfold pc
  rw [ct_tail hn (fun i h1 h2 => by rw [h i h2, decide_eq_false (by omega)]; rfl)]
  exact ct_cg (fun i hi => by rw [h i (by omega), decide_eq_true hi]; rfl)
theorem SV.quarrels {S : PS} {t : TR} {x : CS} (H : SV S t x) (hx : x.1 ≤ 10) : f_X3_contradictions S t.1 (nI (onm x.2 x.1)) = some (nI (qq x.2 x.1 x.1 / 2)) := by
  rw [qq_ql]
  have ol := onm_lt x.2 x.1
  have ol2 : onm x.2 x.1 < 2 ^ 10 := Nat.lt_of_lt_of_le ol (pw hx)
  unfold f_X3_contradictions
  refine lp_asc (L := fun n d => f_X3_contradictions_L4 S (f_X3_contradictions_B53 S) n t.1 (nI (onm x.2 x.1)) (nI (ql x.2 d)) (nI d)) (e := x.1) (fun n => ?_) (fun n d hd => ?_) FU 0 (by omega) (by unfold FU; omega)
  · show f_X3_contradictions_L4s S (f_X3_contradictions_L4 S (f_X3_contradictions_B53 S) n) (f_X3_contradictions_B53 S) t.1 (nI (onm x.2 x.1)) (nI (ql x.2 x.1)) (nI x.1) = _
    unfold f_X3_contradictions_L4s f_X3_contradictions_B53
    rw [H.2.1, if_pos (Int32.le_refl _)]
  · show f_X3_contradictions_L4s S (f_X3_contradictions_L4 S (f_X3_contradictions_B53 S) n) (f_X3_contradictions_B53 S) t.1 (nI (onm x.2 x.1)) (nI (ql x.2 d)) (nI d) = f_X3_contradictions_L4 S (f_X3_contradictions_B53 S) n t.1 (nI (onm x.2 x.1)) (nI (ql x.2 d + (if (x.2 d).2.2.2 = true then ct (fun e => (x.2 e).2.2.2 && !ag (x.2 d) (x.2 e)) d else 0))) (nI (d + 1))
    have p2 : 0 < (2 : Nat) ^ d := Nat.two_pow_pos d
    have e1 : nI (2 ^ d) - (1 : Int32) = nI (2 ^ d - 1) := pk_sub (b := 1) (by omega)
    have ob := onm_bit x.2 x.1 d
    rw [decide_eq_true hd, Bool.true_and] at ob
    have al : an (onm x.2 x.1 &&& (2 ^ d - 1)) (pmk x d) < 2048 := by
      have h1 := an_le (onm x.2 x.1 &&& (2 ^ d - 1)) (pmk x d)
      have h2 : onm x.2 x.1 &&& (2 ^ d - 1) ≤ onm x.2 x.1 := Nat.and_le_left
      omega
    unfold f_X3_contradictions_L4s f_X3_contradictions_B47
    rw [H.2.1, if_neg (nle hd (by omega)), x_bit (by omega), bd_s, bd_s, H.pat (by omega), bd_s, e1, n_and, n_and, n_an, x_bits al, bd_s, nI_add, nI_1]
    cases ho : (x.2 d).2.2.2
    · rw [if_pos (by rw [← n_and, n_ab (by omega), ob, ho]), if_neg (by decide)]
      rfl
    · rw [if_neg (fun z => by rw [← n_and, n_ab (by omega), ob, ho] at z; cases z), if_pos rfl]
      have hh : onm x.2 x.1 &&& (2 ^ d - 1) < 2 ^ 31 := Nat.lt_of_le_of_lt Nat.and_le_left (by omega)
      rw [pc_ct (n := d) (p := fun e => (x.2 e).2.2.2 && !ag (x.2 d) (x.2 e)) (by omega) (fun i hi => by
        rw [an_bit hh, Nat.testBit_and, onm_bit, Nat.testBit_two_pow_sub_one, pmk_bit hd]
        by_cases q : i < d
        · rw [decide_eq_true q, decide_eq_true (show i < x.1 by omega)]
          cases (x.2 i).2.2.2 <;> cases ag (x.2 d) (x.2 i) <;> rfl
        · rw [decide_eq_false q]
          simp)]

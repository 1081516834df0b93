/-! ===== the class: an object, its reads ===== -/
def XR (S : PS) (x : Nat) (T : Nat → TR) (sa bu sc jo : Nat) : Prop := vd S x 4 ∧ fR S 64 x = some (T 6).1 ∧ fR S 65 x = some sa ∧ fR S 68 x = some bu ∧ fR S 70 x = some sc ∧ fR S 71 x = some jo ∧ vd S sa 8 ∧ aN S sa = 6 ∧ (∀ q, q < 6 → aR S sa q = some (T q).1) ∧ vd S bu 6 ∧ aN S bu = 60 ∧ vd S sc 2 ∧ vd S jo 1 ∧ (∀ q, q ≤ 6 → SR S (T q)) ∧ (∀ p q, p ≤ 6 → q ≤ 6 → p ≠ q → (T p).1 ≠ (T q).1 ∧ (T p).2.1 ≠ (T q).2.1 ∧ (T p).2.2 ≠ (T q).2.2) ∧ ∀ q, q ≤ 6 → (T q).2.2 ≠ bu
def XX (S : PS) (x : Nat) (T : Nat → TR) (sa bu sc jo : Nat) (o : OS) : Prop := XR S x T sa bu sc jo ∧ SV S (T 6) o.1 ∧ (∃ od, od < 6 ∧ fI S 66 x = nI od ∧ ∀ q, q < o.2.1 → SV S (T ((od + q) % 6)) (o.2.2.1 q)) ∧ fI S 67 x = nI o.2.1 ∧ fI S 69 x = nI o.2.2.2.1 ∧ ∀ j, j < o.2.2.2.1 → aI S bu j = nI (o.2.2.2.2 j)
theorem XR.kp {S S1 : PS} {x : Nat} {T : Nat → TR} {sa bu sc jo : Nat} (h : XR S x T sa bu sc jo) (k : keep S S1) : XR S1 x T sa bu sc jo := by
  obtain ⟨v, r1, r2, r3, r4, r5, v2, n2, e2, v3, n3, v4, v5, c, d, b⟩ := h
  obtain ⟨k1, k2⟩ := k
  obtain ⟨p1, p2, p3, p4, p5⟩ := k2 _ v.1
  obtain ⟨q1, q2, q3, q4, q5⟩ := k2 _ v2.1
  obtain ⟨s1, s2, s3, s4, s5⟩ := k2 _ v3.1
  exact ⟨k1 _ _ v, (p2 _).trans r1, (p2 _).trans r2, (p2 _).trans r3, (p2 _).trans r4, (p2 _).trans r5, k1 _ _ v2, q3.trans n2, fun q hq => by rw [q5]; exact e2 q hq, k1 _ _ v3, s3.trans n3, k1 _ _ v4, k1 _ _ v5, fun q hq => (c q hq).kp ⟨k1, k2⟩, d, b⟩
theorem XX.kp {S S1 : PS} {x : Nat} {T : Nat → TR} {sa bu sc jo : Nat} {o : OS} (h : XX S x T sa bu sc jo o) (k : keep S S1) : XX S1 x T sa bu sc jo o := by
  obtain ⟨R, V, ⟨od, d1, d2, d3⟩, f1, f2, f3⟩ := h
  have p := (k.2 _ R.1.1).1
  have s4 := (k.2 _ R.2.2.2.2.2.2.2.2.2.1.1).2.2.2.1
  exact ⟨R.kp k, V.kp k, ⟨od, d1, (p _).trans d2, fun q hq => (d3 q hq).kp k⟩, (p _).trans f1, (p _).trans f2, fun j hj => by rw [s4]; exact f3 j hj⟩
theorem rnw {S : PS} {x : Nat} {T : Nat → TR} {sa bu sc jo : Nat} (H : XR S x T sa bu sc jo) {α : Type} (e : Nat → Option α) : (rq (fR S 64 x) S 3 fun b => e b) = e (T 6).1 := rq_e H.2.1 (H.2.2.2.2.2.2.2.2.2.2.2.2.2.1 6 (Nat.le_refl _)).1
theorem rsa {S : PS} {x : Nat} {T : Nat → TR} {sa bu sc jo : Nat} (H : XR S x T sa bu sc jo) {α : Type} (e : Nat → Option α) : (rq (fR S 65 x) S 8 fun b => e b) = e sa := rq_e H.2.2.1 H.2.2.2.2.2.2.1
theorem rbu {S : PS} {x : Nat} {T : Nat → TR} {sa bu sc jo : Nat} (H : XR S x T sa bu sc jo) {α : Type} (e : Nat → Option α) : (rq (fR S 68 x) S 6 fun b => e b) = e bu := rq_e H.2.2.2.1 H.2.2.2.2.2.2.2.2.2.1
theorem rsc {S : PS} {x : Nat} {T : Nat → TR} {sa bu sc jo : Nat} (H : XR S x T sa bu sc jo) {α : Type} (e : Nat → Option α) : (rq (fR S 70 x) S 2 fun b => e b) = e sc := rq_e H.2.2.2.2.1 H.2.2.2.2.2.2.2.2.2.2.2.1
theorem rjo {S : PS} {x : Nat} {T : Nat → TR} {sa bu sc jo : Nat} (H : XR S x T sa bu sc jo) {α : Type} (e : Nat → Option α) : (rq (fR S 71 x) S 1 fun b => e b) = e jo := rq_e H.2.2.2.2.2.1 H.2.2.2.2.2.2.2.2.2.2.2.2.1
/-- the object and its conditions: what the reads need -/
def XQ (S : PS) (x : Nat) (T : Nat → TR) (sa bu sc jo : Nat) (y : CS) : Prop := XR S x T sa bu sc jo ∧ SV S (T 6) y ∧ y.1 ≤ 10 ∧ ∀ c, c < y.1 → gd (y.2 c)
theorem XX.q {S : PS} {x : Nat} {T : Nat → TR} {sa bu sc jo : Nat} {o : OS} (h : XX S x T sa bu sc jo o) (ho : OKs o) : XQ S x T sa bu sc jo o.1 := ⟨h.1, h.2.1, ho.1.1, ho.1.2.1⟩
theorem XQ.kp {S S1 : PS} {x : Nat} {T : Nat → TR} {sa bu sc jo : Nat} {y : CS} (h : XQ S x T sa bu sc jo y) (k : keep S S1) : XQ S1 x T sa bu sc jo y := ⟨h.1.kp k, h.2.1.kp k, h.2.2⟩
theorem gd_s {y : CS} (hg : ∀ c, c < y.1 → gd (y.2 c)) {s : Nat} (hs : s < 2 ^ y.1) : ∀ d, d < 11 → s.testBit d = true → gd (y.2 d) := fun d _ b => hg d (bt_lt hs b)
theorem x_join {S : PS} {x : Nat} {T : Nat → TR} {sa bu sc jo : Nat} {y : CS} (H : XQ S x T sa bu sc jo y) {s : Nat} (hs : s < 2 ^ y.1) (hp : ps s y.2 = true) (hN : NN s y.2 11 ≤ LIM) : ∃ S1, f_X4_join S x (nI s) = some (jo, S1) ∧ scj S S1 ∧ fL S1 16 jo = lN (NN s y.2 11) ∧ fL S1 17 jo = lN (RR s y.2) := by
  obtain ⟨R0, V0, hx, hg⟩ := H
  have hgs := gd_s hg hs
  have loop : ∀ n c S' R, y.1 + 1 ≤ n + c → c ≤ y.1 → scj S S' → fL S' 16 jo = lN (NN s y.2 c) → fL S' 17 jo = lN R → JI s y.2 c (NN s y.2 c) R → ∃ S1, f_X4_join_L9 f_X4_join_B50 n S' x (nI s) (nI c) = some (jo, S1) ∧ scj S S1 ∧ fL S1 16 jo = lN (NN s y.2 11) ∧ fL S1 17 jo = lN (RR s y.2) := by
    intro n
    induction n with
    | zero => intro c S' R h1 h2; omega
    | succ n ih =>
      intro c S' R h1 h2 cs e1 e2 J
      have RA := R0.kp cs.k
      have VA := V0.kp cs.k
      rw [show f_X4_join_L9 f_X4_join_B50 (n + 1) S' x (nI s) (nI c) = f_X4_join_L9s (f_X4_join_L9 f_X4_join_B50 n) f_X4_join_B50 S' x (nI s) (nI c) from rfl]
      unfold f_X4_join_L9s
      rw [rnw RA, VA.2.1]
      rcases Nat.eq_or_lt_of_le h2 with q | q
      · have jr := ji_RR (ji_tail (n := c) (by omega) (by rw [q]; exact hs) J)
        unfold f_X4_join_B50
        rw [if_pos (by rw [q]; exact Int32.le_refl _), rjo RA]
        exact ⟨S', rfl, cs, by rw [e1, jr.1], by rw [e2, jr.2]⟩
      · unfold f_X4_join_B44
        rw [if_neg (nle q (by omega)), x_bit (by omega), bd_s, nI_1]
        cases hb : s.testBit c
        · rw [if_pos ((n_ab (by omega)).mpr hb)]
          have K := ji_f hb J
          exact ih (c + 1) S' R (by omega) (by omega) cs (by rw [NN_f hb]; exact e1) e2 K
        · obtain ⟨cc, c1, c2⟩ := VA.get hx q
          have hv := ps_vo hp (by omega) hb
          have hl := NN_mono (s := s) (f := y.2) (n := c + 1) (m := 11) (by omega) hgs
          rw [NN_t hb] at hl
          obtain ⟨S1, R1, t1, t2, t3, t4, t5, t6, t7⟩ := x_take c2 (hg c q) hv e1 e2 J.2.1 (ji_sol hp J (by omega) hb hgs) (Nat.le_trans hl hN)
          rw [if_neg (fun z => by rw [n_ab (by omega), hb] at z; cases z), rjo RA, rnw RA, c1, bd_s, t1, bd_s]
          exact ih (c + 1) S1 R1 (by omega) (by omega) (cs.tr t2) (by rw [NN_t hb]; exact t3) t4 (ji_t hb J t5 t6 t7)
  unfold f_X4_join f_X1_clear
  rw [rjo R0, bd_s]
  exact loop FU 0 _ 0 (by unfold FU; omega) (by omega) (scj.L.tr scj.L) ((fL_ne (by decide)).trans fL_s) fL_s ⟨rfl, Nat.one_pos, fun d hd => by omega⟩
theorem RR_lt {y : CS} (hg : ∀ c, c < y.1 → gd (y.2 c)) {s : Nat} (hs : s < 2 ^ y.1) (hp : ps s y.2 = true) : RR s y.2 < NN s y.2 11 := (RR_spec hp (gd_s hg hs)).1
theorem x_joinedOf {S : PS} {x : Nat} {T : Nat → TR} {sa bu sc jo : Nat} {y : CS} (H : XQ S x T sa bu sc jo y) {s : Nat} (hs : s < 2 ^ y.1) (hN : ps s y.2 = true → NN s y.2 11 ≤ LIM) (w : Int32) : ∃ S1, f_X4_joinedOf S x (nI s) w = some (jb s y.2 w, S1) ∧ scj S S1 := by
  unfold f_X4_joinedOf f_X4_joinedOf_B36 jb
  rw [rnw H.1, H.2.1.poss H.2.2.1 hs, bd_s]
  cases hp : ps s y.2
  · exact ⟨S, by rw [b2_f, if_pos rfl, if_neg (by decide)], scj.rf⟩
  · obtain ⟨S1, e, cs, v1, v2⟩ := x_join H hs hp (hN hp)
    refine ⟨S1, ?_, cs⟩
    rw [b2_t, if_neg n10, e, bd_s, if_pos rfl]
    show (if w = 0 then some (fL S1 16 jo, S1) else some (fL S1 17 jo, S1)) = _
    by_cases q : w = 0
    · rw [if_pos q, if_pos q, v1]
    · rw [if_neg q, if_neg q, v2]
theorem x_isTold {S : PS} {x : Nat} {T : Nat → TR} {sa bu sc jo : Nat} {y : CS} (H : XQ S x T sa bu sc jo y) (hk : ok y.2 y.1) {c : Nat} (hc : c < y.1) : ∃ S1, f_X4_isTold S x (nI c) = some (b2 (td y.2 y.1 c), S1) ∧ scj S S1 := by
  obtain ⟨R0, V0, hx, hg⟩ := id H
  have hwl := wo_lt y.2 y.1 c
  have hoc : OKc y := ⟨hx, hg, hk⟩
  unfold f_X4_isTold f_X4_isTold_B60 f_X4_isTold_B61 td
  rw [rnw R0, x_bit (by omega), bd_s, rnw R0, V0.isOn hx hc, bd_s, V0.2.2.1, n_an]
  cases ho : (y.2 c).2.2.2
  · exact ⟨S, by rw [b2_f, if_pos rfl]; exact ckb0, scj.rf⟩
  · rw [b2_t, if_neg n10, rnw R0, V0.poss hx hwl, bd_s]
    unfold tl
    cases hp : ps (an (onm y.2 y.1) (2 ^ c)) y.2
    · exact ⟨S, by rw [b2_f, if_pos rfl]; exact ckb0, scj.rf⟩
    · obtain ⟨S1, e, cs, v1, v2⟩ := x_join H hwl hp (wo_N hoc c hp)
      have R1 := R0.kp cs.k
      have V1 := V0.kp cs.k
      obtain ⟨cc, c1, c2⟩ := V1.get hx hc
      refine ⟨S1, ?_, cs⟩
      rw [b2_t, if_neg n10, e, bd_s]
      show (rq (fR S1 64 x) S1 3 fun b21 => bd (f_X3_at S1 b21 (nI c)) fun t23 => bd (f_X1_tells S1 jo t23) fun t26 => if t26 = 0 then _ else _) = _
      rw [rnw R1, c1, bd_s, x_tells c2 (hg c hc) v1 v2 (RR_lt hg hwl hp) (wo_N hoc c hp), bd_s, Bool.true_and, Bool.true_and]
      generalize (!vo (y.2 c) && (decide (NN (an (onm y.2 y.1) (2 ^ c)) y.2 11 % bm (y.2 c) = 0) && decide (RR (an (onm y.2 y.1) (2 ^ c)) y.2 % bm (y.2 c) = br (y.2 c)))) = bb
      cases bb
      · rw [b2_f, if_pos rfl]; exact ckb0
      · rw [b2_t, if_neg n10]; exact ckb1
theorem x_toldOnes {S : PS} {x : Nat} {T : Nat → TR} {sa bu sc jo : Nat} {y : CS} (H : XQ S x T sa bu sc jo y) (hk : ok y.2 y.1) : ∃ S1, f_X4_toldOnes S x = some (nI (ct (td y.2 y.1) y.1), S1) ∧ scj S S1 := by
  have hx := H.2.2.1
  have loop : ∀ n c S', y.1 + 1 ≤ n + c → c ≤ y.1 → scj S S' → ∃ S1, f_X4_toldOnes_L4 f_X4_toldOnes_B32 n S' x (nI (ct (td y.2 y.1) c)) (nI c) = some (nI (ct (td y.2 y.1) y.1), S1) ∧ scj S S1 := by
    intro n
    induction n with
    | zero => intro c S' h1 h2; omega
    | succ n ih =>
      intro c S' h1 h2 cs
      have H' := H.kp cs.k
      rw [show f_X4_toldOnes_L4 f_X4_toldOnes_B32 (n + 1) S' x (nI (ct (td y.2 y.1) c)) (nI c) = f_X4_toldOnes_L4s (f_X4_toldOnes_L4 f_X4_toldOnes_B32 n) f_X4_toldOnes_B32 S' x (nI (ct (td y.2 y.1) c)) (nI c) from rfl]
      unfold f_X4_toldOnes_L4s f_X4_toldOnes_B26
      rw [rnw H'.1, H'.2.1.2.1]
      rcases Nat.eq_or_lt_of_le h2 with q | q
      · exact ⟨S', by rw [q, if_pos (Int32.le_refl _)]; rfl, cs⟩
      · obtain ⟨S1, e, c1⟩ := x_isTold H' hk q
        have I := ih (c + 1) S1 (by omega) (by omega) (cs.tr c1)
        rw [if_neg (nle q (by omega)), e, bd_s, nI_1, nI_1a]
        cases ht : td y.2 y.1 c
        · rw [ct_n ht] at I
          rw [b2_f, if_pos rfl]; exact I
        · rw [ct_s ht] at I
          rw [b2_t, if_neg n10]; exact I
  exact loop FU 0 S (by unfold FU; omega) (by omega) scj.rf
theorem x_most {S : PS} {x : Nat} {T : Nat → TR} {sa bu sc jo : Nat} {y : CS} (H : XQ S x T sa bu sc jo y) : f_X4_most S x = some (nI (mb y.2 (2 ^ y.1))) := by
  obtain ⟨R0, V0, hx, hg⟩ := H
  have h2 : (2 : Nat) ^ y.1 ≤ 2 ^ 10 := pw hx
  have hp : 0 < (2 : Nat) ^ y.1 := Nat.two_pow_pos _
  unfold f_X4_most
  have e1 : mb y.2 1 = 0 := by unfold mb; split <;> rfl
  have e2 : pc 0 = 0 := by decide
  have body := lp_asc (L := fun n d => f_X4_most_L6 S (f_X4_most_B54 S) n x (nI (mb y.2 d)) (nI (pc (mb y.2 d))) (nI d)) (e := 2 ^ y.1) (r := some (nI (mb y.2 (2 ^ y.1)))) (fun n => by
    show f_X4_most_L6s S (f_X4_most_L6 S (f_X4_most_B54 S) n) (f_X4_most_B54 S) x (nI (mb y.2 (2 ^ y.1))) (nI (pc (mb y.2 (2 ^ y.1)))) (nI (2 ^ y.1)) = _
    unfold f_X4_most_L6s f_X4_most_B54
    rw [rnw R0, V0.2.1, x_bit (by omega), bd_s, if_pos (Int32.le_refl _)]) (fun n d hd => by
    show f_X4_most_L6s S (f_X4_most_L6 S (f_X4_most_B54 S) n) (f_X4_most_B54 S) x (nI (mb y.2 d)) (nI (pc (mb y.2 d))) (nI d) = f_X4_most_L6 S (f_X4_most_B54 S) n x (nI (mb y.2 (d + 1))) (nI (pc (mb y.2 (d + 1)))) (nI (d + 1))
    have eq : mb y.2 (d + 1) = if (decide (pc (mb y.2 d) < pc d) && ps d y.2) = true then d else mb y.2 d := rfl
    have p1 := pc_le d
    have p2 := pc_le (mb y.2 d)
    unfold f_X4_most_L6s f_X4_most_B48
    rw [rnw R0, V0.2.1, x_bit (by omega), bd_s, if_neg (nle hd (by omega)), x_bits (by omega), bd_s, nI_1, eq]
    by_cases q : pc (mb y.2 d) < pc d
    · rw [if_neg (nle q (by omega)), rnw R0, V0.poss hx hd, bd_s, decide_eq_true q]
      cases ho : ps d y.2
      · rw [b2_f, if_pos rfl]; rfl
      · rw [b2_t, if_neg n10]; rfl
    · rw [if_pos (nI_le (by omega) (by omega)), decide_eq_false q]; rfl) FU 1 (by omega) (by unfold FU; omega)
  rw [e1, e2] at body
  exact body
theorem ag_self {x : CT} (h : vo x = false) : ag x x = true := by
  unfold ag
  rw [h, decide_eq_true rfl]
  rfl
theorem ag_v {x y : CT} (h : vo x = true) : ag x y = false := by
  unfold ag
  rw [h]
  rfl
theorem x_agn {y : CS} (hx : y.1 ≤ 10) {k : Nat} (hk : k < y.1) : pc (an (onm y.2 y.1) (pmk y k)) = if vo (y.2 k) = true then pc (onm y.2 y.1) else agn y.2 y.1 k := by
  have o31 : onm y.2 y.1 < 2 ^ 31 := onm_k (by omega)
  cases hv : vo (y.2 k)
  · rw [if_neg (by decide)]
    refine pc_ct (by omega) (fun i hi => ?_)
    rw [an_bit o31, onm_bit, pmk_bit hk]
    by_cases q : i < y.1
    · rw [decide_eq_true q]
      by_cases r : i = k
      · rw [r, ag_self hv, decide_eq_true rfl]
        simp
      · rw [decide_eq_false r]
        cases (y.2 i).2.2.2 <;> cases ag (y.2 k) (y.2 i) <;> rfl
    · rw [decide_eq_false q]; rfl
  · rw [if_pos rfl]
    have e : an (onm y.2 y.1) (pmk y k) = onm y.2 y.1 := by
      apply Nat.eq_of_testBit_eq
      intro i
      rw [an_bit o31, pmk_bit hk, ag_v hv, Bool.and_false, Bool.not_false, Bool.and_true]
    rw [e]
theorem x_blame {S : PS} {x : Nat} {T : Nat → TR} {sa bu sc jo : Nat} {y : CS} (H : XQ S x T sa bu sc jo y) : f_X4_blame S x = some (bst (blw y.2 y.1) 0 y.1).1 := by
  obtain ⟨R0, V0, hx, hg⟩ := H
  have hw : ∀ c, blw y.2 y.1 c ≤ 11 := fun c => by
    have h1 := pc_le (onm y.2 y.1)
    have h2 := agn_le y.2 y.1 c
    unfold blw
    split
    · split <;> omega
    · omega
  have h2 : ∀ n, (bst (blw y.2 y.1) 0 n).2 ≤ 11 := fun n => bst_2 (by omega) n (fun c _ => hw c)
  unfold f_X4_blame
  refine lp_asc (L := fun n d => f_X4_blame_L6 S (f_X4_blame_B72 S) n x (bst (blw y.2 y.1) 0 d).1 (nI (bst (blw y.2 y.1) 0 d).2) (nI d)) (e := y.1) (fun n => ?_) (fun n d hd => ?_) FU 0 (by omega) (by unfold FU; omega)
  · show f_X4_blame_L6s S (f_X4_blame_L6 S (f_X4_blame_B72 S) n) (f_X4_blame_B72 S) x (bst (blw y.2 y.1) 0 y.1).1 (nI (bst (blw y.2 y.1) 0 y.1).2) (nI y.1) = _
    unfold f_X4_blame_L6s f_X4_blame_B72
    rw [rnw R0, V0.2.1, if_pos (Int32.le_refl _)]
  · show f_X4_blame_L6s S (f_X4_blame_L6 S (f_X4_blame_B72 S) n) (f_X4_blame_B72 S) x (bst (blw y.2 y.1) 0 d).1 (nI (bst (blw y.2 y.1) 0 d).2) (nI d) = f_X4_blame_L6 S (f_X4_blame_B72 S) n x (bst (blw y.2 y.1) 0 (d + 1)).1 (nI (bst (blw y.2 y.1) 0 (d + 1)).2) (nI (d + 1))
    have key : ∀ v, v = blw y.2 y.1 d → f_X4_blame_B53 S (f_X4_blame_L6 S (f_X4_blame_B72 S) n) (f_X4_blame_B72 S) x (bst (blw y.2 y.1) 0 d).1 (nI (bst (blw y.2 y.1) 0 d).2) (nI d) (nI v) = f_X4_blame_L6 S (f_X4_blame_B72 S) n x (bst (blw y.2 y.1) 0 (d + 1)).1 (nI (bst (blw y.2 y.1) 0 (d + 1)).2) (nI (d + 1)) := by
      intro v hv
      have b1 := hw d
      have b2 := h2 d
      have eq : bst (blw y.2 y.1) 0 (d + 1) = if (bst (blw y.2 y.1) 0 d).2 < v then (nI d, v) else bst (blw y.2 y.1) 0 d := by rw [hv]; rfl
      unfold f_X4_blame_B53 f_X4_blame_B66
      rw [eq, nI_1]
      by_cases q : (bst (blw y.2 y.1) 0 d).2 < v
      · rw [if_neg (nle q (by omega)), if_pos q]
      · rw [if_pos (nI_le (by omega) (by omega)), if_neg q]
    have al : an (onm y.2 y.1) (pmk y d) < 2048 := Nat.lt_of_le_of_lt (an_le _ _) (onm_2048 (by omega))
    unfold f_X4_blame_L6s
    rw [rnw R0, V0.2.1, if_neg (nle hd (by omega)), rnw R0, V0.isOn hx hd, bd_s]
    cases ho : (y.2 d).2.2.2
    · rw [b2_f, if_pos rfl]
      exact key 0 (by unfold blw; rw [ho]; rfl)
    · rw [b2_t, if_neg n10, rnw R0, rnw R0, V0.pat (by omega), bd_s, V0.2.2.1, n_an, x_bits al, bd_s, x_agn hx hd]
      exact key _ (by unfold blw; rw [ho, if_pos rfl])
theorem x_powerIn {S : PS} {c : Nat} {y : CT} (h : CD S c y) (g : gd y) {p : Nat} (hp : 2 ≤ p) (hp2 : p ≤ 31) : f_X4_powerIn S c (nI p) = some (lN (if vo y = true then 1 else pp (bm y) p)) := by
  have bp := bm_pos g
  have bl := bm_le g
  unfold f_X4_powerIn
  cases hv : vo y
  · have hle : ∀ j, pq (bm y) p j ≤ 999 := fun j => Nat.le_trans (Nat.le_of_dvd bp (pq_dv j)) bl
    have hm : ∀ j, pq (bm y) p j * p ≤ 999 * 31 := fun j => Nat.mul_le_mul (hle j) hp2
    have loop : ∀ n j, 10 ≤ n + j → j ≤ 9 → f_X4_powerIn_L5 S (f_X4_powerIn_B47 S) n c (nI p) (lN (pq (bm y) p j)) (nI j) = some (lN (pp (bm y) p)) := by
      intro n
      induction n with
      | zero => intro j h1 h2; omega
      | succ n ih =>
        intro j h1 h2
        have pp1 := pq_pos (n := bm y) (p := p) (by omega) j
        have hj := hm j
        have hm1 := Nat.mul_pos pp1 (show 0 < p by omega)
        have hm2 := Nat.mod_lt (bm y) hm1
        rw [show f_X4_powerIn_L5 S (f_X4_powerIn_B47 S) (n + 1) c (nI p) (lN (pq (bm y) p j)) (nI j) = f_X4_powerIn_L5s S (f_X4_powerIn_L5 S (f_X4_powerIn_B47 S) n) (f_X4_powerIn_B47 S) c (nI p) (lN (pq (bm y) p j)) (nI j) from rfl]
        unfold f_X4_powerIn_L5s f_X4_powerIn_B47
        rcases Nat.eq_or_lt_of_le h2 with q | q
        · rw [q, if_pos (show (9 : Int32) ≤ nI 9 from Int32.le_refl _)]; rfl
        · rw [if_neg (show ¬ (9 : Int32) ≤ nI j from nle (a := 9) q (by decide)), h.void g, bd_s, hv, b2_f, if_pos rfl, h.fbm hv, nI_l (by omega), nI_l (by omega), lN_mul, x_restN (by omega) hm1 (by omega), bd_s, nI_1]
          by_cases r : bm y % (pq (bm y) p j * p) = 0
          · have e : pq (bm y) p (j + 1) = pq (bm y) p j * p := by
              show (if _ then _ else _) = _
              rw [if_pos r]
            have I := ih (j + 1) (by omega) (by omega)
            rw [e] at I
            rw [if_pos (by rw [r]; rfl)]
            exact I
          · rw [if_neg (fun z => r ((lN_n0 (by omega)).mp z))]
            unfold pp
            rw [pq_st r 9 h2]
    rw [if_neg (by decide)]
    exact loop FU 0 (by unfold FU; omega) (by omega)
  · show f_X4_powerIn_L5s S (f_X4_powerIn_L5 S (f_X4_powerIn_B47 S) 2999) (f_X4_powerIn_B47 S) c (nI p) 1 0 = _
    unfold f_X4_powerIn_L5s f_X4_powerIn_B47
    rw [if_neg (by decide), h.void g, bd_s, hv, b2_t, if_neg n10, if_pos rfl]
    rfl
theorem x_strongest {S : PS} {x : Nat} {T : Nat → TR} {sa bu sc jo : Nat} {y : CS} (H : XQ S x T sa bu sc jo y) {p : Nat} (hp : 2 ≤ p) (hp2 : p ≤ 31) : f_X4_strongestFor S x (nI p) = some (bst (stw y.2 p) 1 y.1).1 := by
  obtain ⟨R0, V0, hx, hg⟩ := H
  have hw : ∀ c, c < y.1 → stw y.2 p c ≤ 999 := fun c hc => stw_le (hg c hc)
  have h2 : ∀ n, n ≤ y.1 → (bst (stw y.2 p) 1 n).2 ≤ 999 := fun n hn => bst_2 (by omega) n (fun c hc => hw c (by omega))
  unfold f_X4_strongestFor
  refine lp_asc (L := fun n d => f_X4_strongestFor_L7 S (f_X4_strongestFor_B69 S) n x (nI p) (bst (stw y.2 p) 1 d).1 (lN (bst (stw y.2 p) 1 d).2) (nI d)) (e := y.1) (fun n => ?_) (fun n d hd => ?_) FU 0 (by omega) (by unfold FU; omega)
  · show f_X4_strongestFor_L7s S (f_X4_strongestFor_L7 S (f_X4_strongestFor_B69 S) n) (f_X4_strongestFor_B69 S) x (nI p) (bst (stw y.2 p) 1 y.1).1 (lN (bst (stw y.2 p) 1 y.1).2) (nI y.1) = _
    unfold f_X4_strongestFor_L7s f_X4_strongestFor_B69
    rw [rnw R0, V0.2.1, if_pos (Int32.le_refl _)]
  · show f_X4_strongestFor_L7s S (f_X4_strongestFor_L7 S (f_X4_strongestFor_B69 S) n) (f_X4_strongestFor_B69 S) x (nI p) (bst (stw y.2 p) 1 d).1 (lN (bst (stw y.2 p) 1 d).2) (nI d) = f_X4_strongestFor_L7 S (f_X4_strongestFor_B69 S) n x (nI p) (bst (stw y.2 p) 1 (d + 1)).1 (lN (bst (stw y.2 p) 1 (d + 1)).2) (nI (d + 1))
    have key : ∀ v, v = stw y.2 p d → f_X4_strongestFor_B48 S (f_X4_strongestFor_L7 S (f_X4_strongestFor_B69 S) n) (f_X4_strongestFor_B69 S) x (nI p) (bst (stw y.2 p) 1 d).1 (lN (bst (stw y.2 p) 1 d).2) (nI d) (lN v) = f_X4_strongestFor_L7 S (f_X4_strongestFor_B69 S) n x (nI p) (bst (stw y.2 p) 1 (d + 1)).1 (lN (bst (stw y.2 p) 1 (d + 1)).2) (nI (d + 1)) := by
      intro v hv
      have b1 := hw d hd
      have b2 := h2 d (by omega)
      have eq : bst (stw y.2 p) 1 (d + 1) = if (bst (stw y.2 p) 1 d).2 < v then (nI d, v) else bst (stw y.2 p) 1 d := by rw [hv]; rfl
      unfold f_X4_strongestFor_B48 f_X4_strongestFor_B63
      rw [eq, nI_1]
      by_cases q : (bst (stw y.2 p) 1 d).2 < v
      · rw [if_neg (fun z => by have := (pk_lLE (by omega) (by omega)).mp z; omega), if_pos q]
      · rw [if_pos ((pk_lLE (by omega) (by omega)).mpr (by omega)), if_neg q]
    unfold f_X4_strongestFor_L7s
    rw [rnw R0, V0.2.1, if_neg (nle hd (by omega)), rnw R0, V0.isOn hx hd, bd_s]
    cases ho : (y.2 d).2.2.2
    · rw [b2_f, if_pos rfl]
      exact key 1 (by unfold stw; rw [ho]; rfl)
    · obtain ⟨cc, c1, c2⟩ := V0.get hx hd
      rw [b2_t, if_neg n10, rnw R0, c1, bd_s, x_powerIn c2 (hg d hd) hp hp2, bd_s]
      refine key _ ?_
      unfold stw
      rw [ho]
      cases vo (y.2 d) <;> rfl
theorem x_contra {S : PS} {x : Nat} {T : Nat → TR} {sa bu sc jo : Nat} {y : CS} (H : XQ S x T sa bu sc jo y) {p : Nat} (hp : 2 ≤ p) (hp2 : p ≤ 31) {b cb : Nat} (hb : b < y.1) (hcb : CD S cb (y.2 b)) (hvb : vo (y.2 b) = false) (hmx : ∀ c, c < y.1 → stw y.2 p c ≤ pp (bm (y.2 b)) p) : f_X4_contradictionsByPrime S x cb (nI p) = some (nI (pm y.2 y.1 p b)) := by
  obtain ⟨R0, V0, hx, hg⟩ := H
  have gb := hg b hb
  unfold f_X4_contradictionsByPrime
  refine lp_asc (L := fun n d => f_X4_contradictionsByPrime_L5 S (f_X4_contradictionsByPrime_B98 S) n x cb (nI p) (nI (pm y.2 d p b)) (nI d)) (e := y.1) (fun n => ?_) (fun n d hd => ?_) FU 0 (by omega) (by unfold FU; omega)
  · show f_X4_contradictionsByPrime_L5s S (f_X4_contradictionsByPrime_L5 S (f_X4_contradictionsByPrime_B98 S) n) (f_X4_contradictionsByPrime_B98 S) x cb (nI p) (nI (pm y.2 y.1 p b)) (nI y.1) = _
    unfold f_X4_contradictionsByPrime_L5s f_X4_contradictionsByPrime_B98
    rw [rnw R0, V0.2.1, if_pos (Int32.le_refl _)]
  · show f_X4_contradictionsByPrime_L5s S (f_X4_contradictionsByPrime_L5 S (f_X4_contradictionsByPrime_B98 S) n) (f_X4_contradictionsByPrime_B98 S) x cb (nI p) (nI (pm y.2 d p b)) (nI d) = f_X4_contradictionsByPrime_L5 S (f_X4_contradictionsByPrime_B98 S) n x cb (nI p) (nI (pm y.2 (d + 1) p b)) (nI (d + 1))
    obtain ⟨cc, c1, c2⟩ := V0.get hx hd
    have gd' := hg d hd
    unfold f_X4_contradictionsByPrime_L5s f_X4_contradictionsByPrime_B92
    rw [rnw R0, V0.2.1, if_neg (nle hd (by omega)), rnw R0, c1, bd_s, rnw R0, V0.isOn hx hd, bd_s, nI_1, nI_1a]
    unfold pm
    cases ho : (y.2 d).2.2.2
    · rw [b2_f, if_pos rfl, ct_n (by rw [ho]; rfl)]
    · rw [b2_t, if_neg n10, c2.void gd', bd_s]
      cases hv : vo (y.2 d)
      · have bp := bm_pos gd'
        have bl := bm_le gd'
        have rl := br_lt gd' hv
        have rlb := br_lt gb hvb
        have pb : 0 < pp (bm (y.2 d)) p := pq_pos (by omega) 9
        have pl : pp (bm (y.2 d)) p ≤ 999 := Nat.le_trans (Nat.le_of_dvd bp (pq_dv 9)) bl
        have plb : pp (bm (y.2 b)) p ≤ 999 := Nat.le_trans (Nat.le_of_dvd (bm_pos gb) (pq_dv 9)) (bm_le gb)
        have hm := hmx d hd
        have es : stw y.2 p d = pp (bm (y.2 d)) p := by unfold stw; rw [ho, hv]; rfl
        rw [es] at hm
        have m1 := Nat.mod_lt (br (y.2 d)) pb
        have m2 := Nat.mod_lt (br (y.2 b)) pb
        rw [b2_f, if_pos rfl, x_powerIn c2 gd' hp hp2, x_powerIn hcb gb hp hp2, bd_s, bd_s, hv, hvb, if_neg (show ¬ (false = true) by decide), if_neg (show ¬ (false = true) by decide), if_neg (show ¬ lN (pp (bm (y.2 b)) p) < lN (pp (bm (y.2 d)) p) from fun z => by have := (pk_lLT (by omega) (by omega)).mp z; omega), c2.fbr hv, hcb.fbr hvb, nI_l (by omega), nI_l (by omega), x_restN (by omega) pb (by omega), x_restN (by omega) pb (by omega), bd_s, bd_s]
        by_cases q : br (y.2 d) % pp (bm (y.2 d)) p = br (y.2 b) % pp (bm (y.2 d)) p
        · rw [if_pos (by rw [q]), ct_n (by rw [ho, hv, decide_eq_true q]; rfl)]
        · rw [if_neg (fun z => q ((pk_lEQ (by omega) (by omega)).mp z)), ct_s (by rw [ho, hv, decide_eq_false q]; rfl)]
      · rw [b2_t, if_neg n10, ct_n (by rw [ho, hv]; rfl)]

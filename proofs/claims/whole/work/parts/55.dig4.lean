/-! ===== density; the digest: the class ===== -/
theorem x_dens {S : PS} {x : Nat} {T : Nat → TR} {sa bu sc jo : Nat} {o : OS} (H : XX S x T sa bu sc jo o) (ho : OKs o) : ∃ S1, f_X4_density S x = some (dnv o.1.2 o.1.1, S1) ∧ scj S S1 := by
  have Q := H.q ho
  obtain ⟨R, V, hx, hg⟩ := id Q
  have ol := onm_lt o.1.2 o.1.1
  unfold f_X4_density f_X4_density_B48 dnv
  rw [rnw R, rnw R, V.2.2.1, V.poss hx ol, bd_s]
  cases hp : ps (onm o.1.2 o.1.1) o.1.2
  · exact ⟨S, by rw [b2_f, if_pos rfl, if_neg (by decide)], scj.rf⟩
  · obtain ⟨S1, e, cs, v1, v2⟩ := x_join Q ol hp (tg_N ho.1.2.2 hp)
    obtain ⟨n0, n1⟩ := on_N ho hp
    obtain ⟨C, s, d⟩ := dn_dz n0 n1
    refine ⟨S1, ?_, cs⟩
    unfold LIM at n1
    rw [b2_t, if_neg n10, rnw R, V.2.2.1, e, bd_s]
    show (if 1 ≤ fL S1 16 jo then ck (decide (FP.ddiv FP.dconst1 (FP.l2d (fL S1 16 jo)) &&& 0x7fffffffffffffff ≤ 0x7ff0000000000000)) (some (FP.ddiv FP.dconst1 (FP.l2d (fL S1 16 jo)), S1)) else some (FP.dconst0, S1)) = _
    rw [v1, if_pos (show (1 : Int64) ≤ lN (NN (onm o.1.2 o.1.1) o.1.2 11) by rw [l1, pk_lLE (by decide) (by omega)]; omega), if_pos rfl]
    exact ck_t d.nn
theorem x_density {S : PS} {x : Nat} {T : Nat → TR} {sa bu sc jo : Nat} {o : OS} (H : XX S x T sa bu sc jo o) (ho : OKs o) : ∃ S1, f_X4_density S x = some ((q_density o).2.1, S1) ∧ XX S1 x T sa bu sc jo o := by
  obtain ⟨S1, e, cs⟩ := x_dens H ho
  exact ⟨S1, e, H.kp cs.k⟩
theorem XG.v {β : Type} {k1 k2 x : Nat} {T : Nat → TR} {sa bu sc jo : Nat} {S : PS} {e : Option ((β ⊕ Nat) × PS)} {v : β} {o : OS} (h : XG k1 k2 x T sa bu sc jo S e (0, v, o)) : ∃ S1, e = some (.inl v, S1) ∧ XX S1 x T sa bu sc jo o ∧ PL S1 = PL S := by
  obtain ⟨S1, r, e1, e2, -, -, -, e3, e4⟩ := h
  exact ⟨S1, by rw [e1, e2 rfl], e3, e4⟩
theorem XN.v {β : Type} {k1 k2 x : Nat} {T : Nat → TR} {sa bu sc jo : Nat} {e : Option ((β ⊕ Nat) × PS × Nat)} {v : β} {o : OS} (h : XN k1 k2 x T sa bu sc jo e (0, v, o)) : ∃ S1 n1, e = some (.inl v, S1, n1) ∧ XX S1 x T sa bu sc jo o ∧ frn S1 n1 := by
  obtain ⟨S1, r, n1, e1, e2, -, -, -, e3, e4⟩ := h
  exact ⟨S1, n1, by rw [e1, e2 rfl], e3, e4⟩
theorem nx_v {α β γ : Type} {v : α} {u : β} {k : α → β → Option γ} : nx (some (.inl v, u)) k = k v u := rfl
theorem x_mixed (h v : Int64) : f_X4_mixed h v = some (mx h v) := rfl
theorem y_agrees {S : PS} {x : Nat} {T : Nat → TR} {sa bu sc jo : Nat} {o : OS} (H : XX S x T sa bu sc jo o) (ho : OKs o) {c d : Nat} (hc : c < o.1.1) (hd : d < o.1.1) : XG 2 0 x T sa bu sc jo S (f_X4_agrees S x (nI c) (nI d)) (0, b2 (ag (o.1.2 c) (o.1.2 d)), o) := by
  have h10 := ho.1.1
  have := x_agrees H ho (nI c) (nI d)
  unfold q_agrees at this
  rw [thI_t hc (by omega), thI_t hd (by omega), if_pos (show (true && true) = true from rfl), tn_n (by omega), tn_n (by omega)] at this
  exact this
theorem y_without {S : PS} {x : Nat} {T : Nat → TR} {sa bu sc jo : Nat} {o : OS} (H : XX S x T sa bu sc jo o) (ho : OKs o) {c : Nat} (hc : c < o.1.1) (w : Int32) (hw : inI w 0 1 = true) : XG 2 0 x T sa bu sc jo S (f_X4_without S x (nI c) w) (0, jb (an (onm o.1.2 o.1.1) (2 ^ c)) o.1.2 w, o) := by
  have h10 := ho.1.1
  have := x_without H ho (nI c) w
  unfold q_without at this
  rw [thI_t hc (by omega), if_pos rfl, hw, if_pos rfl, tn_n (by omega)] at this
  exact this
theorem inI_t {w lo hi : Nat} (h1 : lo ≤ w) (h2 : w ≤ hi) (h3 : hi < 2 ^ 31) : inI (nI w) (nI lo) (nI hi) = true := by
  unfold inI
  rw [decide_eq_true (nI_le h1 (by omega)), decide_eq_true (nI_le h2 h3)]
  rfl
theorem y_prime {S : PS} {x : Nat} {T : Nat → TR} {sa bu sc jo : Nat} {o : OS} (H : XX S x T sa bu sc jo o) (ho : OKs o) {p w : Nat} (hp : prI (nI p) = true) (hp2 : p < 2 ^ 31) (hw : w ≤ 3) : XG 0 0 x T sa bu sc jo S (f_X4_prime S x (nI p) (nI w)) (0, tp o.1.2 o.1.1 p (nI w), o) := by
  have := x_prime H ho (nI p) (nI w)
  unfold q_prime at this
  rw [hp, show inI (nI w) 0 3 = true from inI_t (lo := 0) (hi := 3) (Nat.zero_le _) hw (by decide), if_pos (show (true && true) = true from rfl), tn_n hp2] at this
  exact this
theorem numI_t {n : Nat} (h : n ≤ LIM) : numI (lN n) = true := by
  unfold LIM at h
  unfold numI
  rw [decide_eq_true (show (0 : Int64) ≤ lN n by rw [l0, pk_lLE (by decide) (by omega)]; omega), decide_eq_true (show lN n ≤ 1000000000000000 by rw [limL, pk_lLE (by omega) (by decide)]; exact h)]
  rfl
theorem y_answer {S : PS} {x : Nat} {T : Nat → TR} {sa bu sc jo : Nat} {o : OS} (H : XX S x T sa bu sc jo o) (ho : OKs o) {n i : Nat} (hn : n ≤ LIM) (hi : i ≤ 99) : XG 0 0 x T sa bu sc jo S (f_X4_answer S x (lN n) (nI i)) (0, aw o.1.2 o.1.1 n i, o) := by
  have := x_answer H ho (lN n) (nI i)
  unfold q_answer at this
  rw [numI_t hn, show inI (nI i) 0 99 = true from inI_t (lo := 0) (hi := 99) (Nat.zero_le _) hi (by decide), if_pos (show (true && true) = true from rfl), lN_clamp (by unfold LIM at hn; omega), tn_n (by omega)] at this
  exact this
theorem y_nearest {S : PS} {x : Nat} {T : Nat → TR} {sa bu sc jo : Nat} {o : OS} (H : XX S x T sa bu sc jo o) (ho : OKs o) {n : Nat} (hn : n ≤ LIM) : XG 0 0 x T sa bu sc jo S (f_X4_nearest S x (lN n)) (0, nw o.1.2 o.1.1 n, o) := by
  have := x_nearest H ho (lN n)
  unfold q_nearest at this
  rw [numI_t hn, if_pos rfl, lN_clamp (by unfold LIM at hn; omega)] at this
  exact this
theorem y_between {S : PS} {x : Nat} {T : Nat → TR} {sa bu sc jo : Nat} {o : OS} (H : XX S x T sa bu sc jo o) (ho : OKs o) {n m : Nat} (hn : n ≤ LIM) (hm : m ≤ LIM) : XG 0 0 x T sa bu sc jo S (f_X4_between S x (lN n) (lN m)) (0, lN (bw o.1.2 o.1.1 n m), o) := by
  have := x_between H ho (lN n) (lN m)
  unfold q_between at this
  rw [numI_t hn, numI_t hm, if_pos (show (true && true) = true from rfl), lN_clamp (by unfold LIM at hn; omega), lN_clamp (by unfold LIM at hm; omega)] at this
  exact this
theorem y_misses {S : PS} {x : Nat} {T : Nat → TR} {sa bu sc jo : Nat} {o : OS} (H : XX S x T sa bu sc jo o) (ho : OKs o) {n : Nat} (hn : n ≤ LIM) : XG 0 0 x T sa bu sc jo S (f_X4_misses S x (lN n)) (0, nI (msd o.1.2 o.1.1 n), o) := by
  have := x_misses H ho (lN n)
  unfold q_misses at this
  rw [numI_t hn, if_pos rfl, lN_clamp (by unfold LIM at hn; omega)] at this
  exact this
theorem y_joined {S : PS} {x : Nat} {T : Nat → TR} {sa bu sc jo : Nat} {o : OS} (H : XX S x T sa bu sc jo o) (ho : OKs o) (w : Int32) (hw : inI w 0 1 = true) : XG 0 0 x T sa bu sc jo S (f_X4_joined S x w) (0, jb (onm o.1.2 o.1.1) o.1.2 w, o) := by
  have := x_joined H ho w
  unfold q_joined at this
  rw [hw, if_pos rfl] at this
  exact this
/-- a state and its hash -/
abbrev PH : Type := PS × Int64
/-- after looks alone -/
def DX (x : Nat) (T : Nat → TR) (sa bu sc jo : Nat) (o : OS) (S0 : PS) (p : PH) (hs : Int64) : Prop := XX p.1 x T sa bu sc jo o ∧ PL p.1 = PL S0 ∧ p.2 = hs
theorem d_cond {S : PS} {x : Nat} {T : Nat → TR} {sa bu sc jo : Nat} {o : OS} (H : XX S x T sa bu sc jo o) (ho : OKs o) {c : Nat} (hc : c < o.1.1) (hs : Int64) : ∃ S1, f_X4_withCondition S x hs (nI c) = some (dco o.1.2 o.1.1 c hs, S1) ∧ XX S1 x T sa bu sc jo o ∧ PL S1 = PL S := by
  have h10 := ho.1.1
  unfold f_X4_withCondition
  obtain ⟨p1, e1, a1, a2, a3⟩ := lp_inv (L := fun n (p : PH) d => f_X4_withCondition_L6 f_X4_withCondition_B34 n p.1 x (nI c) p.2 (nI d)) (K := fun p => f_X4_withCondition_B34 p.1 x (nI c) p.2) (e := 9) (P := fun d p => DX x T sa bu sc jo o S p (fd (fun j => (tlw o.1.2 o.1.1 c j).toInt64) d hs)) (fun n p P => by
    show f_X4_withCondition_L6s (f_X4_withCondition_L6 f_X4_withCondition_B34 n) f_X4_withCondition_B34 p.1 x (nI c) p.2 (nI 9) = _
    unfold f_X4_withCondition_L6s
    rw [if_pos (show (8 : Int32) < nI 9 by decide)]) (fun n d p hd P => by
    show ∃ p1 : PH, f_X4_withCondition_L6s (f_X4_withCondition_L6 f_X4_withCondition_B34 n) f_X4_withCondition_B34 p.1 x (nI c) p.2 (nI d) = f_X4_withCondition_L6 f_X4_withCondition_B34 n p1.1 x (nI c) p1.2 (nI (d + 1)) ∧ _
    unfold f_X4_withCondition_L6s
    obtain ⟨P1, P2, P3⟩ := P
    obtain ⟨S1, e, q1, q2⟩ := (x_cond P1 ho hc d (by omega)).v
    rw [if_neg (show ¬ (8 : Int32) < nI d from nlt (a := 8) (by omega) (by decide)), e, nx_v, x_mixed, bd_s, nI_1, P3]
    exact ⟨(S1, mx (fd (fun j => (tlw o.1.2 o.1.1 c j).toInt64) d hs) (tlw o.1.2 o.1.1 c d).toInt64), rfl, q1, q2.trans P2, rfl⟩) 10 0 (S, hs) (by omega) (by omega) ⟨H, rfl, rfl⟩
  rw [show f_X4_withCondition_L6 f_X4_withCondition_B34 10 S x (nI c) hs 0 = _ from e1, a3]
  unfold f_X4_withCondition_B34
  obtain ⟨p2, e2, b1, b2', b3⟩ := lp_inv (L := fun n (p : PH) d => f_X4_withCondition_L37 f_X4_withCondition_B70 n p.1 x (nI c) p.2 (nI d)) (K := fun p => f_X4_withCondition_B70 p.1 x (nI c) p.2) (e := o.1.1) (P := fun d p => DX x T sa bu sc jo o S p (fd (fun d => (b2 (ag (o.1.2 c) (o.1.2 d))).toInt64) d (fd (fun j => (tlw o.1.2 o.1.1 c j).toInt64) 9 hs))) (fun n p P => by
    show f_X4_withCondition_L37s (f_X4_withCondition_L37 f_X4_withCondition_B70 n) f_X4_withCondition_B70 p.1 x (nI c) p.2 (nI o.1.1) = _
    unfold f_X4_withCondition_L37s
    rw [rnw P.1.1, P.1.2.1.2.1, if_pos (Int32.le_refl _)]) (fun n d p hd P => by
    show ∃ p1 : PH, f_X4_withCondition_L37s (f_X4_withCondition_L37 f_X4_withCondition_B70 n) f_X4_withCondition_B70 p.1 x (nI c) p.2 (nI d) = f_X4_withCondition_L37 f_X4_withCondition_B70 n p1.1 x (nI c) p1.2 (nI (d + 1)) ∧ _
    unfold f_X4_withCondition_L37s
    obtain ⟨P1, P2, P3⟩ := P
    obtain ⟨S1, e, q1, q2⟩ := (y_agrees P1 ho hc hd).v
    rw [rnw P1.1, P1.2.1.2.1, if_neg (nle hd (by omega)), e, nx_v, x_mixed, bd_s, nI_1, P3]
    exact ⟨(S1, mx (fd (fun d => (b2 (ag (o.1.2 c) (o.1.2 d))).toInt64) d (fd (fun j => (tlw o.1.2 o.1.1 c j).toInt64) 9 hs)) (b2 (ag (o.1.2 c) (o.1.2 d))).toInt64), rfl, q1, q2.trans P2, rfl⟩) 11 0 (p1.1, fd (fun j => (tlw o.1.2 o.1.1 c j).toInt64) 9 hs) (by omega) (by omega) ⟨a1, a2, rfl⟩
  rw [show f_X4_withCondition_L37 f_X4_withCondition_B70 11 p1.1 x (nI c) (fd (fun j => (tlw o.1.2 o.1.1 c j).toInt64) 9 hs) 0 = _ from e2, b3]
  unfold f_X4_withCondition_B70
  obtain ⟨S3, e3, c1, c2⟩ := (y_without b1 ho hc 0 (by decide)).v
  obtain ⟨S4, e4, d1, d2⟩ := (y_without c1 ho hc 1 (by decide)).v
  rw [e3, nx_v, x_mixed, bd_s, e4, nx_v, x_mixed, bd_s]
  exact ⟨S4, rfl, d1, d2.trans (c2.trans b2')⟩
theorem d_prime {S : PS} {x : Nat} {T : Nat → TR} {sa bu sc jo : Nat} {o : OS} (H : XX S x T sa bu sc jo o) (ho : OKs o) {p : Nat} (hp : prI (nI p) = true) (hp2 : p < 2 ^ 31) (hs : Int64) : ∃ S1, f_X4_withPrime S x hs (nI p) = some (dpr o.1.2 o.1.1 p hs, S1) ∧ XX S1 x T sa bu sc jo o ∧ PL S1 = PL S := by
  unfold f_X4_withPrime
  obtain ⟨p1, e1, a1, a2, a3⟩ := lp_inv (L := fun n (q : PH) d => f_X4_withPrime_L6 f_X4_withPrime_B33 n q.1 x (nI p) q.2 (nI d)) (K := fun q => f_X4_withPrime_B33 q.1 q.2) (e := 4) (P := fun d q => DX x T sa bu sc jo o S q (fd (fun w => (tp o.1.2 o.1.1 p (nI w)).toInt64) d hs)) (fun n q P => by
    show f_X4_withPrime_L6s (f_X4_withPrime_L6 f_X4_withPrime_B33 n) f_X4_withPrime_B33 q.1 x (nI p) q.2 (nI 4) = _
    unfold f_X4_withPrime_L6s
    rw [if_pos (show (3 : Int32) < nI 4 by decide)]) (fun n d q hd P => by
    show ∃ p1 : PH, f_X4_withPrime_L6s (f_X4_withPrime_L6 f_X4_withPrime_B33 n) f_X4_withPrime_B33 q.1 x (nI p) q.2 (nI d) = f_X4_withPrime_L6 f_X4_withPrime_B33 n p1.1 x (nI p) p1.2 (nI (d + 1)) ∧ _
    unfold f_X4_withPrime_L6s
    obtain ⟨P1, P2, P3⟩ := P
    obtain ⟨S1, e, q1, q2⟩ := (y_prime P1 ho hp hp2 (w := d) (by omega)).v
    rw [if_neg (show ¬ (3 : Int32) < nI d from nlt (a := 3) (by omega) (by decide)), e, nx_v, x_mixed, bd_s, nI_1, P3]
    exact ⟨(S1, mx (fd (fun w => (tp o.1.2 o.1.1 p (nI w)).toInt64) d hs) (tp o.1.2 o.1.1 p (nI d)).toInt64), rfl, q1, q2.trans P2, rfl⟩) 5 0 (S, hs) (by omega) (by omega) ⟨H, rfl, rfl⟩
  rw [show f_X4_withPrime_L6 f_X4_withPrime_B33 5 S x (nI p) hs 0 = _ from e1, a3]
  exact ⟨p1.1, rfl, a1, a2⟩
theorem d_answers {S : PS} {x : Nat} {T : Nat → TR} {sa bu sc jo : Nat} {o : OS} (H : XX S x T sa bu sc jo o) (ho : OKs o) (hs : Int64) : ∃ S1, f_X4_withAnswers S x hs = some (dan o.1.2 o.1.1 hs, S1) ∧ XX S1 x T sa bu sc jo o ∧ PL S1 = PL S := by
  unfold f_X4_withAnswers
  obtain ⟨p1, e1, a1, a2, a3⟩ := lp_inv (L := fun n (q : PH) d => f_X4_withAnswers_L5 f_X4_withAnswers_B29 n q.1 x q.2 (nI d)) (K := fun q => f_X4_withAnswers_B29 q.1 x q.2) (e := 3) (P := fun d q => DX x T sa bu sc jo o S q (fd (fun i => aw o.1.2 o.1.1 0 i) d hs)) (fun n q P => by
    show f_X4_withAnswers_L5s (f_X4_withAnswers_L5 f_X4_withAnswers_B29 n) f_X4_withAnswers_B29 q.1 x q.2 (nI 3) = _
    unfold f_X4_withAnswers_L5s
    rw [if_pos (show (2 : Int32) < nI 3 by decide)]) (fun n d q hd P => by
    show ∃ p1 : PH, f_X4_withAnswers_L5s (f_X4_withAnswers_L5 f_X4_withAnswers_B29 n) f_X4_withAnswers_B29 q.1 x q.2 (nI d) = f_X4_withAnswers_L5 f_X4_withAnswers_B29 n p1.1 x p1.2 (nI (d + 1)) ∧ _
    unfold f_X4_withAnswers_L5s
    obtain ⟨P1, P2, P3⟩ := P
    obtain ⟨S1, e, q1, q2⟩ := (y_answer P1 ho (n := 0) (i := d) (Nat.zero_le _) (by omega)).v
    rw [if_neg (show ¬ (2 : Int32) < nI d from nlt (a := 2) (by omega) (by decide)), l0, e, nx_v, x_mixed, bd_s, nI_1, P3]
    exact ⟨(S1, mx (fd (fun i => aw o.1.2 o.1.1 0 i) d hs) (aw o.1.2 o.1.1 0 d)), rfl, q1, q2.trans P2, rfl⟩) 4 0 (S, hs) (by omega) (by omega) ⟨H, rfl, rfl⟩
  rw [show f_X4_withAnswers_L5 f_X4_withAnswers_B29 4 S x hs 0 = _ from e1, a3]
  unfold f_X4_withAnswers_B29
  obtain ⟨S2, e2, b1, b2'⟩ := (y_answer a1 ho (n := 1000) (i := 0) (by unfold LIM; decide) (by decide)).v
  obtain ⟨S3, e3, c1, c2⟩ := (y_nearest b1 ho (n := 500) (by unfold LIM; decide)).v
  obtain ⟨S4, e4, d1, d2⟩ := (y_between c1 ho (n := 0) (m := 9999) (Nat.zero_le _) (by unfold LIM; decide)).v
  obtain ⟨S5, e5, f1, f2⟩ := (y_misses d1 ho (n := 0) (Nat.zero_le _)).v
  obtain ⟨S6, e6, g1, g2⟩ := (y_misses f1 ho (n := 100) (by unfold LIM; decide)).v
  have e2 : f_X4_answer p1.1 x 1000 0 = some (.inl (aw o.1.2 o.1.1 1000 0), S2) := e2
  have e3 : f_X4_nearest S2 x 500 = some (.inl (nw o.1.2 o.1.1 500), S3) := e3
  have e4 : f_X4_between S3 x 0 9999 = some (.inl (lN (bw o.1.2 o.1.1 0 9999)), S4) := e4
  have e5 : f_X4_misses S4 x 0 = some (.inl (nI (msd o.1.2 o.1.1 0)), S5) := e5
  have e6 : f_X4_misses S5 x 100 = some (.inl (nI (msd o.1.2 o.1.1 100)), S6) := e6
  rw [e2, nx_v, x_mixed, bd_s, e3, nx_v, x_mixed, bd_s, e4, nx_v, x_mixed, bd_s, e5, nx_v, x_mixed, bd_s, e6, nx_v, x_mixed, bd_s]
  exact ⟨S6, rfl, g1, g2.trans (f2.trans (d2.trans (c2.trans (b2'.trans a2))))⟩
theorem dps_e (f : Nat → CT) (sz : Nat) (h : Int64) : dps f sz 12 h = dpr f sz 13 (dpr f sz 11 (dpr f sz 7 (dpr f sz 5 (dpr f sz 3 (dpr f sz 2 h))))) := by
  show dpx f sz 13 (dpx f sz 12 (dpx f sz 11 (dpx f sz 10 (dpx f sz 9 (dpx f sz 8 (dpx f sz 7 (dpx f sz 6 (dpx f sz 5 (dpx f sz 4 (dpx f sz 3 (dpx f sz 2 h))))))))))) = _
  have y : ∀ p h, prI (nI p) = true → dpx f sz p h = dpr f sz p h := fun p h e => by unfold dpx; rw [if_pos e]
  have n : ∀ p h, prI (nI p) = false → dpx f sz p h = h := fun p h e => by unfold dpx; rw [if_neg (by rw [e]; decide)]
  rw [y 13 _ (by decide), n 12 _ (by decide), y 11 _ (by decide), n 10 _ (by decide), n 9 _ (by decide), n 8 _ (by decide), y 7 _ (by decide), n 6 _ (by decide), y 5 _ (by decide), n 4 _ (by decide), y 3 _ (by decide), y 2 _ (by decide)]
/-- the state, the heap's size, the hash -/
abbrev PNH : Type := PS × Nat × Int64
def DN (x : Nat) (T : Nat → TR) (sa bu sc jo : Nat) (o : OS) (p : PNH) (hs : Int64) : Prop := XX p.1 x T sa bu sc jo o ∧ frn p.1 p.2.1 ∧ p.2.2 = hs
theorem x_digest {S : PS} {x : Nat} {T : Nat → TR} {sa bu sc jo : Nat} {o : OS} {n : Nat} (H : XX S x T sa bu sc jo o) (ho : OKs o) (hn : frn S n) : ∃ S1 n1, f_X4_digest S n x = some (dgs o, S1, n1) ∧ XX S1 x T sa bu sc jo o := by
  have h10 := ho.1.1
  have h60 := ho.2.2.2.1
  unfold f_X4_digest
  obtain ⟨p1, e1, a1, a2, a3⟩ := lp_inv (L := fun m (p : PH) d => f_X4_digest_L6 f_X4_digest_B29 m p.1 n x p.2 (nI d)) (K := fun p => f_X4_digest_B29 p.1 n x p.2) (e := 7) (P := fun d p => DX x T sa bu sc jo o S p (fd (fun k => (cow o.1.2 o.1.1 o.2.1 k).toInt64) d 2791)) (fun m p P => by
    show f_X4_digest_L6s (f_X4_digest_L6 f_X4_digest_B29 m) f_X4_digest_B29 p.1 n x p.2 (nI 7) = _
    unfold f_X4_digest_L6s
    rw [if_pos (show (6 : Int32) < nI 7 by decide)]) (fun m d p hd P => by
    show ∃ p1 : PH, f_X4_digest_L6s (f_X4_digest_L6 f_X4_digest_B29 m) f_X4_digest_B29 p.1 n x p.2 (nI d) = f_X4_digest_L6 f_X4_digest_B29 m p1.1 n x p1.2 (nI (d + 1)) ∧ _
    unfold f_X4_digest_L6s
    obtain ⟨P1, P2, P3⟩ := P
    obtain ⟨S1, e, q1, q2⟩ := (x_cnt P1 ho d (by omega)).v
    rw [if_neg (show ¬ (6 : Int32) < nI d from nlt (a := 6) (by omega) (by decide)), e, nx_v, x_mixed, bd_s, nI_1, P3]
    exact ⟨(S1, mx (fd (fun k => (cow o.1.2 o.1.1 o.2.1 k).toInt64) d 2791) (cow o.1.2 o.1.1 o.2.1 d).toInt64), rfl, q1, q2.trans P2, rfl⟩) 8 0 (S, 2791) (by omega) (by omega) ⟨H, rfl, rfl⟩
  rw [show f_X4_digest_L6 f_X4_digest_B29 8 S n x 2791 0 = _ from e1, a3]
  unfold f_X4_digest_B29
  obtain ⟨S2, e2, b1, b2'⟩ := (y_joined a1 ho 0 (by decide)).v
  obtain ⟨S3, e3, c1, c2⟩ := (y_joined b1 ho 1 (by decide)).v
  rw [e2, nx_v, x_mixed, bd_s, e3, nx_v, x_mixed, bd_s]
  obtain ⟨p4, e4, d1, d2, d3⟩ := lp_inv (L := fun m (p : PH) d => f_X4_digest_L51 f_X4_digest_B75 m p.1 n x p.2 (nI d)) (K := fun p => f_X4_digest_B75 p.1 n x p.2) (e := o.1.1) (P := fun d p => DX x T sa bu sc jo o S p (dcs o.1.2 o.1.1 d (mx (mx (fd (fun k => (cow o.1.2 o.1.1 o.2.1 k).toInt64) 7 2791) (jb (onm o.1.2 o.1.1) o.1.2 0)) (jb (onm o.1.2 o.1.1) o.1.2 1)))) (fun m p P => by
    show f_X4_digest_L51s (f_X4_digest_L51 f_X4_digest_B75 m) f_X4_digest_B75 p.1 n x p.2 (nI o.1.1) = _
    unfold f_X4_digest_L51s
    rw [rnw P.1.1, P.1.2.1.2.1, if_pos (Int32.le_refl _)]) (fun m d p hd P => by
    show ∃ p1 : PH, f_X4_digest_L51s (f_X4_digest_L51 f_X4_digest_B75 m) f_X4_digest_B75 p.1 n x p.2 (nI d) = f_X4_digest_L51 f_X4_digest_B75 m p1.1 n x p1.2 (nI (d + 1)) ∧ _
    unfold f_X4_digest_L51s
    obtain ⟨P1, P2, P3⟩ := P
    obtain ⟨S1, e, q1, q2⟩ := d_cond P1 ho hd p.2
    rw [rnw P1.1, P1.2.1.2.1, if_neg (nle hd (by omega)), e, bd_s, nI_1]
    exact ⟨(S1, dco o.1.2 o.1.1 d p.2), rfl, q1, q2.trans P2, by rw [P3]; rfl⟩) 11 0 (S3, mx (mx (fd (fun k => (cow o.1.2 o.1.1 o.2.1 k).toInt64) 7 2791) (jb (onm o.1.2 o.1.1) o.1.2 0)) (jb (onm o.1.2 o.1.1) o.1.2 1)) (by omega) (by omega) ⟨c1, c2.trans (b2'.trans a2), rfl⟩
  rw [show f_X4_digest_L51 f_X4_digest_B75 11 S3 n x (mx (mx (fd (fun k => (cow o.1.2 o.1.1 o.2.1 k).toInt64) 7 2791) (jb (onm o.1.2 o.1.1) o.1.2 0)) (jb (onm o.1.2 o.1.1) o.1.2 1)) 0 = _ from e4, d3]
  unfold f_X4_digest_B75
  generalize hh4 : dcs o.1.2 o.1.1 o.1.1 (mx (mx (fd (fun k => (cow o.1.2 o.1.1 o.2.1 k).toInt64) 7 2791) (jb (onm o.1.2 o.1.1) o.1.2 0)) (jb (onm o.1.2 o.1.1) o.1.2 1)) = h4
  -- the primes
  have pstep : ∀ m i (S' : PS) h p, i < 6 → [2, 3, 5, 7, 11, 13].getD i 0 = p → p < 2 ^ 31 → prI (nI p) = true → XX S' x T sa bu sc jo o → PL S' = PL S → ∃ S1, f_X4_digest_L77 f_X4_digest_B102 (m + 1) S' n x h (nI i) = f_X4_digest_L77 f_X4_digest_B102 m S1 n x (dpr o.1.2 o.1.1 p h) (nI (i + 1)) ∧ XX S1 x T sa bu sc jo o ∧ PL S1 = PL S := by
    intro m i S' h p hi hp hp2 hpr H' hP
    obtain ⟨S1, e, q1, q2⟩ := d_prime H' ho hpr hp2 h
    refine ⟨S1, ?_, q1, q2.trans hP⟩
    show f_X4_digest_L77s (f_X4_digest_L77 f_X4_digest_B102 m) f_X4_digest_B102 S' n x h (nI i) = _
    unfold f_X4_digest_L77s
    rw [if_neg (show ¬ (6 : Int32) ≤ nI i from nle (a := 6) hi (by decide)), ck_t (nI_in hi (by decide)), nI_clamp (by omega), hp, e, bd_s, nI_1]
  obtain ⟨A1, g1, A1x, A1p⟩ := pstep 6 0 p4.1 h4 2 (by decide) rfl (by decide) (by decide) d1 d2
  obtain ⟨A2, g2, A2x, A2p⟩ := pstep 5 1 A1 _ 3 (by decide) rfl (by decide) (by decide) A1x A1p
  obtain ⟨A3, g3, A3x, A3p⟩ := pstep 4 2 A2 _ 5 (by decide) rfl (by decide) (by decide) A2x A2p
  obtain ⟨A4, g4, A4x, A4p⟩ := pstep 3 3 A3 _ 7 (by decide) rfl (by decide) (by decide) A3x A3p
  obtain ⟨A5, g5, A5x, A5p⟩ := pstep 2 4 A4 _ 11 (by decide) rfl (by decide) (by decide) A4x A4p
  obtain ⟨A6, g6, A6x, A6p⟩ := pstep 1 5 A5 _ 13 (by decide) rfl (by decide) (by decide) A5x A5p
  rw [show f_X4_digest_L77 f_X4_digest_B102 7 p4.1 n x h4 0 = _ from g1, g2, g3, g4, g5, g6, ← dps_e]
  show ∃ S1 n1, f_X4_digest_L77s (f_X4_digest_L77 f_X4_digest_B102 0) f_X4_digest_B102 A6 n x (dps o.1.2 o.1.1 12 h4) (nI 6) = some (dgs o, S1, n1) ∧ _
  unfold f_X4_digest_L77s f_X4_digest_B102
  rw [if_pos (show (6 : Int32) ≤ nI 6 from Int32.le_refl _)]
  obtain ⟨S7, e7, f1, f2⟩ := d_answers A6x ho (dps o.1.2 o.1.1 12 h4)
  rw [e7, bd_s]
  generalize hh7 : dan o.1.2 o.1.1 (dps o.1.2 o.1.1 12 h4) = h7
  have g3' : ∀ w, w ≤ 3 → ∀ S' n', XX S' x T sa bu sc jo o → frn S' n' → ∃ S1 n1, f_X4_ifAdded S' n' x 3 1 10 (nI w) = some (.inl (waw o.1.2 o.1.1 (3, 1, 10, true) w), S1, n1) ∧ XX S1 x T sa bu sc jo o ∧ frn S1 n1 := by
    intro w hw S' n' H' hn'
    have := x_ifAdded H' ho hn' 3 1 10 (nI w)
    unfold q_ifAdded at this
    rw [show gdI 3 1 10 = true by decide, show inI (nI w) 0 3 = true from inI_t (lo := 0) (hi := 3) (Nat.zero_le _) hw (by decide), if_pos (show (true && true) = true from rfl), tn_n (by omega)] at this
    exact this.v
  obtain ⟨p8, e8, i1, i2', i3'⟩ := lp_inv (L := fun m (p : PNH) d => f_X4_digest_L110 f_X4_digest_B135 m p.1 p.2.1 x p.2.2 (nI d)) (K := fun p => f_X4_digest_B135 p.1 p.2.1 x p.2.2) (e := 4) (P := fun d p => DN x T sa bu sc jo o p (fd (fun w => waw o.1.2 o.1.1 (3, 1, 10, true) w) d h7)) (fun m p P => by
    show f_X4_digest_L110s (f_X4_digest_L110 f_X4_digest_B135 m) f_X4_digest_B135 p.1 p.2.1 x p.2.2 (nI 4) = _
    unfold f_X4_digest_L110s
    rw [if_pos (show (3 : Int32) < nI 4 by decide)]) (fun m d p hd P => by
    show ∃ p1 : PNH, f_X4_digest_L110s (f_X4_digest_L110 f_X4_digest_B135 m) f_X4_digest_B135 p.1 p.2.1 x p.2.2 (nI d) = f_X4_digest_L110 f_X4_digest_B135 m p1.1 p1.2.1 x p1.2.2 (nI (d + 1)) ∧ _
    unfold f_X4_digest_L110s
    obtain ⟨P1, P2, P3⟩ := P
    obtain ⟨S1, n1, e, q1, q2⟩ := g3' d (by omega) p.1 p.2.1 P1 P2
    rw [if_neg (show ¬ (3 : Int32) < nI d from nlt (a := 3) (by omega) (by decide)), e, nx_v, x_mixed, bd_s, nI_1, P3]
    exact ⟨(S1, n1, mx (fd (fun w => waw o.1.2 o.1.1 (3, 1, 10, true) w) d h7) (waw o.1.2 o.1.1 (3, 1, 10, true) d)), rfl, q1, q2, rfl⟩) 5 0 (S7, n, h7) (by omega) (by omega) ⟨f1, fun z hz => by rw [f2, A6p]; exact hn z hz, rfl⟩
  rw [show f_X4_digest_L110 f_X4_digest_B135 5 S7 n x h7 0 = _ from e8, i3']
  unfold f_X4_digest_B135
  have Q8 := i1.q ho
  obtain ⟨S9, e9, j1⟩ := x_dens i1 ho
  have H9 := i1.kp j1.k
  rw [x_most Q8, bd_s, x_mixed, bd_s, x_blame Q8, bd_s, x_mixed, bd_s, e9, bd_s, (dnv_bits (f := o.1.2) (sz := o.1.1) (on_N ho)).2.1, bd_s, x_mixed, bd_s, H9.2.2.2.2.1, x_mixed, bd_s]
  show ∃ S1 n1, f_X4_digest_L179 f_X4_digest_B204 61 S9 p8.2.1 x (mx (mx (mx (mx (fd (fun w => waw o.1.2 o.1.1 (3, 1, 10, true) w) 4 h7) (nI (mo o)).toInt64) (bst (blw o.1.2 o.1.1) 0 o.1.1).1.toInt64) (dbt o.1.2 o.1.1)) (nI o.2.2.2.1).toInt64) 0 = some (dgs o, S1, n1) ∧ _
  generalize hh9 : mx (mx (mx (mx (fd (fun w => waw o.1.2 o.1.1 (3, 1, 10, true) w) 4 h7) (nI (mo o)).toInt64) (bst (blw o.1.2 o.1.1) 0 o.1.1).1.toInt64) (dbt o.1.2 o.1.1)) (nI o.2.2.2.1).toInt64 = h9
  obtain ⟨p10, e10, k1⟩ := lp_inv (L := fun m (p : Int64) d => f_X4_digest_L179 f_X4_digest_B204 m S9 p8.2.1 x p (nI d)) (K := fun p => f_X4_digest_B204 S9 p8.2.1 p) (e := o.2.2.2.1) (P := fun d p => p = fd (fun j => (nI (o.2.2.2.2 j)).toInt64) d h9) (fun m p P => by
    show f_X4_digest_L179s (f_X4_digest_L179 f_X4_digest_B204 m) f_X4_digest_B204 S9 p8.2.1 x p (nI o.2.2.2.1) = _
    unfold f_X4_digest_L179s
    rw [H9.2.2.2.2.1, if_pos (Int32.le_refl _)]) (fun m d p hd P => by
    show ∃ p1, f_X4_digest_L179s (f_X4_digest_L179 f_X4_digest_B204 m) f_X4_digest_B204 S9 p8.2.1 x p (nI d) = f_X4_digest_L179 f_X4_digest_B204 m S9 p8.2.1 x p1 (nI (d + 1)) ∧ _
    unfold f_X4_digest_L179s
    rw [H9.2.2.2.2.1, if_neg (nle hd (by omega)), x_code H9 ho hd, bd_s, x_mixed, bd_s, nI_1, P]
    exact ⟨_, rfl, rfl⟩) 61 0 h9 (by omega) (by omega) rfl
  rw [show f_X4_digest_L179 f_X4_digest_B204 61 S9 p8.2.1 x h9 0 = _ from e10, k1]
  refine ⟨S9, p8.2.1, ?_, H9⟩
  unfold f_X4_digest_B204
  show some (_, S9, p8.2.1) = some (dgs o, S9, p8.2.1)
  rw [← hh9, ← hh7, ← hh4]
  rfl

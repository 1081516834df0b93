/-! ===== the class: looks ===== -/
def XG {β : Type} (k1 k2 : Nat) (x : Nat) (T : Nat → TR) (sa bu sc jo : Nat) (S : PS) (e : Option ((β ⊕ Nat) × PS)) (w : Nat × β × OS) : Prop := ∃ S1 r, e = some (r, S1) ∧ (w.1 = 0 → r = .inl w.2.1) ∧ (w.1 = 1 → r = .inr k1) ∧ (w.1 = 2 → r = .inr k2) ∧ w.1 ≤ 2 ∧ XX S1 x T sa bu sc jo w.2.2 ∧ PL S1 = PL S
theorem XG.ok {β : Type} {k1 k2 x : Nat} {T : Nat → TR} {sa bu sc jo : Nat} {S S1 : PS} {v : β} {o : OS} (H : XX S1 x T sa bu sc jo o) (P : PL S1 = PL S) : XG k1 k2 x T sa bu sc jo S (some (.inl v, S1)) (0, v, o) := ⟨S1, _, rfl, fun _ => rfl, fun z => absurd (show (0 : Nat) = 1 from z) (by decide), fun z => absurd (show (0 : Nat) = 2 from z) (by decide), (by show 0 ≤ 2; decide), H, P⟩
theorem XG.t1 {β : Type} {k1 k2 x : Nat} {T : Nat → TR} {sa bu sc jo : Nat} {S S1 : PS} {v : β} {o : OS} (H : XX S1 x T sa bu sc jo o) (P : PL S1 = PL S) : XG k1 k2 x T sa bu sc jo S (some (.inr k1, S1)) (1, v, o) := ⟨S1, _, rfl, fun z => absurd (show (1 : Nat) = 0 from z) (by decide), fun _ => rfl, fun z => absurd (show (1 : Nat) = 2 from z) (by decide), (by show 1 ≤ 2; decide), H, P⟩
theorem XG.t2 {β : Type} {k1 k2 x : Nat} {T : Nat → TR} {sa bu sc jo : Nat} {S S1 : PS} {v : β} {o : OS} (H : XX S1 x T sa bu sc jo o) (P : PL S1 = PL S) : XG k1 k2 x T sa bu sc jo S (some (.inr k2, S1)) (2, v, o) := ⟨S1, _, rfl, fun z => absurd (show (2 : Nat) = 0 from z) (by decide), fun z => absurd (show (2 : Nat) = 1 from z) (by decide), fun _ => rfl, (by show 2 ≤ 2; decide), H, P⟩
theorem inI_if {α : Type} {w l h : Int32} {X Y : α} : (if w < l then X else if w ≤ h then Y else X) = if inI w l h = true then Y else X := by
  unfold inI
  by_cases a : w < l
  · rw [if_pos a, decide_eq_false (Int32.not_le.mpr a)]; rfl
  · rw [if_neg a, decide_eq_true (Int32.not_lt.mp a)]
    by_cases b : w ≤ h
    · rw [if_pos b, decide_eq_true b]; rfl
    · rw [if_neg b, decide_eq_false b]; rfl
theorem x_agn2 {y : CS} (hx : y.1 ≤ 10) {k : Nat} (hk : k < y.1) : pc (an (an (onm y.2 y.1) (2 ^ k)) (pmk y k)) = agn y.2 y.1 k := by
  have o31 : onm y.2 y.1 < 2 ^ 31 := onm_k (by omega)
  have o32 : an (onm y.2 y.1) (2 ^ k) < 2 ^ 31 := Nat.lt_of_le_of_lt (an_le _ _) o31
  refine pc_ct (by omega) (fun i hi => ?_)
  rw [an_bit o32, an_bc o31, onm_bit, pmk_bit hk]
  by_cases q : i < y.1
  · rw [decide_eq_true q]
    by_cases r : i = k
    · rw [r, decide_eq_true rfl]
      simp
    · rw [decide_eq_false r, decide_eq_false (show ¬ k = i from fun z => r z.symm)]
      cases (y.2 i).2.2.2 <;> cases ag (y.2 k) (y.2 i) <;> rfl
  · rw [decide_eq_false q]; rfl
theorem x_cond {S : PS} {x : Nat} {T : Nat → TR} {sa bu sc jo : Nat} {o : OS} (H : XX S x T sa bu sc jo o) (ho : OKs o) {c : Nat} (hc : c < o.1.1) : ∀ j, j ≤ 8 → XG 2 0 x T sa bu sc jo S (f_X4_condition S x (nI c) (nI j)) (0, tlw o.1.2 o.1.1 c j, o) := by
  have Q := H.q ho
  obtain ⟨R, V, hx, hg⟩ := id Q
  obtain ⟨cc, c1, c2⟩ := V.get hx hc
  apply n9
  · unfold f_X4_condition tlw
    rw [rnw R, V.has, bd_s, thI_t hc (by omega), b2_t, if_neg n10, if_neg (by decide), if_pos (by decide), rnw R, c1, bd_s, if_pos (by decide), c2.2.1]
    exact XG.ok H rfl
  · unfold f_X4_condition tlw
    rw [rnw R, V.has, bd_s, thI_t hc (by omega), b2_t, if_neg n10, if_neg (by decide), if_pos (by decide), rnw R, c1, bd_s, if_neg (by decide), if_pos (by decide), c2.2.2.1]
    exact XG.ok H rfl
  · unfold f_X4_condition tlw
    rw [rnw R, V.has, bd_s, thI_t hc (by omega), b2_t, if_neg n10, if_neg (by decide), if_pos (by decide), rnw R, c1, bd_s, if_neg (by decide), if_neg (by decide), if_pos (by decide), c2.2.2.2.1]
    exact XG.ok H rfl
  · unfold f_X4_condition tlw
    rw [rnw R, V.has, bd_s, thI_t hc (by omega), b2_t, if_neg n10, if_neg (by decide), if_pos (by decide), rnw R, c1, bd_s, if_neg (by decide), if_neg (by decide), if_neg (by decide), if_pos (by decide), rnw R, V.isOn hx hc, bd_s]
    unfold f_X4_condition_B127
    show XG 2 0 x T sa bu sc jo S _ (0, b2 (o.1.2 c).2.2.2, o)
    cases (o.1.2 c).2.2.2
    · rw [b2_f, if_pos rfl]; exact XG.ok H rfl
    · rw [b2_t, if_neg n10]; exact XG.ok H rfl
  · unfold f_X4_condition tlw
    rw [rnw R, V.has, bd_s, thI_t hc (by omega), b2_t, if_neg n10, if_neg (by decide), if_pos (by decide), rnw R, c1, bd_s, if_neg (by decide), if_neg (by decide), if_neg (by decide), if_neg (by decide), if_pos (by decide), c2.void (hg c hc), bd_s]
    unfold f_X4_condition_B140
    show XG 2 0 x T sa bu sc jo S _ (0, b2 (vo (o.1.2 c)), o)
    cases vo (o.1.2 c)
    · rw [b2_f, if_pos rfl]; exact XG.ok H rfl
    · rw [b2_t, if_neg n10]; exact XG.ok H rfl
  · unfold f_X4_condition tlw
    rw [rnw R, V.has, bd_s, thI_t hc (by omega), b2_t, if_neg n10, if_neg (by decide), if_pos (by decide), rnw R, c1, bd_s, if_neg (by decide), if_neg (by decide), if_neg (by decide), if_neg (by decide), if_neg (by decide), if_pos (by decide), c2.2.2.2.2.1]
    exact XG.ok H rfl
  · unfold f_X4_condition tlw
    rw [rnw R, V.has, bd_s, thI_t hc (by omega), b2_t, if_neg n10, if_neg (by decide), if_pos (by decide), rnw R, c1, bd_s, if_neg (by decide), if_neg (by decide), if_neg (by decide), if_neg (by decide), if_neg (by decide), if_neg (by decide), if_pos (by decide), c2.2.2.2.2.2]
    exact XG.ok H rfl
  · unfold f_X4_condition tlw
    rw [rnw R, V.has, bd_s, thI_t hc (by omega), b2_t, if_neg n10, if_neg (by decide), if_pos (by decide), rnw R, c1, bd_s, if_neg (by decide), if_neg (by decide), if_neg (by decide), if_neg (by decide), if_neg (by decide), if_neg (by decide), if_neg (by decide), if_pos (by decide), rnw R, x_bit (by omega), bd_s, rnw R, V.pat (by omega), bd_s, V.2.2.1, n_an, n_an, x_bits (Nat.lt_of_le_of_lt (Nat.le_trans (an_le _ _) (an_le _ _)) (onm_2048 (by omega))), bd_s, x_agn2 hx hc]
    exact XG.ok H rfl
  · unfold f_X4_condition tlw
    rw [rnw R, V.has, bd_s, thI_t hc (by omega), b2_t, if_neg n10, if_neg (by decide), if_pos (by decide), rnw R, c1, bd_s, if_neg (by decide), if_neg (by decide), if_neg (by decide), if_neg (by decide), if_neg (by decide), if_neg (by decide), if_neg (by decide), if_neg (by decide)]
    obtain ⟨S1, e, cs⟩ := x_isTold Q ho.1.2.2 hc
    unfold f_X4_condition_B193
    rw [e, bd_s]
    show XG 2 0 x T sa bu sc jo S _ (0, b2 (td o.1.2 o.1.1 c), o)
    have H1 := H.kp cs.k
    cases td o.1.2 o.1.1 c
    · rw [b2_f, if_pos rfl]; exact XG.ok H1 cs.1
    · rw [b2_t, if_neg n10]; exact XG.ok H1 cs.1
theorem x_condition {S : PS} {x : Nat} {T : Nat → TR} {sa bu sc jo : Nat} {o : OS} (H : XX S x T sa bu sc jo o) (ho : OKs o) (c w : Int32) : XG 2 0 x T sa bu sc jo S (f_X4_condition S x c w) (q_condition o c w) := by
  have Q := H.q ho
  obtain ⟨R, V, hx, hg⟩ := id Q
  unfold q_condition
  cases ht : thI c o.1.1
  · unfold f_X4_condition
    rw [rnw R, V.has, bd_s, ht, b2_f, if_pos rfl, if_neg (by decide)]
    exact XG.t1 H rfl
  · obtain ⟨j, hj, e1, e2⟩ := thI_ex hx ht
    rw [if_pos rfl]
    cases hw : inI w 0 8
    · unfold f_X4_condition f_X4_condition_B31
      rw [rnw R, V.has, bd_s, ht, b2_t, if_neg n10, inI_if, hw, if_neg (by decide), if_neg (by decide)]
      exact XG.t2 H rfl
    · obtain ⟨n, e3, e4, a, bb⟩ := inI_ex (lo := 0) (hi := 8) (by decide) (by decide) hw
      rw [if_pos rfl, e2, e4, e1, e3]
      exact x_cond H ho hj n bb
theorem x_agrees {S : PS} {x : Nat} {T : Nat → TR} {sa bu sc jo : Nat} {o : OS} (H : XX S x T sa bu sc jo o) (ho : OKs o) (c d : Int32) : XG 2 0 x T sa bu sc jo S (f_X4_agrees S x c d) (q_agrees o c d) := by
  obtain ⟨R, V, hx, hg⟩ := H.q ho
  unfold f_X4_agrees f_X4_agrees_B22 f_X4_agrees_B53 q_agrees
  rw [rnw R, V.has, bd_s]
  cases ht : thI c o.1.1
  · rw [b2_f, if_pos rfl, if_neg (by simp)]
    exact XG.t1 H rfl
  · obtain ⟨j, hj, e1, e2⟩ := thI_ex hx ht
    rw [b2_t, if_neg n10, rnw R, V.has, bd_s]
    cases ht2 : thI d o.1.1
    · rw [b2_f, if_pos rfl, if_neg (by simp)]
      exact XG.t1 H rfl
    · obtain ⟨j2, hj2, e3, e4⟩ := thI_ex hx ht2
      rw [b2_t, if_neg n10, if_pos (show (true && true) = true from rfl), rnw R, e2, e4, e1, e3, V.pat (by omega), bd_s, x_bit (by omega), bd_s]
      have pb := pmk_bit (i := j2) hj
      rw [decide_eq_true hj2, Bool.true_and] at pb
      cases ha : ag (o.1.2 j) (o.1.2 j2)
      · rw [if_pos ((n_ab (by omega)).mpr (by rw [pb, ha]))]; exact XG.ok H rfl
      · rw [if_neg (fun z => by rw [n_ab (by omega), pb, ha] at z; cases z)]; exact XG.ok H rfl
theorem x_joined {S : PS} {x : Nat} {T : Nat → TR} {sa bu sc jo : Nat} {o : OS} (H : XX S x T sa bu sc jo o) (ho : OKs o) (w : Int32) : XG 0 0 x T sa bu sc jo S (f_X4_joined S x w) (q_joined o w) := by
  have Q := H.q ho
  unfold f_X4_joined f_X4_joined_B9 q_joined
  rw [inI_if]
  cases hw : inI w 0 1
  · rw [if_neg (by decide), if_neg (by decide)]
    exact XG.t1 H rfl
  · obtain ⟨S1, e, cs⟩ := x_joinedOf Q (onm_lt _ _) (tg_N ho.1.2.2) w
    rw [if_pos rfl, if_pos rfl, rnw Q.1, Q.2.1.2.2.1, e, bd_s]
    exact XG.ok (H.kp cs.k) cs.1
theorem x_cnt {S : PS} {x : Nat} {T : Nat → TR} {sa bu sc jo : Nat} {o : OS} (H : XX S x T sa bu sc jo o) (ho : OKs o) : ∀ j, j ≤ 6 → XG 0 0 x T sa bu sc jo S (f_X4_count S x (nI j)) (0, cow o.1.2 o.1.1 o.2.1 j, o) := by
  have Q := H.q ho
  obtain ⟨R, V, hx, hg⟩ := id Q
  apply n7
  · unfold f_X4_count cow
    rw [if_neg (by decide), if_pos (by decide), if_pos (by decide), rnw R, V.2.1]
    exact XG.ok H rfl
  · unfold f_X4_count cow
    rw [if_neg (by decide), if_pos (by decide), if_neg (by decide), if_pos (by decide), rnw R, V.2.2.1, x_bits (onm_2048 (by omega)), bd_s]
    exact XG.ok H rfl
  · unfold f_X4_count cow
    rw [if_neg (by decide), if_pos (by decide), if_neg (by decide), if_neg (by decide), if_pos (by decide), rnw R, V.voids hx hg, bd_s]
    exact XG.ok H rfl
  · unfold f_X4_count cow
    rw [if_neg (by decide), if_pos (by decide), if_neg (by decide), if_neg (by decide), if_neg (by decide), if_pos (by decide), rnw R, rnw R, V.2.2.1, V.quarrels hx, bd_s]
    exact XG.ok H rfl
  · unfold f_X4_count f_X4_count_B124 cow
    rw [if_neg (by decide), if_pos (by decide), if_neg (by decide), if_neg (by decide), if_neg (by decide), if_neg (by decide), if_pos (by decide), rnw R, rnw R, V.2.2.1, V.poss hx (onm_lt _ _), bd_s]
    show XG 0 0 x T sa bu sc jo S _ (0, b2 (ps (onm o.1.2 o.1.1) o.1.2), o)
    cases ps (onm o.1.2 o.1.1) o.1.2
    · rw [b2_f, if_pos rfl]; exact XG.ok H rfl
    · rw [b2_t, if_neg n10]; exact XG.ok H rfl
  · obtain ⟨S1, e, cs⟩ := x_toldOnes Q ho.1.2.2
    unfold f_X4_count cow
    rw [if_neg (by decide), if_pos (by decide), if_neg (by decide), if_neg (by decide), if_neg (by decide), if_neg (by decide), if_neg (by decide), if_pos (by decide), e, bd_s]
    exact XG.ok (H.kp cs.k) cs.1
  · unfold f_X4_count cow
    rw [if_neg (by decide), if_pos (by decide), if_neg (by decide), if_neg (by decide), if_neg (by decide), if_neg (by decide), if_neg (by decide), if_neg (by decide), H.2.2.2.1]
    exact XG.ok H rfl
theorem x_count {S : PS} {x : Nat} {T : Nat → TR} {sa bu sc jo : Nat} {o : OS} (H : XX S x T sa bu sc jo o) (ho : OKs o) (w : Int32) : XG 0 0 x T sa bu sc jo S (f_X4_count S x w) (q_count o w) := by
  unfold q_count
  cases hw : inI w 0 6
  · unfold f_X4_count f_X4_count_B10
    rw [inI_if, hw, if_neg (by decide), if_neg (by decide)]
    exact XG.t1 H rfl
  · obtain ⟨n, e3, e4, a, bb⟩ := inI_ex (lo := 0) (hi := 6) (by decide) (by decide) hw
    rw [if_pos rfl, e4, e3]
    exact x_cnt H ho n bb
theorem x_pr_all : al (fun n => decide (n < 2) || eqB (f_X4_isPrime (nI n)) (prb n)) 32 = true := by decide +kernel
theorem x_isPrime (p : Int32) : f_X4_isPrime p = some (b2 (prI p)) := by
  by_cases q : inI p 2 31 = true
  · obtain ⟨j, e, e2, a, bb⟩ := inI_ex (lo := 2) (hi := 31) (by decide) (by decide) q
    have := al_iff.mp x_pr_all j (by omega)
    rw [decide_eq_false (by omega), Bool.false_or] at this
    unfold prI
    unfold inI at q
    rw [q, e, eqB_e this, nI_clamp (by omega)]
    rfl
  · unfold f_X4_isPrime f_X4_isPrime_B11 prI
    rw [inI_if, if_neg q]
    unfold inI at q
    rw [Bool.not_eq_true _ |>.mp q]
    rfl
theorem x_prime {S : PS} {x : Nat} {T : Nat → TR} {sa bu sc jo : Nat} {o : OS} (H : XX S x T sa bu sc jo o) (ho : OKs o) (p w : Int32) : XG 0 0 x T sa bu sc jo S (f_X4_prime S x p w) (q_prime o p w) := by
  have Q := H.q ho
  obtain ⟨R, V, hx, hg⟩ := id Q
  unfold f_X4_prime f_X4_prime_B16 f_X4_prime_B53 q_prime
  rw [x_isPrime, bd_s]
  cases ht : prI p
  · rw [b2_f, if_pos rfl, if_neg (by simp)]
    exact XG.t1 H rfl
  · obtain ⟨n, e1, e2, a, bb⟩ := prI_ex ht
    rw [b2_t, if_neg n10, inI_if]
    cases hw : inI w 0 3
    · rw [if_neg (by decide), if_neg (by simp)]
      exact XG.t1 H rfl
    · rw [if_pos rfl, if_pos (show (true && true) = true from rfl), e2, e1, x_strongest Q a bb, bd_s]
      unfold tp
      rcases bst_ex (w := stw o.1.2 n) (m0 := 1) o.1.1 with e | ⟨b, hb, e, h1⟩
      · rw [e]
        show XG 0 0 x T sa bu sc jo S (if w = 0 then _ else if (-1 : Int32) = -1 then _ else _) (0, (if (-1 : Int32) = -1 then _ else _), o)
        rw [if_pos (show (-1 : Int32) = -1 from rfl), if_pos (show (-1 : Int32) = -1 from rfl)]
        by_cases q0 : w = 0
        · rw [if_pos q0, if_pos q0]; exact XG.ok H rfl
        · rw [if_neg q0, if_neg q0]
          by_cases q1 : w = 1
          · rw [if_pos q1, if_pos q1]; exact XG.ok H rfl
          · rw [if_neg q1, if_neg q1]; exact XG.ok H rfl
      · have mx := fun c (hc : c < o.1.1) => (bst_mx (w := stw o.1.2 n) (m0 := 1) o.1.1).2 c hc
        rw [e] at mx ⊢
        obtain ⟨o1, o2, o3⟩ := stw_on h1
        have g := hg b hb
        have bp := bm_pos g
        have bl := bm_le g
        have rl := br_lt g o2
        have pb : 0 < pp (bm (o.1.2 b)) n := pq_pos (by omega) 9
        have pl : pp (bm (o.1.2 b)) n ≤ 999 := Nat.le_trans (Nat.le_of_dvd bp (pq_dv 9)) bl
        have m1 := Nat.mod_lt (br (o.1.2 b)) pb
        obtain ⟨cc, c1, c2⟩ := V.get hx hb
        show XG 0 0 x T sa bu sc jo S (if w = 0 then some (Sum.inl (nI b), S) else if nI b = -1 then _ else _) (0, (if nI b = -1 then _ else if w = 0 then nI b else if w = 1 then nI (stw o.1.2 n b) else if w = 2 then nI (br (o.1.2 (nI b).toNatClampNeg) % stw o.1.2 n b) else nI (pm o.1.2 o.1.1 n (nI b).toNatClampNeg)), o)
        rw [if_neg (nm1 (by omega)), if_neg (nm1 (by omega)), nI_clamp (by omega)]
        by_cases q0 : w = 0
        · rw [if_pos q0, if_pos q0]; exact XG.ok H rfl
        · rw [if_neg q0, if_neg q0, rnw R, c1, bd_s, x_powerIn c2 g a bb, bd_s, o2, if_neg (show ¬ (false = true) by decide), o3]
          by_cases q1 : w = 1
          · rw [if_pos q1, if_pos q1, lN_i]; exact XG.ok H rfl
          · rw [if_neg q1, if_neg q1]
            by_cases q2 : w = 2
            · rw [if_pos q2, if_pos q2, c2.fbr o2, nI_l (by omega), x_restN (by omega) pb (by omega), bd_s, lN_i]; exact XG.ok H rfl
            · rw [if_neg q2, if_neg q2, x_contra Q a bb hb c2 o2 (fun c hc => by have := mx c hc; rw [← o3]; exact this), bd_s]
              exact XG.ok H rfl
theorem x_isNumber (y : Int64) : f_X4_isNumber y = some (b2 (numI y)) := by
  unfold f_X4_isNumber f_X4_isNumber_B18 f_X4_isNumber_B19 numI
  by_cases a : y < 0
  · rw [if_pos a, decide_eq_false (Int64.not_le.mpr a)]; exact ckb0
  · rw [if_neg a, decide_eq_true (Int64.not_lt.mp a)]
    by_cases b : 1000000000000000 < y
    · rw [if_pos b, decide_eq_false (Int64.not_le.mpr b)]; exact ckb0
    · rw [if_neg b, decide_eq_true (Int64.not_lt.mp b)]; exact ckb1
theorem x_answer {S : PS} {x : Nat} {T : Nat → TR} {sa bu sc jo : Nat} {o : OS} (H : XX S x T sa bu sc jo o) (ho : OKs o) (y : Int64) (i : Int32) : XG 0 0 x T sa bu sc jo S (f_X4_answer S x y i) (q_answer o y i) := by
  have Q := H.q ho
  obtain ⟨R, V, hx, hg⟩ := id Q
  unfold f_X4_answer f_X4_answer_B17 q_answer
  rw [x_isNumber, bd_s]
  cases ht : numI y
  · rw [b2_f, if_pos rfl, if_neg (by simp)]
    exact XG.t1 H rfl
  · obtain ⟨n, hn, e1⟩ := numI_ex ht
    rw [b2_t, if_neg n10, inI_if]
    cases hi : inI i 0 99
    · rw [if_neg (by decide), if_neg (by simp)]
      exact XG.t1 H rfl
    · obtain ⟨j, e3, e4, a, bb⟩ := inI_ex (lo := 0) (hi := 99) (by decide) (by decide) hi
      have ol := onm_lt o.1.2 o.1.1
      rw [if_pos rfl, if_pos (show (true && true) = true from rfl), rnw R, rnw R, V.2.2.1, V.poss hx ol, bd_s, e1, e4, e3, lN_clamp (by unfold LIM at hn; omega)]
      unfold aw
      cases hp : ps (onm o.1.2 o.1.1) o.1.2
      · rw [b2_f, if_pos rfl, if_neg (by decide)]; exact XG.ok H rfl
      · obtain ⟨S1, e, cs, v1, v2⟩ := x_join Q ol hp (tg_N ho.1.2.2 hp)
        rw [b2_t, if_neg n10, rnw R, V.2.2.1, e, bd_s, if_pos rfl]
        show XG 0 0 x T sa bu sc jo S (bd (f_X1_leastFrom S1 jo (lN n)) fun t19 => some (Sum.inl (t19 + (nI j).toInt64 * fL S1 16 jo), S1)) _
        rw [x_least v1 v2 (RR_lt hg ol hp) (tg_N ho.1.2.2 hp) hn, bd_s, v1, nI_l (by omega), lN_mul, lN_add]
        exact XG.ok (H.kp cs.k) cs.1
theorem x_nearest {S : PS} {x : Nat} {T : Nat → TR} {sa bu sc jo : Nat} {o : OS} (H : XX S x T sa bu sc jo o) (ho : OKs o) (y : Int64) : XG 0 0 x T sa bu sc jo S (f_X4_nearest S x y) (q_nearest o y) := by
  have Q := H.q ho
  obtain ⟨R, V, hx, hg⟩ := id Q
  unfold f_X4_nearest q_nearest
  rw [x_isNumber, bd_s]
  cases ht : numI y
  · rw [b2_f, if_pos rfl, if_neg (by decide)]
    exact XG.t1 H rfl
  · obtain ⟨n, hn, e1⟩ := numI_ex ht
    have ol := onm_lt o.1.2 o.1.1
    rw [b2_t, if_neg n10, if_pos rfl, rnw R, rnw R, V.2.2.1, V.poss hx ol, bd_s, e1, lN_clamp (by unfold LIM at hn; omega)]
    unfold nw
    cases hp : ps (onm o.1.2 o.1.1) o.1.2
    · rw [b2_f, if_pos rfl, if_neg (by decide)]; exact XG.ok H rfl
    · obtain ⟨S1, e, cs, v1, v2⟩ := x_join Q ol hp (tg_N ho.1.2.2 hp)
      have H1 := H.kp cs.k
      have hl := RR_lt hg ol hp
      have hb := tg_N ho.1.2.2 hp
      have ab := af_b (y := n) hl
      rw [b2_t, if_neg n10, rnw R, V.2.2.1, e, bd_s, if_pos rfl]
      show XG 0 0 x T sa bu sc jo S (bd (f_X1_leastFrom S1 jo (lN n)) fun t17 => if t17 - fL S1 16 jo < 0 then f_X4_nearest_B91 S1 t17 else if t17 - lN n < lN n - (t17 - fL S1 16 jo) then f_X4_nearest_B91 S1 t17 else f_X4_nearest_B93 S1 (t17 - fL S1 16 jo)) _
      rw [x_least v1 v2 hl hb hn, bd_s, v1]
      unfold f_X4_nearest_B91 f_X4_nearest_B93 nr
      unfold LIM at *
      generalize af (NN (onm o.1.2 o.1.1) o.1.2 11) (RR (onm o.1.2 o.1.1) o.1.2) n = a at ab
      generalize NN (onm o.1.2 o.1.1) o.1.2 11 = N at *
      rw [lN_z a, lN_z N, lN_z n, zL_sub, zL_sub, zL_sub]
      by_cases q : a < N
      · rw [if_pos ((zL_l0 (by omega) (by omega)).mpr (by omega)), if_pos q, lN_z]
        exact XG.ok H1 cs.1
      · rw [if_neg (fun z => by have := (zL_l0 (by omega) (by omega)).mp z; omega), if_neg q]
        by_cases q2 : a - n < n - (a - N)
        · rw [if_pos ((zL_lt (by omega) (by omega) (by omega) (by omega)).mpr (by omega)), if_pos q2, lN_z]
          exact XG.ok H1 cs.1
        · rw [if_neg (fun z => by have := (zL_lt (by omega) (by omega) (by omega) (by omega)).mp z; omega), if_neg q2, lN_z, show ((a - N : Nat) : Int) = (a : Int) - N by omega]
          exact XG.ok H1 cs.1
theorem x_between {S : PS} {x : Nat} {T : Nat → TR} {sa bu sc jo : Nat} {o : OS} (H : XX S x T sa bu sc jo o) (ho : OKs o) (y w : Int64) : XG 0 0 x T sa bu sc jo S (f_X4_between S x y w) (q_between o y w) := by
  have Q := H.q ho
  obtain ⟨R, V, hx, hg⟩ := id Q
  unfold f_X4_between f_X4_between_B14 f_X4_between_B48 q_between
  rw [x_isNumber, x_isNumber, bd_s, bd_s]
  cases ht : numI y
  · rw [b2_f, if_pos rfl, if_neg (by simp)]
    exact XG.t1 H rfl
  · obtain ⟨n, hn, e1⟩ := numI_ex ht
    rw [b2_t, if_neg n10]
    cases ht2 : numI w
    · rw [b2_f, if_pos rfl, if_neg (by simp)]
      exact XG.t1 H rfl
    · obtain ⟨n2, hn2, e2⟩ := numI_ex ht2
      have ol := onm_lt o.1.2 o.1.1
      rw [b2_t, if_neg n10, if_pos (show (true && true) = true from rfl), e1, e2, lN_clamp (by unfold LIM at hn; omega), lN_clamp (by unfold LIM at hn2; omega)]
      unfold bw
      by_cases q : n2 < n
      · rw [if_pos ((pk_lLT (by unfold LIM at hn2; omega) (by unfold LIM at hn; omega)).mpr q), if_pos q]
        exact XG.ok H rfl
      · rw [if_neg (fun z => q ((pk_lLT (by unfold LIM at hn2; omega) (by unfold LIM at hn; omega)).mp z)), if_neg q, rnw R, rnw R, V.2.2.1, V.poss hx ol, bd_s]
        cases hp : ps (onm o.1.2 o.1.1) o.1.2
        · rw [b2_f, if_pos rfl, if_neg (by decide)]; exact XG.ok H rfl
        · obtain ⟨S1, e, cs, v1, v2⟩ := x_join Q ol hp (tg_N ho.1.2.2 hp)
          have hl := RR_lt hg ol hp
          have hb := tg_N ho.1.2.2 hp
          have hcu := cu_bw (N := NN (onm o.1.2 o.1.1) o.1.2 11) (R := RR (onm o.1.2 o.1.1) o.1.2) (y := n) (z := n2) hl (by omega)
          have e3 : lN n - (1 : Int64) = zL ((n : Int) - 1) := by rw [lN_z, show (1 : Int64) = zL 1 from rfl, zL_sub]
          rw [b2_t, if_neg n10, rnw R, V.2.2.1, e, bd_s, if_pos rfl]
          show XG 0 0 x T sa bu sc jo S (bd (f_X1_answersUpTo S1 jo (lN n2)) fun t22 => bd (f_X1_answersUpTo S1 jo (lN n - (1 : Int64))) fun t25 => some (Sum.inl (t22 - t25), S1)) _
          rw [e3, lN_z n2, x_upto v1 v2 hl hb (by omega) (by omega), bd_s, x_upto v1 v2 hl hb (by omega) (by omega), bd_s, hcu, lN_sub (Nat.le_add_right _ _), Nat.add_sub_cancel_left]
          exact XG.ok (H.kp cs.k) cs.1
theorem x_misses {S : PS} {x : Nat} {T : Nat → TR} {sa bu sc jo : Nat} {o : OS} (H : XX S x T sa bu sc jo o) (ho : OKs o) (y : Int64) : XG 0 0 x T sa bu sc jo S (f_X4_misses S x y) (q_misses o y) := by
  obtain ⟨R, V, hx, hg⟩ := H.q ho
  unfold f_X4_misses q_misses
  rw [x_isNumber, bd_s]
  cases ht : numI y
  · rw [b2_f, if_pos rfl, if_neg (by decide)]
    exact XG.t1 H rfl
  · obtain ⟨n, hn, e1⟩ := numI_ex ht
    rw [b2_t, if_neg n10, if_pos rfl, e1, lN_clamp (by unfold LIM at hn; omega)]
    have body := lp_asc (L := fun m d => f_X4_misses_L23 f_X4_misses_B72 m S x (lN n) (nI (msd o.1.2 d n)) (nI d)) (e := o.1.1) (r := some (.inl (nI (msd o.1.2 o.1.1 n)), S)) (fun m => by
      show f_X4_misses_L23s (f_X4_misses_L23 f_X4_misses_B72 m) f_X4_misses_B72 S x (lN n) (nI (msd o.1.2 o.1.1 n)) (nI o.1.1) = _
      unfold f_X4_misses_L23s f_X4_misses_B72
      rw [rnw R, V.2.1, if_pos (Int32.le_refl _)]) (fun m d hd => by
      show f_X4_misses_L23s (f_X4_misses_L23 f_X4_misses_B72 m) f_X4_misses_B72 S x (lN n) (nI (msd o.1.2 d n)) (nI d) = f_X4_misses_L23 f_X4_misses_B72 m S x (lN n) (nI (msd o.1.2 (d + 1) n)) (nI (d + 1))
      obtain ⟨cc, c1, c2⟩ := V.get hx hd
      unfold f_X4_misses_L23s f_X4_misses_B66
      rw [rnw R, V.2.1, if_neg (nle hd (by omega)), rnw R, V.isOn hx hd, bd_s, nI_1, nI_1a]
      unfold msd
      cases ho : (o.1.2 d).2.2.2
      · rw [b2_f, if_pos rfl, ct_n (by rw [ho]; rfl)]
      · rw [b2_t, if_neg n10, rnw R, c1, bd_s, x_ful c2 (hg d hd) (by unfold LIM at hn; omega), bd_s]
        cases hf : fu (o.1.2 d) n
        · rw [b2_f, if_pos rfl, ct_s (by rw [ho, hf]; rfl)]
        · rw [b2_t, if_neg n10, ct_n (by rw [ho, hf]; rfl)]) 11 0 (by omega) (by omega)
    have body : f_X4_misses_L23 f_X4_misses_B72 11 S x (lN n) 0 0 = some (.inl (nI (msd o.1.2 o.1.1 n)), S) := body
    rw [body]
    exact XG.ok H rfl
theorem x_without {S : PS} {x : Nat} {T : Nat → TR} {sa bu sc jo : Nat} {o : OS} (H : XX S x T sa bu sc jo o) (ho : OKs o) (c w : Int32) : XG 2 0 x T sa bu sc jo S (f_X4_without S x c w) (q_without o c w) := by
  have Q := H.q ho
  obtain ⟨R, V, hx, hg⟩ := id Q
  unfold f_X4_without f_X4_without_B30 q_without
  rw [rnw R, V.has, bd_s]
  cases ht : thI c o.1.1
  · rw [b2_f, if_pos rfl, if_neg (by decide)]
    exact XG.t1 H rfl
  · obtain ⟨j, hj, e1, e2⟩ := thI_ex hx ht
    rw [b2_t, if_neg n10, if_pos rfl, inI_if, e2, e1]
    cases hw : inI w 0 1
    · rw [if_neg (by decide), if_neg (by decide)]
      exact XG.t2 H rfl
    · obtain ⟨S1, e, cs⟩ := x_joinedOf Q (wo_lt _ _ j) (wo_N ho.1 j) w
      rw [if_pos rfl, if_pos rfl, rnw R, x_bit (by omega), bd_s, V.2.2.1, n_an, e, bd_s]
      exact XG.ok (H.kp cs.k) cs.1

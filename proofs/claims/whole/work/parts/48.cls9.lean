/-! ===== the class: what one more would bring ===== -/
theorem ps_fa {s n : Nat} {f : Nat → CT} {z : CT} (hs : s < 2 ^ n) : ps s (fa f n z) = ps s f := by
  rw [Bool.eq_iff_iff, ps_iff, ps_iff]
  constructor
  · intro h c d hc hd b1 b2
    have := h c d hc hd b1 b2
    rwa [fa_n (Nat.ne_of_lt (bt_lt hs b1)), fa_n (Nat.ne_of_lt (bt_lt hs b2))] at this
  · intro h c d hc hd b1 b2
    rw [fa_n (Nat.ne_of_lt (bt_lt hs b1)), fa_n (Nat.ne_of_lt (bt_lt hs b2))]
    exact h c d hc hd b1 b2
theorem NN_cg {s s' : Nat} {f f' : Nat → CT} : ∀ m, (∀ i, i < m → s.testBit i = s'.testBit i ∧ (s.testBit i = true → f i = f' i)) → NN s f m = NN s' f' m
  | 0, _ => rfl
  | m + 1, h => by
    have ih := NN_cg m (fun i hi => h i (by omega))
    obtain ⟨a, b⟩ := h m (by omega)
    unfold NN
    rw [ih, ← a]
    cases q : s.testBit m
    · rfl
    · rw [b q]
theorem NN_fa {s n : Nat} {f : Nat → CT} {z : CT} (hs : s < 2 ^ n) (m : Nat) : NN s (fa f n z) m = NN s f m := NN_cg m (fun i _ => ⟨rfl, fun b => fa_n (Nat.ne_of_lt (bt_lt hs b))⟩)
theorem RR_fa {s n : Nat} {f : Nat → CT} {z : CT} (hs : s < 2 ^ n) : RR s (fa f n z) = RR s f := by
  unfold RR
  rw [NN_fa hs]
  congr 1
  funext R
  refine al_cg (fun i hi => ?_)
  cases q : s.testBit i
  · rfl
  · rw [fa_n (Nat.ne_of_lt (bt_lt hs q))]
theorem tl_fa {s n : Nat} {f : Nat → CT} {z y : CT} (hs : s < 2 ^ n) : tl s (fa f n z) y = tl s f y := by
  unfold tl
  rw [ps_fa hs, NN_fa hs, RR_fa hs]
theorem ct_z {p : Nat → Bool} : ∀ {n : Nat}, ct p n = 0 ↔ ∀ i, i < n → p i = false
  | 0 => ⟨fun _ i h => by omega, fun _ => rfl⟩
  | n + 1 => by
    have ih := ct_z (p := p) (n := n)
    show ct p n + (if p n = true then 1 else 0) = 0 ↔ _
    constructor
    · intro h i hi
      cases q : p n
      · rw [q] at h
        rcases Nat.lt_or_ge i n with r | r
        · exact ih.mp (by simpa using h) i r
        · rw [show i = n by omega]; exact q
      · rw [q] at h
        simp at h
    · intro h
      rw [ih.mpr (fun i hi => h i (by omega)), h n (by omega)]
      rfl
/-- how many that are on do not agree with one more -/
theorem agn_more {f : Nat → CT} {n : Nat} {z : CT} : agn (fa f n z) n n = ct (fun d => (f d).2.2.2 && !ag z (f d)) n := by
  unfold agn
  refine ct_cg (fun i hi => ?_)
  rw [fa_s, fa_n (by omega), decide_eq_false (show ¬ i = n by omega)]
  rfl
theorem x_more {f : Nat → CT} {n : Nat} (hn : n ≤ 10) {z : CT} : pc (an (onm f n) (msk (fun d => ag z (f d)) n)) = agn (fa f n z) n n := by
  have o31 : onm f n < 2 ^ 31 := onm_k (by omega)
  rw [agn_more]
  refine pc_ct (by omega) (fun i hi => ?_)
  rw [an_bit o31, onm_bit, msk_bit]
  by_cases q : i < n
  · rw [decide_eq_true q]
    cases (f i).2.2.2 <;> cases ag z (f i) <;> rfl
  · rw [decide_eq_false q]; rfl
theorem ps_more {f : Nat → CT} {n : Nat} (hn : n ≤ 10) {z : CT} : ps (onm f n ||| 2 ^ n) (fa f n z) = (ps (onm f n) f && (!vo z && decide (agn (fa f n z) n n = 0))) := by
  have ol := onm_lt f n
  rw [Bool.eq_iff_iff, Bool.and_eq_true, Bool.and_eq_true, Bool.not_eq_true', decide_eq_true_iff, agn_more, ct_z]
  constructor
  · intro h
    have hh := ps_iff.mp h
    refine ⟨ps_iff.mpr (fun c d hc hd b1 b2 => ?_), ?_, fun i hi => ?_⟩
    · have l1 := bt_lt ol b1
      have l2 := bt_lt ol b2
      have := hh c d hc hd (by rw [or_n l1]; exact b1) (by rw [or_n l2]; exact b2)
      rwa [fa_n (by omega), fa_n (by omega)] at this
    · have := ps_vo h (show n < 11 by omega) or_s
      rwa [fa_s] at this
    · cases o : (f i).2.2.2
      · rfl
      · have := hh n i (by omega) (by omega) or_s (by rw [or_n hi]; exact onm_on hi o)
        rw [fa_s, fa_n (by omega)] at this
        rw [this]; rfl
  · rintro ⟨h1, h2, h3⟩
    have g : ∀ i, (onm f n).testBit i = true → ag z (f i) = true := fun i b => by
      obtain ⟨i1, i2⟩ := onm_ex b
      have := h3 i i1
      rw [i2, Bool.true_and, Bool.not_eq_false'] at this
      exact this
    have cs : ∀ c, (onm f n ||| 2 ^ n).testBit c = true → c = n ∨ (c < n ∧ (onm f n).testBit c = true) := fun c b => by
      rw [or_bit, Bool.or_eq_true, decide_eq_true_iff] at b
      rcases b with b | b
      · exact Or.inr ⟨bt_lt ol b, b⟩
      · exact Or.inl b.symm
    refine ps_iff.mpr (fun c d hc hd b1 b2 => ?_)
    rcases cs c b1 with e1 | ⟨l1, e1⟩
    · rcases cs d b2 with e2 | ⟨l2, e2⟩
      · rw [e1, e2, fa_s]; exact ag_self h2
      · rw [e1, fa_s, fa_n (by omega)]; exact g d e2
    · rcases cs d b2 with e2 | ⟨l2, e2⟩
      · rw [e2, fa_s, fa_n (by omega), ag_sy]; exact g c e1
      · rw [fa_n (by omega), fa_n (by omega)]; exact ps_iff.mp h1 c d hc hd e1 e2
theorem x_ifAdded {S : PS} {x : Nat} {T : Nat → TR} {sa bu sc jo : Nat} {o : OS} {n : Nat} (H : XX S x T sa bu sc jo o) (ho : OKs o) (hn : frn S n) (a b m w : Int32) : XN 0 0 x T sa bu sc jo (f_X4_ifAdded S n x a b m w) (q_ifAdded o a b m w) := by
  unfold f_X4_ifAdded f_X4_ifAdded_B20 q_ifAdded
  rw [x_parts, bd_s]
  cases hg : gdI a b m
  · rw [b2_f, if_pos rfl, if_neg (by simp)]
    exact XN.t1 H hn
  · rw [b2_t, if_neg n10, inI_if]
    cases hw : inI w 0 3
    · rw [if_neg (by decide), if_neg (by simp)]
      exact XN.t1 H hn
    · obtain ⟨ww, e4, e5, -, w3⟩ := inI_ex (lo := 0) (hi := 3) (by decide) (by decide) hw
      obtain ⟨e1, e2, e3, g⟩ := gd_tn hg
      obtain ⟨S1, k1, k2, k3, k4⟩ := x_new hn g
      have k1 : f_X0_init (nO S n 0) n (nI (tn a)) (nI (tn b)) (nI (tn m)) = some S1 := k1
      rw [← e1, ← e2, ← e3] at k1
      have H1 := H.kp k2
      have Q := H1.q ho
      obtain ⟨R, V, hx, hgs⟩ := id Q
      have ol := onm_lt o.1.2 o.1.1
      rw [if_pos rfl, if_pos (show (true && true) = true from rfl), k1, bd_s, x_refused H1 ho k3 g, bd_s, e5, e4]
      generalize hz : (tn a, tn b, tn m, true) = z at *
      unfold waw
      cases hc : cn o.1.2 o.1.1 z
      · show XN 0 0 x T sa bu sc jo (if b2 true = 0 then _ else _) _
        rw [b2_t, if_neg n10, if_neg (by decide)]
        exact XN.ok H1 (hn.nx k4)
      · have hcc := hc
        unfold cn at hcc
        rw [Bool.and_eq_true, decide_eq_true_iff, Bool.not_eq_true'] at hcc
        have al := agn_le (fa o.1.2 o.1.1 z) o.1.1 o.1.1
        have ml : an (onm o.1.2 o.1.1) (msk (fun d => ag z (o.1.2 d)) o.1.1) < 2048 := Nat.lt_of_le_of_lt (an_le _ _) (onm_2048 (by omega))
        show XN 0 0 x T sa bu sc jo (if b2 false = 0 then _ else _) _
        rw [b2_f, if_pos rfl, if_pos rfl, rnw R, rnw R, V.sc.pof hx hgs k3 g, bd_s, V.2.2.1, n_an, x_bits ml, bd_s, x_more hx]
        by_cases q2 : ww = 2
        · rw [if_pos (show nI ww = 2 by rw [q2]; rfl), if_neg (show ¬ ww < 2 by omega), if_pos q2, nI_l (by omega)]
          exact XN.ok H1 (hn.nx k4)
        · rw [if_neg (show ¬ nI ww = 2 from fun z => q2 ((nI_eq (b := 2) (by omega) (by decide)).mp z)), rnw R, rnw R, V.2.2.1, V.poss hx ol, bd_s]
          by_cases q3 : ww = 3
          · unfold f_X4_ifAdded_B139 f_X4_ifAdded_B140
            rw [if_pos (show nI ww = 3 by rw [q3]; rfl), if_neg (show ¬ ww < 2 by omega), if_neg q2, tl_fa ol]
            unfold tl
            cases hp : ps (onm o.1.2 o.1.1) o.1.2
            · rw [b2_f, if_pos rfl, if_neg (by simp)]
              exact XN.ok H1 (hn.nx k4)
            · obtain ⟨S2, e, cs, v1, v2⟩ := x_join Q ol hp (tg_N ho.1.2.2 hp)
              have H2 := H1.kp cs.k
              rw [b2_t, if_neg n10, rnw R, V.2.2.1, e, bd_s]
              show XN 0 0 x T sa bu sc jo (bd (f_X1_tells S2 jo n) fun t51 => if t51 = 0 then some (Sum.inl 0, S2, n + 1) else some (Sum.inl 1, S2, n + 1)) _
              rw [x_tells (k3.sj cs) g v1 v2 (RR_lt hgs ol hp) (tg_N ho.1.2.2 hp), bd_s, Bool.true_and]
              cases (!vo z && (decide (NN (onm o.1.2 o.1.1) o.1.2 11 % bm z = 0) && decide (RR (onm o.1.2 o.1.1) o.1.2 % bm z = br z)))
              · rw [b2_f, if_pos rfl, if_neg (by decide)]
                exact XN.ok H2 (fun z hz => by rw [cs.1]; exact hn.nx k4 z hz)
              · rw [b2_t, if_neg n10, if_pos rfl]
                exact XN.ok H2 (fun z hz => by rw [cs.1]; exact hn.nx k4 z hz)
          · have w2 : ww < 2 := by omega
            unfold f_X4_ifAdded_B159 f_X4_ifAdded_B201
            rw [if_neg (show ¬ nI ww = 3 from fun z => q3 ((nI_eq (b := 3) (by omega) (by decide)).mp z)), if_pos w2]
            unfold jb
            rw [ps_more hx]
            cases hp : ps (onm o.1.2 o.1.1) o.1.2
            · rw [b2_f, if_pos rfl, if_neg (by simp)]
              exact XN.ok H1 (hn.nx k4)
            · rw [b2_t, if_neg n10, k3.void g, bd_s]
              cases hv : vo z
              · rw [b2_f, if_pos rfl]
                by_cases q0 : agn (fa o.1.2 o.1.1 z) o.1.1 o.1.1 = 0
                · have hp' : ps (onm o.1.2 o.1.1 ||| 2 ^ o.1.1) (fa o.1.2 o.1.1 z) = true := by
                    rw [ps_more hx, hp, hv, decide_eq_true q0]; rfl
                  have hgs' : ∀ d, d < 11 → (onm o.1.2 o.1.1 ||| 2 ^ o.1.1).testBit d = true → gd (fa o.1.2 o.1.1 z d) := fun d _ b => fa_gd1 (y := o.1) hgs g d (bt_lt (or_lt ol) b)
                  obtain ⟨S2, e, cs, v1, v2⟩ := x_join Q ol hp (tg_N ho.1.2.2 hp)
                  have H2 := H1.kp cs.k
                  have eN : NN (onm o.1.2 o.1.1 ||| 2 ^ o.1.1) (fa o.1.2 o.1.1 z) o.1.1 = NN (onm o.1.2 o.1.1) o.1.2 11 := by
                    rw [NN_tail (n := o.1.1) (m := 11) (by omega) (fun i h1 _ => bit_hi ol h1)]
                    exact (NN_cg o.1.1 (fun i hi => ⟨(or_n hi).symm, fun _ => (fa_n (by omega)).symm⟩)).symm
                  have sp := RR_spec hp (gd_s hgs ol)
                  have J : JI (onm o.1.2 o.1.1 ||| 2 ^ o.1.1) (fa o.1.2 o.1.1 z) o.1.1 (NN (onm o.1.2 o.1.1 ||| 2 ^ o.1.1) (fa o.1.2 o.1.1 z) o.1.1) (RR (onm o.1.2 o.1.1) o.1.2) := ⟨rfl, by rw [eN]; exact sp.1, fun d hd b => by
                    rw [or_n hd] at b
                    rw [fa_n (by omega)]
                    exact sp.2 d (by omega) b⟩
                  have hs := ji_sol hp' J (by omega) or_s hgs'
                  have hl := NN_mono (s := onm o.1.2 o.1.1 ||| 2 ^ o.1.1) (f := fa o.1.2 o.1.1 z) (n := o.1.1 + 1) (m := 11) (by omega) hgs'
                  have e1' := NN_t (s := onm o.1.2 o.1.1 ||| 2 ^ o.1.1) (f := fa o.1.2 o.1.1 z) (c := o.1.1) or_s
                  have e2' : NN (onm o.1.2 o.1.1 ||| 2 ^ o.1.1) (fa o.1.2 o.1.1 z) 11 = Nat.lcm (NN (onm o.1.2 o.1.1) o.1.2 11) (bm z) := by
                    rw [NN_tail (n := o.1.1 + 1) (m := 11) (by omega) (fun i h1 _ => bit_hi (or_lt ol) h1), e1', eN, fa_s]
                  rw [eN, fa_s] at hs
                  have hb : Nat.lcm (NN (onm o.1.2 o.1.1) o.1.2 11) (bm z) ≤ LIM := by rw [← e2']; exact tg_N hcc.2 hp'
                  obtain ⟨S3, R1, t1, t2, t3, t4, t5, t6, t7⟩ := x_take (k3.sj cs) g hv v1 v2 sp.1 hs hb
                  have J2 := ji_t or_s J (R1 := R1) (by rw [eN, fa_s]; exact t5) (by rw [eN]; exact t6) (by rw [fa_s]; exact t7)
                  have eR := (ji_RR (ji_tail (n := o.1.1 + 1) (by omega) (or_lt ol) J2)).2
                  have H3 := H2.kp t2.k
                  rw [if_pos (show nI (agn (fa o.1.2 o.1.1 z) o.1.1 o.1.1) ≤ 0 by rw [q0]; exact Int32.le_refl _), rnw R, V.2.2.1, e, bd_s, decide_eq_true q0, if_pos (show (true && (!false && true)) = true from rfl)]
                  show XN 0 0 x T sa bu sc jo (bd (f_X1_take S2 jo n) fun t43 => if nI ww = 0 then some (Sum.inl (fL t43 16 jo), t43, n + 1) else some (Sum.inl (fL t43 17 jo), t43, n + 1)) _
                  rw [t1, bd_s, t3, t4, e2', ← eR]
                  by_cases q : nI ww = 0
                  · rw [if_pos q, if_pos q]; exact XN.ok H3 (fun z hz => by rw [t2.1, cs.1]; exact hn.nx k4 z hz)
                  · rw [if_neg q, if_neg q]; exact XN.ok H3 (fun z hz => by rw [t2.1, cs.1]; exact hn.nx k4 z hz)
                · rw [if_neg (fun z => q0 ((nI_p0 (by omega)).mp z)), decide_eq_false q0, if_neg (by simp)]
                  exact XN.ok H1 (hn.nx k4)
              · rw [b2_t, if_neg n10, if_neg (by simp)]
                exact XN.ok H1 (hn.nx k4)

/-! ===== the class: add, remove, toggle, bare, thin, agree, append, ifAdded ===== -/
def XN {β : Type} (k1 k2 : Nat) (x : Nat) (T : Nat → TR) (sa bu sc jo : Nat) (e : Option ((β ⊕ Nat) × PS × Nat)) (w : Nat × β × OS) : Prop := ∃ S1 r n1, e = some (r, S1, n1) ∧ (w.1 = 0 → r = .inl w.2.1) ∧ (w.1 = 1 → r = .inr k1) ∧ (w.1 = 2 → r = .inr k2) ∧ w.1 ≤ 2 ∧ XX S1 x T sa bu sc jo w.2.2 ∧ ∀ q, n1 ≤ q → q ∉ PL S1
theorem XN.ok {β : Type} {k1 k2 x : Nat} {T : Nat → TR} {sa bu sc jo n1 : Nat} {S1 : PS} {v : β} {o : OS} (H : XX S1 x T sa bu sc jo o) (F : ∀ q, n1 ≤ q → q ∉ PL S1) : XN k1 k2 x T sa bu sc jo (some (.inl v, S1, n1)) (0, v, o) := ⟨S1, _, n1, rfl, fun _ => rfl, fun z => absurd (show (0 : Nat) = 1 from z) (by decide), fun z => absurd (show (0 : Nat) = 2 from z) (by decide), (by show 0 ≤ 2; decide), H, F⟩
theorem XN.t1 {β : Type} {k1 k2 x : Nat} {T : Nat → TR} {sa bu sc jo n1 : Nat} {S1 : PS} {v : β} {o : OS} (H : XX S1 x T sa bu sc jo o) (F : ∀ q, n1 ≤ q → q ∉ PL S1) : XN k1 k2 x T sa bu sc jo (some (.inr k1, S1, n1)) (1, v, o) := ⟨S1, _, n1, rfl, fun z => absurd (show (1 : Nat) = 0 from z) (by decide), fun _ => rfl, fun z => absurd (show (1 : Nat) = 2 from z) (by decide), (by show 1 ≤ 2; decide), H, F⟩
theorem XN.t2 {β : Type} {k1 k2 x : Nat} {T : Nat → TR} {sa bu sc jo n1 : Nat} {S1 : PS} {v : β} {o : OS} (H : XX S1 x T sa bu sc jo o) (F : ∀ q, n1 ≤ q → q ∉ PL S1) : XN k1 k2 x T sa bu sc jo (some (.inr k2, S1, n1)) (2, v, o) := ⟨S1, _, n1, rfl, fun z => absurd (show (2 : Nat) = 0 from z) (by decide), fun z => absurd (show (2 : Nat) = 1 from z) (by decide), fun _ => rfl, (by show 2 ≤ 2; decide), H, F⟩
theorem x_parts (a b m : Int32) : f_X4_areParts a b m = some (b2 (gdI a b m)) := by
  unfold f_X4_areParts f_X4_areParts_B39 f_X4_areParts_B40 gdI
  by_cases a1 : a < 1
  · rw [if_pos a1, decide_eq_false (Int32.not_le.mpr a1)]; exact ckb0
  · rw [if_neg a1, decide_eq_true (Int32.not_lt.mp a1)]
    by_cases a2 : 999 < a
    · rw [if_pos a2, decide_eq_false (Int32.not_le.mpr a2)]; exact ckb0
    · rw [if_neg a2, decide_eq_true (Int32.not_lt.mp a2)]
      by_cases b1 : b < 0
      · rw [if_pos b1, decide_eq_false (Int32.not_le.mpr b1)]; exact ckb0
      · rw [if_neg b1, decide_eq_true (Int32.not_lt.mp b1)]
        by_cases b2' : 999 < b
        · rw [if_pos b2', decide_eq_false (Int32.not_le.mpr b2')]; exact ckb0
        · rw [if_neg b2', decide_eq_true (Int32.not_lt.mp b2')]
          by_cases m1 : m < 1
          · rw [if_pos m1, decide_eq_false (Int32.not_le.mpr m1)]; exact ckb0
          · rw [if_neg m1, decide_eq_true (Int32.not_lt.mp m1)]
            by_cases m2 : 999 < m
            · rw [if_pos m2, decide_eq_false (Int32.not_le.mpr m2)]; exact ckb0
            · rw [if_neg m2, decide_eq_true (Int32.not_lt.mp m2)]; exact ckb1
/-- no cell of the picture lies at n or behind it -/
def frn (S : PS) (n : Nat) : Prop := ∀ q, n ≤ q → q ∉ PL S
theorem fI_mk {S : PS} {c i a : Nat} {z : CT} (h : a ≠ c) : fI (mkC S c z) i a = fI S i a := by
  unfold mkC
  show u2 (u2 (u2 (u2 (u2 (fI S) 0 c _) 1 c _) 2 c _) 3 c _) 4 c _ i a = _
  rw [u2_ne h, u2_ne h, u2_ne h, u2_ne h, u2_ne h]
theorem x_new {S : PS} {n : Nat} (hn : frn S n) {z : CT} (gz : gd z) : ∃ S1, f_X0_init (nO S n 0) n (nI z.1) (nI z.2.1) (nI z.2.2.1) = some S1 ∧ keep S S1 ∧ CD S1 n z ∧ PL S1 = PL S ++ [n] := by
  have h0 := hn n (Nat.le_refl _)
  refine ⟨_, x_mk gz, ⟨fun a k h => EX.nO h0 a k h, fun a ha => ?_⟩, ⟨vd_nO (S := S), ?_, ?_, ?_, ?_, ?_⟩, rfl⟩
  · have ne : a ≠ n := fun e => h0 (by rw [← e]; exact ha)
    refine ⟨fun i => (fI_mk ne).trans (if_neg ne), fun i => if_neg ne, rfl, rfl, rfl⟩
  · unfold mkC
    rw [fI_ne (by decide), fI_ne (by decide), fI_ne (by decide), fI_ne (by decide)]
    exact fI_s
  · unfold mkC
    rw [fI_ne (by decide), fI_ne (by decide), fI_ne (by decide)]
    exact fI_s
  · unfold mkC
    rw [fI_ne (by decide), fI_ne (by decide)]
    exact fI_s
  · unfold mkC
    rw [fI_ne (by decide)]
    exact fI_s
  · exact fI_s
theorem frn.nx {S S1 : PS} {n : Nat} (h : frn S n) (e : PL S1 = PL S ++ [n]) : frn S1 (n + 1) := fun q hq hm => by
  rw [e, List.mem_append, List.mem_singleton] at hm
  rcases hm with hm | hm
  · exact h q (by omega) hm
  · omega
theorem wd_cg {s s' : Nat} {f f' : Nat → CT} : ∀ n, (∀ i, i < n → s.testBit i = s'.testBit i ∧ f i = f' i) → wd s f n = wd s' f' n
  | 0, _ => rfl
  | n + 1, h => by
    unfold wd
    rw [wd_cg n (fun i hi => h i (by omega)), (h n (by omega)).1, (h n (by omega)).2]
theorem or_n {s n i : Nat} (h : i < n) : (s ||| 2 ^ n).testBit i = s.testBit i := by
  rw [or_bit, decide_eq_false (show ¬ n = i by omega), Bool.or_false]
theorem or_s {s n : Nat} : (s ||| 2 ^ n).testBit n = true := by
  rw [or_bit, decide_eq_true rfl, Bool.or_true]
theorem wd_more {f : Nat → CT} {s n : Nat} {z : CT} : wd (s ||| 2 ^ n) (fa f n z) (n + 1) = wd1 (wd s f n) z := by
  have e : wd (s ||| 2 ^ n) (fa f n z) n = wd s f n := wd_cg n (fun i hi => ⟨or_n hi, fa_n (by omega)⟩)
  show (if ((s ||| 2 ^ n).testBit n && (!vo (fa f n z n) && decide (wd (s ||| 2 ^ n) (fa f n z) n ≤ LIM))) = true then Nat.lcm (wd (s ||| 2 ^ n) (fa f n z) n) (bm (fa f n z n)) else wd (s ||| 2 ^ n) (fa f n z) n) = _
  rw [e, or_s, fa_s, Bool.true_and]
  rfl
theorem x_refused {S : PS} {x : Nat} {T : Nat → TR} {sa bu sc jo : Nat} {o : OS} (H : XX S x T sa bu sc jo o) (ho : OKs o) {c : Nat} {z : CT} (hc : CD S c z) (gz : gd z) : f_X4_isRefused S x c = some (b2 (!cn o.1.2 o.1.1 z)) := by
  obtain ⟨R, V, hx, hg⟩ := H.q ho
  have ol := onm_lt o.1.2 o.1.1
  obtain ⟨w1, -, w2, -⟩ := wd_sp (s := onm o.1.2 o.1.1) (f := o.1.2) o.1.1 (fun c _ b => hg c (bt_lt ol b))
  unfold f_X4_isRefused f_X4_isRefused_B37 f_X4_isRefused_B42 cn
  rw [rnw R, V.2.1]
  by_cases q : o.1.1 < 10
  · rw [if_neg (show ¬ (10 : Int32) ≤ nI o.1.1 from nle (a := 10) q (by decide)), rnw R, rnw R, V.2.2.1, V.span hx hg ol, bd_s, x_widened hc gz w1 w2, bd_s, decide_eq_true q, Bool.true_and, Bool.not_not]
    have e := wd_tg (s := onm o.1.2 o.1.1 ||| 2 ^ o.1.1) (f := fa o.1.2 o.1.1 z) (n := o.1.1 + 1) (by omega) (or_lt ol) (fun c hc' b => by
      by_cases r : c = o.1.1
      · rw [r, fa_s]; exact gz
      · rw [fa_n r]; exact hg c (by omega))
    rw [wd_more] at e
    have wl : wd1 (wd (onm o.1.2 o.1.1) o.1.2 o.1.1) z ≤ LIM * 999 := by
      unfold wd1
      split
      · rename_i hh
        rw [Bool.and_eq_true, decide_eq_true_iff] at hh
        exact Nat.le_trans (Nat.lcm_le_mul w1 (bm_pos gz)) (Nat.mul_le_mul hh.2 (bm_le gz))
      · exact w2
    unfold LIM at wl
    by_cases t : tg (onm o.1.2 o.1.1 ||| 2 ^ o.1.1) (fa o.1.2 o.1.1 z) = true
    · have := e.mpr t
      rw [if_neg (fun y => by rw [limL, pk_lLE (by omega) (by decide)] at y; omega), t]; exact ckb1
    · rw [if_pos (by rw [limL, pk_lLE (by omega) (by decide)]; exact Nat.le_of_not_lt (fun y => t (e.mp y))), Bool.not_eq_true _ |>.mp t]; exact ckb0
  · rw [if_pos (show (10 : Int32) ≤ nI o.1.1 from nI_le (a := 10) (by omega) (by omega)), decide_eq_false q]; exact ckb1
theorem CD.lo {S S1 : PS} {c : Nat} {z : CT} (h : CD S c z) (e1 : PL S1 = PL S) (e2 : PK S1 = PK S) (e3 : ∀ i a, i < 51 → fI S1 i a = fI S i a) : CD S1 c z := by
  obtain ⟨v, f0, f1, f2, f3, f4⟩ := h
  refine ⟨?_, (e3 0 c (by decide)).trans f0, (e3 1 c (by decide)).trans f1, (e3 2 c (by decide)).trans f2, (e3 3 c (by decide)).trans f3, (e3 4 c (by decide)).trans f4⟩
  unfold vd at *
  rw [e1, e2]; exact v
theorem x_add {S : PS} {x : Nat} {T : Nat → TR} {sa bu sc jo : Nat} {o : OS} {n : Nat} (H : XX S x T sa bu sc jo o) (ho : OKs o) (hn : frn S n) (a b m : Int32) : XN 0 1 x T sa bu sc jo (f_X4_add S n x a b m) (o_add o a b m) := by
  unfold f_X4_add o_add
  rw [x_parts, bd_s]
  cases hg : gdI a b m
  · rw [b2_f, if_pos rfl, if_neg (by decide)]
    exact XN.t1 H hn
  · obtain ⟨e1, e2, e3, g⟩ := gd_tn hg
    obtain ⟨S1, k1, k2, k3, k4⟩ := x_new hn g
    have k1 : f_X0_init (nO S n 0) n (nI (tn a)) (nI (tn b)) (nI (tn m)) = some S1 := k1
    rw [← e1, ← e2, ← e3] at k1
    have H1 := H.kp k2
    rw [b2_t, if_neg n10, if_pos rfl, k1, bd_s, x_refused H1 ho k3 g, bd_s]
    cases hc : cn o.1.2 o.1.1 (tn a, tn b, tn m, true)
    · show XN 0 1 x T sa bu sc jo (if b2 true = 0 then _ else _) _
      rw [b2_t, if_neg n10, if_neg (by decide)]
      exact XN.t2 H1 (hn.nx k4)
    · have hsz : o.1.1 < 10 := by
        unfold cn at hc
        rw [Bool.and_eq_true, decide_eq_true_iff] at hc
        exact hc.1
      obtain ⟨S2, s1, s2, s3, s4, s5, s6⟩ := x_save H1 ho
      obtain ⟨S3, p1, p2, p3, p4⟩ := x_put s2.2.1 hsz ho.1.2.1 (k3.lo s3 s4 s6) g rfl
      show XN 0 1 x T sa bu sc jo (if b2 false = 0 then _ else _) _
      rw [b2_f, if_pos rfl, if_pos rfl, s1, bd_s, rnw s2.1, p1, bd_s]
      exact XN.ok (s2.now p2 p4 (p3 66 x (by decide) (by decide)) (p3 67 x (by decide) (by decide)) (p3 69 x (by decide) (by decide))) (fun z hz => by rw [p2.1, s3]; exact hn.nx k4 z hz)
theorem x_remove {S : PS} {x : Nat} {T : Nat → TR} {sa bu sc jo : Nat} {o : OS} (H : XX S x T sa bu sc jo o) (ho : OKs o) (c : Int32) : XG 2 0 x T sa bu sc jo S (f_X4_remove S x c) (o_remove o c) := by
  obtain ⟨R, V, hx, hg⟩ := H.q ho
  unfold f_X4_remove o_remove
  rw [rnw R, V.has, bd_s]
  cases ht : thI c o.1.1
  · rw [b2_f, if_pos rfl, if_neg (by decide)]
    exact XG.t1 H rfl
  · obtain ⟨j, hj, e1, e2⟩ := thI_ex hx ht
    obtain ⟨S2, s1, s2, s3, s4, s5, s6⟩ := x_save H ho
    obtain ⟨S3, p1, p2, p3, p4⟩ := x_drop s2.2.1 hx ho.1.2.1 hj
    have H3 := s2.now p2 p4 (p3 66 x (by decide) (by decide)) (p3 67 x (by decide) (by decide)) (p3 69 x (by decide) (by decide))
    rw [b2_t, if_neg n10, if_pos rfl, e2, e1, s1, bd_s, rnw s2.1, p1, bd_s, rnw H3.1, p4.2.1]
    exact XG.ok H3 (p2.1.trans s3)
theorem XX.sw {S : PS} {x : Nat} {T : Nat → TR} {sa bu sc jo : Nat} {o : OS} (H : XX S x T sa bu sc jo o) {g : Nat → CT} (hg : ∀ c, c < o.1.1 → ∃ b, g c = wn (o.1.2 c) b) {v : Int32} (hv : v = nI (onm g o.1.1)) : XX (sI S 52 (T 6).1 v) x T sa bu sc jo ((o.1.1, g), o.2) := H.now (stf.I (by decide) (fun _ => rfl)) (SV.sw (n := o.1.1) (f := o.1.2) H.2.1 hg hv) (fI_ne (by decide)) (fI_ne (by decide)) (fI_ne (by decide))
theorem span_le {y : CS} (hx : y.1 ≤ 10) (hg : ∀ c, c < y.1 → gd (y.2 c)) {s : Nat} (hs : s < 2 ^ y.1) : lN (wd s y.2 y.1) ≤ 1000000000000000 ↔ tg s y.2 = false := by
  have e := wd_tg (s := s) (f := y.2) (n := y.1) (by omega) hs (fun c hc _ => hg c hc)
  have w := (wd_sp (s := s) (f := y.2) y.1 (fun c hc _ => hg c hc)).2.2.1
  unfold LIM at w
  rw [limL, pk_lLE (by omega) (by decide)]
  constructor
  · intro h
    cases t : tg s y.2
    · rfl
    · have := e.mpr t
      omega
  · intro h
    exact Nat.le_of_not_lt (fun z => by rw [e.mp z] at h; cases h)
theorem x_toggle {S : PS} {x : Nat} {T : Nat → TR} {sa bu sc jo : Nat} {o : OS} (H : XX S x T sa bu sc jo o) (ho : OKs o) (c : Int32) : XG 2 1 x T sa bu sc jo S (f_X4_toggle S x c) (o_toggle o c) := by
  obtain ⟨R, V, hx, hg⟩ := H.q ho
  unfold f_X4_toggle f_X4_toggle_B87 o_toggle
  rw [rnw R, V.has, bd_s]
  cases ht : thI c o.1.1
  · rw [b2_f, if_pos rfl, if_neg (by decide)]
    exact XG.t1 H rfl
  · obtain ⟨j, hj, e1, e2⟩ := thI_ex hx ht
    have ol := onm_lt o.1.2 o.1.1
    have tl : onm o.1.2 o.1.1 ^^^ 2 ^ j < 2 ^ o.1.1 := Nat.xor_lt_two_pow ol (Nat.pow_lt_pow_right (by decide) hj)
    have key : tg (onm o.1.2 o.1.1 ^^^ 2 ^ j) o.1.2 = (!(o.1.2 j).2.2.2 && tg (onm o.1.2 o.1.1 ||| 2 ^ j) o.1.2) := by
      cases hon : (o.1.2 j).2.2.2
      · rw [onm_on1 hj hon]; rfl
      · rw [onm_off1 hx hj hon]
        exact tg_sub (fun i => an_sub (onm_k (by omega))) (ok_gd ho.1) ho.1.2.2
    rw [b2_t, if_neg n10, if_pos rfl, e2, e1, rnw R, x_bit (by omega), bd_s, rnw R, V.2.2.1, n_xor, V.span hx hg tl, bd_s, ← key]
    cases hk : tg (onm o.1.2 o.1.1 ^^^ 2 ^ j) o.1.2
    · obtain ⟨S2, s1, s2, s3, s4, s5, s6⟩ := x_save H ho
      have H3 := s2.sw (g := fa o.1.2 j (wn (o.1.2 j) (!(o.1.2 j).2.2.2))) (fun c _ => fa_wn c) (congrArg nI (onm_tog hj)).symm
      have V3 := H3.2.1.isOn hx hj
      rw [if_pos ((span_le hx hg tl).mpr hk), s1, bd_s, rnw s2.1, if_neg (by decide)]
      have V4 : f_X3_isOn (sI S2 52 (T 6).1 (nI (onm o.1.2 o.1.1 ^^^ 2 ^ j))) (T 6).1 (nI j) = some (b2 (!(o.1.2 j).2.2.2)) := by
        rw [V3]
        show some (b2 (fa o.1.2 j (wn (o.1.2 j) (!(o.1.2 j).2.2.2)) j).2.2.2) = _
        rw [fa_s]; rfl
      rw [rnw H3.1, V4, bd_s]
      cases hon : (o.1.2 j).2.2.2
      · rw [hon] at H3
        show XG 2 1 x T sa bu sc jo S (if b2 true = 0 then _ else _) _
        rw [b2_t, if_neg n10]
        exact XG.ok H3 s3
      · rw [hon] at H3
        show XG 2 1 x T sa bu sc jo S (if b2 false = 0 then _ else _) _
        rw [b2_f, if_pos rfl]
        exact XG.ok H3 s3
    · rw [if_neg (fun z => by rw [(span_le hx hg tl).mp z] at hk; cases hk), if_pos rfl]
      exact XG.t2 H rfl
theorem ag_ba1 {x y : CT} (g : gd x) (hv : vo x = false) : ag (ba x) y = ag x y := by
  unfold ag
  rw [ba_vo, hv, ba_bm, ba_br g hv]
theorem ag_ba2 {x y : CT} (g : gd x) (hv : vo x = false) : ag y (ba x) = ag y x := by
  rw [ag_sy, ag_ba1 g hv, ag_sy]
theorem x_bare {S : PS} {x : Nat} {T : Nat → TR} {sa bu sc jo : Nat} {o : OS} {n : Nat} (H : XX S x T sa bu sc jo o) (ho : OKs o) (hn : frn S n) (c : Int32) : XN 2 1 x T sa bu sc jo (f_X4_bare S n x c) (o_bare o c) := by
  obtain ⟨R, V, hx, hg⟩ := H.q ho
  unfold f_X4_bare o_bare
  rw [rnw R, V.has, bd_s]
  cases ht : thI c o.1.1
  · rw [b2_f, if_pos rfl, if_neg (by decide)]
    exact XN.t1 H hn
  · obtain ⟨j, hj, e1, e2⟩ := thI_ex hx ht
    obtain ⟨cc, c1, c2⟩ := V.get hx hj
    have gj := hg j hj
    rw [b2_t, if_neg n10, if_pos rfl, rnw R, e2, e1, c1, bd_s, c2.void gj, bd_s]
    cases hv : vo (o.1.2 j)
    · obtain ⟨S2, s1, s2, s3, s4, s5, s6⟩ := x_save H ho
      have hn2 : frn S2 n := fun q hq => by rw [s3]; exact hn q hq
      have c3 := c2.lo s3 s4 s6
      have ne : cc ≠ n := fun e => hn2 n (Nat.le_refl _) (by rw [← e]; exact c3.1.1)
      have f4 : fI (nO S2 n 0) 4 cc = nI (br (o.1.2 j)) := (if_neg ne).trans (c3.fbr hv)
      have f3 : fI (nO S2 n 0) 3 cc = nI (bm (o.1.2 j)) := (if_neg ne).trans (c3.fbm hv)
      obtain ⟨S3, k1, k2, k3, k4⟩ := x_new hn2 (ba_gd gj hv)
      have k1 : f_X0_init (nO S2 n 0) n 1 (nI (br (o.1.2 j))) (nI (bm (o.1.2 j))) = some S3 := k1
      have H3 := s2.kp k2
      obtain ⟨R3, f51, f52, cd, m⟩ := H3.2.1
      have st : stf (T 6) S3 (sQ S3 (T 6).2.1 (nI j) (some n)) := stf.Q
      have V4 : SV (sQ S3 (T 6).2.1 (nI j) (some n)) (T 6) (o.1.1, fa o.1.2 j (ba (o.1.2 j))) := by
        refine ⟨R3.rp (by omega) k3.1, f51, ?_, fun k hk => ?_, fun k hk => ?_⟩
        · have e : onm (fa o.1.2 j (ba (o.1.2 j))) o.1.1 = onm o.1.2 o.1.1 := msk_cg o.1.1 (fun i hi => by
            by_cases q : i = j
            · rw [q, fa_s]; rfl
            · rw [fa_n q])
          show fI S3 52 (T 6).1 = nI (onm (fa o.1.2 j (ba (o.1.2 j))) o.1.1)
          rw [e]; exact f52
        · have hk : k < o.1.1 := hk
          show ∃ d, _ ∧ CD _ d (fa o.1.2 j (ba (o.1.2 j)) k)
          by_cases q : k = j
          · rw [q, fa_s]
            exact ⟨n, aR_Qs (by omega), k3.st st⟩
          · obtain ⟨d, d1, d2⟩ := cd k hk
            rw [fa_n q]
            exact ⟨d, by rw [aR_Qn (by omega) q]; exact d1, d2.st st⟩
        · have e : pmk (o.1.1, fa o.1.2 j (ba (o.1.2 j))) k = pmk (o.1.1, o.1.2) k := pmk_cg (fun c d _ _ => by
            by_cases q : c = j
            · by_cases r : d = j
              · rw [q, r, fa_s, ag_ba1 gj hv, ag_ba2 gj hv]
              · rw [q, fa_s, fa_n r, ag_ba1 gj hv]
            · by_cases r : d = j
              · rw [r, fa_s, fa_n q, ag_ba2 gj hv]
              · rw [fa_n q, fa_n r]) k
          show aI S3 (T 6).2.2 k = nI (pmk (o.1.1, fa o.1.2 j (ba (o.1.2 j))) k)
          rw [e]; exact m k hk
      have H4 := H3.now st V4 rfl rfl rfl
      have f5 : fI (sQ S3 (T 6).2.1 (nI j) (some n)) 3 cc = nI (bm (o.1.2 j)) := ((c3.kp k2).st st).fbm hv
      rw [b2_f, if_pos rfl, if_neg (by decide), s1, bd_s, rnw s2.1, f4, f3, k1, bd_s, x_repl R3 (by omega), bd_s, f5]
      exact XN.ok H4 (hn2.nx k4)
    · rw [b2_t, if_neg n10, if_pos rfl]
      exact XN.t2 H hn
theorem x_thin {S : PS} {x : Nat} {T : Nat → TR} {sa bu sc jo : Nat} {o : OS} (H : XX S x T sa bu sc jo o) (ho : OKs o) : XG 1 1 x T sa bu sc jo S (f_X4_thin S x) (o_thin o) := by
  obtain ⟨R, V, hx, hg⟩ := H.q ho
  have ol := onm_lt o.1.2 o.1.1
  unfold f_X4_thin o_thin
  rw [rnw R, rnw R, V.2.2.1, V.poss hx ol, bd_s]
  cases hp : ps (onm o.1.2 o.1.1) o.1.2
  · rw [b2_f, if_pos rfl, if_neg (by decide)]
    exact XG.t1 H rfl
  · obtain ⟨S2, s1, s2, s3, -⟩ := x_save H ho
    rw [b2_t, if_neg n10, if_pos rfl, s1, bd_s]
    have loop : ∀ n c S', o.1.1 + 1 ≤ n + c → c ≤ o.1.1 → XX S' x T sa bu sc jo ((o.1.1, (thn o.1.2 o.1.1 c).1), (svO o).2) → PL S' = PL S → XG 1 1 x T sa bu sc jo S (f_X4_thin_L35 f_X4_thin_B81 n S' x (nI (thn o.1.2 o.1.1 c).2) (nI c)) (0, nI (thn o.1.2 o.1.1 o.1.1).2, ((o.1.1, (thn o.1.2 o.1.1 o.1.1).1), (svO o).2)) := by
      intro n
      induction n with
      | zero => intro c S' h1 h2; omega
      | succ n ih =>
        intro c S' h1 h2 M hP
        have oc := thn_ok ho.1 c h2
        have Q : XQ S' x T sa bu sc jo (o.1.1, (thn o.1.2 o.1.1 c).1) := ⟨M.1, M.2.1, oc.1, oc.2.1⟩
        rw [show f_X4_thin_L35 f_X4_thin_B81 (n + 1) S' x (nI (thn o.1.2 o.1.1 c).2) (nI c) = f_X4_thin_L35s (f_X4_thin_L35 f_X4_thin_B81 n) f_X4_thin_B81 S' x (nI (thn o.1.2 o.1.1 c).2) (nI c) from rfl]
        unfold f_X4_thin_L35s f_X4_thin_B75
        rw [rnw M.1, M.2.1.2.1]
        rcases Nat.eq_or_lt_of_le h2 with q | q
        · have e0 : nI o.1.1 ≤ nI c := by rw [q]; exact Int32.le_refl _
          unfold f_X4_thin_B81
          rw [if_pos e0, q]
          rw [q] at M
          exact XG.ok M hP
        · obtain ⟨S1, e, c1⟩ := x_isTold Q oc.2.2 q
          have M1 := M.kp c1.k
          have eq : thn o.1.2 o.1.1 (c + 1) = if td (thn o.1.2 o.1.1 c).1 o.1.1 c = true then (fa (thn o.1.2 o.1.1 c).1 c (wn ((thn o.1.2 o.1.1 c).1 c) false), (thn o.1.2 o.1.1 c).2 + 1) else thn o.1.2 o.1.1 c := rfl
          have I := ih (c + 1)
          rw [if_neg (show ¬ nI o.1.1 ≤ nI c from nle q (by omega)), e, bd_s]
          cases ht : td (thn o.1.2 o.1.1 c).1 o.1.1 c
          · rw [eq, ht, if_neg (by decide)] at I
            rw [b2_f, if_pos rfl, nI_1]
            exact I S1 (by omega) (by omega) M1 (c1.1.trans hP)
          · rw [eq, ht, if_pos rfl] at I
            rw [b2_t, if_neg n10, rnw M1.1, x_bit (by omega), bd_s, M1.2.1.2.2.1, n_an, nI_1, nI_1]
            exact I _ (by omega) (by omega) (M1.sw (fun i _ => fa_wn i) (congrArg nI (onm_off (f := (thn o.1.2 o.1.1 c).1) hx)).symm) (c1.1.trans hP)
    exact loop 11 0 S2 (by omega) (by omega) s2 s3
theorem x_agree {S : PS} {x : Nat} {T : Nat → TR} {sa bu sc jo : Nat} {o : OS} (H : XX S x T sa bu sc jo o) (ho : OKs o) : XG 1 1 x T sa bu sc jo S (f_X4_agree S x) (o_agree o) := by
  have Q := H.q ho
  obtain ⟨R, V, hx, hg⟩ := id Q
  have ml := mo_lt o
  have ml2 : mo o < 2 ^ 10 := Nat.lt_of_lt_of_le ml (pw hx)
  unfold f_X4_agree o_agree
  rw [x_most Q, bd_s, rnw R]
  show XG 1 1 x T sa bu sc jo S (bd (f_X3_span S (T 6).1 (nI (mo o))) fun t6 => if t6 ≤ 1000000000000000 then bd (f_X4_save S x) (fun t10 => rq (fR t10 64 x) t10 3 fun b12 => bd (f_J6_bitCount_0f7a4 (nI (mo o))) fun t14 => some (Sum.inl t14, sI t10 52 b12 (nI (mo o)))) else some (Sum.inr 1, S)) _
  rw [V.span hx hg ml, bd_s]
  cases hk : tg (mo o) o.1.2
  · obtain ⟨S2, s1, s2, s3, -⟩ := x_save H ho
    rw [if_pos ((span_le hx hg ml).mpr hk), s1, bd_s, rnw s2.1, x_bits (by omega), bd_s, if_neg (by decide)]
    exact XG.ok (s2.sw (g := agf o.1.2 (mo o)) (fun c _ => ⟨_, rfl⟩) (congrArg nI (onm_agf ml)).symm) s3
  · rw [if_neg (fun z => by rw [(span_le hx hg ml).mp z] at hk; cases hk), if_pos rfl]
    exact XG.t1 H rfl
/-! the buffer -/
theorem x_append {S : PS} {x : Nat} {T : Nat → TR} {sa bu sc jo : Nat} {o : OS} (H : XX S x T sa bu sc jo o) (ho : OKs o) (c : Int32) : XG 0 1 x T sa bu sc jo S (f_X4_append S x c) (o_append o c) := by
  have h60 := ho.2.2.2.1
  obtain ⟨R, V, ⟨od, d1, d2, d3⟩, f1, f2, f3⟩ := id H
  have n60 := R.2.2.2.2.2.2.2.2.2.2.1
  have nb := R.2.2.2.2.2.2.2.2.2.2.2.2.2.2.2
  unfold f_X4_append f_X4_append_B12 f_X4_append_B41 o_append
  rw [inI_if]
  cases hc : inI c 33 126
  · rw [if_neg (by decide), if_neg (by decide)]
    exact XG.t1 H rfl
  · obtain ⟨n, e, e2, a, bb⟩ := inI_ex (lo := 33) (hi := 126) (by decide) (by decide) hc
    rw [if_pos rfl, if_pos rfl, f2, if_neg (nneg (by omega)), rbu R, n60]
    by_cases q : o.2.2.2.1 = 60
    · rw [if_neg (nlt (by omega) (by omega)), if_pos q]
      exact XG.t2 H rfl
    · rw [if_pos (nI_lt (by omega) (by omega)), if_neg q, rbu R, n60, ck_t (nI_in (by omega) (by decide))]
      have st : ∀ p r, stf (p, r, bu) S (sI (sA S bu (nI o.2.2.2.1) c) 69 x (nI (o.2.2.2.1 + 1))) := fun p r => (stf.A (t := (p, r, bu))).tr (stf.I (by decide) (fun h => by omega))
      have sv : ∀ p, p ≤ 6 → ∀ y, SV S (T p) y → SV (sI (sA S bu (nI o.2.2.2.1) c) 69 x (nI (o.2.2.2.1 + 1))) (T p) y := fun p hp y h => h.ot (st ((T p).1 + 1) ((T p).2.1 + 1)) (by show (T p).1 ≠ (T p).1 + 1; omega) (by show (T p).2.1 ≠ (T p).2.1 + 1; omega) (nb p hp)
      have e69 : fI (sA S bu (nI o.2.2.2.1) c) 69 x + (1 : Int32) = nI (o.2.2.2.1 + 1) := by
        show fI S 69 x + (1 : Int32) = _
        rw [f2, nI_1]
      rw [e69, fI_s]
      refine XG.ok (S := S) ⟨?_, sv 6 (Nat.le_refl _) _ V, ⟨od, d1, (fI_ne (by decide)).trans d2, fun q hq => sv _ (by have := Nat.mod_lt (od + q) (show 0 < 6 by decide); omega) _ (d3 q hq)⟩, (fI_ne (by decide)).trans f1, fI_s, fun j hj => ?_⟩ rfl
      · obtain ⟨v, r1, r2, r3, r4, r5, v2, n2, e2, v3, n3, v4, v5, cc, d, b⟩ := R
        exact ⟨v, r1, r2, r3, r4, r5, v2, n2, e2, v3, n3, v4, v5, fun q hq => (cc q hq).ot (st 0 ((T q).2.1 + 1)) (by show (T q).2.1 ≠ (T q).2.1 + 1; omega), d, b⟩
      · have hj : j < o.2.2.2.1 + 1 := hj
        show aI (sA S bu (nI o.2.2.2.1) c) bu j = nI (if j = o.2.2.2.1 then tn c else o.2.2.2.2 j)
        by_cases w : j = o.2.2.2.1
        · rw [if_pos w, w, aI_As (by omega), e2, e]
        · rw [if_neg w, aI_An (by omega) w]; exact f3 j (by omega)
theorem XX.cl {S : PS} {x : Nat} {T : Nat → TR} {sa bu sc jo : Nat} {o : OS} (H : XX S x T sa bu sc jo o) : XX (sI S 69 x 0) x T sa bu sc jo (o.1, o.2.1, o.2.2.1, 0, o.2.2.2.2) := by
  obtain ⟨R, V, ⟨od, d1, d2, d3⟩, f1, f2, f3⟩ := H
  have st : ∀ t, stf t S (sI S 69 x 0) := fun t => stf.I (by decide) (fun h => by omega)
  exact ⟨R.al st, V.al st, ⟨od, d1, (fI_ne (by decide)).trans d2, fun q hq => (d3 q hq).al st⟩, (fI_ne (by decide)).trans f1, fI_s, fun j hj => absurd hj (Nat.not_lt_zero j)⟩
theorem x_clear {S : PS} {x : Nat} {T : Nat → TR} {sa bu sc jo : Nat} {o : OS} (H : XX S x T sa bu sc jo o) : ∃ S1, f_X4_clearBuffer S x = some ((o_clear o).2.1, S1) ∧ XX S1 x T sa bu sc jo (o_clear o).2.2 := by
  unfold f_X4_clearBuffer
  rw [H.2.2.2.2.1]
  exact ⟨_, rfl, H.cl⟩

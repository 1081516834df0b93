/-! ===== the reference: toggle, bare, thin, agree ===== -/
def wn (x : CT) (b : Bool) : CT := (x.1, x.2.1, x.2.2.1, b)
def ba (x : CT) : CT := (1, br x, bm x, x.2.2.2)
theorem ba_g {x : CT} : gg (ba x) = 1 := by
  show Nat.gcd 1 (bm x) = 1
  exact Nat.gcd_one_left _
theorem ba_vo {x : CT} : vo (ba x) = false := by
  unfold vo
  rw [ba_g]
  exact decide_eq_false (fun h => h (Nat.mod_one _))
theorem ba_bm {x : CT} : bm (ba x) = bm x := by
  show (ba x).2.2.1 / gg (ba x) = bm x
  rw [ba_g, Nat.div_one]; rfl
theorem ba_gd {x : CT} (g : gd x) (hv : vo x = false) : gd (ba x) := ⟨Nat.le_refl 1, (by show 1 ≤ 999; omega), Nat.le_of_lt (br_lt g hv), bm_pos g, bm_le g⟩
theorem ba_br {x : CT} (g : gd x) (hv : vo x = false) : br (ba x) = br x := by
  have s := br_spec (ba_gd g hv) ba_vo
  have t := br_spec g hv
  have e : (1 * br (ba x)) % bm x = br x % bm x := s.2.1
  rw [ba_bm] at s
  rw [Nat.one_mul, Nat.mod_eq_of_lt s.1, Nat.mod_eq_of_lt t.1] at e
  exact e
theorem SQ.on {r : Nat → Int32} {x : CS} {c : Nat} {b : Bool} (h : SQ r x) : SQ (upd r (4 + 4 * c) (b2 b)) (x.1, fa x.2 c (wn (x.2 c) b)) := by
  refine ⟨by rw [pk_un (by omega)]; exact h.1, fun i hi => ?_⟩
  have K := h.2 i hi
  show _ = nI (fa x.2 c (wn (x.2 c) b) i).1 ∧ _ = nI (fa x.2 c (wn (x.2 c) b) i).2.1 ∧ _ = nI (fa x.2 c (wn (x.2 c) b) i).2.2.1 ∧ _ = b2 (fa x.2 c (wn (x.2 c) b) i).2.2.2
  by_cases q : i = c
  · subst q
    rw [fa_s, pk_un (by omega), pk_un (by omega), pk_un (by omega), pk_us]
    exact ⟨K.1, K.2.1, K.2.2.1, rfl⟩
  · rw [fa_n q, pk_un (by omega), pk_un (by omega), pk_un (by omega), pk_un (by omega)]
    exact K
theorem SQ.tb {r : Nat → Int32} {x : CS} {c : Nat} (h : SQ r x) (hc : c < x.1) : SQ (upd (upd (upd r (1 + 4 * c) 1) (2 + 4 * c) (nI (br (x.2 c)))) (3 + 4 * c) (nI (bm (x.2 c)))) (x.1, fa x.2 c (ba (x.2 c))) := by
  refine ⟨by rw [pk_un (by omega), pk_un (by omega), pk_un (by omega)]; exact h.1, fun i hi => ?_⟩
  have K := h.2 i hi
  show _ = nI (fa x.2 c (ba (x.2 c)) i).1 ∧ _ = nI (fa x.2 c (ba (x.2 c)) i).2.1 ∧ _ = nI (fa x.2 c (ba (x.2 c)) i).2.2.1 ∧ _ = b2 (fa x.2 c (ba (x.2 c)) i).2.2.2
  by_cases q : i = c
  · subst q
    rw [fa_s]
    refine ⟨?_, ?_, ?_, ?_⟩
    · rw [pk_un (by omega), pk_un (by omega), pk_us]; rfl
    · rw [pk_un (by omega), pk_us]; rfl
    · rw [pk_us]; rfl
    · rw [pk_un (by omega), pk_un (by omega), pk_un (by omega)]; exact K.2.2.2
  · rw [fa_n q]
    refine ⟨?_, ?_, ?_, ?_⟩
    · rw [pk_un (by omega), pk_un (by omega), pk_un (by omega)]; exact K.1
    · rw [pk_un (by omega), pk_un (by omega), pk_un (by omega)]; exact K.2.1
    · rw [pk_un (by omega), pk_un (by omega), pk_un (by omega)]; exact K.2.2.1
    · rw [pk_un (by omega), pk_un (by omega), pk_un (by omega)]; exact K.2.2.2
theorem MM.row {S : PS} {h z s b r : Nat} {o : OS} {r' : Nat → Int32} {x' : CS} (H : MM S h z s b r o) (Q : SQ r' x') : MM (sW S z r') h z s b r (x', o.2) := ⟨H.1.fr mfr.z, by rw [aI_W]; exact Q, H.2.2.1, by rw [aI_Wn H.1.zs.symm]; exact H.2.2.2.1, H.2.2.2.2.1, by rw [aI_Wn H.1.zb.symm]; exact H.2.2.2.2.2⟩
/-! toggling -/
def o_toggle (o : OS) (c : Int32) : Nat × Int32 × OS := if thI c o.1.1 = true then (if (!(o.1.2 (tn c)).2.2.2 && tg (onm o.1.2 o.1.1 ||| 2 ^ tn c) o.1.2) = true then (2, 0, o) else (0, b2 (!(o.1.2 (tn c)).2.2.2), ((o.1.1, fa o.1.2 (tn c) (wn (o.1.2 (tn c)) (!(o.1.2 (tn c)).2.2.2))), (svO o).2))) else (1, 0, o)
theorem or_bit {a c i : Nat} : (a ||| 2 ^ c).testBit i = (a.testBit i || decide (c = i)) := by rw [Nat.testBit_or, Nat.testBit_two_pow]
theorem or_gd {x : CS} (h : OKc x) {c : Nat} (hc : c < x.1) : ∀ i, i < 11 → (onm x.2 x.1 ||| 2 ^ c).testBit i = true → gd (x.2 i) := fun i _ b => by
  rw [or_bit, Bool.or_eq_true, decide_eq_true_iff] at b
  rcases b with b | b
  · exact h.2.1 i (onm_ex b).1
  · rw [← b]; exact h.2.1 c hc
theorem fa_gd {f : Nat → CT} {sz c : Nat} {x : CT} (h : ∀ i, i < sz → gd (f i)) (g : gd x) : ∀ i, i < sz → gd (fa f c x i) := fun i hi => by
  by_cases q : i = c
  · rw [q, fa_s]; exact g
  · rw [fa_n q]; exact h i hi
theorem off_ok {x : CS} (h : OKc x) {c : Nat} (hc : c < x.1) : OKc (x.1, fa x.2 c (wn (x.2 c) false)) := by
  obtain ⟨k1, k2, k3⟩ := id h
  refine ⟨k1, fa_gd k2 (k2 c hc), tg_of (ok_gd h) k3 (fun i hi b v => ?_)⟩
  obtain ⟨b1, b2⟩ := onm_ex b
  have b2 : (fa x.2 c (wn (x.2 c) false) i).2.2.2 = true := b2
  have v : vo (fa x.2 c (wn (x.2 c) false) i) = false := v
  show ∃ j, j < 11 ∧ _ ∧ _ ∧ bm (x.2 j) = bm (fa x.2 c (wn (x.2 c) false) i)
  by_cases q : i = c
  · rw [q, fa_s] at b2; cases b2
  · rw [fa_n q] at b2 v ⊢
    exact ⟨i, hi, onm_on b1 b2, v, rfl⟩
theorem on_ok {x : CS} (h : OKc x) {c : Nat} (hc : c < x.1) (ht : tg (onm x.2 x.1 ||| 2 ^ c) x.2 = false) : OKc (x.1, fa x.2 c (wn (x.2 c) true)) := by
  obtain ⟨k1, k2, k3⟩ := id h
  refine ⟨k1, fa_gd k2 (k2 c hc), tg_of (or_gd h hc) ht (fun i hi b v => ?_)⟩
  obtain ⟨b1, b2⟩ := onm_ex b
  have b2 : (fa x.2 c (wn (x.2 c) true) i).2.2.2 = true := b2
  have v : vo (fa x.2 c (wn (x.2 c) true) i) = false := v
  show ∃ j, j < 11 ∧ _ ∧ _ ∧ bm (x.2 j) = bm (fa x.2 c (wn (x.2 c) true) i)
  by_cases q : i = c
  · subst q
    rw [fa_s] at v ⊢
    exact ⟨i, hi, by rw [or_bit, decide_eq_true rfl, Bool.or_true], v, rfl⟩
  · rw [fa_n q] at b2 v ⊢
    exact ⟨i, hi, by rw [or_bit, onm_on b1 b2]; rfl, v, rfl⟩
theorem o_toggle_ok {o : OS} (ho : OKs o) (c : Int32) : OKs (o_toggle o c).2.2 := by
  unfold o_toggle
  split
  · rename_i q
    obtain ⟨j, hj, _, e⟩ := thI_ex ho.1.1 q
    rw [e]
    split
    · exact ho
    · rename_i t
      obtain ⟨s1, s2, s3, s4, s5⟩ := svO_ok ho
      refine ⟨?_, s2, s3, s4, s5⟩
      cases hv : (o.1.2 j).2.2.2
      · rw [hv] at t
        exact on_ok ho.1 hj (by simpa using t)
      · exact off_ok ho.1 hj
  · exact ho
theorem m_toggle43 {S : PS} {h z s b r : Nat} {o : OS} (H : MM S h z s b r o) (ho : OKs o) {c : Nat} (hc : c < o.1.1) (ok5 : OKs ((o.1.1, fa o.1.2 c (wn (o.1.2 c) (!(o.1.2 c).2.2.2))), (svO o).2)) : MO S h z s b r (f_X5_toggle_B43 S h (nI c) h 0) (0, b2 (!(o.1.2 c).2.2.2), ((o.1.1, fa o.1.2 c (wn (o.1.2 c) (!(o.1.2 c).2.2.2))), (svO o).2)) := by
  have h10 := ho.1.1
  unfold f_X5_toggle_B43
  rw [if_pos (by rw [fI_s]; exact Int32.le_refl _)]
  obtain ⟨T1, e3, c3, M3, f3, a3⟩ := m_save H.t ho
  have V3 := M3.mv (svO_ok ho)
  have R3 := M3.1
  have M5 : MM (sW T1 z (upd (aI T1 z) (4 + 4 * c) (b2 (!(o.1.2 c).2.2.2)))) h z s b r ((o.1.1, fa o.1.2 c (wn (o.1.2 c) (!(o.1.2 c).2.2.2))), (svO o).2) := M3.row (M3.2.1.on (c := c))
  have V5 := M5.mv ok5
  have hc2 : c < (svO o).1.1 := hc
  have e1 : ∀ v : Bool, (1 : Int32) - b2 v = b2 (!v) := fun v => by cases v <;> decide
  have ei : (1 : Int32) + (4 : Int32) * nI c + (3 : Int32) = nI (4 + 4 * c) := by
    rw [i1, i4, i3, pk_mul, nI_add, nI_add, show 1 + 4 * c + 3 = 4 + 4 * c by omega]
  rw [e3, bd_s, rz R3, m_of3 V3 hc2, bd_s, ei, ck_t (jz R3 (by omega)), sW_A, nI_clamp (by omega), e1]
  rw [show upd (aI T1 z) (4 + 4 * c) (b2 (!((svO o).1.2 c).2.2.2)) = upd (aI T1 z) (4 + 4 * c) (b2 (!(o.1.2 c).2.2.2)) from rfl, m_of3 V5 hc, bd_s]
  refine ⟨_, _, rfl, ((mfr.I).tr c3).tr mfr.z, ?_, fun _ => ?_, M5⟩
  · show fI T1 80 h = nI 0
    rw [f3]; exact fI_s
  · show b2 (fa o.1.2 c (wn (o.1.2 c) (!(o.1.2 c).2.2.2)) c).2.2.2 = _
    rw [fa_s]; rfl
theorem m_toggle {S : PS} {h z s b r : Nat} {o : OS} (H : MM S h z s b r o) (ho : OKs o) (c1 : Int32) : MO S h z s b r (f_X5_toggle S h c1) (o_toggle o c1) := by
  have h10 := ho.1.1
  have hv := H.mv ho
  have K := o_toggle_ok ho c1
  unfold o_toggle at K
  unfold f_X5_toggle o_toggle
  rw [m_there hv, bd_s]
  show MO S h z s b r (if b2 (thI c1 o.1.1) = 0 then _ else _) _
  cases ht : thI c1 o.1.1
  · rw [b2_f, if_pos rfl, if_neg (by decide)]
    unfold f_X5_toggle_B43
    rw [if_neg (by rw [fI_s]; decide)]
    exact MO.no (n := 1) H mfr.rf (by decide)
  · obtain ⟨c, hc, e1, e2⟩ := thI_ex h10 ht
    rw [ht, if_pos rfl, e2] at K
    rw [b2_t, if_neg n10, if_pos rfl, e2, e1, m_isOn hv hc, bd_s]
    unfold f_X5_toggle_B42
    cases hon : (o.1.2 c).2.2.2
    · have l1 : onm o.1.2 o.1.1 ||| 2 ^ c < 2 ^ o.1.1 := Nat.or_lt_two_pow (onm_lt _ _) (Nat.pow_lt_pow_right (by decide) hc)
      rw [b2_f, if_pos rfl, m_onSet hv, bd_s, n_shl (by omega), n_or, m_great hv l1 (Nat.lt_of_lt_of_le l1 (pw (by omega))) h10, bd_s]
      rw [hon] at K
      cases hg : tg (onm o.1.2 o.1.1 ||| 2 ^ c) o.1.2
      · rw [hg, if_neg (by decide)] at K
        rw [b2_f, if_pos rfl, if_neg (by decide)]
        have := m_toggle43 H ho hc (by rw [hon]; exact K)
        rw [hon] at this
        exact this
      · rw [b2_t, if_neg n10, if_pos (by decide)]
        unfold f_X5_toggle_B43
        rw [if_neg (by rw [fI_s]; decide)]
        exact MO.no (n := 2) H mfr.rf (by decide)
    · rw [hon, if_neg (by simp)] at K
      rw [b2_t, if_neg n10, if_neg (by simp)]
      have := m_toggle43 H ho hc (by rw [hon]; exact K)
      rw [hon] at this
      exact this
/-! what a condition comes to in its place -/
def o_bare (o : OS) (c : Int32) : Nat × Int32 × OS := if thI c o.1.1 = true then (if vo (o.1.2 (tn c)) = true then (2, 0, o) else (0, nI (bm (o.1.2 (tn c))), ((o.1.1, fa o.1.2 (tn c) (ba (o.1.2 (tn c)))), (svO o).2))) else (1, 0, o)
theorem ba_ok {x : CS} (h : OKc x) {c : Nat} (hc : c < x.1) (hv : vo (x.2 c) = false) : OKc (x.1, fa x.2 c (ba (x.2 c))) := by
  obtain ⟨k1, k2, k3⟩ := id h
  refine ⟨k1, fa_gd k2 (ba_gd (k2 c hc) hv), tg_of (ok_gd h) k3 (fun i hi b v => ?_)⟩
  obtain ⟨b1, b2⟩ := onm_ex b
  have b2 : (fa x.2 c (ba (x.2 c)) i).2.2.2 = true := b2
  have v : vo (fa x.2 c (ba (x.2 c)) i) = false := v
  show ∃ j, j < 11 ∧ _ ∧ _ ∧ bm (x.2 j) = bm (fa x.2 c (ba (x.2 c)) i)
  by_cases q : i = c
  · subst q
    rw [fa_s] at b2 ⊢
    exact ⟨i, hi, onm_on b1 b2, hv, ba_bm.symm⟩
  · rw [fa_n q] at b2 v ⊢
    exact ⟨i, hi, onm_on b1 b2, v, rfl⟩
theorem o_bare_ok {o : OS} (ho : OKs o) (c : Int32) : OKs (o_bare o c).2.2 := by
  unfold o_bare
  split
  · rename_i q
    obtain ⟨j, hj, _, e⟩ := thI_ex ho.1.1 q
    rw [e]
    split
    · exact ho
    · rename_i t
      obtain ⟨s1, s2, s3, s4, s5⟩ := svO_ok ho
      exact ⟨ba_ok ho.1 hj (Bool.not_eq_true _ |>.mp t), s2, s3, s4, s5⟩
  · exact ho
theorem m_bare {S : PS} {h z s b r : Nat} {o : OS} (H : MM S h z s b r o) (ho : OKs o) (c1 : Int32) : MO S h z s b r (f_X5_bare S h c1) (o_bare o c1) := by
  have h10 := ho.1.1
  have hv := H.mv ho
  unfold f_X5_bare o_bare
  rw [m_there hv, bd_s]
  show MO S h z s b r (if b2 (thI c1 o.1.1) = 0 then _ else _) _
  cases ht : thI c1 o.1.1
  · rw [b2_f, if_pos rfl, if_neg (by decide)]
    unfold f_X5_bare_B26
    rw [if_neg (by rw [fI_s]; decide)]
    exact MO.no (n := 1) H mfr.rf (by decide)
  · obtain ⟨c, hc, e1, e2⟩ := thI_ex h10 ht
    rw [b2_t, if_neg n10, if_pos rfl, e2, e1, m_void hv hc, bd_s]
    unfold f_X5_bare_B26
    cases hvo : vo (o.1.2 c)
    · rw [b2_f, if_pos rfl, if_pos (by rw [fI_s]; exact Int32.le_refl _), if_neg (by decide)]
      obtain ⟨T1, e3, c3, M3, f3, a3⟩ := m_save H.t ho
      have V3 := M3.mv (svO_ok ho)
      have R3 := M3.1
      have hc2 : c < (svO o).1.1 := hc
      have M5 := M3.row (M3.2.1.tb hc2)
      have ex : ∀ k, k < 4 → (1 : Int32) + (4 : Int32) * nI c + nI k = nI (k + 1 + 4 * c) := fun k hk => by
        rw [i1, i4, pk_mul, nI_add, nI_add, show 1 + 4 * c + k = k + 1 + 4 * c by omega]
      have x0 : (1 : Int32) + (4 : Int32) * nI c + (0 : Int32) = nI (1 + 4 * c) := ex 0 (by decide)
      have x1 : (1 : Int32) + (4 : Int32) * nI c + (1 : Int32) = nI (2 + 4 * c) := ex 1 (by decide)
      have x2 : (1 : Int32) + (4 : Int32) * nI c + (2 : Int32) = nI (3 + 4 * c) := ex 2 (by decide)
      rw [e3, bd_s, m_rest V3 hc2 hvo, bd_s, m_mod V3 hc2, bd_s, rz R3, x0, x1, x2, ck_t (jz R3 (by omega)), sW_A, rzW R3, ck_t (jzW R3 (by omega)), sA_W, rzW R3, ck_t (jzW R3 (by omega)), sA_W, nI_clamp (by omega), nI_clamp (by omega), nI_clamp (by omega)]
      refine ⟨_, _, rfl, ((mfr.I).tr c3).tr mfr.z, ?_, fun _ => rfl, M5⟩
      show fI T1 80 h = nI 0
      rw [f3]; exact fI_s
    · rw [b2_t, if_neg n10, if_pos rfl, if_neg (by rw [fI_s]; decide)]
      exact MO.no (n := 2) H mfr.rf (by decide)
/-! thinning -/
def thn (f : Nat → CT) (sz : Nat) : Nat → (Nat → CT) × Nat
  | 0 => (f, 0)
  | k + 1 => if td (thn f sz k).1 sz k = true then (fa (thn f sz k).1 k (wn ((thn f sz k).1 k) false), (thn f sz k).2 + 1) else thn f sz k
theorem thn_ok {f : Nat → CT} {sz : Nat} (h : OKc (sz, f)) : ∀ k, k ≤ sz → OKc (sz, (thn f sz k).1)
  | 0, _ => h
  | k + 1, hk => by
    have ih := thn_ok h k (by omega)
    unfold thn
    split
    · exact off_ok ih (by show k < sz; omega)
    · exact ih
def o_thin (o : OS) : Nat × Int32 × OS := if ps (onm o.1.2 o.1.1) o.1.2 = true then (0, nI (thn o.1.2 o.1.1 o.1.1).2, ((o.1.1, (thn o.1.2 o.1.1 o.1.1).1), (svO o).2)) else (1, 0, o)
theorem o_thin_ok {o : OS} (ho : OKs o) : OKs (o_thin o).2.2 := by
  unfold o_thin
  split
  · obtain ⟨s1, s2, s3, s4, s5⟩ := svO_ok ho
    exact ⟨thn_ok ho.1 _ (Nat.le_refl _), s2, s3, s4, s5⟩
  · exact ho
theorem m_thin {S : PS} {h z s b r : Nat} {o : OS} (H : MM S h z s b r o) (ho : OKs o) : MO S h z s b r (f_X5_thin S h) (o_thin o) := by
  have h10 := ho.1.1
  have hv := H.mv ho
  unfold f_X5_thin f_X5_thin_B17 o_thin
  rw [m_onSet hv, bd_s, m_poss hv (onm_lt _ _) (onm_k (by omega)) (onm_k (by omega)) h10, bd_s]
  cases hp : ps (onm o.1.2 o.1.1) o.1.2
  · rw [b2_f, if_pos rfl, if_neg (by rw [fI_s]; decide), if_neg (by decide)]
    exact MO.no (n := 1) H mfr.rf (by decide)
  · rw [b2_t, if_neg n10, if_pos rfl, if_pos (by rw [fI_s]; exact Int32.le_refl _)]
    obtain ⟨T1, e3, c3, M3, f3, a3⟩ := m_save H.t ho
    rw [e3, bd_s]
    obtain ⟨s1, s2, s3, s4, s5⟩ := svO_ok ho
    have loop : ∀ n c S', o.1.1 + 1 ≤ n + c → c ≤ o.1.1 → mfr h z s b r S S' → fI S' 80 h = nI 0 → MM S' h z s b r ((o.1.1, (thn o.1.2 o.1.1 c).1), (svO o).2) → MO S h z s b r (f_X5_thin_L37 f_X5_thin_B77 n S' h (nI (thn o.1.2 o.1.1 c).2) (nI c)) (0, nI (thn o.1.2 o.1.1 o.1.1).2, ((o.1.1, (thn o.1.2 o.1.1 o.1.1).1), (svO o).2)) := by
      intro n
      induction n with
      | zero => intro c S' h1 h2; omega
      | succ n ih =>
        intro c S' h1 h2 cs ft M
        have oc := thn_ok ho.1 c h2
        have V := M.mv ⟨oc, s2, s3, s4, s5⟩
        rw [show f_X5_thin_L37 f_X5_thin_B77 (n + 1) S' h (nI (thn o.1.2 o.1.1 c).2) (nI c) = f_X5_thin_L37s (f_X5_thin_L37 f_X5_thin_B77 n) f_X5_thin_B77 S' h (nI (thn o.1.2 o.1.1 c).2) (nI c) from rfl]
        unfold f_X5_thin_L37s f_X5_thin_B71
        rw [rz M.1, ck_t (j0 M.1), m_sz V]
        rcases Nat.eq_or_lt_of_le h2 with q | q
        · subst q
          rw [if_pos (Int32.le_refl _)]
          exact ⟨S', _, rfl, cs, ft, fun _ => rfl, M⟩
        · obtain ⟨S1, e, c1⟩ := m_isTold V h10 oc.2.2 q
          have M1 := M.scr c1
          have R1 := M1.1
          have f1 : fI S1 80 h = nI 0 := by rw [c1.2.2.1]; exact ft
          have eq : thn o.1.2 o.1.1 (c + 1) = if td (thn o.1.2 o.1.1 c).1 o.1.1 c = true then (fa (thn o.1.2 o.1.1 c).1 c (wn ((thn o.1.2 o.1.1 c).1 c) false), (thn o.1.2 o.1.1 c).2 + 1) else thn o.1.2 o.1.1 c := rfl
          have ei : (1 : Int32) + (4 : Int32) * nI c + (3 : Int32) = nI (4 + 4 * c) := by
            rw [i1, i4, i3, pk_mul, nI_add, nI_add, show 1 + 4 * c + 3 = 4 + 4 * c by omega]
          rw [if_neg (nle q (by omega)), e, bd_s]
          have I := ih (c + 1)
          cases ht : td (thn o.1.2 o.1.1 c).1 o.1.1 c
          · rw [eq, ht, if_neg (by decide)] at I
            rw [b2_f, if_pos rfl, nI_1]
            exact I S1 (by omega) (by omega) (cs.tr c1.m) f1 M1
          · rw [eq, ht, if_pos rfl] at I
            rw [b2_t, if_neg n10, rz R1, ei, ck_t (jz R1 (by omega)), sW_A, nI_clamp (by omega), nI_1, nI_1]
            exact I _ (by omega) (by omega) ((cs.tr c1.m).tr mfr.z) f1 (M1.row (M1.2.1.on (c := c) (b := false)))
    exact loop FU 0 T1 (by unfold FU; omega) (by omega) ((mfr.I).tr c3) (by rw [f3]; exact fI_s) M3
/-! the most that agree, switched on -/
def agf (f : Nat → CT) (s : Nat) : Nat → CT := fun i => wn (f i) (s.testBit i)
def agp (f : Nat → CT) (s k : Nat) : Nat → CT := fun i => if i < k then wn (f i) (s.testBit i) else f i
theorem agp_s {f : Nat → CT} {s k : Nat} : agp f s (k + 1) = fa (agp f s k) k (wn (agp f s k k) (s.testBit k)) := by
  funext i
  by_cases q : i = k
  · subst q
    rw [fa_s]; unfold agp
    rw [if_pos (by omega), if_neg (by omega)]
  · rw [fa_n q]; unfold agp
    by_cases q2 : i < k
    · rw [if_pos q2, if_pos (by omega)]
    · rw [if_neg q2, if_neg (by omega)]
theorem SQ.fc {r : Nat → Int32} {sz : Nat} {f g : Nat → CT} (h : SQ r (sz, f)) (e : ∀ c, c < sz → g c = f c) : SQ r (sz, g) := ⟨h.1, fun c hc => by
  show _ = nI (g c).1 ∧ _ = nI (g c).2.1 ∧ _ = nI (g c).2.2.1 ∧ _ = b2 (g c).2.2.2
  rw [e c hc]; exact h.2 c hc⟩
def mo (o : OS) : Nat := mb o.1.2 (2 ^ o.1.1)
theorem mo_lt (o : OS) : mo o < 2 ^ o.1.1 := mb_lt (Nat.two_pow_pos _)
def o_agree (o : OS) : Nat × Int32 × OS := if tg (mo o) o.1.2 = true then (1, 0, o) else (0, nI (pc (mo o)), ((o.1.1, agf o.1.2 (mo o)), (svO o).2))
theorem agf_ok {x : CS} (h : OKc x) {s : Nat} (hs : s < 2 ^ x.1) (ht : tg s x.2 = false) : OKc (x.1, agf x.2 s) := by
  obtain ⟨k1, k2, k3⟩ := id h
  refine ⟨k1, fun i hi => k2 i hi, tg_of (s := s) (f := x.2) (fun c hc b => k2 c ?_) ht (fun i hi b v => ?_)⟩
  · rcases Nat.lt_or_ge c x.1 with q | q
    · exact q
    · rw [bit_hi hs q] at b; cases b
  · obtain ⟨b1, b2⟩ := onm_ex b
    exact ⟨i, hi, b2, v, rfl⟩
theorem o_agree_ok {o : OS} (ho : OKs o) : OKs (o_agree o).2.2 := by
  unfold o_agree
  split
  · exact ho
  · rename_i t
    obtain ⟨s1, s2, s3, s4, s5⟩ := svO_ok ho
    exact ⟨agf_ok ho.1 (mo_lt o) (Bool.not_eq_true _ |>.mp t), s2, s3, s4, s5⟩
theorem m_agree {S : PS} {h z s b r : Nat} {o : OS} (H : MM S h z s b r o) (ho : OKs o) : MO S h z s b r (f_X5_agree S h) (o_agree o) := by
  have h10 := ho.1.1
  have hv := H.mv ho
  have ml := mo_lt o
  have ml2 : mo o < 2 ^ 10 := Nat.lt_of_lt_of_le ml (pw h10)
  unfold f_X5_agree f_X5_agree_B19 o_agree
  rw [m_most hv h10, bd_s]
  show MO S h z s b r (bd (f_X5_isTooGreat S h (nI (mo o))) _) _
  rw [m_great hv ml (Nat.lt_of_lt_of_le ml (pw (by omega))) h10, bd_s]
  show MO S h z s b r (if b2 (tg (mo o) o.1.2) = 0 then (if fI (sI S 80 h 0) 80 h ≤ 0 then (bd (f_X5_save (sI S 80 h 0) h) fun t12 => f_X5_agree_L37 f_X5_agree_B70 FU t12 h (nI (mo o)) 0) else some (0, sI S 80 h 0)) else (if fI (sI S 80 h 1) 80 h ≤ 0 then (bd (f_X5_save (sI S 80 h 1) h) fun t12 => f_X5_agree_L37 f_X5_agree_B70 FU t12 h (nI (mo o)) 0) else some (0, sI S 80 h 1))) _
  generalize hmm : mo o = mm at *
  cases hp : tg mm o.1.2
  · rw [b2_f, if_pos rfl, if_pos (by rw [fI_s]; exact Int32.le_refl _), if_neg (by decide)]
    obtain ⟨T1, e3, c3, M3, f3, a3⟩ := m_save H.t ho
    rw [e3, bd_s]
    have loop : ∀ n c S', o.1.1 + 1 ≤ n + c → c ≤ o.1.1 → mfr h z s b r S S' → fI S' 80 h = nI 0 → MM S' h z s b r ((o.1.1, agp o.1.2 mm c), (svO o).2) → MO S h z s b r (f_X5_agree_L37 f_X5_agree_B70 n S' h (nI mm) (nI c)) (0, nI (pc mm), ((o.1.1, agf o.1.2 mm), (svO o).2)) := by
      intro n
      induction n with
      | zero => intro c S' h1 h2; omega
      | succ n ih =>
        intro c S' h1 h2 cs ft M
        have R := M.1
        have z0 : aI S' z (0 : Int32).toNatClampNeg = nI o.1.1 := by rw [cl0]; exact M.2.1.1
        rw [show f_X5_agree_L37 f_X5_agree_B70 (n + 1) S' h (nI mm) (nI c) = f_X5_agree_L37s (f_X5_agree_L37 f_X5_agree_B70 n) f_X5_agree_B70 S' h (nI mm) (nI c) from rfl]
        unfold f_X5_agree_L37s
        rw [rz R, ck_t (j0 R), z0]
        rcases Nat.eq_or_lt_of_le h2 with q | q
        · subst q
          unfold f_X5_agree_B70
          rw [if_pos (Int32.le_refl _), m_bits (by omega), bd_s]
          refine ⟨S', _, rfl, cs, ft, fun _ => rfl, M.1, ?_, M.2.2⟩
          exact M.2.1.fc (fun i hi => by unfold agp agf; rw [if_pos hi])
        · have ei : (1 : Int32) + (4 : Int32) * nI c + (3 : Int32) = nI (4 + 4 * c) := by
            rw [i1, i4, i3, pk_mul, nI_add, nI_add, show 1 + 4 * c + 3 = 4 + 4 * c by omega]
          have I := ih (c + 1)
          rw [agp_s] at I
          rw [if_neg (nle q (by omega)), rz R, n_bitv (by omega) (by omega), ei, ck_t (jz R (by omega)), sW_A, nI_clamp (by omega), nI_1]
          exact I _ (by omega) (by omega) (cs.tr mfr.z) ft (M.row (M.2.1.on (c := c) (b := mm.testBit c)))
    refine loop FU 0 T1 (by unfold FU; omega) (by omega) ((mfr.I).tr c3) (by rw [f3]; exact fI_s) ⟨M3.1, ?_, M3.2.2⟩
    exact M3.2.1.fc (fun i hi => by unfold agp; rw [if_neg (by omega)])
  · rw [b2_t, if_neg n10, if_pos rfl, if_neg (by rw [fI_s]; decide)]
    exact MO.no (n := 1) H mfr.rf (by decide)

/-! ===== the reference: looks at a condition, counts; conditions changed ===== -/
/-- what is told of a condition -/
def tlw (f : Nat → CT) (sz c : Nat) : Nat → Int32
  | 0 => nI (f c).1
  | 1 => nI (f c).2.1
  | 2 => nI (f c).2.2.1
  | 3 => b2 (f c).2.2.2
  | 4 => b2 (vo (f c))
  | 5 => if vo (f c) = true then -1 else nI (bm (f c))
  | 6 => if vo (f c) = true then -1 else nI (br (f c))
  | 7 => nI (agn f sz c)
  | _ => b2 (td f sz c)
theorem n9 {P : Nat → Prop} (h0 : P 0) (h1 : P 1) (h2 : P 2) (h3 : P 3) (h4 : P 4) (h5 : P 5) (h6 : P 6) (h7 : P 7) (h8 : P 8) : ∀ j, j ≤ 8 → P j
  | 0, _ => h0
  | 1, _ => h1
  | 2, _ => h2
  | 3, _ => h3
  | 4, _ => h4
  | 5, _ => h5
  | 6, _ => h6
  | 7, _ => h7
  | 8, _ => h8
  | _ + 9, h => by omega
theorem n7 {P : Nat → Prop} (h0 : P 0) (h1 : P 1) (h2 : P 2) (h3 : P 3) (h4 : P 4) (h5 : P 5) (h6 : P 6) : ∀ j, j ≤ 6 → P j
  | 0, _ => h0
  | 1, _ => h1
  | 2, _ => h2
  | 3, _ => h3
  | 4, _ => h4
  | 5, _ => h5
  | 6, _ => h6
  | _ + 7, h => by omega
theorem m_told {S : PS} {h hz sz : Nat} {f : Nat → CT} (H : MV S h hz sz sz f) (h10 : sz ≤ 10) (hok : ok f sz) {c : Nat} (hc : c < sz) : ∀ j, j ≤ 8 → ∃ S1, f_X5_told S h (nI c) (nI j) = some (tlw f sz c j, S1) ∧ scr S S1 := by
  apply n9
  · exact ⟨S, by
      unfold f_X5_told
      rw [if_neg (by decide), if_neg (by decide), if_neg (by decide), if_neg (by decide), if_neg (by decide)]
      rw [show f_X5_of S h (nI c) (nI 0) = _ from m_of0 H hc]; rfl, scr.rf⟩
  · exact ⟨S, by
      unfold f_X5_told
      rw [if_neg (by decide), if_neg (by decide), if_neg (by decide), if_neg (by decide), if_neg (by decide)]
      rw [show f_X5_of S h (nI c) (nI 1) = _ from m_of1 H hc]; rfl, scr.rf⟩
  · exact ⟨S, by
      unfold f_X5_told
      rw [if_neg (by decide), if_neg (by decide), if_neg (by decide), if_neg (by decide), if_neg (by decide)]
      rw [show f_X5_of S h (nI c) (nI 2) = _ from m_of2 H hc]; rfl, scr.rf⟩
  · exact ⟨S, by
      unfold f_X5_told
      rw [if_neg (by decide), if_neg (by decide), if_neg (by decide), if_neg (by decide), if_neg (by decide)]
      rw [show f_X5_of S h (nI c) (nI 3) = _ from m_of3 H hc]; rfl, scr.rf⟩
  · exact ⟨S, by
      unfold f_X5_told f_X5_told_B49 tlw
      rw [if_pos (by decide), m_void H hc, bd_s]
      cases vo (f c)
      · rw [b2_f, if_pos rfl] <;> rfl
      · rw [b2_t, if_neg n10] <;> rfl, scr.rf⟩
  · exact ⟨S, by
      unfold f_X5_told f_X5_told_B67 tlw
      rw [if_neg (by decide), if_pos (by decide), m_void H hc, bd_s]
      cases vo (f c)
      · rw [b2_f, if_pos rfl, m_mod H hc]; rfl
      · rw [b2_t, if_neg n10]; rfl, scr.rf⟩
  · exact ⟨S, by
      unfold f_X5_told f_X5_told_B85 tlw
      rw [if_neg (by decide), if_neg (by decide), if_pos (by decide), m_void H hc, bd_s]
      cases hv : vo (f c)
      · rw [b2_f, if_pos rfl, m_rest H hc hv]; rfl
      · rw [b2_t, if_neg n10]; rfl, scr.rf⟩
  · exact ⟨S, by
      unfold f_X5_told tlw
      rw [if_neg (by decide), if_neg (by decide), if_neg (by decide), if_pos (by decide), m_against H hc, bd_s] <;> rfl, scr.rf⟩
  · obtain ⟨S1, e, cs⟩ := m_isTold H h10 hok hc
    refine ⟨S1, ?_, cs⟩
    unfold f_X5_told f_X5_told_B105 tlw
    rw [if_neg (by decide), if_neg (by decide), if_neg (by decide), if_neg (by decide), if_pos (by decide), e, bd_s]
    cases td f sz c
    · rw [b2_f, if_pos rfl] <;> rfl
    · rw [b2_t, if_neg n10] <;> rfl
def cow (f : Nat → CT) (sz sv : Nat) : Nat → Int32
  | 0 => nI sz
  | 1 => nI (pc (onm f sz))
  | 2 => nI (ct (fun c => vo (f c)) sz)
  | 3 => nI (qq f sz sz / 2)
  | 4 => b2 (ps (onm f sz) f)
  | 5 => nI (ct (td f sz) sz)
  | _ => nI sv
theorem m_counted {S : PS} {h hz sz sv : Nat} {f : Nat → CT} (H : MV S h hz sz sz f) (h10 : sz ≤ 10) (hok : ok f sz) (hv : fI S 83 h = nI sv) : ∀ j, j ≤ 6 → ∃ S1, f_X5_counted S h (nI j) = some (cow f sz sv j, S1) ∧ scr S S1 := by
  apply n7
  · exact ⟨S, by
      unfold f_X5_counted cow
      rw [if_pos (by decide), m_z0 H, ck_t (m_in0 H), m_sz H] <;> rfl, scr.rf⟩
  · exact ⟨S, by
      unfold f_X5_counted cow
      rw [if_neg (by decide), if_pos (by decide), m_onSet H, bd_s, m_bits (onm_2048 (by omega)), bd_s] <;> rfl, scr.rf⟩
  · exact ⟨S, by
      unfold f_X5_counted cow
      rw [if_neg (by decide), if_neg (by decide), if_pos (by decide), m_voids H, bd_s] <;> rfl, scr.rf⟩
  · exact ⟨S, by
      unfold f_X5_counted cow
      rw [if_neg (by decide), if_neg (by decide), if_neg (by decide), if_pos (by decide), m_quarrels H, bd_s] <;> rfl, scr.rf⟩
  · exact ⟨S, by
      unfold f_X5_counted f_X5_counted_B81 cow
      rw [if_neg (by decide), if_neg (by decide), if_neg (by decide), if_neg (by decide), if_pos (by decide), m_onSet H, bd_s, m_poss H (onm_lt f sz) (onm_k (by omega)) (onm_k (by omega)) h10, bd_s]
      cases ps (onm f sz) f
      · rw [b2_f, if_pos rfl] <;> rfl
      · rw [b2_t, if_neg n10] <;> rfl, scr.rf⟩
  · obtain ⟨S1, e, cs⟩ := m_toldMany H h10 hok
    refine ⟨S1, ?_, cs⟩
    unfold f_X5_counted cow
    rw [if_neg (by decide), if_neg (by decide), if_neg (by decide), if_neg (by decide), if_neg (by decide), if_pos (by decide), e, bd_s] <;> rfl
  · exact ⟨S, by
      unfold f_X5_counted cow
      rw [if_neg (by decide), if_neg (by decide), if_neg (by decide), if_neg (by decide), if_neg (by decide), if_neg (by decide), hv] <;> rfl, scr.rf⟩
/-! what stands stays not too great -/
theorem sp_mem {s : Nat} {f : Nat → CT} {i : Nat} (b : s.testBit i = true) (v : vo (f i) = false) : ∀ n, i < n → bm (f i) ∣ sp s f n
  | 0, h => by omega
  | n + 1, h => by
    unfold sp
    rcases Nat.lt_or_ge i n with q | q
    · have ih := sp_mem b v n q
      split
      · exact Nat.dvd_trans ih (Nat.dvd_lcm_left _ _)
      · exact ih
    · have e : i = n := by omega
      subst e
      rw [if_pos (by rw [b, v]; rfl)]
      exact Nat.dvd_lcm_right _ _
theorem sp_dv {s : Nat} {f : Nat → CT} {X : Nat} : ∀ n, (∀ i, i < n → s.testBit i = true → vo (f i) = false → bm (f i) ∣ X) → sp s f n ∣ X
  | 0, _ => Nat.one_dvd _
  | n + 1, h => by
    have ih := sp_dv (s := s) (f := f) n (fun i hi => h i (by omega))
    unfold sp
    split
    · rename_i q
      rw [Bool.and_eq_true, Bool.not_eq_true'] at q
      exact Nat.lcm_dvd ih (h n (by omega) q.1 q.2)
    · exact ih
theorem tg_of {s s' : Nat} {f f' : Nat → CT} (hg : ∀ c, c < 11 → s.testBit c = true → gd (f c)) (ht : tg s f = false) (h : ∀ i, i < 11 → s'.testBit i = true → vo (f' i) = false → ∃ j, j < 11 ∧ s.testBit j = true ∧ vo (f j) = false ∧ bm (f j) = bm (f' i)) : tg s' f' = false := by
  unfold tg at *
  have h1 : ¬ LIM < sp s f 11 := of_decide_eq_false ht
  have h2 : sp s' f' 11 ∣ sp s f 11 := sp_dv 11 (fun i hi b v => by
    obtain ⟨j, j1, j2, j3, j4⟩ := h i hi b v
    rw [← j4]; exact sp_mem j2 j3 11 j1)
  have h3 := Nat.le_of_dvd (sp_pos 11 hg) h2
  exact decide_eq_false (by omega)
theorem ok_gd {x : CS} (h : OKc x) : ∀ c, c < 11 → (onm x.2 x.1).testBit c = true → gd (x.2 c) := fun c _ b => by
  rw [onm_bit, Bool.and_eq_true, decide_eq_true_iff] at b
  exact h.2.1 c b.1
theorem onm_on {f : Nat → CT} {sz i : Nat} (h : i < sz) (o : (f i).2.2.2 = true) : (onm f sz).testBit i = true := by
  rw [onm_bit, decide_eq_true h, o]; rfl
theorem onm_ex {f : Nat → CT} {sz i : Nat} (h : (onm f sz).testBit i = true) : i < sz ∧ (f i).2.2.2 = true := by
  rw [onm_bit, Bool.and_eq_true, decide_eq_true_iff] at h; exact h
/-! adding -/
def tn (a : Int32) : Nat := a.toNatClampNeg
def o_add (o : OS) (a b m : Int32) : Nat × Int32 × OS := if gdI a b m = true then (if cn o.1.2 o.1.1 (tn a, tn b, tn m, true) = true then (0, nI o.1.1, ((o.1.1 + 1, fa o.1.2 o.1.1 (tn a, tn b, tn m, true)), (svO o).2)) else (2, 0, o)) else (1, 0, o)
theorem gd_tn {a b m : Int32} (h : gdI a b m = true) : a = nI (tn a) ∧ b = nI (tn b) ∧ m = nI (tn m) ∧ gd (tn a, tn b, tn m, true) := by
  obtain ⟨x, y, z, e1, e2, e3, g⟩ := gdI_ex h
  obtain ⟨g1, g2, g3, g4, g5⟩ := id g
  subst e1; subst e2; subst e3
  have h1 : tn (nI x) = x := nI_clamp (by have : x ≤ 999 := g2; omega)
  have h2 : tn (nI y) = y := nI_clamp (by have : y ≤ 999 := g3; omega)
  have h3 : tn (nI z) = z := nI_clamp (by have : z ≤ 999 := g5; omega)
  rw [h1, h2, h3]
  exact ⟨rfl, rfl, rfl, g⟩
theorem cn_ok {x : CS} (h : OKc x) {y : CT} (g : gd y) (hy : y.2.2.2 = true) (hc : cn x.2 x.1 y = true) : OKc (x.1 + 1, fa x.2 x.1 y) := by
  unfold cn at hc
  rw [Bool.and_eq_true, decide_eq_true_iff, Bool.not_eq_true'] at hc
  refine ⟨by show x.1 + 1 ≤ 10; omega, fun c hc' => ?_, ?_⟩
  · show gd (fa x.2 x.1 y c)
    have hc' : c < x.1 + 1 := hc'
    by_cases q : c = x.1
    · rw [q, fa_s]; exact g
    · rw [fa_n q]; exact h.2.1 c (by omega)
  · show tg (onm (fa x.2 x.1 y) (x.1 + 1)) (fa x.2 x.1 y) = false
    have e : onm (fa x.2 x.1 y) (x.1 + 1) = onm x.2 x.1 ||| 2 ^ x.1 := by
      show msk _ (x.1 + 1) = _
      unfold msk
      rw [if_pos (by show (fa x.2 x.1 y x.1).2.2.2 = true; rw [fa_s]; exact hy)]
      show onm (fa x.2 x.1 y) x.1 ||| _ = _
      rw [onm_fa]
    rw [e]; exact hc.2
theorem o_add_ok {o : OS} (ho : OKs o) (a b m : Int32) : OKs (o_add o a b m).2.2 := by
  unfold o_add
  split
  · rename_i hg
    split
    · rename_i hc
      obtain ⟨s1, s2, s3, s4, s5⟩ := svO_ok ho
      exact ⟨cn_ok ho.1 (gd_tn hg).2.2.2 rfl hc, s2, s3, s4, s5⟩
    · exact ho
  · exact ho

/-! ===== the reference: rows written ===== -/
/-- a whole row in its place -/
def sW (S : PS) (a : Nat) (r : Nat → Int32) : PS := (PL S, PK S, fI S, fL S, fR S, aN S, va_up (aI S) a r, aR S)
theorem sW_A {S : PS} {a : Nat} {k v : Int32} : sA S a k v = sW S a (upd (aI S a) k.toNatClampNeg v) := rfl
theorem aI_W {S : PS} {a : Nat} {r : Nat → Int32} : aI (sW S a r) a = r := va_up_self _ _ _
theorem aI_Wn {S : PS} {a b : Nat} {r : Nat → Int32} (h : b ≠ a) : aI (sW S a r) b = aI S b := va_up_ne _ _ h
theorem va2 {α : Type} {g : Nat → α} {a : Nat} {r r' : α} : va_up (va_up g a r) a r' = va_up g a r' := by
  funext b
  by_cases h : b = a
  · subst h; rw [va_up_self, va_up_self]
  · rw [va_up_ne _ _ h, va_up_ne _ _ h, va_up_ne _ _ h]
theorem vas {α : Type} {g : Nat → α} {a : Nat} : va_up g a (g a) = g := by
  funext b
  by_cases h : b = a
  · subst h; rw [va_up_self]
  · rw [va_up_ne _ _ h]
theorem sW_W {S : PS} {a : Nat} {r r' : Nat → Int32} : sW (sW S a r) a r' = sW S a r' := by
  show (PL S, PK S, fI S, fL S, fR S, aN S, va_up (va_up (aI S) a r) a r', aR S) = _
  rw [va2]; rfl
theorem sW_s {S : PS} {a : Nat} : sW S a (aI S a) = S := by
  show (PL S, PK S, fI S, fL S, fR S, aN S, va_up (aI S) a (aI S a), aR S) = S
  rw [vas]; rfl
theorem sA_W {S : PS} {a : Nat} {r : Nat → Int32} {k v : Int32} : sA (sW S a r) a k v = sW S a (upd r k.toNatClampNeg v) := by
  rw [sW_A, aI_W, sW_W]
/-- what the reads of the rows see is the same -/
def sr (S S1 : PS) : Prop := PL S1 = PL S ∧ PK S1 = PK S ∧ fR S1 = fR S ∧ aN S1 = aN S ∧ aI S1 = aI S
theorem MV.sr {S S1 : PS} {h hz sz k : Nat} {f : Nat → CT} (H : MV S h hz sz k f) (c : sr S S1) : MV S1 h hz sz k f := by
  obtain ⟨c1, c2, c3, c4, c5⟩ := c
  unfold MV MZ vd at *
  rw [c1, c2, c3, c4, c5]
  exact H
theorem sr.I {S : PS} {i a : Nat} {v : Int32} : sr S (sI S i a v) := ⟨rfl, rfl, rfl, rfl, rfl⟩
/-- all but the reference's own things is the same: its object h, its rows z, s, b, r -/
def mfr (h z s b r : Nat) (S S1 : PS) : Prop := PL S1 = PL S ∧ PK S1 = PK S ∧ fR S1 = fR S ∧ aN S1 = aN S ∧ aR S1 = aR S ∧ (∀ a i, i < 80 → fI S1 i a = fI S i a) ∧ (∀ a i, i < 80 → fL S1 i a = fL S i a) ∧ ∀ a, a ≠ z → a ≠ s → a ≠ b → a ≠ r → aI S1 a = aI S a
theorem mfr.rf {h z s b r : Nat} {S : PS} : mfr h z s b r S S := ⟨rfl, rfl, rfl, rfl, rfl, fun _ _ _ => rfl, fun _ _ _ => rfl, fun _ _ _ _ _ => rfl⟩
theorem mfr.tr {h z s b r : Nat} {S S1 S2 : PS} (c : mfr h z s b r S S1) (d : mfr h z s b r S1 S2) : mfr h z s b r S S2 := by
  obtain ⟨c1, c2, c3, c4, c5, c6, c7, c8⟩ := c
  obtain ⟨d1, d2, d3, d4, d5, d6, d7, d8⟩ := d
  exact ⟨d1.trans c1, d2.trans c2, d3.trans c3, d4.trans c4, d5.trans c5, fun a i q => (d6 a i q).trans (c6 a i q), fun a i q => (d7 a i q).trans (c7 a i q), fun a q1 q2 q3 q4 => (d8 a q1 q2 q3 q4).trans (c8 a q1 q2 q3 q4)⟩
theorem mfr.I {h z s b r : Nat} {S : PS} {i : Nat} {v : Int32} (hi : 80 ≤ i := by decide) : mfr h z s b r S (sI S i h v) := ⟨rfl, rfl, rfl, rfl, rfl, fun _ _ q => u2_nf (by omega), fun _ _ _ => rfl, fun _ _ _ _ _ => rfl⟩
theorem mfr.L {h z s b r : Nat} {S : PS} {i : Nat} {v : Int64} (hi : 80 ≤ i := by decide) : mfr h z s b r S (sL S i h v) := ⟨rfl, rfl, rfl, rfl, rfl, fun _ _ _ => rfl, fun _ _ q => u2_nf (by omega), fun _ _ _ _ _ => rfl⟩
theorem mfr.W {h z s b r : Nat} {S : PS} {a : Nat} {v : Nat → Int32} (ha : a = z ∨ a = s ∨ a = b ∨ a = r) : mfr h z s b r S (sW S a v) := ⟨rfl, rfl, rfl, rfl, rfl, fun _ _ _ => rfl, fun _ _ _ => rfl, fun c q1 q2 q3 q4 => aI_Wn (by rcases ha with e | e | e | e <;> rw [e] <;> assumption)⟩
/-- a condition laid behind -/
def fa (f : Nat → CT) (n : Nat) (x : CT) : Nat → CT := fun i => if i = n then x else f i
theorem fa_s {f : Nat → CT} {n : Nat} {x : CT} : fa f n x n = x := if_pos rfl
theorem fa_n {f : Nat → CT} {n i : Nat} {x : CT} (h : i ≠ n) : fa f n x i = f i := if_neg h
theorem msk_cg {p q : Nat → Bool} : ∀ n, (∀ i, i < n → p i = q i) → msk p n = msk q n
  | 0, _ => rfl
  | n + 1, h => by unfold msk; rw [msk_cg n (fun i hi => h i (by omega)), h n (by omega)]
theorem onm_fa {f : Nat → CT} {n : Nat} {x : CT} : onm (fa f n x) n = onm f n := msk_cg n (fun i hi => by rw [fa_n (by omega)])
/-- the row after a condition is laid behind the first sz -/
def lr (r : Nat → Int32) (sz : Nat) (a b m : Int32) : Nat → Int32 := fun j => if j = 1 + 4 * sz then a else if j = 2 + 4 * sz then b else if j = 3 + 4 * sz then m else if j = 4 + 4 * sz then 1 else r j
/-- the row with nothing from lo to hi -/
def zr (r : Nat → Int32) (lo hi : Nat) : Nat → Int32 := fun j => if lo ≤ j ∧ j < hi then 0 else r j
theorem m_zW {S : PS} {h hz sz k : Nat} {f : Nat → CT} (H : MV S h hz sz k f) {r : Nat → Int32} {α : Type} (e : Nat → Option α) : (rq (fR (sW S hz r) 81 h) (sW S hz r) 6 fun b => e b) = e hz := rq_e H.1.2.1 H.1.2.2.1
theorem m_inW {S : PS} {h hz sz k : Nat} {f : Nat → CT} (H : MV S h hz sz k f) {r : Nat → Int32} {j : Nat} (hj : j < 45) : ¬ (nI j < 0 ∨ aN (sW S hz r) hz ≤ (nI j).toNatClampNeg) := m_in H hj
theorem m_layNext {S : PS} {h hz sz k : Nat} {f : Nat → CT} (H : MV S h hz sz k f) (h10 : sz ≤ 10) (a b m : Int32) : f_X5_layNext S h a b m = some (sW S hz (lr (aI S hz) sz a b m)) := by
  unfold f_X5_layNext
  rw [m_z0 H, ck_t (m_in0 H), m_z0 H, m_sz H, i1, i4, pk_mul, nI_add, ck_t (m_in H (by omega)), sW_A, m_zW H, i2, i3, nI_add, nI_add, nI_add, ck_t (m_inW H (by omega)), sA_W, m_zW H, ck_t (m_inW H (by omega)), sA_W, m_zW H, ck_t (m_inW H (by omega)), sA_W, nI_clamp (by omega), nI_clamp (by omega), nI_clamp (by omega), nI_clamp (by omega)]
  congr 2
  funext j
  unfold upd lr
  by_cases q1 : j = 1 + 4 * sz
  · rw [if_neg (by omega), if_neg (by omega), if_neg (by omega), if_pos q1, if_pos q1]
  · by_cases q2 : j = 2 + 4 * sz
    · rw [if_neg (by omega), if_neg (by omega), if_pos (by omega), if_neg q1, if_pos q2]
    · by_cases q3 : j = 3 + 4 * sz
      · rw [if_neg (by omega), if_pos (by omega), if_neg q1, if_neg q2, if_pos q3]
      · by_cases q4 : j = 4 + 4 * sz
        · rw [if_pos (by omega), if_neg q1, if_neg q2, if_neg q3, if_pos q4]; rfl
        · rw [if_neg (by omega), if_neg (by omega), if_neg (by omega), if_neg q1, if_neg q1, if_neg q2, if_neg q3, if_neg q4]
theorem m_inW0 {S : PS} {h hz sz k : Nat} {f : Nat → CT} (H : MV S h hz sz k f) {r : Nat → Int32} : ¬ ((0 : Int32) < 0 ∨ aN (sW S hz r) hz ≤ (0 : Int32).toNatClampNeg) := m_inW H (j := 0) (by decide)
theorem lp_from {ρ : Type} {L : Nat → Nat → ρ} {lo e : Nat} {r : ρ} (hx : ∀ n, L (n + 1) e = r) (hs : ∀ n c, lo ≤ c → c < e → L (n + 1) c = L n (c + 1)) : ∀ n c, lo ≤ c → c ≤ e → e - c < n → L n c = r := by
  intro n
  induction n with
  | zero => intro c h0 h1 h2; omega
  | succ n ih =>
    intro c h0 h1 h2
    rcases Nat.eq_or_lt_of_le h1 with h | h
    · subst h; exact hx n
    · rw [hs n c h0 h]; exact ih (c + 1) (by omega) (by omega) (by omega)
theorem m_clearNext {S : PS} {h hz sz k : Nat} {f : Nat → CT} (H : MV S h hz sz k f) (h10 : sz ≤ 10) : f_X5_clearNext S h = some (sW S hz (zr (aI S hz) (1 + 4 * sz) (5 + 4 * sz))) := by
  unfold f_X5_clearNext
  rw [m_z0 H, ck_t (m_in0 H), m_sz H, i1, i4, pk_mul, nI_add]
  have e0 : sW S hz (zr (aI S hz) (1 + 4 * sz) (1 + 4 * sz)) = S := by
    rw [show zr (aI S hz) (1 + 4 * sz) (1 + 4 * sz) = aI S hz by funext j; unfold zr; rw [if_neg (by omega)], sW_s]
  have r0 : ∀ n, zr (aI S hz) (1 + 4 * sz) n 0 = nI sz := fun n => by unfold zr; rw [if_neg (by omega)]; exact H.2.1
  have body := lp_from (L := fun n d => f_X5_clearNext_L11 f_X5_clearNext_B40 n (sW S hz (zr (aI S hz) (1 + 4 * sz) d)) h (nI d)) (lo := 1 + 4 * sz) (e := 5 + 4 * sz) (r := some (sW S hz (zr (aI S hz) (1 + 4 * sz) (5 + 4 * sz)))) (fun n => by
    show f_X5_clearNext_L11s (f_X5_clearNext_L11 f_X5_clearNext_B40 n) f_X5_clearNext_B40 (sW S hz (zr (aI S hz) (1 + 4 * sz) (5 + 4 * sz))) h (nI (5 + 4 * sz)) = _
    unfold f_X5_clearNext_L11s f_X5_clearNext_B40
    rw [m_zW H, ck_t (m_inW0 H), aI_W, cl0, r0, i1, i4, pk_mul, nI_add, nI_add, if_pos (nI_le (by omega) (by omega))]) (fun n d hl hd => by
    show f_X5_clearNext_L11s (f_X5_clearNext_L11 f_X5_clearNext_B40 n) f_X5_clearNext_B40 (sW S hz (zr (aI S hz) (1 + 4 * sz) d)) h (nI d) = f_X5_clearNext_L11 f_X5_clearNext_B40 n (sW S hz (zr (aI S hz) (1 + 4 * sz) (d + 1))) h (nI (d + 1))
    unfold f_X5_clearNext_L11s
    rw [m_zW H, ck_t (m_inW0 H), aI_W, cl0, r0, i1, i4, pk_mul, nI_add, nI_add, if_neg (nle (by omega) (by omega)), m_zW H, ck_t (m_inW H (by omega)), sA_W, nI_clamp (by omega), nI_add]
    congr 2
    funext j
    unfold upd zr
    by_cases q1 : j = d
    · rw [if_pos q1, if_pos (by omega)]
    · rw [if_neg q1]
      by_cases q2 : 1 + 4 * sz ≤ j ∧ j < d
      · rw [if_pos q2, if_pos (by omega)]
      · rw [if_neg q2, if_neg (by omega)]) FU (1 + 4 * sz) (by omega) (by omega) (by unfold FU; omega)
  rw [e0] at body
  exact body
/-- may be laid behind -/
def cn (f : Nat → CT) (sz : Nat) (x : CT) : Bool := decide (sz < 10) && !tg (onm f sz ||| 2 ^ sz) (fa f sz x)
theorem lay_MV {S : PS} {h hz sz k : Nat} {f : Nat → CT} (H : MV S h hz sz k f) (h10 : sz ≤ 10) {a b m : Nat} (g : gd (a, b, m, true)) : MV (sW S hz (lr (aI S hz) sz (nI a) (nI b) (nI m))) h hz sz (sz + 1) (fa f sz (a, b, m, true)) := by
  obtain ⟨H1, H2, H3, H4, H5⟩ := H
  refine ⟨H1, ?_, by omega, by omega, ?_⟩
  · rw [aI_W]; unfold lr
    rw [if_neg (by omega), if_neg (by omega), if_neg (by omega), if_neg (by omega)]; exact H2
  · rw [aI_W]
    intro c hc
    unfold lr
    by_cases q : c = sz
    · subst q
      rw [fa_s, if_pos rfl, if_neg (by omega), if_pos rfl, if_neg (by omega), if_neg (by omega), if_pos rfl, if_neg (by omega), if_neg (by omega), if_neg (by omega), if_pos rfl]
      exact ⟨rfl, rfl, rfl, rfl, g⟩
    · rw [fa_n q, if_neg (by omega), if_neg (by omega), if_neg (by omega), if_neg (by omega), if_neg (by omega), if_neg (by omega), if_neg (by omega), if_neg (by omega), if_neg (by omega), if_neg (by omega), if_neg (by omega), if_neg (by omega), if_neg (by omega), if_neg (by omega), if_neg (by omega), if_neg (by omega)]
      exact H5 c (by omega)
/-- a row of sz conditions: only the cells of the first sz count -/
theorem MV.row {S : PS} {h hz sz k : Nat} {f : Nat → CT} (H : MV S h hz sz k f) {r : Nat → Int32} (hr : ∀ j, j < 1 + 4 * sz → r j = aI S hz j) : MV (sW S hz r) h hz sz sz f := by
  obtain ⟨H1, H2, H3, H4, H5⟩ := H
  refine ⟨H1, ?_, Nat.le_refl _, by omega, ?_⟩
  · rw [aI_W, hr 0 (by omega)]; exact H2
  · rw [aI_W]
    intro c hc
    rw [hr _ (by omega), hr _ (by omega), hr _ (by omega), hr _ (by omega)]
    exact H5 c (by omega)
theorem lr_lo {r : Nat → Int32} {sz j : Nat} {a b m : Int32} (h : j < 1 + 4 * sz) : lr r sz a b m j = r j := by
  unfold lr; rw [if_neg (by omega), if_neg (by omega), if_neg (by omega), if_neg (by omega)]
theorem zr_lo {r : Nat → Int32} {lo hi j : Nat} (h : j < lo) : zr r lo hi j = r j := by
  unfold zr; rw [if_neg (by omega)]
theorem or_lt {a n : Nat} (h : a < 2 ^ n) : a ||| 2 ^ n < 2 ^ (n + 1) := Nat.or_lt_two_pow (Nat.lt_of_lt_of_le h (pw (by omega))) (Nat.pow_lt_pow_right (by decide) (by omega))
theorem m_canAdd {S : PS} {h hz sz k : Nat} {f : Nat → CT} (H : MV S h hz sz k f) (h10 : sz ≤ 10) {a b m : Nat} (g : gd (a, b, m, true)) : ∃ r, f_X5_canAdd S h (nI a) (nI b) (nI m) = some (b2 (cn f sz (a, b, m, true)), sW S hz r) ∧ (∀ j, j < 1 + 4 * sz → r j = aI S hz j) ∧ (cn f sz (a, b, m, true) = true → MV (sW S hz r) h hz sz (sz + 1) (fa f sz (a, b, m, true))) := by
  unfold f_X5_canAdd cn
  rw [m_z0 H, ck_t (m_in0 H), m_sz H]
  by_cases q : sz = 10
  · refine ⟨aI S hz, ?_, fun _ _ => rfl, ?_⟩
    · rw [if_pos (by rw [q]; rfl), decide_eq_false (by omega), sW_s]; rfl
    · rw [decide_eq_false (by omega)]; intro z; cases z
  · have HL := lay_MV H h10 g
    rw [if_neg (show ¬ nI sz = 10 from fun z => q ((nI_eq (b := 10) (by omega) (by decide)).mp z)), m_layNext H h10, bd_s, m_onSet HL, bd_s, m_z0 HL, ck_t (m_in0 HL), m_sz HL, onm_fa, n_shl (by omega), n_or, m_great HL (or_lt (onm_lt f sz)) (or_lt (onm_lt f sz)) h10, bd_s, decide_eq_true (show sz < 10 by omega)]
    unfold f_X5_canAdd_B45 f_X5_canAdd_B56
    cases tg (onm f sz ||| 2 ^ sz) (fa f sz (a, b, m, true))
    · exact ⟨_, by rw [b2_f, if_pos rfl, if_neg n10]; exact ckb1, fun j hj => lr_lo hj, fun _ => HL⟩
    · rw [b2_t, if_neg n10, if_pos rfl, m_clearNext HL h10, bd_s, aI_W, sW_W]
      exact ⟨_, ckb0, fun j hj => by rw [zr_lo hj, lr_lo hj], fun z => by cases z⟩
/-- the parts of a condition are in their ranges -/
def gdI (a b m : Int32) : Bool := (decide (1 ≤ a) && decide (a ≤ 999)) && ((decide (0 ≤ b) && decide (b ≤ 999)) && (decide (1 ≤ m) && decide (m ≤ 999)))
theorem m_areGood (a b m : Int32) : f_X5_areGood a b m = some (b2 (gdI a b m)) := by
  unfold f_X5_areGood f_X5_areGood_B37 f_X5_areGood_B38 gdI
  rw [m_in3, m_in3, m_in3, bd_s, bd_s, bd_s]
  cases decide (1 ≤ a) && decide (a ≤ 999)
  · rw [b2_f, if_pos rfl]; exact ckb0
  · rw [b2_t, if_neg n10]
    cases decide (0 ≤ b) && decide (b ≤ 999)
    · rw [b2_f, if_pos rfl]; exact ckb0
    · rw [b2_t, if_neg n10]
      cases decide (1 ≤ m) && decide (m ≤ 999)
      · rw [b2_f, if_pos rfl]; exact ckb0
      · rw [b2_t, if_neg n10]; exact ckb1
theorem rg_ex {a : Int32} {lo hi : Nat} (hh : hi < 2 ^ 31) (hl : lo ≤ hi) (h : (decide (nI lo ≤ a) && decide (a ≤ nI hi)) = true) : ∃ n, a = nI n ∧ lo ≤ n ∧ n ≤ hi := by
  rw [Bool.and_eq_true, decide_eq_true_iff, decide_eq_true_iff] at h
  have h1 := Int32.le_iff_toInt_le.mp h.1
  rw [nI_toInt (by omega)] at h1
  obtain ⟨j, hj, e⟩ := nI_of2 (x := a) (M := nI hi) (n := hi) (nI_toInt hh) (fun z => by
    have := Int32.lt_iff_toInt_lt.mp z
    have h2 : (0 : Int32).toInt = 0 := by decide
    omega) h.2
  subst e
  exact ⟨j, rfl, by rw [nI_toInt (by omega)] at h1; omega, hj⟩
theorem gdI_ex {a b m : Int32} (h : gdI a b m = true) : ∃ x y z : Nat, a = nI x ∧ b = nI y ∧ m = nI z ∧ gd (x, y, z, true) := by
  unfold gdI at h
  rw [Bool.and_eq_true, Bool.and_eq_true (decide (0 ≤ b) && decide (b ≤ 999))] at h
  obtain ⟨h1, h2, h3⟩ := h
  obtain ⟨x, e1, a1, a2⟩ := rg_ex (lo := 1) (hi := 999) (by decide) (by decide) h1
  obtain ⟨y, e2, b1, b2⟩ := rg_ex (lo := 0) (hi := 999) (by decide) (by decide) h2
  obtain ⟨z, e3, c1, c2⟩ := rg_ex (lo := 1) (hi := 999) (by decide) (by decide) h3
  exact ⟨x, y, z, e1, e2, e3, a1, a2, b2, c1, c2⟩

/-! ===== the reference: reading a text ===== -/
/-- only what a reading uses has changed -/
def wf (r : Nat) (S S1 : PS) : Prop := PL S1 = PL S ∧ PK S1 = PK S ∧ fL S1 = fL S ∧ fR S1 = fR S ∧ aN S1 = aN S ∧ aR S1 = aR S ∧ (∀ i a, i < 89 ∨ 91 < i → fI S1 i a = fI S i a) ∧ ∀ a, a ≠ r → aI S1 a = aI S a
theorem wf.rf {r : Nat} {S : PS} : wf r S S := ⟨rfl, rfl, rfl, rfl, rfl, rfl, fun _ _ _ => rfl, fun _ _ => rfl⟩
theorem wf.tr {r : Nat} {S S1 S2 : PS} (h : wf r S S1) (g : wf r S1 S2) : wf r S S2 := by
  obtain ⟨a1, a2, a3, a4, a5, a6, a7, a8⟩ := h
  obtain ⟨b1, b2, b3, b4, b5, b6, b7, b8⟩ := g
  exact ⟨b1.trans a1, b2.trans a2, b3.trans a3, b4.trans a4, b5.trans a5, b6.trans a6, fun i a q => (b7 i a q).trans (a7 i a q), fun a q => (b8 a q).trans (a8 a q)⟩
theorem wf.I {r : Nat} {S : PS} {i a : Nat} {v : Int32} (h1 : 89 ≤ i) (h2 : i ≤ 91) : wf r S (sI S i a v) := ⟨rfl, rfl, rfl, rfl, rfl, rfl, fun j b q => fI_ne (by omega), fun _ _ => rfl⟩
theorem wf.A {r : Nat} {S : PS} {k v : Int32} : wf r S (sA S r k v) := ⟨rfl, rfl, rfl, rfl, rfl, rfl, fun _ _ _ => rfl, fun a q => va_up_ne _ _ q⟩
theorem wf.m {h z s b r : Nat} {S S1 : PS} (c : wf r S S1) : mfr h z s b r S S1 := by
  obtain ⟨a1, a2, a3, a4, a5, a6, a7, a8⟩ := c
  exact ⟨a1, a2, a4, a5, a6, fun a i q => a7 i a (Or.inl (by omega)), fun a i _ => by rw [a3], fun a _ _ _ q => a8 a q⟩
theorem MM.w {S S1 : PS} {h z s b r : Nat} {o : OS} (H : MM S h z s b r o) (c : wf r S S1) : MM S1 h z s b r o := H.q c.m (c.2.2.2.2.2.2.1 _ _ (Or.inl (by decide))) (c.2.2.2.2.2.2.1 _ _ (Or.inl (by decide))) (fun j _ => by rw [c.2.2.2.2.2.2.2 _ H.1.zr]) (c.2.2.2.2.2.2.2 _ H.1.sr') (c.2.2.2.2.2.2.2 _ H.1.br)
/-- the letter at j -/
def ltr (o : OS) (j : Nat) : Int32 := if j < o.2.2.2.1 then nI (o.2.2.2.2 j) else -1
theorem m_letter {S : PS} {h z s b r : Nat} {o : OS} (H : MM S h z s b r o) (ho : OKs o) {j : Nat} (hj : fI S 90 h = nI j) (h2 : j ≤ 100) : f_X5_letter S h = some (ltr o j) := by
  have h60 := ho.2.2.2.1
  unfold f_X5_letter f_X5_letter_B24 ltr
  rw [H.2.2.2.2.1, hj]
  by_cases q : j < o.2.2.2.1
  · rw [if_neg (nle q (by omega)), if_pos q, rb H.1, ck_t (jbf H.1 (by omega)), nI_clamp (by omega), H.2.2.2.2.2 j q]
  · rw [if_pos (nI_le (by omega) (by omega)), if_neg q]
def lz (o : OS) (j : Nat) : Int := if j < o.2.2.2.1 then (o.2.2.2.2 j : Int) else -1
theorem m1_ti : (-1 : Int32).toInt = -1 := by decide
theorem ltr_eq {o : OS} (ho : OKs o) {j c : Nat} (hc : c ≤ 126) : ltr o j = nI c ↔ (j < o.2.2.2.1 ∧ o.2.2.2.2 j = c) := by
  unfold ltr
  by_cases q : j < o.2.2.2.1
  · have := ho.2.2.2.2 j q
    rw [if_pos q, nI_eq (by omega) (by omega)]
    exact ⟨fun h => ⟨q, h⟩, fun h => h.2⟩
  · rw [if_neg q]
    exact ⟨fun h => absurd h.symm (nm1 (by omega)), fun h => absurd h.1 q⟩
theorem ltr_sub {o : OS} (ho : OKs o) (j : Nat) : (ltr o j - (48 : Int32)).toInt = lz o j - 48 := by
  unfold ltr lz
  by_cases q : j < o.2.2.2.1
  · have := ho.2.2.2.2 j q
    rw [if_pos q, if_pos q]
    exact pk_sub_toInt (b := 48) (by omega) (by decide)
  · rw [if_neg q, if_neg q]
    decide
theorem in_ltr {o : OS} (ho : OKs o) {j low : Nat} (hl : low ≤ 9) : inI (ltr o j - (48 : Int32)) (nI low) 9 = true ↔ (j < o.2.2.2.1 ∧ 48 + low ≤ o.2.2.2.2 j ∧ o.2.2.2.2 j ≤ 57) := by
  unfold inI
  rw [Bool.and_eq_true, decide_eq_true_iff, decide_eq_true_iff, Int32.le_iff_toInt_le, Int32.le_iff_toInt_le, ltr_sub ho, nI_toInt (by omega), show (9 : Int32).toInt = 9 by decide]
  unfold lz
  by_cases q : j < o.2.2.2.1
  · rw [if_pos q]
    constructor
    · intro h; exact ⟨q, by omega, by omega⟩
    · intro h; omega
  · rw [if_neg q]
    constructor
    · intro h; omega
    · intro h; exact absurd h.1 q
theorem m_wants {S : PS} {h r : Nat} {j : Nat} (h1 : fI S 90 h = nI j) (h2 : fI S 91 h = -1) (hj : j < 2 ^ 30) (w : Bool) : ∃ S1, f_X5_wants S h (b2 w) = some S1 ∧ wf r S S1 ∧ aI S1 = aI S ∧ fI S1 89 h = fI S 89 h ∧ fI S1 90 h = nI (j + 1) ∧ fI S1 91 h = (if w = true then -1 else nI j) := by
  unfold f_X5_wants f_X5_wants_B21 f_X5_wants_B34
  rw [h2, if_pos rfl, h1]
  have e : ∀ v, fI (sI S 91 h v) 90 h + (1 : Int32) = nI (j + 1) := fun v => by rw [fI_ne (by decide), h1, nI_1]
  cases w
  · rw [b2_f, if_pos rfl, e]
    exact ⟨_, rfl, (wf.I (by decide) (by decide)).tr (wf.I (by decide) (by decide)), rfl, (fI_ne (by decide)).trans (fI_ne (by decide)), fI_s, (fI_ne (by decide)).trans fI_s⟩
  · rw [b2_t, if_neg n10, e]
    exact ⟨_, rfl, (wf.I (by decide) (by decide)).tr (wf.I (by decide) (by decide)), rfl, (fI_ne (by decide)).trans (fI_ne (by decide)), fI_s, (fI_ne (by decide)).trans fI_s⟩
theorem m_wantsB {S : PS} {h : Nat} {w : Nat} (h2 : fI S 91 h = nI w) (hw : w < 2 ^ 30) (v : Int32) : f_X5_wants S h v = some S := by
  unfold f_X5_wants f_X5_wants_B34
  rw [h2, if_neg (nm1 (by omega))]
/-- w is a fault of the text -/
def flt (o : OS) (w : Nat) : Prop := w ≤ o.2.2.2.1 ∧ ∃ q, rn o.2.2.2.2 w = some q ∧ (w = o.2.2.2.1 → q.1 ≠ 6) ∧ (w < o.2.2.2.1 → stp q (o.2.2.2.2 w) = none)
def bad (o : OS) (h : Nat) (S : PS) : Prop := ∃ w j, fI S 91 h = nI w ∧ flt o w ∧ fI S 90 h = nI j ∧ j ≤ 61
def gud (o : OS) (h : Nat) (S : PS) (k : Nat) (q : SS) : Prop := fI S 90 h = nI k ∧ fI S 91 h = -1 ∧ k ≤ o.2.2.2.1 ∧ rn o.2.2.2.2 k = some q
/-- one sign that is wanted -/
theorem m_wantc {S : PS} {h r : Nat} {o : OS} (ho : OKs o) {k : Nat} {q q' : SS} (G : gud o h S k q) {c : Nat} (hc : c ≤ 126) (e : stp q c = some q') (h6 : q.1 ≠ 6) (hn : k < o.2.2.2.1 → o.2.2.2.2 k ≠ c → stp q (o.2.2.2.2 k) = none) : ∃ S1, f_X5_wants S h (b2 (decide (ltr o k = nI c))) = some S1 ∧ wf r S S1 ∧ aI S1 = aI S ∧ fI S1 89 h = fI S 89 h ∧ ((gud o h S1 (k + 1) q' ∧ k < o.2.2.2.1 ∧ o.2.2.2.2 k = c) ∨ bad o h S1) := by
  obtain ⟨g1, g2, g3, g4⟩ := G
  have h60 := ho.2.2.2.1
  obtain ⟨S1, e1, e2, e3, e4, e5, e6⟩ := m_wants (r := r) g1 g2 (by omega) (decide (ltr o k = nI c))
  refine ⟨S1, e1, e2, e3, e4, ?_⟩
  by_cases d : ltr o k = nI c
  · rw [decide_eq_true d, if_pos rfl] at e6
    obtain ⟨d1, d2⟩ := (ltr_eq ho hc).mp d
    exact Or.inl ⟨⟨e5, e6, d1, by rw [rn_s g4, d2]; exact e⟩, d1, d2⟩
  · rw [decide_eq_false d, if_neg (by decide)] at e6
    refine Or.inr ⟨k, k + 1, e6, ⟨g3, q, g4, fun _ => h6, fun z => hn z (fun y => d ((ltr_eq ho hc).mpr ⟨z, y⟩))⟩, e5, by omega⟩
/-! numbers -/
theorem m_numberB {S : PS} {h z s b r : Nat} {o : OS} (H : MM S h z s b r o) (ho : OKs o) (B : bad o h S) (low : Int32) : ∃ v, f_X5_number S h low = some (v, S) := by
  obtain ⟨w, j, b1, ⟨b2', -⟩, b3, b4⟩ := B
  have h60 := ho.2.2.2.1
  refine ⟨ltr o j - 48, ?_⟩
  unfold f_X5_number
  rw [m_letter H ho b3 (by omega), bd_s, m_in3, bd_s, m_wantsB b1 (by omega), bd_s, m_letter H ho b3 (by omega), bd_s]
  show f_X5_number_L27s (f_X5_number_L27 f_X5_number_B89 2999) f_X5_number_B89 S h (ltr o j - 48) (ltr o j - 48) = _
  unfold f_X5_number_L27s f_X5_number_B89
  rw [b1, if_neg (nm1 (by omega))]
def isnum (p : Nat) : Prop := p = 1 ∨ p = 4 ∨ p = 6
theorem dgt_num {p n : Nat} {x : Nat × Nat} {d : Nat} (hp : isnum p) : dgt (p, n, x) d = if n < 1 ∨ 999 < n * 10 + d then none else some (p, n * 10 + d, x) := by
  unfold dgt
  rcases hp with e | e | e <;> subst e <;> rfl
theorem m_loop {h z s b r : Nat} {o : OS} (ho : OKs o) {p : Nat} (hp : isnum p) {x : Nat × Nat} : ∀ fu S k n, 61 < fu + k → k ≤ o.2.2.2.1 → MM S h z s b r o → gud o h S k (p, n, x) → ∃ S1 k' n', f_X5_number_L27 f_X5_number_B89 fu S h (nI n) (ltr o k - 48) = some (nI n', S1) ∧ wf r S S1 ∧ aI S1 = aI S ∧ fI S1 89 h = fI S 89 h ∧ k ≤ k' ∧ gud o h S1 k' (p, n', x) ∧ (∀ j, k ≤ j → j < k' → o.2.2.2.2 j ≠ 59) ∧ (k' < o.2.2.2.1 → 48 ≤ o.2.2.2.2 k' → o.2.2.2.2 k' ≤ 57 → stp (p, n', x) (o.2.2.2.2 k') = none) := by
  intro fu
  induction fu with
  | zero => intro S k n h1 h2; have := ho.2.2.2.1; omega
  | succ fu ih =>
    intro S k n h1 h2 H G
    obtain ⟨g1, g2, g3, g4⟩ := id G
    have h60 := ho.2.2.2.1
    have okq := rn_ok g4
    have hn : n ≤ 999 := okq.2.1
    rw [show f_X5_number_L27 f_X5_number_B89 (fu + 1) S h (nI n) (ltr o k - 48) = f_X5_number_L27s (f_X5_number_L27 f_X5_number_B89 fu) f_X5_number_B89 S h (nI n) (ltr o k - 48) from rfl]
    unfold f_X5_number_L27s
    rw [g2, if_pos rfl]
    have stop : (k < o.2.2.2.1 → 48 ≤ o.2.2.2.2 k → o.2.2.2.2 k ≤ 57 → stp (p, n, x) (o.2.2.2.2 k) = none) → ∃ S1 k' n', f_X5_number_B89 S (nI n) = some (nI n', S1) ∧ wf r S S1 ∧ aI S1 = aI S ∧ fI S1 89 h = fI S 89 h ∧ k ≤ k' ∧ gud o h S1 k' (p, n', x) ∧ (∀ j, k ≤ j → j < k' → o.2.2.2.2 j ≠ 59) ∧ (k' < o.2.2.2.1 → 48 ≤ o.2.2.2.2 k' → o.2.2.2.2 k' ≤ 57 → stp (p, n', x) (o.2.2.2.2 k') = none) := fun hs => ⟨S, k, n, rfl, wf.rf, rfl, rfl, Nat.le_refl _, G, fun j q1 q2 => by omega, hs⟩
    have dg : ∀ c, 48 ≤ c → c ≤ 57 → stp (p, n, x) c = if n < 1 ∨ 999 < n * 10 + (c - 48) then none else some (p, n * 10 + (c - 48), x) := fun c c1 c2 => by
      unfold stp
      rw [if_pos ⟨c1, c2⟩, dgt_num hp]
    by_cases q0 : n = 0
    · rw [if_pos ((nI_p0 (by omega)).mpr q0)]
      exact stop (fun _ c1 c2 => by rw [dg _ c1 c2, if_pos (Or.inl (by omega))])
    · rw [if_neg (fun y => q0 ((nI_p0 (by omega)).mp y)), m_in3, bd_s]
      show ∃ S1 k' n', (if b2 (inI (ltr o k - 48) (nI 0) 9) = 0 then _ else _) = some (nI n', S1) ∧ _
      cases hi : inI (ltr o k - 48) (nI 0) 9
      · rw [b2_f, if_pos rfl]
        exact stop (fun c0 c1 c2 => by
          have := (in_ltr ho (j := k) (low := 0) (by decide)).mpr ⟨c0, by omega, c2⟩
          rw [hi] at this; cases this)
      · obtain ⟨c0, c1, c2⟩ := (in_ltr ho (j := k) (low := 0) (by decide)).mp hi
        have el : ltr o k - (48 : Int32) = nI (o.2.2.2.2 k - 48) := by
          unfold ltr
          rw [if_pos c0]
          exact pk_sub (b := 48) (by omega)
        have e10 : (10 : Int32) * nI n + nI (o.2.2.2.2 k - 48) = nI (n * 10 + (o.2.2.2.2 k - 48)) := by
          rw [show (10 : Int32) = nI 10 from rfl, pk_mul, nI_add, Nat.mul_comm]
        rw [b2_t, if_neg n10, el, e10]
        by_cases q9 : 999 < n * 10 + (o.2.2.2.2 k - 48)
        · rw [if_pos (show (999 : Int32) < nI (n * 10 + (o.2.2.2.2 k - 48)) from nI_lt (a := 999) q9 (by omega))]
          exact stop (fun _ c3 c4 => by rw [dg _ c3 c4, if_pos (Or.inr q9)])
        · rw [if_neg (show ¬ (999 : Int32) < nI (n * 10 + (o.2.2.2.2 k - 48)) from nlt (a := 999) (by omega) (by decide)), g1, nI_1]
          have H1 : MM (sI S 90 h (nI (k + 1))) h z s b r o := H.w (wf.I (by decide) (by decide))
          have G1 : gud o h (sI S 90 h (nI (k + 1))) (k + 1) (p, n * 10 + (o.2.2.2.2 k - 48), x) := ⟨fI_s, (fI_ne (by decide)).trans g2, c0, by
            rw [rn_s g4, dg _ (by omega) c2, if_neg (fun y => by omega)]⟩
          rw [m_letter H1 ho fI_s (by omega), bd_s]
          obtain ⟨S1, k', n', i1, i2, i3, i4, i5, i6, i7, i8⟩ := ih _ (k + 1) _ (by omega) c0 H1 G1
          refine ⟨S1, k', n', i1, (wf.I (by decide) (by decide)).tr i2, i3, i4.trans (fI_ne (by decide)), by omega, i6, fun j q1 q2 => ?_, i8⟩
          by_cases y : j = k
          · rw [y]; omega
          · exact i7 j (by omega) q2
/-- a number wanted in the place q -/
theorem m_number {S : PS} {h z s b r : Nat} {o : OS} (H : MM S h z s b r o) (ho : OKs o) {k low p : Nat} {q : SS} (G : gud o h S k q) (hq : (q.1 = 0 ∧ low = 1 ∧ p = 1) ∨ (q.1 = 3 ∧ low = 0 ∧ p = 4) ∨ (q.1 = 5 ∧ low = 1 ∧ p = 6)) (hx : q.1 = 0 → k < o.2.2.2.1 → o.2.2.2.2 k ≠ 120) : ∃ S1 v, f_X5_number S h (nI low) = some (v, S1) ∧ wf r S S1 ∧ aI S1 = aI S ∧ fI S1 89 h = fI S 89 h ∧ ((∃ k' n', v = nI n' ∧ k < k' ∧ gud o h S1 k' (p, n', q.2.2) ∧ (∀ j, k ≤ j → j < k' → o.2.2.2.2 j ≠ 59) ∧ (k' < o.2.2.2.1 → 48 ≤ o.2.2.2.2 k' → o.2.2.2.2 k' ≤ 57 → stp (p, n', q.2.2) (o.2.2.2.2 k') = none)) ∨ bad o h S1) := by
  obtain ⟨g1, g2, g3, g4⟩ := id G
  have h60 := ho.2.2.2.1
  have hl : low ≤ 1 := by omega
  have hp : isnum p := by unfold isnum; omega
  obtain ⟨S1, e1, e2, e3, e4, e5, e6⟩ := m_wants (r := r) g1 g2 (by omega) (inI (ltr o k - 48) (nI low) 9)
  have H1 := H.w e2
  unfold f_X5_number
  rw [m_letter H ho g1 (by omega), bd_s, m_in3, bd_s]
  show ∃ S2 v, (bd (f_X5_wants S h (b2 (inI (ltr o k - 48) (nI low) 9))) fun t17 => bd (f_X5_letter t17 h) fun t19 => f_X5_number_L27 f_X5_number_B89 FU t17 h (ltr o k - 48) (t19 - 48)) = some (v, S2) ∧ _
  rw [e1, bd_s, m_letter H1 ho e5 (by omega), bd_s]
  cases hi : inI (ltr o k - 48) (nI low) 9
  · rw [hi, if_neg (by decide)] at e6
    have fk : flt o k := ⟨g3, q, g4, fun _ => by omega, fun z => by
      unfold stp
      by_cases y : 48 ≤ o.2.2.2.2 k ∧ o.2.2.2.2 k ≤ 57
      · rw [if_pos y]
        have ny : ¬ 48 + low ≤ o.2.2.2.2 k := fun y2 => by
          have := (in_ltr ho (j := k) (low := low) (by omega)).mpr ⟨z, y2, y.2⟩
          rw [hi] at this; cases this
        unfold dgt
        rcases hq with ⟨a, b', c⟩ | ⟨a, b', c⟩ | ⟨a, b', c⟩
        · rw [if_pos a, if_neg (by omega)]
        · omega
        · rw [if_neg (by omega), if_neg (by omega), if_pos a, if_neg (by omega)]
      · rw [if_neg y]
        unfold sgnS
        rw [if_neg (fun y2 => by
          rcases y2.2 with y3 | y3
          · exact hx y3 z y2.1
          · omega), if_neg (fun y2 => by omega), if_neg (fun y2 => by omega), if_neg (fun y2 => by omega)]⟩
    refine ⟨S1, ltr o k - 48, ?_, e2, e3, e4, Or.inr ⟨k, k + 1, e6, fk, e5, by omega⟩⟩
    show f_X5_number_L27s (f_X5_number_L27 f_X5_number_B89 2999) f_X5_number_B89 S1 h (ltr o k - 48) (ltr o (k + 1) - 48) = _
    unfold f_X5_number_L27s f_X5_number_B89
    rw [e6, if_neg (nm1 (by omega))]
  · rw [hi, if_pos rfl] at e6
    obtain ⟨c0, c1, c2⟩ := (in_ltr ho (j := k) (low := low) (by omega)).mp hi
    have el : ltr o k - (48 : Int32) = nI (o.2.2.2.2 k - 48) := by
      unfold ltr
      rw [if_pos c0]
      exact pk_sub (b := 48) (by omega)
    have G1 : gud o h S1 (k + 1) (p, o.2.2.2.2 k - 48, q.2.2) := ⟨e5, e6, c0, by
      rw [rn_s g4]
      unfold stp
      rw [if_pos ⟨by omega, c2⟩]
      unfold dgt
      rcases hq with ⟨a, b', c⟩ | ⟨a, b', c⟩ | ⟨a, b', c⟩
      · rw [if_pos a, if_pos (by omega), c]
      · rw [if_neg (by omega), if_pos a, c]
      · rw [if_neg (by omega), if_neg (by omega), if_pos a, if_pos (by omega), c]⟩
    rw [el]
    obtain ⟨S2, k', n', i1, i2, i3, i4, i5, i6, i7, i8⟩ := m_loop ho hp FU S1 (k + 1) _ (by unfold FU; omega) c0 H1 G1
    refine ⟨S2, nI n', i1, e2.tr i2, i3.trans e3, i4.trans e4, Or.inl ⟨k', n', rfl, by omega, i6, fun j q1 q2 => ?_, i8⟩⟩
    by_cases y : j = k
    · rw [y]; omega
    · exact i7 j (by omega) q2

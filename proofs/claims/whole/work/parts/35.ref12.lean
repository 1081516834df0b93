/-! ===== the reference: append, clearBuffer, undo; looks ===== -/
def MG {β : Type} (S : PS) (h z s b r : Nat) (e : Option (β × PS)) (w : Nat × β × OS) : Prop := ∃ S1 v, e = some (v, S1) ∧ mfr h z s b r S S1 ∧ fI S1 80 h = nI w.1 ∧ (w.1 = 0 → v = w.2.1) ∧ MM S1 h z s b r w.2.2
theorem MG.no {β : Type} {S S1 : PS} {h z s b r : Nat} {o : OS} {n : Nat} {x v : β} (H : MM S1 h z s b r o) (c : mfr h z s b r S S1) (hn : n ≠ 0) : MG S h z s b r (some (v, sI S1 80 h (nI n))) (n, x, o) := ⟨sI S1 80 h (nI n), v, rfl, c.tr mfr.I, fI_s, fun z => absurd z hn, H.t⟩
theorem MG.yes {β : Type} {S S1 : PS} {h z s b r : Nat} {o : OS} {v : β} (H : MM S h z s b r o) (cs : scr (sI S 80 h 0) S1) : MG S h z s b r (some (v, S1)) (0, v, o) := ⟨S1, v, rfl, (mfr.I).tr cs.m, by rw [cs.2.2.1]; exact fI_s, fun _ => rfl, H.t.scr cs⟩
def inI (v l h : Int32) : Bool := decide (l ≤ v) && decide (v ≤ h)
def numI (y : Int64) : Bool := decide (0 ≤ y) && decide (y ≤ 1000000000000000)
theorem numI_ex {y : Int64} (h : numI y = true) : ∃ n, n ≤ LIM ∧ y = lN n := by
  unfold numI at h
  rw [Bool.and_eq_true, decide_eq_true_iff, decide_eq_true_iff] at h
  obtain ⟨k, hk, e⟩ := pk_lOf (x := y) (Int64.not_lt.mpr h.1)
  subst e
  refine ⟨k, ?_, rfl⟩
  have h2 := h.2
  rw [limL, pk_lLE hk (by decide)] at h2
  exact h2
theorem m_isNumber (y : Int64) : f_X5_isNumber y = some (b2 (numI y)) := by
  unfold f_X5_isNumber f_X5_isNumber_B18 f_X5_isNumber_B19 numI
  by_cases a : y < 0
  · rw [if_pos a, decide_eq_false (Int64.not_le.mpr a)]; exact ckb0
  · rw [if_neg a, decide_eq_true (Int64.not_lt.mp a)]
    by_cases b : 1000000000000000 < y
    · rw [if_pos b, decide_eq_false (Int64.not_le.mpr b)]; exact ckb0
    · rw [if_neg b, decide_eq_true (Int64.not_lt.mp b)]; exact ckb1
/-! the buffer -/
def o_append (o : OS) (c : Int32) : Nat × Int32 × OS := if inI c 33 126 = true then (if o.2.2.2.1 = 60 then (2, 0, o) else (0, nI (o.2.2.2.1 + 1), (o.1, o.2.1, o.2.2.1, o.2.2.2.1 + 1, fun j => if j = o.2.2.2.1 then tn c else o.2.2.2.2 j))) else (1, 0, o)
theorem inI_ex {c : Int32} {lo hi : Nat} (hh : hi < 2 ^ 31) (hl : lo ≤ hi) (h : inI c (nI lo) (nI hi) = true) : ∃ n, c = nI n ∧ tn c = n ∧ lo ≤ n ∧ n ≤ hi := by
  obtain ⟨n, e, a, b⟩ := rg_ex hh hl h
  exact ⟨n, e, by rw [e]; exact tn_n (by omega), a, b⟩
theorem o_append_ok {o : OS} (ho : OKs o) (c : Int32) : OKs (o_append o c).2.2 := by
  unfold o_append
  split
  · rename_i q
    obtain ⟨n, e, e2, a, b⟩ := inI_ex (lo := 33) (hi := 126) (by decide) (by decide) q
    split
    · exact ho
    · rename_i t
      obtain ⟨k1, k2, k3, k4, k5⟩ := ho
      refine ⟨k1, k2, k3, by show o.2.2.2.1 + 1 ≤ 60; omega, fun j hj => ?_⟩
      have hj : j < o.2.2.2.1 + 1 := hj
      show 33 ≤ (if j = o.2.2.2.1 then tn c else o.2.2.2.2 j) ∧ (if j = o.2.2.2.1 then tn c else o.2.2.2.2 j) ≤ 126
      by_cases r : j = o.2.2.2.1
      · rw [if_pos r, e2]; exact ⟨a, b⟩
      · rw [if_neg r]; exact k5 j (by omega)
  · exact ho
theorem m_append {S : PS} {h z s b r : Nat} {o : OS} (H : MM S h z s b r o) (ho : OKs o) (c : Int32) : MO S h z s b r (f_X5_append S h c) (o_append o c) := by
  have h60 := ho.2.2.2.1
  have ht := H.2.2.2.2.1
  unfold f_X5_append f_X5_append_B30 o_append
  rw [m_in3, bd_s]
  show MO S h z s b r (if b2 (inI c 33 126) = 0 then _ else _) _
  cases hc : inI c 33 126
  · rw [b2_f, if_pos rfl, if_neg (by rw [fI_s]; decide), if_neg (by decide)]
    exact MO.no (n := 1) H mfr.rf (by decide)
  · obtain ⟨n, e, e2, a, bb⟩ := inI_ex (lo := 33) (hi := 126) (by decide) (by decide) hc
    rw [b2_t, if_neg n10, ht, if_pos rfl]
    by_cases q : o.2.2.2.1 = 60
    · rw [if_pos (show nI o.2.2.2.1 = 60 by rw [q]; rfl), if_pos q, if_neg (by rw [fI_s]; decide)]
      exact MO.no (n := 2) H mfr.rf (by decide)
    · have R : MR (sI S 80 h 0) h z s b r := H.1.fr mfr.I
      have e85 : fI (sI S 80 h 0) 85 h = nI o.2.2.2.1 := (fI_ne (by decide)).trans ht
      rw [if_neg (show ¬ nI o.2.2.2.1 = 60 from fun z => q ((nI_eq (b := 60) (by omega) (by decide)).mp z)), if_neg q, if_pos (by rw [fI_s]; exact Int32.le_refl _), rb R, e85, ck_t (jbf R (by omega)), sW_A, nI_clamp (by omega), show fI (sW (sI S 80 h 0) b (upd (aI (sI S 80 h 0) b) o.2.2.2.1 c)) 85 h = nI o.2.2.2.1 from e85, nI_1]
      have mb : mfr h z s b r (sI S 80 h 0) (sW (sI S 80 h 0) b (upd (aI (sI S 80 h 0) b) o.2.2.2.1 c)) := mfr.W (Or.inr (Or.inr (Or.inl rfl)))
      refine ⟨_, _, rfl, ((mfr.I).tr mb).tr mfr.I, ?_, fun _ => fI_s, R.fr (mb.tr mfr.I), ?_, ?_, ?_, fI_s, ?_⟩
      · rw [fI_ne (by decide)]
        show fI (sI S 80 h 0) 80 h = nI 0
        exact fI_s
      · show SQ (aI (sW (sI S 80 h 0) b _) z) o.1
        rw [aI_Wn H.1.zb]; exact H.2.1
      · rw [fI_ne (by decide)]
        show fI (sI S 80 h 0) 83 h = _
        rw [fI_ne (by decide)]
        exact H.2.2.1
      · show ∀ q, q < o.2.1 → SQ (fun j => aI (sW (sI S 80 h 0) b _) s (45 * q + j)) (o.2.2.1 q)
        rw [aI_Wn H.1.sb]; exact H.2.2.2.1
      · intro j hj
        have hj : j < o.2.2.2.1 + 1 := hj
        show aI (sW (sI S 80 h 0) b (upd (aI S b) o.2.2.2.1 c)) b j = nI (if j = o.2.2.2.1 then tn c else o.2.2.2.2 j)
        rw [aI_W]
        by_cases w : j = o.2.2.2.1
        · rw [if_pos w, w, pk_us, e2, e]
        · rw [if_neg w, pk_un w]; exact H.2.2.2.2.2 j (by omega)
def o_clear (o : OS) : Nat × Int32 × OS := (0, nI o.2.2.2.1, (o.1, o.2.1, o.2.2.1, 0, o.2.2.2.2))
theorem o_clear_ok {o : OS} (ho : OKs o) : OKs (o_clear o).2.2 := ⟨ho.1, ho.2.1, ho.2.2.1, Nat.zero_le _, fun j hj => absurd hj (Nat.not_lt_zero j)⟩
theorem MM.cl {S : PS} {h z s b r : Nat} {o : OS} (H : MM S h z s b r o) : MM (sI S 85 h 0) h z s b r (o.1, o.2.1, o.2.2.1, 0, o.2.2.2.2) := ⟨H.1.fr mfr.I, H.2.1, (fI_ne (by decide)).trans H.2.2.1, H.2.2.2.1, fI_s, fun j hj => absurd hj (Nat.not_lt_zero j)⟩
theorem m_clear {S : PS} {h z s b r : Nat} {o : OS} (H : MM S h z s b r o) : MO S h z s b r (f_X5_clearBuffer S h) (o_clear o) := by
  unfold f_X5_clearBuffer
  exact ⟨_, _, rfl, (mfr.I).tr mfr.I, (fI_ne (show (80 : Nat) ≠ 85 by decide)).trans fI_s, fun _ => (fI_ne (by decide)).trans H.2.2.2.2.1, H.t.cl⟩
/-! undo -/
def o_undo (o : OS) : Nat × Int32 × OS := if o.2.1 = 0 then (1, 0, o) else (0, nI (o.2.1 - 1), (o.2.2.1 (o.2.1 - 1), o.2.1 - 1, o.2.2.1, o.2.2.2.1, o.2.2.2.2))
theorem o_undo_ok {o : OS} (ho : OKs o) : OKs (o_undo o).2.2 := by
  unfold o_undo
  split
  · exact ho
  · obtain ⟨k1, k2, k3, k4, k5⟩ := ho
    exact ⟨k3 _ (by omega), by show o.2.1 - 1 ≤ 6; omega, fun q hq => k3 q (by have hq : q < o.2.1 - 1 := hq; omega), k4, k5⟩
theorem m_undo {S : PS} {h z s b r : Nat} {o : OS} (H : MM S h z s b r o) (ho : OKs o) : MO S h z s b r (f_X5_undo S h) (o_undo o) := by
  have h6 := ho.2.1
  unfold f_X5_undo f_X5_undo_B13 o_undo
  rw [H.2.2.1]
  by_cases q : o.2.1 = 0
  · rw [if_pos (show nI o.2.1 = 0 by rw [q]; rfl), if_pos q, if_neg (by rw [fI_s]; decide)]
    exact MO.no (n := 1) H mfr.rf (by decide)
  · have e83 : fI (sI S 80 h 0) 83 h = nI o.2.1 := (fI_ne (by decide)).trans H.2.2.1
    rw [if_neg (fun z => q ((nI_n0 (by omega)).mp z)), if_neg q, if_pos (by rw [fI_s]; exact Int32.le_refl _), e83, show nI o.2.1 - (1 : Int32) = nI (o.2.1 - 1) from pk_sub (b := 1) (by omega)]
    generalize hk : o.2.1 - 1 = k
    have R : MR (sI (sI S 80 h 0) 83 h (nI k)) h z s b r := H.1.fr ((mfr.I).tr mfr.I)
    have body := lp_from (L := fun n d => f_X5_undo_L37 f_X5_undo_B69 n (sW (sI (sI S 80 h 0) 83 h (nI k)) z (cp (aI S z) (fun j => aI S s (45 * k + j)) 0 d)) h (nI d)) (lo := 0) (e := 45) (r := some (nI k, sW (sI (sI S 80 h 0) 83 h (nI k)) z (cp (aI S z) (fun j => aI S s (45 * k + j)) 0 45))) (fun n => by
      show f_X5_undo_L37s (f_X5_undo_L37 f_X5_undo_B69 n) f_X5_undo_B69 (sW (sI (sI S 80 h 0) 83 h (nI k)) z (cp (aI S z) (fun j => aI S s (45 * k + j)) 0 45)) h (nI 45) = _
      unfold f_X5_undo_L37s f_X5_undo_B69
      rw [if_pos (show (45 : Int32) ≤ nI 45 from Int32.le_refl _)]
      congr 2
      exact fI_s) (fun n d hl hd => by
      show f_X5_undo_L37s (f_X5_undo_L37 f_X5_undo_B69 n) f_X5_undo_B69 (sW (sI (sI S 80 h 0) 83 h (nI k)) z (cp (aI S z) (fun j => aI S s (45 * k + j)) 0 d)) h (nI d) = f_X5_undo_L37 f_X5_undo_B69 n (sW (sI (sI S 80 h 0) 83 h (nI k)) z (cp (aI S z) (fun j => aI S s (45 * k + j)) 0 (d + 1))) h (nI (d + 1))
      have R1 := R.fr (mfr.z (v := cp (aI S z) (fun j => aI S s (45 * k + j)) 0 d))
      unfold f_X5_undo_L37s
      rw [if_neg (show ¬ (45 : Int32) ≤ nI d from nle (a := 45) hd (by decide)), rz R1, rs R1, show fI (sW (sI (sI S 80 h 0) 83 h (nI k)) z (cp (aI S z) (fun j => aI S s (45 * k + j)) 0 d)) 83 h = nI k from fI_s, show nI k * (45 : Int32) = nI (45 * k) by rw [Nat.mul_comm]; exact pk_mul k 45, nI_add, ck_t (jsv R1 (by omega)), ck_t (jz R1 hd), aI_Wn H.1.zs.symm, sA_W, nI_clamp (by omega), nI_clamp (by omega), nI_1]
      have e := cp_up (r := aI S z) (z := fun j => aI S s (45 * k + j)) (lo := 0) (k := d)
      rw [Nat.zero_add] at e
      rw [← e]
      rfl) FU 0 (by omega) (by omega) (by unfold FU; omega)
    rw [cp_0] at body
    have e0 : sW (sI (sI S 80 h 0) 83 h (nI k)) z (aI S z) = sI (sI S 80 h 0) 83 h (nI k) := sW_s (S := sI (sI S 80 h 0) 83 h (nI k))
    rw [e0] at body
    refine Eq.mpr (congrArg (fun e => MO S h z s b r e _) body) ?_
    refine ⟨_, _, rfl, ((mfr.I).tr mfr.I).tr mfr.z, ?_, fun _ => rfl, R.fr mfr.z, ?_, ?_, ?_, ?_, ?_⟩
    · show fI (sI (sI S 80 h 0) 83 h (nI k)) 80 h = nI 0
      rw [fI_ne (by decide)]
      exact fI_s
    · show SQ (aI (sW (sI (sI S 80 h 0) 83 h (nI k)) z _) z) (o.2.2.1 k)
      rw [aI_W]
      have K := (ho.2.2.1 k (by omega)).1
      refine (H.2.2.2.1 k (by omega)).cg (fun j hj => ?_)
      unfold cp
      rw [if_pos (by omega), Nat.sub_zero]
    · show fI (sI (sI S 80 h 0) 83 h (nI k)) 83 h = nI k
      exact fI_s
    · show ∀ q, q < k → SQ (fun j => aI (sW (sI (sI S 80 h 0) 83 h (nI k)) z _) s (45 * q + j)) (o.2.2.1 q)
      rw [aI_Wn H.1.zs.symm]
      exact fun q hq => H.2.2.2.1 q (by omega)
    · show fI (sI (sI S 80 h 0) 83 h (nI k)) 85 h = _
      rw [fI_ne (by decide), fI_ne (by decide)]
      exact H.2.2.2.2.1
    · show ∀ j, j < o.2.2.2.1 → aI (sW (sI (sI S 80 h 0) 83 h (nI k)) z _) b j = nI (o.2.2.2.2 j)
      rw [aI_Wn H.1.zb.symm]; exact H.2.2.2.2.2
/-! looks -/
def q_condition (o : OS) (c w : Int32) : Nat × Int32 × OS := if thI c o.1.1 = true then (if inI w 0 8 = true then (0, tlw o.1.2 o.1.1 (tn c) (tn w), o) else (2, 0, o)) else (1, 0, o)
theorem m_condition {S : PS} {h z s b r : Nat} {o : OS} (H : MM S h z s b r o) (ho : OKs o) (c w : Int32) : MG S h z s b r (f_X5_condition S h c w) (q_condition o c w) := by
  have h10 := ho.1.1
  have hv := H.mv ho
  unfold f_X5_condition f_X5_condition_B28 f_X5_condition_B48 q_condition
  rw [m_there hv, bd_s]
  show MG S h z s b r (if b2 (thI c o.1.1) = 0 then _ else _) _
  cases ht : thI c o.1.1
  · rw [b2_f, if_pos rfl, if_neg (by rw [fI_s]; decide), if_neg (by decide)]
    exact MG.no (n := 1) H mfr.rf (by decide)
  · obtain ⟨j, hj, e1, e2⟩ := thI_ex h10 ht
    rw [b2_t, if_neg n10, if_pos rfl, e2, e1, m_in3, bd_s]
    show MG S h z s b r (if b2 (inI w 0 8) = 0 then _ else _) _
    cases hw : inI w 0 8
    · rw [b2_f, if_pos rfl, if_neg (by rw [fI_s]; decide), if_neg (by decide)]
      exact MG.no (n := 2) H mfr.rf (by decide)
    · obtain ⟨n, e3, e4, a, bb⟩ := inI_ex (lo := 0) (hi := 8) (by decide) (by decide) hw
      obtain ⟨S1, e, cs⟩ := m_told (hv.sr (sr.I (i := 80) (a := h) (v := 0))) h10 ho.1.2.2 hj n bb
      rw [b2_t, if_neg n10, if_pos rfl, if_pos (by rw [fI_s]; exact Int32.le_refl _), e4, e3, e, bd_s]
      exact MG.yes H cs
def q_agrees (o : OS) (c d : Int32) : Nat × Int32 × OS := if (thI c o.1.1 && thI d o.1.1) = true then (0, b2 (ag (o.1.2 (tn c)) (o.1.2 (tn d))), o) else (1, 0, o)
theorem m_agrees {S : PS} {h z s b r : Nat} {o : OS} (H : MM S h z s b r o) (ho : OKs o) (c d : Int32) : MG S h z s b r (f_X5_agrees S h c d) (q_agrees o c d) := by
  have h10 := ho.1.1
  have hv := H.mv ho
  unfold f_X5_agrees f_X5_agrees_B21 f_X5_agrees_B22 f_X5_agrees_B50 q_agrees
  rw [m_there hv, m_there hv, bd_s, bd_s]
  show MG S h z s b r (if b2 (thI c o.1.1) = 0 then _ else if b2 (thI d o.1.1) = 0 then _ else _) _
  cases ht : thI c o.1.1
  · rw [b2_f, if_pos rfl, if_neg (by rw [fI_s]; decide), if_neg (by simp)]
    exact MG.no (n := 1) H mfr.rf (by decide)
  · obtain ⟨j, hj, e1, e2⟩ := thI_ex h10 ht
    rw [b2_t, if_neg n10]
    cases ht2 : thI d o.1.1
    · rw [b2_f, if_pos rfl, if_neg (by rw [fI_s]; decide), if_neg (by simp)]
      exact MG.no (n := 1) H mfr.rf (by decide)
    · obtain ⟨j2, hj2, e3, e4⟩ := thI_ex h10 ht2
      rw [b2_t, if_neg n10, if_pos (show (true && true) = true from rfl), if_pos (by rw [fI_s]; exact Int32.le_refl _), e2, e4, e1, e3, m_go (hv.sr sr.I) hj hj2, bd_s]
      cases ag (o.1.2 j) (o.1.2 j2)
      · rw [b2_f, if_pos rfl]; exact MG.yes H scr.rf
      · rw [b2_t, if_neg n10]; exact MG.yes H scr.rf
def q_joined (o : OS) (w : Int32) : Nat × Int64 × OS := if inI w 0 1 = true then (0, jb (onm o.1.2 o.1.1) o.1.2 w, o) else (1, 0, o)
theorem m_joined {S : PS} {h z s b r : Nat} {o : OS} (H : MM S h z s b r o) (ho : OKs o) (w : Int32) : MG S h z s b r (f_X5_joined S h w) (q_joined o w) := by
  have h10 := ho.1.1
  have hv : MV (sI S 80 h 0) h z o.1.1 o.1.1 o.1.2 := (H.mv ho).sr sr.I
  unfold f_X5_joined f_X5_joined_B15 f_X5_joined_B38 q_joined
  rw [m_in3, bd_s]
  show MG S h z s b r (if b2 (inI w 0 1) = 0 then _ else _) _
  cases hw : inI w 0 1
  · rw [b2_f, if_pos rfl, if_neg (by rw [fI_s]; decide), if_neg (by decide)]
    exact MG.no (n := 1) H mfr.rf (by decide)
  · obtain ⟨S1, e, cs⟩ := m_joinedBy hv (onm_lt _ _) (onm_k (by omega)) h10 (tg_N ho.1.2.2) w
    rw [b2_t, if_neg n10, if_pos rfl, if_pos (by rw [fI_s]; exact Int32.le_refl _), m_onSet hv, bd_s, e, bd_s]
    exact MG.yes H cs
def q_count (o : OS) (w : Int32) : Nat × Int32 × OS := if inI w 0 6 = true then (0, cow o.1.2 o.1.1 o.2.1 (tn w), o) else (1, 0, o)
theorem m_count {S : PS} {h z s b r : Nat} {o : OS} (H : MM S h z s b r o) (ho : OKs o) (w : Int32) : MG S h z s b r (f_X5_count S h w) (q_count o w) := by
  have h10 := ho.1.1
  have hv : MV (sI S 80 h 0) h z o.1.1 o.1.1 o.1.2 := (H.mv ho).sr sr.I
  unfold f_X5_count f_X5_count_B16 f_X5_count_B35 q_count
  rw [m_in3, bd_s]
  show MG S h z s b r (if b2 (inI w 0 6) = 0 then _ else _) _
  cases hw : inI w 0 6
  · rw [b2_f, if_pos rfl, if_neg (by rw [fI_s]; decide), if_neg (by decide)]
    exact MG.no (n := 1) H mfr.rf (by decide)
  · obtain ⟨n, e3, e4, a, bb⟩ := inI_ex (lo := 0) (hi := 6) (by decide) (by decide) hw
    obtain ⟨S1, e, cs⟩ := m_counted hv h10 ho.1.2.2 (sv := o.2.1) ((fI_ne (by decide)).trans H.2.2.1) n bb
    rw [b2_t, if_neg n10, if_pos rfl, if_pos (by rw [fI_s]; exact Int32.le_refl _), e4, e3, e, bd_s]
    exact MG.yes H cs
theorem prI_ex {p : Int32} (h : prI p = true) : ∃ n, p = nI n ∧ tn p = n ∧ 2 ≤ n ∧ n ≤ 31 := by
  unfold prI at h
  rw [Bool.and_eq_true] at h
  exact inI_ex (lo := 2) (hi := 31) (by decide) (by decide) h.1
def q_prime (o : OS) (p w : Int32) : Nat × Int32 × OS := if (prI p && inI w 0 3) = true then (0, tp o.1.2 o.1.1 (tn p) w, o) else (1, 0, o)
theorem m_prime {S : PS} {h z s b r : Nat} {o : OS} (H : MM S h z s b r o) (ho : OKs o) (p w : Int32) : MG S h z s b r (f_X5_prime S h p w) (q_prime o p w) := by
  have hv : MV (sI S 80 h 0) h z o.1.1 o.1.1 o.1.2 := (H.mv ho).sr sr.I
  unfold f_X5_prime f_X5_prime_B21 f_X5_prime_B22 f_X5_prime_B42 q_prime
  rw [m_isPrime, m_in3, bd_s, bd_s]
  show MG S h z s b r (if b2 (prI p) = 0 then _ else if b2 (inI w 0 3) = 0 then _ else _) _
  cases ht : prI p
  · rw [b2_f, if_pos rfl, if_neg (by rw [fI_s]; decide), if_neg (by simp)]
    exact MG.no (n := 1) H mfr.rf (by decide)
  · obtain ⟨n, e1, e2, a, bb⟩ := prI_ex ht
    rw [b2_t, if_neg n10]
    cases inI w 0 3
    · rw [b2_f, if_pos rfl, if_neg (by rw [fI_s]; decide), if_neg (by simp)]
      exact MG.no (n := 1) H mfr.rf (by decide)
    · rw [b2_t, if_neg n10, if_pos (show (true && true) = true from rfl), if_pos (by rw [fI_s]; exact Int32.le_refl _), e2, e1, m_toldPrime hv a bb w, bd_s]
      exact MG.yes H scr.rf
def q_answer (o : OS) (y : Int64) (i : Int32) : Nat × Int64 × OS := if (numI y && inI i 0 99) = true then (0, aw o.1.2 o.1.1 y.toNatClampNeg (tn i), o) else (1, 0, o)
theorem lN_clamp {n : Nat} (h : n < 2 ^ 63) : (lN n).toNatClampNeg = n := by
  show (lN n).toInt.toNat = n
  rw [pk_lT h]
  exact Int.toNat_natCast n
theorem m_answer {S : PS} {h z s b r : Nat} {o : OS} (H : MM S h z s b r o) (ho : OKs o) (y : Int64) (i : Int32) : MG S h z s b r (f_X5_answer S h y i) (q_answer o y i) := by
  have hv : MV (sI S 80 h 0) h z o.1.1 o.1.1 o.1.2 := (H.mv ho).sr sr.I
  unfold f_X5_answer f_X5_answer_B22 f_X5_answer_B23 f_X5_answer_B43 q_answer
  rw [m_isNumber, m_in3, bd_s, bd_s]
  show MG S h z s b r (if b2 (numI y) = 0 then _ else if b2 (inI i 0 99) = 0 then _ else _) _
  cases ht : numI y
  · rw [b2_f, if_pos rfl, if_neg (by rw [fI_s]; decide), if_neg (by simp)]
    exact MG.no (n := 1) H mfr.rf (by decide)
  · obtain ⟨n, hn, e1⟩ := numI_ex ht
    rw [b2_t, if_neg n10]
    cases hi : inI i 0 99
    · rw [b2_f, if_pos rfl, if_neg (by rw [fI_s]; decide), if_neg (by simp)]
      exact MG.no (n := 1) H mfr.rf (by decide)
    · obtain ⟨j, e3, e4, a, bb⟩ := inI_ex (lo := 0) (hi := 99) (by decide) (by decide) hi
      obtain ⟨S1, e, cs⟩ := m_answered hv ho.1.1 ho.1.2.2 hn (show j < 2 ^ 31 by omega)
      rw [b2_t, if_neg n10, if_pos (show (true && true) = true from rfl), if_pos (by rw [fI_s]; exact Int32.le_refl _), e4, e3, e1, e, bd_s, lN_clamp (by unfold LIM at hn; omega)]
      exact MG.yes H cs
def q_nearest (o : OS) (y : Int64) : Nat × Int64 × OS := if numI y = true then (0, nw o.1.2 o.1.1 y.toNatClampNeg, o) else (1, 0, o)
theorem m_nearest' {S : PS} {h z s b r : Nat} {o : OS} (H : MM S h z s b r o) (ho : OKs o) (y : Int64) : MG S h z s b r (f_X5_nearest S h y) (q_nearest o y) := by
  have hv : MV (sI S 80 h 0) h z o.1.1 o.1.1 o.1.2 := (H.mv ho).sr sr.I
  unfold f_X5_nearest f_X5_nearest_B13 f_X5_nearest_B32 q_nearest
  rw [m_isNumber, bd_s]
  cases ht : numI y
  · rw [b2_f, if_pos rfl, if_neg (by rw [fI_s]; decide), if_neg (by decide)]
    exact MG.no (n := 1) H mfr.rf (by decide)
  · obtain ⟨n, hn, e1⟩ := numI_ex ht
    obtain ⟨S1, e, cs⟩ := m_nearest hv ho.1.1 ho.1.2.2 hn
    rw [b2_t, if_neg n10, if_pos rfl, if_pos (by rw [fI_s]; exact Int32.le_refl _), e1, e, bd_s, lN_clamp (by unfold LIM at hn; omega)]
    exact MG.yes H cs
def q_between (o : OS) (y w : Int64) : Nat × Int64 × OS := if (numI y && numI w) = true then (0, lN (bw o.1.2 o.1.1 y.toNatClampNeg w.toNatClampNeg), o) else (1, 0, o)
theorem m_between' {S : PS} {h z s b r : Nat} {o : OS} (H : MM S h z s b r o) (ho : OKs o) (y w : Int64) : MG S h z s b r (f_X5_between S h y w) (q_between o y w) := by
  have hv : MV (sI S 80 h 0) h z o.1.1 o.1.1 o.1.2 := (H.mv ho).sr sr.I
  unfold f_X5_between f_X5_between_B19 f_X5_between_B20 f_X5_between_B40 q_between
  rw [m_isNumber, m_isNumber, bd_s, bd_s]
  cases ht : numI y
  · rw [b2_f, if_pos rfl, if_neg (by rw [fI_s]; decide), if_neg (by simp)]
    exact MG.no (n := 1) H mfr.rf (by decide)
  · obtain ⟨n, hn, e1⟩ := numI_ex ht
    rw [b2_t, if_neg n10]
    cases ht2 : numI w
    · rw [b2_f, if_pos rfl, if_neg (by rw [fI_s]; decide), if_neg (by simp)]
      exact MG.no (n := 1) H mfr.rf (by decide)
    · obtain ⟨n2, hn2, e2⟩ := numI_ex ht2
      obtain ⟨S1, e, cs⟩ := m_between hv ho.1.1 ho.1.2.2 hn hn2
      rw [b2_t, if_neg n10, if_pos (show (true && true) = true from rfl), if_pos (by rw [fI_s]; exact Int32.le_refl _), e1, e2, e, bd_s, lN_clamp (by unfold LIM at hn; omega), lN_clamp (by unfold LIM at hn2; omega)]
      exact MG.yes H cs
def msd (f : Nat → CT) (sz y : Nat) : Nat := ct (fun c => (f c).2.2.2 && !fu (f c) y) sz
def q_misses (o : OS) (y : Int64) : Nat × Int32 × OS := if numI y = true then (0, nI (msd o.1.2 o.1.1 y.toNatClampNeg), o) else (1, 0, o)
theorem m_misses {S : PS} {h z s b r : Nat} {o : OS} (H : MM S h z s b r o) (ho : OKs o) (y : Int64) : MG S h z s b r (f_X5_misses S h y) (q_misses o y) := by
  have hv : MV (sI S 80 h 0) h z o.1.1 o.1.1 o.1.2 := (H.mv ho).sr sr.I
  unfold f_X5_misses f_X5_misses_B13 f_X5_misses_B32 q_misses
  rw [m_isNumber, bd_s]
  cases ht : numI y
  · rw [b2_f, if_pos rfl, if_neg (by rw [fI_s]; decide), if_neg (by decide)]
    exact MG.no (n := 1) H mfr.rf (by decide)
  · obtain ⟨n, hn, e1⟩ := numI_ex ht
    rw [b2_t, if_neg n10, if_pos rfl, if_pos (by rw [fI_s]; exact Int32.le_refl _), e1, m_missed hv hn, bd_s, lN_clamp (by unfold LIM at hn; omega)]
    exact MG.yes H scr.rf
def q_without (o : OS) (c w : Int32) : Nat × Int64 × OS := if thI c o.1.1 = true then (if inI w 0 1 = true then (0, jb (an (onm o.1.2 o.1.1) (2 ^ tn c)) o.1.2 w, o) else (2, 0, o)) else (1, 0, o)
theorem wo_lt (f : Nat → CT) (sz c : Nat) : an (onm f sz) (2 ^ c) < 2 ^ sz := Nat.lt_of_le_of_lt (an_le _ _) (onm_lt f sz)
theorem wo_N {x : CS} (h : OKc x) (c : Nat) : ps (an (onm x.2 x.1) (2 ^ c)) x.2 = true → NN (an (onm x.2 x.1) (2 ^ c)) x.2 11 ≤ LIM := tg_N (tg_sub (fun i => an_sub (onm_k (by have := h.1; omega))) (ok_gd h) h.2.2)
theorem m_without {S : PS} {h z s b r : Nat} {o : OS} (H : MM S h z s b r o) (ho : OKs o) (c w : Int32) : MG S h z s b r (f_X5_without S h c w) (q_without o c w) := by
  have h10 := ho.1.1
  have hv : MV (sI S 80 h 0) h z o.1.1 o.1.1 o.1.2 := (H.mv ho).sr sr.I
  unfold f_X5_without f_X5_without_B27 f_X5_without_B56 q_without
  rw [m_there (H.mv ho), bd_s]
  show MG S h z s b r (if b2 (thI c o.1.1) = 0 then _ else _) _
  cases ht : thI c o.1.1
  · rw [b2_f, if_pos rfl, if_neg (by rw [fI_s]; decide), if_neg (by decide)]
    exact MG.no (n := 1) H mfr.rf (by decide)
  · obtain ⟨j, hj, e1, e2⟩ := thI_ex h10 ht
    rw [b2_t, if_neg n10, if_pos rfl, e2, e1, m_in3, bd_s]
    show MG S h z s b r (if b2 (inI w 0 1) = 0 then _ else _) _
    cases hw : inI w 0 1
    · rw [b2_f, if_pos rfl, if_neg (by rw [fI_s]; decide), if_neg (by decide)]
      exact MG.no (n := 2) H mfr.rf (by decide)
    · obtain ⟨S1, e, cs⟩ := m_joinedBy hv (wo_lt _ _ j) (Nat.lt_of_lt_of_le (wo_lt _ _ j) (pw (by omega))) h10 (wo_N ho.1 j) w
      rw [b2_t, if_neg n10, if_pos rfl, if_pos (by rw [fI_s]; exact Int32.le_refl _), m_onSet hv, bd_s, n_shl (by omega), n_an, e, bd_s]
      exact MG.yes H cs
def q_most (o : OS) : Nat × Int32 × OS := (0, nI (mo o), o)
theorem m_most' {S : PS} {h z s b r : Nat} {o : OS} (H : MM S h z s b r o) (ho : OKs o) : MG S h z s b r (f_X5_most S h) (q_most o) := by
  have hv : MV (sI S 80 h 0) h z o.1.1 o.1.1 o.1.2 := (H.mv ho).sr sr.I
  unfold f_X5_most q_most
  rw [m_most hv ho.1.1, bd_s]
  exact MG.yes H scr.rf
def q_blame (o : OS) : Nat × Int32 × OS := (0, (bst (blw o.1.2 o.1.1) 0 o.1.1).1, o)
theorem m_blame {S : PS} {h z s b r : Nat} {o : OS} (H : MM S h z s b r o) (ho : OKs o) : MG S h z s b r (f_X5_blame S h) (q_blame o) := by
  have hv : MV (sI S 80 h 0) h z o.1.1 o.1.1 o.1.2 := (H.mv ho).sr sr.I
  unfold f_X5_blame q_blame
  rw [m_blamed hv, bd_s]
  exact MG.yes H scr.rf
/-! what one more would bring -/
def waw (f : Nat → CT) (sz : Nat) (x : CT) (w : Nat) : Int64 := if cn f sz x = true then (if w < 2 then jb (onm f sz ||| 2 ^ sz) (fa f sz x) (nI w) else if w = 2 then lN (agn (fa f sz x) sz sz) else if tl (onm f sz) (fa f sz x) x = true then 1 else 0) else -1
theorem fL_92 {S S1 : PS} {h : Nat} (c : scr S S1) : fL S1 92 h = fL S 92 h := c.2.2.2.2.2.2.2 92 h (by decide) (by decide)
theorem m_wouldAdd {S : PS} {h z s b r : Nat} {o : OS} (H : MM S h z s b r o) (ho : OKs o) {a1 b1 m1 : Nat} (g : gd (a1, b1, m1, true)) {w : Nat} (hw : w ≤ 3) : ∃ S1, f_X5_wouldAdd S h (nI a1) (nI b1) (nI m1) (nI w) = some (waw o.1.2 o.1.1 (a1, b1, m1, true) w, S1) ∧ mfr h z s b r S S1 ∧ MM S1 h z s b r o ∧ fI S1 80 h = fI S 80 h ∧ fL S1 92 h = fL S 92 h := by
  have h10 := ho.1.1
  have hv := H.mv ho
  obtain ⟨rr, ce, cl, cm⟩ := m_canAdd hv h10 g
  have T0 : MM (sW S z rr) h z s b r o := H.q mfr.z rfl rfl (fun j hj => by rw [aI_W]; exact cl j hj) (aI_Wn H.1.zs.symm) (aI_Wn H.1.zb.symm)
  unfold f_X5_wouldAdd f_X5_wouldAdd_B82 waw
  rw [ce, bd_s]
  cases hc : cn o.1.2 o.1.1 (a1, b1, m1, true)
  · rw [b2_f, if_pos rfl, if_neg (by decide)]
    exact ⟨_, rfl, mfr.z, T0, rfl, rfl⟩
  · have hM := cm hc
    generalize hx : (a1, b1, m1, true) = x at *
    have hcc := hc
    unfold cn at hcc
    rw [Bool.and_eq_true, decide_eq_true_iff, Bool.not_eq_true'] at hcc
    have onx : onm (fa o.1.2 o.1.1 x) o.1.1 = onm o.1.2 o.1.1 := onm_fa
    have l1 := onm_lt o.1.2 o.1.1
    have l2 := or_lt l1
    have fin : ∀ (S1 : PS) (v : Int64), scr (sW S z rr) S1 → ∃ S2, (bd (f_X5_clearNext S1 h) fun t1 => some (v, t1)) = some (v, S2) ∧ mfr h z s b r S S2 ∧ MM S2 h z s b r o ∧ fI S2 80 h = fI S 80 h ∧ fL S2 92 h = fL S 92 h := by
      intro S1 v cs
      have T1 := T0.scr cs
      rw [m_clearNext (hM.scr cs) h10, bd_s]
      refine ⟨_, rfl, (mfr.z.tr cs.m).tr mfr.z, ?_, ?_, ?_⟩
      · exact T1.q mfr.z rfl rfl (fun j hj => by rw [aI_W]; exact zr_lo hj) (aI_Wn H.1.zs.symm) (aI_Wn H.1.zb.symm)
      · show fI S1 80 h = _
        rw [cs.2.2.1]; rfl
      · show fL S1 92 h = _
        rw [fL_92 cs]; rfl
    rw [b2_t, if_neg n10, if_pos rfl, m_z0 hM, ck_t (m_in0 hM), m_sz hM, m_onSet hM, bd_s, onx]
    by_cases q : w < 2
    · rw [if_neg (show ¬ (2 : Int32) ≤ nI w from nle (a := 2) q (by decide)), if_pos q, n_shl (by omega), n_or]
      obtain ⟨S1, e, cs⟩ := m_joinedBy hM l2 l2 h10 (tg_N hcc.2) (nI w)
      rw [e, bd_s]
      exact fin S1 _ cs
    · rw [if_pos (show (2 : Int32) ≤ nI w from nI_le (a := 2) (by omega) (by omega)), if_neg q]
      by_cases q2 : w = 2
      · rw [if_pos (show nI w = 2 by rw [q2]; rfl), if_pos q2, m_against hM (by omega), bd_s]
        have := agn_le (fa o.1.2 o.1.1 x) o.1.1 o.1.1
        rw [nI_l (by omega)]
        exact fin _ _ scr.rf
      · rw [if_neg (show ¬ nI w = 2 from fun z => q2 ((nI_eq (b := 2) (by omega) (by decide)).mp z)), if_neg q2]
        have hN : ps (onm o.1.2 o.1.1) (fa o.1.2 o.1.1 x) = true → NN (onm o.1.2 o.1.1) (fa o.1.2 o.1.1 x) 11 ≤ LIM := by
          refine tg_N (tg_sub (s' := onm o.1.2 o.1.1 ||| 2 ^ o.1.1) (fun i hi => by rw [or_bit, hi]; rfl) (fun c hc' b => m_gds hM l2 b) hcc.2)
        obtain ⟨S1, e, cs⟩ := m_tells hM (Nat.lt_of_lt_of_le l1 (pw (by omega))) (Nat.lt_of_lt_of_le l1 (pw (by omega))) h10 hN (show o.1.1 < o.1.1 + 1 by omega)
        rw [fa_s] at e
        rw [e, bd_s]
        cases tl (onm o.1.2 o.1.1) (fa o.1.2 o.1.1 x) x
        · rw [b2_f, if_pos rfl, if_neg (by decide)]; exact fin _ _ cs
        · rw [b2_t, if_neg n10, if_pos rfl]; exact fin _ _ cs
def q_ifAdded (o : OS) (a b m w : Int32) : Nat × Int64 × OS := if (gdI a b m && inI w 0 3) = true then (0, waw o.1.2 o.1.1 (tn a, tn b, tn m, true) (tn w), o) else (1, 0, o)
theorem m_ifAdded {S : PS} {h z s b r : Nat} {o : OS} (H : MM S h z s b r o) (ho : OKs o) (a1 b1 m1 w : Int32) : MG S h z s b r (f_X5_ifAdded S h a1 b1 m1 w) (q_ifAdded o a1 b1 m1 w) := by
  unfold f_X5_ifAdded f_X5_ifAdded_B24 f_X5_ifAdded_B25 f_X5_ifAdded_B48 q_ifAdded
  rw [m_areGood, m_in3, bd_s, bd_s]
  show MG S h z s b r (if b2 (gdI a1 b1 m1) = 0 then _ else if b2 (inI w 0 3) = 0 then _ else _) _
  cases hg : gdI a1 b1 m1
  · rw [b2_f, if_pos rfl, if_neg (by rw [fI_s]; decide), if_neg (by simp)]
    exact MG.no (n := 1) H mfr.rf (by decide)
  · obtain ⟨e1, e2, e3, g⟩ := gd_tn hg
    rw [b2_t, if_neg n10]
    cases hw : inI w 0 3
    · rw [b2_f, if_pos rfl, if_neg (by rw [fI_s]; decide), if_neg (by simp)]
      exact MG.no (n := 1) H mfr.rf (by decide)
    · obtain ⟨n, e4, e5, a, bb⟩ := inI_ex (lo := 0) (hi := 3) (by decide) (by decide) hw
      obtain ⟨S1, e, c1, M1, f1, _⟩ := m_wouldAdd (H.t (v := 0)) ho g bb
      rw [← e1, ← e2, ← e3, ← e4] at e
      rw [b2_t, if_neg n10, if_pos (show (true && true) = true from rfl), if_pos (by rw [fI_s]; exact Int32.le_refl _), e5, e, bd_s]
      exact ⟨S1, _, rfl, (mfr.I).tr c1, by rw [f1]; exact fI_s, fun _ => rfl, M1⟩

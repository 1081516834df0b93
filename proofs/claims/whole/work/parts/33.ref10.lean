/-! ===== the reference: add, remove, toggle, bare ===== -/
def MO (S : PS) (h z s b r : Nat) (e : Option (Int32 × PS)) (w : Nat × Int32 × OS) : Prop := ∃ S1 v, e = some (v, S1) ∧ mfr h z s b r S S1 ∧ fI S1 80 h = nI w.1 ∧ (w.1 = 0 → v = w.2.1) ∧ MM S1 h z s b r w.2.2
theorem MO.no {S S1 : PS} {h z s b r : Nat} {o : OS} {n : Nat} {x : Int32} (H : MM S1 h z s b r o) (c : mfr h z s b r S S1) (hn : n ≠ 0) : MO S h z s b r (some (0, sI S1 80 h (nI n))) (n, x, o) := ⟨sI S1 80 h (nI n), 0, rfl, c.tr mfr.I, fI_s, fun z => absurd z hn, H.t⟩
theorem j0 {S : PS} {h z s b r : Nat} (H : MR S h z s b r) : ¬ ((0 : Int32) < 0 ∨ aN S z ≤ (0 : Int32).toNatClampNeg) := jz H (j := 0) (by decide)
theorem tn_n {n : Nat} (h : n < 2 ^ 31) : tn (nI n) = n := nI_clamp h
theorem n0le (n : Nat) (h : n < 2 ^ 31) (h0 : 0 < n) : ¬ nI n ≤ 0 := nI_nle h0 h
theorem fa_on {f : Nat → CT} {c : Nat} {x : CT} {i : Nat} : fa f c x i = if i = c then x else f i := rfl
theorem rzW {S : PS} {h z s b r : Nat} (H : MR S h z s b r) {v : Nat → Int32} {α : Type} (e : Nat → Option α) : (rq (fR (sW S z v) 81 h) (sW S z v) 6 fun b => e b) = e z := rz (H.fr mfr.z) e
theorem jzW {S : PS} {h z s b r : Nat} (H : MR S h z s b r) {v : Nat → Int32} {j : Nat} (hj : j < 45) : ¬ (nI j < 0 ∨ aN (sW S z v) z ≤ (nI j).toNatClampNeg) := jz (H.fr mfr.z) hj
theorem jzW0 {S : PS} {h z s b r : Nat} (H : MR S h z s b r) {v : Nat → Int32} : ¬ ((0 : Int32) < 0 ∨ aN (sW S z v) z ≤ (0 : Int32).toNatClampNeg) := jzW H (j := 0) (by decide)
theorem m_add {S : PS} {h z s b r : Nat} {o : OS} (H : MM S h z s b r o) (ho : OKs o) (a1 b1 m1 : Int32) : MO S h z s b r (f_X5_add S h a1 b1 m1) (o_add o a1 b1 m1) := by
  have h10 := ho.1.1
  unfold f_X5_add f_X5_add_B27 f_X5_add_B28 o_add
  rw [m_areGood, bd_s]
  cases hg : gdI a1 b1 m1
  · rw [b2_f, if_pos rfl, if_pos rfl, if_neg (by decide)]
    unfold f_X5_add_B50
    rw [if_neg (by rw [fI_s]; decide)]
    exact MO.no (n := 1) H mfr.rf (by decide)
  · obtain ⟨x, y, w, e1, e2, e3, g⟩ := gdI_ex hg
    obtain ⟨g1, g2, g3, g4, g5⟩ := id g
    subst e1; subst e2; subst e3
    have t1 : tn (nI x) = x := tn_n (by have : x ≤ 999 := g2; omega)
    have t2 : tn (nI y) = y := tn_n (by have : y ≤ 999 := g3; omega)
    have t3 : tn (nI w) = w := tn_n (by have : w ≤ 999 := g5; omega)
    obtain ⟨rr, ce, cl, cm⟩ := m_canAdd (H.mv ho) h10 g
    have T0 : MM (sW S z rr) h z s b r o := H.q mfr.z rfl rfl (fun j hj => by rw [aI_W]; exact cl j hj) (aI_Wn H.1.zs.symm) (aI_Wn H.1.zb.symm)
    rw [b2_t, if_neg n10, if_pos rfl, t1, t2, t3, ce, bd_s]
    cases hc : cn o.1.2 o.1.1 (x, y, w, true)
    · rw [b2_f, if_pos rfl, if_neg n10, if_pos rfl, if_neg (by decide)]
      unfold f_X5_add_B50
      rw [if_neg (by rw [fI_s]; decide)]
      exact MO.no (n := 2) T0 mfr.z (by decide)
    · have hM := cm hc
      have hsz : o.1.1 < 10 := by
        unfold cn at hc
        rw [Bool.and_eq_true, decide_eq_true_iff] at hc
        exact hc.1
      rw [b2_t, if_neg n10, if_neg n10, if_neg n10, if_pos rfl]
      unfold f_X5_add_B50
      have hM1 : MV (sI (sW S z rr) 80 h 0) h z o.1.1 (o.1.1 + 1) (fa o.1.2 o.1.1 (x, y, w, true)) := hM.sr sr.I
      rw [if_pos (by rw [fI_s]; exact Int32.le_refl _), m_clearNext hM1 h10, bd_s]
      have T2 : MM (sW (sI (sW S z rr) 80 h 0) z (zr (aI (sI (sW S z rr) 80 h 0) z) (1 + 4 * o.1.1) (5 + 4 * o.1.1))) h z s b r o := T0.t.q mfr.z rfl rfl (fun j hj => by rw [aI_W]; exact zr_lo hj) (aI_Wn H.1.zs.symm) (aI_Wn H.1.zb.symm)
      obtain ⟨T3, e3, c3, M3, f3, _⟩ := m_save T2 ho
      rw [e3, bd_s, m_layNext (M3.mv (svO_ok ho)) h10, bd_s]
      have L4 := lay_MV (M3.mv (svO_ok ho)) h10 g
      have R3 := M3.1
      rw [rzW R3, ck_t (jzW0 R3), ck_t (jzW0 R3), m_sz L4, sA_W, rzW R3, ck_t (jzW0 R3), aI_W, cl0]
      refine ⟨_, _, rfl, ?_, ?_, fun _ => ?_, R3.fr mfr.z, ?_, ?_, ?_, ?_, ?_⟩
      · exact ((mfr.z.tr mfr.I).tr mfr.z).tr (c3.tr mfr.z)
      · show fI T3 80 h = nI 0
        rw [f3]; exact fI_s
      · show upd _ 0 (nI o.1.1 + 1) 0 - 1 = nI o.1.1
        rw [pk_us, ← nI_succ, nI_pred]
      · rw [aI_W]
        refine ⟨?_, fun c hc' => ?_⟩
        · show upd _ 0 (nI o.1.1 + 1) 0 = nI (o.1.1 + 1)
          rw [pk_us, nI_succ]
        · have := L4.2.2.2.2 c hc'
          rw [aI_W] at this
          rw [pk_un (by omega), pk_un (by omega), pk_un (by omega), pk_un (by omega)]
          exact ⟨this.1, this.2.1, this.2.2.1, this.2.2.2.1⟩
      · exact M3.2.2.1
      · rw [aI_Wn H.1.zs.symm]; exact M3.2.2.2.1
      · exact M3.2.2.2.2.1
      · rw [aI_Wn H.1.zb.symm]; exact M3.2.2.2.2.2
/-! removing -/
def thI (c : Int32) (sz : Nat) : Bool := decide (0 ≤ c) && decide (c < nI sz)
theorem thI_ex {c : Int32} {sz : Nat} (hs : sz ≤ 10) (h : thI c sz = true) : ∃ j, j < sz ∧ c = nI j ∧ tn c = j := by
  unfold thI at h
  rw [Bool.and_eq_true, decide_eq_true_iff, decide_eq_true_iff] at h
  obtain ⟨j, hj, e⟩ := nI_of (x := c) (Int32.not_lt.mpr h.1)
  subst e
  exact ⟨j, (nI_ltI hj (by omega)).mp h.2, rfl, tn_n hj⟩
def rmf (f : Nat → CT) (c : Nat) : Nat → CT := fun i => if i < c then f i else f (i + 1)
def o_remove (o : OS) (c : Int32) : Nat × Int32 × OS := if thI c o.1.1 = true then (0, nI (o.1.1 - 1), ((o.1.1 - 1, rmf o.1.2 (tn c)), (svO o).2)) else (1, 0, o)
theorem o_remove_ok {o : OS} (ho : OKs o) (c : Int32) : OKs (o_remove o c).2.2 := by
  unfold o_remove
  split
  · rename_i q
    obtain ⟨j, hj, _, e⟩ := thI_ex ho.1.1 q
    rw [e]
    obtain ⟨s1, s2, s3, s4, s5⟩ := svO_ok ho
    obtain ⟨k1, k2, k3⟩ := ho.1
    refine ⟨⟨by show o.1.1 - 1 ≤ 10; omega, fun i hi => ?_, ?_⟩, s2, s3, s4, s5⟩
    · show gd (rmf o.1.2 j i)
      have hi : i < o.1.1 - 1 := hi
      unfold rmf
      split
      · exact k2 i (by omega)
      · exact k2 (i + 1) (by omega)
    · refine tg_of (ok_gd ho.1) k3 (fun i hi b v => ?_)
      have b := onm_ex b
      have hi2 : i < o.1.1 - 1 := b.1
      have b2 : (rmf o.1.2 j i).2.2.2 = true := b.2
      have v : vo (rmf o.1.2 j i) = false := v
      show ∃ j1, j1 < 11 ∧ _ ∧ _ ∧ bm (o.1.2 j1) = bm (rmf o.1.2 j i)
      unfold rmf at b2 v ⊢
      split at b2
      · rename_i q2
        rw [if_pos q2] at v ⊢
        exact ⟨i, by omega, onm_on (by omega) b2, v, rfl⟩
      · rename_i q2
        rw [if_neg q2] at v ⊢
        exact ⟨i + 1, by omega, onm_on (by omega) b2, v, rfl⟩
  · exact ho
def mvr (r : Nat → Int32) (lo k : Nat) : Nat → Int32 := fun j => if lo ≤ j ∧ j < k then r (j + 4) else r j
theorem m_remove {S : PS} {h z s b r : Nat} {o : OS} (H : MM S h z s b r o) (ho : OKs o) (c1 : Int32) : MO S h z s b r (f_X5_remove S h c1) (o_remove o c1) := by
  have h10 := ho.1.1
  have hv := H.mv ho
  unfold f_X5_remove o_remove
  rw [m_there hv, bd_s]
  show MO S h z s b r (if b2 (thI c1 o.1.1) = 0 then _ else _) _
  cases ht : thI c1 o.1.1
  · rw [b2_f, if_pos rfl, if_neg (by decide)]
    unfold f_X5_remove_B14
    rw [if_neg (by rw [fI_s]; decide)]
    exact MO.no (n := 1) H mfr.rf (by decide)
  · obtain ⟨c, hc, e1, e2⟩ := thI_ex h10 ht
    rw [b2_t, if_neg n10, if_pos rfl, e2, e1]
    unfold f_X5_remove_B14
    rw [if_pos (by rw [fI_s]; exact Int32.le_refl _)]
    obtain ⟨T1, e3, c3, M3, f3, a3⟩ := m_save H.t ho
    have V3 := M3.mv (svO_ok ho)
    have z0 : aI T1 z 0 = nI o.1.1 := V3.2.1
    have R3 := M3.1
    rw [e3, bd_s, rz R3, ck_t (j0 R3), ck_t (j0 R3), cl0, z0, show nI o.1.1 - (1 : Int32) = nI (o.1.1 - 1) from pk_sub (b := 1) (by omega), i1, i4, pk_mul, nI_add, sW_A, cl0]
    generalize hr : upd (aI T1 z) 0 (nI (o.1.1 - 1)) = q at *
    have q0 : q 0 = nI (o.1.1 - 1) := by rw [← hr]; exact pk_us
    have qn : ∀ j, j ≠ 0 → q j = aI T1 z j := fun j hj => by rw [← hr]; exact pk_un hj
    have m0 : ∀ k, mvr q (1 + 4 * c) k 0 = nI (o.1.1 - 1) := fun k => by unfold mvr; rw [if_neg (by omega)]; exact q0
    have body := lp_from (L := fun n d => f_X5_remove_L46 f_X5_remove_B80 n (sW T1 z (mvr q (1 + 4 * c) d)) h (nI d)) (lo := 1 + 4 * c) (e := 1 + 4 * (o.1.1 - 1)) (r := f_X5_remove_B80 (sW T1 z (mvr q (1 + 4 * c) (1 + 4 * (o.1.1 - 1)))) h) (fun n => by
      show f_X5_remove_L46s (f_X5_remove_L46 f_X5_remove_B80 n) f_X5_remove_B80 (sW T1 z (mvr q (1 + 4 * c) (1 + 4 * (o.1.1 - 1)))) h (nI (1 + 4 * (o.1.1 - 1))) = _
      have R4 := R3.fr (mfr.z (v := mvr q (1 + 4 * c) (1 + 4 * (o.1.1 - 1))))
      unfold f_X5_remove_L46s
      rw [rz R4, ck_t (j0 R4), aI_W, cl0, m0, i1, i4, pk_mul, nI_add, if_pos (Int32.le_refl _)]) (fun n d hl hd => by
      show f_X5_remove_L46s (f_X5_remove_L46 f_X5_remove_B80 n) f_X5_remove_B80 (sW T1 z (mvr q (1 + 4 * c) d)) h (nI d) = f_X5_remove_L46 f_X5_remove_B80 n (sW T1 z (mvr q (1 + 4 * c) (d + 1))) h (nI (d + 1))
      have R4 := R3.fr (mfr.z (v := mvr q (1 + 4 * c) d))
      unfold f_X5_remove_L46s
      rw [rz R4, ck_t (j0 R4), aI_W, cl0, m0, i1, i4, pk_mul, nI_add, if_neg (nle (by omega) (by omega)), rz R4, rz R4, nI_add, ck_t (jz R4 (by omega)), ck_t (jz R4 (by omega)), aI_W, sA_W, nI_clamp (by omega), nI_clamp (by omega), nI_add]
      congr 2
      funext j
      unfold upd mvr
      by_cases q1 : j = d
      · rw [if_pos q1, if_neg (by omega), if_pos (by omega), q1]
      · rw [if_neg q1]
        by_cases q2 : 1 + 4 * c ≤ j ∧ j < d
        · rw [if_pos q2, if_pos (by omega)]
        · rw [if_neg q2, if_neg (by omega)]) FU (1 + 4 * c) (by omega) (by omega) (by unfold FU; omega)
    have em : mvr q (1 + 4 * c) (1 + 4 * c) = q := by funext j; unfold mvr; rw [if_neg (by omega)]
    rw [em] at body
    rw [body]
    have Q : SQ (mvr q (1 + 4 * c) (1 + 4 * (o.1.1 - 1))) (o.1.1 - 1, rmf o.1.2 c) := by
      refine ⟨m0 _, fun i hi => ?_⟩
      have hi : i < o.1.1 - 1 := hi
      show _ = nI (rmf o.1.2 c i).1 ∧ _ = nI (rmf o.1.2 c i).2.1 ∧ _ = nI (rmf o.1.2 c i).2.2.1 ∧ _ = b2 (rmf o.1.2 c i).2.2.2
      unfold rmf mvr
      by_cases q1 : i < c
      · have K := M3.2.1.2 i (by show i < o.1.1; omega)
        rw [if_pos q1, if_neg (by omega), if_neg (by omega), if_neg (by omega), if_neg (by omega), qn _ (by omega), qn _ (by omega), qn _ (by omega), qn _ (by omega)]
        exact K
      · have K := M3.2.1.2 (i + 1) (by show i + 1 < o.1.1; omega)
        rw [if_neg q1, if_pos (by omega), if_pos (by omega), if_pos (by omega), if_pos (by omega), qn _ (by omega), qn _ (by omega), qn _ (by omega), qn _ (by omega), show 1 + 4 * i + 4 = 1 + 4 * (i + 1) by omega, show 2 + 4 * i + 4 = 2 + 4 * (i + 1) by omega, show 3 + 4 * i + 4 = 3 + 4 * (i + 1) by omega, show 4 + 4 * i + 4 = 4 + 4 * (i + 1) by omega]
        exact K
    have M5 : MM (sW T1 z (mvr q (1 + 4 * c) (1 + 4 * (o.1.1 - 1)))) h z s b r ((o.1.1 - 1, rmf o.1.2 c), (svO o).2) := ⟨R3.fr mfr.z, by rw [aI_W]; exact Q, M3.2.2.1, by rw [aI_Wn H.1.zs.symm]; exact M3.2.2.2.1, M3.2.2.2.2.1, by rw [aI_Wn H.1.zb.symm]; exact M3.2.2.2.2.2⟩
    have ok5 : OKs ((o.1.1 - 1, rmf o.1.2 c), (svO o).2) := by
      have := o_remove_ok ho c1
      unfold o_remove at this
      rw [if_pos ht, e2] at this
      exact this
    have V5 := M5.mv ok5
    unfold f_X5_remove_B80
    rw [m_clearNext V5 (by show o.1.1 - 1 ≤ 10; omega), bd_s]
    have M6 : MM (sW (sW T1 z (mvr q (1 + 4 * c) (1 + 4 * (o.1.1 - 1)))) z (zr (aI (sW T1 z (mvr q (1 + 4 * c) (1 + 4 * (o.1.1 - 1)))) z) (1 + 4 * (o.1.1 - 1)) (5 + 4 * (o.1.1 - 1)))) h z s b r ((o.1.1 - 1, rmf o.1.2 c), (svO o).2) := M5.q mfr.z rfl rfl (fun j hj => by rw [aI_W]; exact zr_lo hj) (aI_Wn H.1.zs.symm) (aI_Wn H.1.zb.symm)
    have V6 := M6.mv ok5
    rw [m_z0 V6, ck_t (m_in0 V6), m_sz V6]
    exact ⟨_, _, rfl, ((mfr.I).tr c3).tr (mfr.z.tr mfr.z), (by show fI T1 80 h = nI 0; rw [f3]; exact fI_s), fun _ => rfl, M6⟩

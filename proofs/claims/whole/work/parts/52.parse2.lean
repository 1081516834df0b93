/-! ===== the reference: conditions of a text ===== -/
theorem bad.p {o : OS} {h : Nat} {S S1 : PS} (B : bad o h S) (e1 : fI S1 90 h = fI S 90 h) (e2 : fI S1 91 h = fI S 91 h) : bad o h S1 := by
  obtain ⟨w, j, b1, b2', b3, b4⟩ := B
  exact ⟨w, j, e2.trans b1, b2', e1.trans b3, b4⟩
theorem gud.p {o : OS} {h k : Nat} {q : SS} {S S1 : PS} (B : gud o h S k q) (e1 : fI S1 90 h = fI S 90 h) (e2 : fI S1 91 h = fI S 91 h) : gud o h S1 k q := by
  obtain ⟨b1, b2', b3, b4⟩ := B
  exact ⟨e1.trans b1, e2.trans b2', b3, b4⟩
theorem if_b {α : Type} {P : Prop} [Decidable P] {g : Int32 → α} : (if P then g 1 else g 0) = g (b2 (decide P)) := by
  by_cases q : P
  · rw [if_pos q, decide_eq_true q]; rfl
  · rw [if_neg q, decide_eq_false q]; rfl
/-- what a reading of one condition leaves, from the state S: row's places below 3 m stand -/
def RO (o : OS) (h r m k : Nat) (S S1 : PS) : Prop := wf r S S1 ∧ fI S1 89 h = nI (m + 1) ∧ (∀ i, i < 3 * m → aI S1 r i = aI S r i) ∧ ((∃ k' q', k + 5 ≤ k' ∧ gud o h S1 k' q' ∧ q'.1 = 6 ∧ (∀ j, k ≤ j → j < k' → o.2.2.2.2 j ≠ 59) ∧ (k' < o.2.2.2.1 → 48 ≤ o.2.2.2.2 k' → o.2.2.2.2 k' ≤ 57 → stp q' (o.2.2.2.2 k') = none) ∧ aI S1 r (3 * m) = nI q'.2.2.1 ∧ aI S1 r (3 * m + 1) = nI q'.2.2.2 ∧ aI S1 r (3 * m + 2) = nI q'.2.1) ∨ bad o h S1)
theorem sig {q : SS} {c d : Nat} (hp : q.1 = 2 ∨ q.1 = 4 ∨ q.1 = 1) (hc : (q.1 = 2 → c = 61) ∧ (q.1 = 4 → c = 37) ∧ (q.1 = 1 → c = 120)) (hd : d ≠ c) (hn : q.1 ≠ 2 → 48 ≤ d → d ≤ 57 → stp q d = none) : stp q d = none := by
  by_cases y : 48 ≤ d ∧ d ≤ 57
  · by_cases y2 : q.1 = 2
    · unfold stp
      rw [if_pos y]
      unfold dgt
      rw [if_neg (by omega), if_neg (by omega), if_neg (by omega), if_pos y2]
    · exact hn y2 y.1 y.2
  · unfold stp
    rw [if_neg y]
    unfold sgnS
    rw [if_neg (fun z => by omega), if_neg (fun z => by omega), if_neg (fun z => by omega), if_neg (fun z => by omega)]
theorem st37 {n : Nat} {x : Nat × Nat} : stp (4, n, x) 37 = some (5, n, x.1, n) := rfl
theorem st61 {n : Nat} {x : Nat × Nat} : stp (2, n, x) 61 = some (3, n, x) := rfl
theorem st120a {n : Nat} {x : Nat × Nat} : stp (0, n, x) 120 = some (2, n, 1, x.2) := rfl
theorem st120b {n : Nat} {x : Nat × Nat} : stp (1, n, x) 120 = some (2, n, n, x.2) := rfl
theorem m_B95b {S : PS} {h z s b r : Nat} {o : OS} (H : MM S h z s b r o) (ho : OKs o) {m : Nat} (hm : m ≤ 10) (h89 : fI S 89 h = nI m) (B : bad o h S) (w : Int32) : ∃ S1, f_X5_readOne_B95 S h (nI (3 * m)) h w = some S1 ∧ wf r S S1 ∧ fI S1 89 h = nI (m + 1) ∧ (∀ i, i < 3 * m → aI S1 r i = aI S r i) ∧ bad o h S1 := by
  obtain ⟨w', j, c1, ⟨c2, c2'⟩, c3, c4⟩ := id B
  have h60 := ho.2.2.2.1
  obtain ⟨v, ev⟩ := m_numberB H ho B 1
  unfold f_X5_readOne_B95
  rw [m_wantsB c1 (by omega), bd_s, rr H.1, ev, bd_s, i2, nI_add, ck_t (jrd H.1 (by omega))]
  have e89 : fI (sA S r (nI (3 * m + 2)) v) 89 h + (1 : Int32) = nI (m + 1) := by
    show fI S 89 h + (1 : Int32) = _
    rw [h89, nI_1]
  rw [e89]
  refine ⟨_, rfl, wf.A.tr (wf.I (by decide) (by decide)), fI_s, fun i hi => aI_An (S := S) (by omega) (by omega), B.p ?_ ?_⟩
  · exact fI_ne (by decide)
  · exact fI_ne (by decide)
theorem m_B64b {S : PS} {h z s b r : Nat} {o : OS} (H : MM S h z s b r o) (ho : OKs o) {m : Nat} (hm : m ≤ 10) (h89 : fI S 89 h = nI m) (B : bad o h S) (w : Int32) : ∃ S1, f_X5_readOne_B64 S h (nI (3 * m)) h w = some S1 ∧ wf r S S1 ∧ fI S1 89 h = nI (m + 1) ∧ (∀ i, i < 3 * m → aI S1 r i = aI S r i) ∧ bad o h S1 := by
  obtain ⟨w', j, c1, ⟨c2, c2'⟩, c3, c4⟩ := id B
  have h60 := ho.2.2.2.1
  obtain ⟨v, ev⟩ := m_numberB H ho B 0
  unfold f_X5_readOne_B64
  rw [m_wantsB c1 (by omega), bd_s, rr H.1, ev, bd_s, show nI (3 * m) + (1 : Int32) = nI (3 * m + 1) from nI_1 _, ck_t (jrd H.1 (by omega))]
  have H1 : MM (sA S r (nI (3 * m + 1)) v) h z s b r o := H.w wf.A
  have B1 : bad o h (sA S r (nI (3 * m + 1)) v) := B.p rfl rfl
  rw [m_letter H1 ho c3 (by omega), bd_s, if_b]
  obtain ⟨S1, f1, f2, f3, f4, f5⟩ := m_B95b H1 ho hm h89 B1 (b2 (decide (ltr o j = 37)))
  exact ⟨S1, f1, wf.A.tr f2, f3, fun i hi => (f4 i hi).trans (aI_An (S := S) (by omega) (by omega)), f5⟩
theorem m_B46b {S : PS} {h z s b r : Nat} {o : OS} (H : MM S h z s b r o) (ho : OKs o) {m : Nat} (hm : m ≤ 10) (h89 : fI S 89 h = nI m) (B : bad o h S) (w : Int32) : ∃ S1, f_X5_readOne_B46 S h (nI (3 * m)) h w = some S1 ∧ wf r S S1 ∧ fI S1 89 h = nI (m + 1) ∧ (∀ i, i < 3 * m → aI S1 r i = aI S r i) ∧ bad o h S1 := by
  obtain ⟨w', j, c1, ⟨c2, c2'⟩, c3, c4⟩ := id B
  have h60 := ho.2.2.2.1
  unfold f_X5_readOne_B46
  rw [m_wantsB c1 (by omega), bd_s, m_letter H ho c3 (by omega), bd_s, if_b]
  exact m_B64b H ho hm h89 B _
theorem m_B95 {S : PS} {h z s b r : Nat} {o : OS} (H : MM S h z s b r o) (ho : OKs o) {m : Nat} (hm : m ≤ 10) (h89 : fI S 89 h = nI m) {k n : Nat} {x : Nat × Nat} (G : gud o h S k (4, n, x)) (hd : k < o.2.2.2.1 → 48 ≤ o.2.2.2.2 k → o.2.2.2.2 k ≤ 57 → stp (4, n, x) (o.2.2.2.2 k) = none) : ∃ S1, f_X5_readOne_B95 S h (nI (3 * m)) h (b2 (decide (ltr o k = 37))) = some S1 ∧ wf r S S1 ∧ fI S1 89 h = nI (m + 1) ∧ (∀ i, i < 3 * m + 2 → aI S1 r i = aI S r i) ∧ ((∃ k' n', k + 2 ≤ k' ∧ gud o h S1 k' (6, n', x.1, n) ∧ (∀ j, k ≤ j → j < k' → o.2.2.2.2 j ≠ 59) ∧ (k' < o.2.2.2.1 → 48 ≤ o.2.2.2.2 k' → o.2.2.2.2 k' ≤ 57 → stp (6, n', x.1, n) (o.2.2.2.2 k') = none) ∧ aI S1 r (3 * m + 2) = nI n') ∨ bad o h S1) := by
  obtain ⟨S1, e1, e2, e3, e4, e5⟩ := m_wantc (r := r) ho G (c := 37) (by decide) st37 (show (4 : Nat) ≠ 6 by decide) (fun z y => sig (Or.inr (Or.inl rfl)) ⟨fun y2 => absurd (show (4 : Nat) = 2 from y2) (by decide), fun _ => rfl, fun y2 => absurd (show (4 : Nat) = 1 from y2) (by decide)⟩ y (fun _ => hd z))
  have H1 := H.w e2
  unfold f_X5_readOne_B95
  rw [show b2 (decide (ltr o k = 37)) = b2 (decide (ltr o k = nI 37)) from rfl, e1, bd_s, rr H1.1, i2, nI_add]
  have fin : ∀ S2 v, wf r S1 S2 → aI S2 = aI S1 → fI S2 89 h = fI S1 89 h → ∃ S3, ck (decide (¬ (nI (3 * m + 2) < 0 ∨ aN S2 r ≤ (nI (3 * m + 2)).toNatClampNeg))) (some (sI (sA S2 r (nI (3 * m + 2)) v) 89 h (fI (sA S2 r (nI (3 * m + 2)) v) 89 h + (1 : Int32)))) = some S3 ∧ wf r S S3 ∧ fI S3 89 h = nI (m + 1) ∧ (∀ i, i < 3 * m + 2 → aI S3 r i = aI S r i) ∧ fI S3 90 h = fI S2 90 h ∧ fI S3 91 h = fI S2 91 h ∧ aI S3 r (3 * m + 2) = v := by
    intro S2 v f1 f2 f3
    have H2 := H1.w f1
    have e89 : fI (sA S2 r (nI (3 * m + 2)) v) 89 h + (1 : Int32) = nI (m + 1) := by
      show fI S2 89 h + (1 : Int32) = _
      rw [f3, e4, h89, nI_1]
    rw [ck_t (jrd H2.1 (by omega)), e89]
    exact ⟨_, rfl, (e2.tr f1).tr (wf.A.tr (wf.I (by decide) (by decide))), fI_s, fun i hi => (aI_An (S := S2) (by omega) (by omega)).trans (by rw [f2, e3]), fI_ne (by decide), fI_ne (by decide), aI_As (S := S2) (by omega)⟩
  rcases e5 with ⟨G1, k1, k2⟩ | B1
  · obtain ⟨S2, v, f1, f2, f3, f4, f5⟩ := m_number H1 ho G1 (low := 1) (p := 6) (Or.inr (Or.inr ⟨rfl, rfl, rfl⟩)) (fun y => absurd (show (5 : Nat) = 0 from y) (by decide))
    obtain ⟨S3, g1, g2, g3, g4, g5, g6, g7⟩ := fin S2 v f2 f3 f4
    rw [show (1 : Int32) = nI 1 from rfl, f1, bd_s]
    refine ⟨S3, g1, g2, g3, g4, ?_⟩
    rcases f5 with ⟨k', n', a1, a2, a3, a4, a5⟩ | B2
    · refine Or.inl ⟨k', n', by omega, a3.p g5 g6, fun j q1 q2 => ?_, a5, g7.trans a1⟩
      by_cases y : j = k
      · rw [y, k2]; decide
      · exact a4 j (by omega) q2
    · exact Or.inr (B2.p g5 g6)
  · obtain ⟨v, ev⟩ := m_numberB H1 ho B1 1
    obtain ⟨S3, g1, g2, g3, g4, g5, g6, g7⟩ := fin S1 v wf.rf rfl rfl
    rw [ev, bd_s]
    exact ⟨S3, g1, g2, g3, g4, Or.inr (B1.p g5 g6)⟩
theorem m_B64 {S : PS} {h z s b r : Nat} {o : OS} (H : MM S h z s b r o) (ho : OKs o) {m : Nat} (hm : m ≤ 10) (h89 : fI S 89 h = nI m) {k n : Nat} {x : Nat × Nat} (G : gud o h S k (2, n, x)) : ∃ S1, f_X5_readOne_B64 S h (nI (3 * m)) h (b2 (decide (ltr o k = 61))) = some S1 ∧ wf r S S1 ∧ fI S1 89 h = nI (m + 1) ∧ (∀ i, i < 3 * m → aI S1 r i = aI S r i) ∧ ((∃ k' n' n'', k + 4 ≤ k' ∧ gud o h S1 k' (6, n', x.1, n'') ∧ (∀ j, k ≤ j → j < k' → o.2.2.2.2 j ≠ 59) ∧ (k' < o.2.2.2.1 → 48 ≤ o.2.2.2.2 k' → o.2.2.2.2 k' ≤ 57 → stp (6, n', x.1, n'') (o.2.2.2.2 k') = none) ∧ aI S1 r (3 * m) = aI S r (3 * m) ∧ aI S1 r (3 * m + 1) = nI n'' ∧ aI S1 r (3 * m + 2) = nI n') ∨ bad o h S1) := by
  have h60 := ho.2.2.2.1
  obtain ⟨S1, e1, e2, e3, e4, e5⟩ := m_wantc (r := r) ho G (c := 61) (by decide) st61 (show (2 : Nat) ≠ 6 by decide) (fun z y => sig (Or.inl rfl) ⟨fun _ => rfl, fun y2 => absurd (show (2 : Nat) = 4 from y2) (by decide), fun y2 => absurd (show (2 : Nat) = 1 from y2) (by decide)⟩ y (fun y2 => absurd rfl y2))
  have H1 := H.w e2
  unfold f_X5_readOne_B64
  rw [show b2 (decide (ltr o k = 61)) = b2 (decide (ltr o k = nI 61)) from rfl, e1, bd_s, rr H1.1, show nI (3 * m) + (1 : Int32) = nI (3 * m + 1) from nI_1 _]
  have tailB : ∀ S2 v, wf r S1 S2 → aI S2 = aI S1 → fI S2 89 h = fI S1 89 h → bad o h S2 → ∃ S4, ck (decide (¬ (nI (3 * m + 1) < 0 ∨ aN S2 r ≤ (nI (3 * m + 1)).toNatClampNeg))) (bd (f_X5_letter (sA S2 r (nI (3 * m + 1)) v) h) fun t15 => if t15 = 37 then f_X5_readOne_B95 (sA S2 r (nI (3 * m + 1)) v) h (nI (3 * m)) h 1 else f_X5_readOne_B95 (sA S2 r (nI (3 * m + 1)) v) h (nI (3 * m)) h 0) = some S4 ∧ wf r S S4 ∧ fI S4 89 h = nI (m + 1) ∧ (∀ i, i < 3 * m → aI S4 r i = aI S r i) ∧ bad o h S4 := by
    intro S2 v f1 f2 f3 B2
    have H2 := H1.w f1
    have H3 : MM (sA S2 r (nI (3 * m + 1)) v) h z s b r o := H2.w wf.A
    have h89' : fI (sA S2 r (nI (3 * m + 1)) v) 89 h = nI m := by
      show fI S2 89 h = nI m
      rw [f3, e4, h89]
    have B3 : bad o h (sA S2 r (nI (3 * m + 1)) v) := B2.p rfl rfl
    obtain ⟨w', j, b1, b2', b3, b4⟩ := id B3
    obtain ⟨S4, c1, c2, c3, c4, c5⟩ := m_B95b H3 ho hm h89' B3 (b2 (decide (ltr o j = 37)))
    rw [ck_t (jrd H2.1 (by omega)), m_letter H3 ho b3 (by omega), bd_s, if_b]
    exact ⟨S4, c1, (e2.tr f1).tr (wf.A.tr c2), c3, fun i hi => (c4 i hi).trans ((aI_An (S := S2) (by omega) (by omega)).trans (by rw [f2, e3])), c5⟩
  rcases e5 with ⟨G1, k1, k2⟩ | B1
  · obtain ⟨S2, v, f1, f2, f3, f4, f5⟩ := m_number H1 ho G1 (low := 0) (p := 4) (Or.inr (Or.inl ⟨rfl, rfl, rfl⟩)) (fun y => absurd (show (3 : Nat) = 0 from y) (by decide))
    have H2 := H1.w f2
    have H3 : MM (sA S2 r (nI (3 * m + 1)) v) h z s b r o := H2.w wf.A
    have h89' : fI (sA S2 r (nI (3 * m + 1)) v) 89 h = nI m := by
      show fI S2 89 h = nI m
      rw [f4, e4, h89]
    have f1 : f_X5_number S1 h 0 = some (v, S2) := f1
    rw [f1, bd_s]
    rcases f5 with ⟨k', n', a1, a2, a3, a4, a5⟩ | B2
    · have row : ∀ i, i ≠ 3 * m + 1 → aI (sA S2 r (nI (3 * m + 1)) v) r i = aI S r i := fun i hi => (aI_An (S := S2) (by omega) hi).trans (by rw [f3, e3])
      have G3 : gud o h (sA S2 r (nI (3 * m + 1)) v) k' (4, n', x) := a3.p rfl rfl
      obtain ⟨S4, c1, c2, c3, c4, c5⟩ := m_B95 H3 ho hm h89' G3 a5
      rw [ck_t (jrd H2.1 (by omega)), m_letter H3 ho G3.1 (by have := G3.2.2.1; omega), bd_s, if_b]
      refine ⟨S4, c1, (e2.tr f2).tr (wf.A.tr c2), c3, fun i hi => (c4 i (by omega)).trans (row i (by omega)), ?_⟩
      rcases c5 with ⟨k2', n2', d1, d2, d3, d4, d5⟩ | B4
      · refine Or.inl ⟨k2', n2', n', by omega, d2, fun j q1 q2 => ?_, d4, (c4 _ (by omega)).trans (row _ (by omega)), ?_, d5⟩
        · by_cases y : j = k
          · rw [y, k2]; decide
          · by_cases y2 : j < k'
            · exact a4 j (by omega) y2
            · exact d3 j (by omega) q2
        · rw [c4 _ (by omega), aI_As (S := S2) (by omega), a1]
      · exact Or.inr B4
    · obtain ⟨S4, c1, c2, c3, c4, c5⟩ := tailB S2 v f2 f3 f4 B2
      exact ⟨S4, c1, c2, c3, c4, Or.inr c5⟩
  · obtain ⟨v, ev⟩ := m_numberB H1 ho B1 0
    rw [ev, bd_s]
    obtain ⟨S4, c1, c2, c3, c4, c5⟩ := tailB S1 v wf.rf rfl rfl B1
    exact ⟨S4, c1, c2, c3, c4, Or.inr c5⟩
theorem m_B46 {S : PS} {h z s b r : Nat} {o : OS} (H : MM S h z s b r o) (ho : OKs o) {m : Nat} (hm : m ≤ 10) (h89 : fI S 89 h = nI m) {k p n : Nat} {x : Nat × Nat} (G : gud o h S k (p, n, x)) (hp : (p = 0 ∧ k < o.2.2.2.1 ∧ o.2.2.2.2 k = 120) ∨ p = 1) (hd : p = 1 → k < o.2.2.2.1 → 48 ≤ o.2.2.2.2 k → o.2.2.2.2 k ≤ 57 → stp (p, n, x) (o.2.2.2.2 k) = none) : ∃ S1, f_X5_readOne_B46 S h (nI (3 * m)) h (b2 (decide (ltr o k = 120))) = some S1 ∧ wf r S S1 ∧ fI S1 89 h = nI (m + 1) ∧ (∀ i, i < 3 * m → aI S1 r i = aI S r i) ∧ ((∃ k' n' n'', k + 5 ≤ k' ∧ gud o h S1 k' (6, n', (if p = 0 then 1 else n), n'') ∧ (∀ j, k ≤ j → j < k' → o.2.2.2.2 j ≠ 59) ∧ (k' < o.2.2.2.1 → 48 ≤ o.2.2.2.2 k' → o.2.2.2.2 k' ≤ 57 → stp (6, n', (if p = 0 then 1 else n), n'') (o.2.2.2.2 k') = none) ∧ aI S1 r (3 * m) = aI S r (3 * m) ∧ aI S1 r (3 * m + 1) = nI n'' ∧ aI S1 r (3 * m + 2) = nI n') ∨ bad o h S1) := by
  have h60 := ho.2.2.2.1
  have est : stp (p, n, x) 120 = some (2, n, (if p = 0 then 1 else n), x.2) := by
    rcases hp with ⟨e, -⟩ | e <;> subst e <;> rfl
  obtain ⟨S1, e1, e2, e3, e4, e5⟩ := m_wantc (r := r) ho G (c := 120) (by decide) est (show p ≠ 6 by rcases hp with ⟨e, -⟩ | e <;> omega) (fun z y => by
    rcases hp with ⟨e, e', e''⟩ | e
    · exact absurd e'' y
    · exact sig (Or.inr (Or.inr e)) ⟨fun y2 => by have y2 : p = 2 := y2; omega, fun y2 => by have y2 : p = 4 := y2; omega, fun _ => rfl⟩ y (fun _ => hd e z))
  have H1 := H.w e2
  unfold f_X5_readOne_B46
  rw [show b2 (decide (ltr o k = 120)) = b2 (decide (ltr o k = nI 120)) from rfl, e1, bd_s]
  rcases e5 with ⟨G1, k1, k2⟩ | B1
  · obtain ⟨S4, c1, c2, c3, c4, c5⟩ := m_B64 H1 ho hm (e4.trans h89) G1
    rw [m_letter H1 ho G1.1 (by omega), bd_s, if_b]
    refine ⟨S4, c1, e2.tr c2, c3, fun i hi => (c4 i hi).trans (by rw [e3]), ?_⟩
    rcases c5 with ⟨k', n', n'', d1, d2, d3, d4, d5, d6, d7⟩ | B4
    · refine Or.inl ⟨k', n', n'', by omega, d2, fun j q1 q2 => ?_, d4, d5.trans (by rw [e3]), d6, d7⟩
      by_cases y : j = k
      · rw [y, k2]; decide
      · exact d3 j (by omega) q2
    · exact Or.inr B4
  · obtain ⟨w', j, b1, b2', b3, b4⟩ := id B1
    obtain ⟨S4, c1, c2, c3, c4, c5⟩ := m_B64b H1 ho hm (e4.trans h89) B1 (b2 (decide (ltr o j = 61)))
    rw [m_letter H1 ho b3 (by omega), bd_s, if_b]
    exact ⟨S4, c1, e2.tr c2, c3, fun i hi => (c4 i hi).trans (by rw [e3]), Or.inr c5⟩
theorem m_readOne {S : PS} {h z s b r : Nat} {o : OS} (H : MM S h z s b r o) (ho : OKs o) {m : Nat} (hm : m ≤ 10) (h89 : fI S 89 h = nI m) {k n : Nat} {x : Nat × Nat} (G : gud o h S k (0, n, x)) : ∃ S1, f_X5_readOne S h = some S1 ∧ RO o h r m k S S1 := by
  have h60 := ho.2.2.2.1
  have gk := G.2.2.1
  unfold f_X5_readOne f_X5_readOne_B30
  rw [rr H.1, m_letter H ho G.1 (by omega), bd_s, h89, show (3 : Int32) * nI m = nI (3 * m) from pk_mul 3 m]
  by_cases q : ltr o k = 120
  · obtain ⟨q1, q2⟩ := (ltr_eq ho (c := 120) (by decide)).mp q
    have H1 : MM (sA S r (nI (3 * m)) 1) h z s b r o := H.w wf.A
    have G1 : gud o h (sA S r (nI (3 * m)) 1) k (0, n, x) := G.p rfl rfl
    obtain ⟨S4, c1, c2, c3, c4, c5⟩ := m_B46 H1 ho hm (show fI (sA S r (nI (3 * m)) 1) 89 h = nI m from h89) G1 (Or.inl ⟨rfl, q1, q2⟩) (fun y => absurd y (by decide))
    rw [if_pos q, ck_t (jrd H.1 (by omega)), m_letter H1 ho G1.1 (by omega), bd_s, if_b]
    refine ⟨S4, c1, wf.A.tr c2, c3, fun i hi => (c4 i hi).trans (aI_An (S := S) (by omega) (by omega)), ?_⟩
    rcases c5 with ⟨k', n', n'', d1, d2, d3, d4, d5, d6, d7⟩ | B4
    · exact Or.inl ⟨k', _, d1, d2, rfl, d3, d4, d5.trans (aI_As (S := S) (by omega)), d6, d7⟩
    · exact Or.inr B4
  · rw [if_neg q]
    obtain ⟨S2, v, f1, f2, f3, f4, f5⟩ := m_number H ho G (low := 1) (p := 1) (Or.inl ⟨rfl, rfl, rfl⟩) (fun _ y1 y2 => q ((ltr_eq ho (c := 120) (by decide)).mpr ⟨y1, y2⟩))
    have H2 := H.w f2
    have H3 : MM (sA S2 r (nI (3 * m)) v) h z s b r o := H2.w wf.A
    have h89' : fI (sA S2 r (nI (3 * m)) v) 89 h = nI m := by
      show fI S2 89 h = nI m
      rw [f4, h89]
    have row : ∀ i, i < 3 * m → aI (sA S2 r (nI (3 * m)) v) r i = aI S r i := fun i hi => (aI_An (S := S2) (by omega) (by omega)).trans (by rw [f3])
    have f1 : f_X5_number S h 1 = some (v, S2) := f1
    rw [f1, bd_s, ck_t (jrd H2.1 (by omega))]
    rcases f5 with ⟨k', n', a1, a2, a3, a4, a5⟩ | B2
    · have G3 : gud o h (sA S2 r (nI (3 * m)) v) k' (1, n', x) := a3.p rfl rfl
      have gk' := a3.2.2.1
      obtain ⟨S4, c1, c2, c3, c4, c5⟩ := m_B46 H3 ho hm h89' G3 (Or.inr rfl) (fun _ => a5)
      rw [m_letter H3 ho G3.1 (by omega), bd_s, if_b]
      refine ⟨S4, c1, f2.tr (wf.A.tr c2), c3, fun i hi => (c4 i hi).trans (row i hi), ?_⟩
      rcases c5 with ⟨k2', n2', n2'', d1, d2, d3, d4, d5, d6, d7⟩ | B4
      · refine Or.inl ⟨k2', _, by omega, d2, rfl, fun j q1 q2 => ?_, d4, (d5.trans (aI_As (S := S2) (by omega))).trans a1, d6, d7⟩
        by_cases y2 : j < k'
        · exact a4 j q1 y2
        · exact d3 j (by omega) q2
      · exact Or.inr B4
    · have B3 : bad o h (sA S2 r (nI (3 * m)) v) := B2.p rfl rfl
      obtain ⟨w', j, b1, b2', b3, b4⟩ := id B3
      obtain ⟨S4, c1, c2, c3, c4, c5⟩ := m_B46b H3 ho hm h89' B3 (b2 (decide (ltr o j = 120)))
      rw [m_letter H3 ho b3 (by omega), bd_s, if_b]
      exact ⟨S4, c1, f2.tr (wf.A.tr c2), c3, fun i hi => (c4 i hi).trans (row i hi), Or.inr c5⟩
/-! the whole text -/
def RW (row : Nat → Int32) : Nat → List CT → Prop
  | _, [] => True
  | i, z :: l => row (3 * i) = nI z.1 ∧ row (3 * i + 1) = nI z.2.1 ∧ row (3 * i + 2) = nI z.2.2.1 ∧ RW row (i + 1) l
theorem sl_skip {bc : Nat → Nat} : ∀ n k k', k ≤ k' → k' ≤ k + n → (∀ j, k ≤ j → j < k' → bc j ≠ 59) → sl bc n k = sl bc (n - (k' - k)) k'
  | 0, k, k', h1, h2, _ => by
    have e : k' = k := by omega
    rw [e, Nat.sub_self]
  | n + 1, k, k', h1, h2, h3 => by
    rcases Nat.eq_or_lt_of_le h1 with q | q
    · rw [← q, Nat.sub_self]; rfl
    · have ih := sl_skip (bc := bc) n (k + 1) k' (by omega) (by omega) (fun j a b => h3 j (by omega) b)
      show (if bc k = 59 then cdo (rn bc k) :: sl bc n (k + 1) else sl bc n (k + 1)) = _
      rw [if_neg (h3 k (Nat.le_refl _) q), ih]
      congr 1
      omega
theorem flt_fe {o : OS} {e : Nat} (h : flt o e) : fe o.2.2.2.2 o.2.2.2.1 = e := by
  obtain ⟨h1, q, h2, h3, h4⟩ := h
  rcases Nat.eq_or_lt_of_le h1 with y | y
  · rw [y] at h2 ⊢
    exact fe_t h2
  · exact fe_k h2 y (h4 y)
theorem flt_vl {o : OS} {e : Nat} (h : flt o e) : vl o.2.2.2.2 o.2.2.2.1 = false := by
  obtain ⟨h1, q, h2, h3, h4⟩ := h
  unfold vl
  rcases Nat.eq_or_lt_of_le h1 with y | y
  · rw [y] at h2
    rw [h2]
    exact decide_eq_false (h3 y)
  · have : rn o.2.2.2.2 (e + 1) = none := by rw [rn_s h2, h4 y]
    rw [rn_n this o.2.2.2.1 y]
def RB (o : OS) (h r m k : Nat) (S : PS) (e : Option (Int32 × PS)) : Prop := ∃ S1 w, e = some (w, S1) ∧ wf r S S1 ∧ (∀ i, i < 3 * m → aI S1 r i = aI S r i) ∧ ((w = -1 ∧ vl o.2.2.2.2 o.2.2.2.1 = true ∧ fI S1 89 h = nI (m + (sl o.2.2.2.2 (o.2.2.2.1 - k) k).length) ∧ m + (sl o.2.2.2.2 (o.2.2.2.1 - k) k).length ≤ 11 ∧ RW (aI S1 r) m (sl o.2.2.2.2 (o.2.2.2.1 - k) k)) ∨ (∃ e, w = nI e ∧ flt o e))
theorem m_rb {h z s b r : Nat} {o : OS} (ho : OKs o) : ∀ fu S m k n x, 63 < fu + k → 6 * m ≤ k → MM S h z s b r o → fI S 89 h = nI m → gud o h S k (0, n, x) → RB o h r m k S (f_X5_readBuffer_L17 f_X5_readBuffer_B89 fu S h 1) := by
  intro fu
  induction fu with
  | zero => intro S m k n x h1 h2 H h89 G; have := ho.2.2.2.1; have := G.2.2.1; omega
  | succ fu ih =>
    intro S m k n x h1 h2 H h89 G
    have h60 := ho.2.2.2.1
    have gk := G.2.2.1
    obtain ⟨S1, e1, e2, e3, e4, e5⟩ := m_readOne H ho (by omega) h89 G
    have H1 := H.w e2
    rw [show f_X5_readBuffer_L17 f_X5_readBuffer_B89 (fu + 1) S h 1 = f_X5_readBuffer_L17s (f_X5_readBuffer_L17 f_X5_readBuffer_B89 fu) f_X5_readBuffer_B89 S h 1 from rfl]
    unfold f_X5_readBuffer_L17s f_X5_readBuffer_B48 f_X5_readBuffer_B49 f_X5_readBuffer_B69 f_X5_readBuffer_B85
    rw [if_neg n10, e1, bd_s, if_pos (show (0 : Int32) = 0 from rfl), if_neg n10]
    have fin : ∀ S', 0 < fu → f_X5_readBuffer_L17 f_X5_readBuffer_B89 fu S' h 0 = some (fI S' 91 h, S') := fun S' hf => by
      obtain ⟨g, rfl⟩ : ∃ g, fu = g + 1 := ⟨fu - 1, by omega⟩
      show f_X5_readBuffer_L17s (f_X5_readBuffer_L17 f_X5_readBuffer_B89 g) f_X5_readBuffer_B89 S' h 0 = _
      unfold f_X5_readBuffer_L17s f_X5_readBuffer_B89
      rw [if_pos rfl]
    rcases e5 with ⟨k', q', a1, a2, a3, a4, a5, a6, a7, a8⟩ | B1
    · obtain ⟨g1, g2, g3, g4⟩ := id a2
      have okq := rn_ok g4
      rw [g2, if_pos rfl, H1.2.2.2.2.1, g1]
      have skip := sl_skip (bc := o.2.2.2.2) (o.2.2.2.1 - k) k k' (by omega) (by omega) a4
      rcases Nat.eq_or_lt_of_le g3 with y | y
      · rw [if_pos (by rw [y]; exact Int32.le_refl _), fin S1 (by omega), g2]
        refine ⟨S1, -1, rfl, e2, e4, Or.inl ⟨rfl, vl_iff.mpr ⟨q', by rw [← y]; exact g4, a3⟩, ?_, ?_, ?_⟩⟩
        · rw [skip, show o.2.2.2.1 - k - (k' - k) = 0 by omega]
          exact e3
        · rw [skip, show o.2.2.2.1 - k - (k' - k) = 0 by omega]
          show m + 1 ≤ 11
          omega
        · rw [skip, show o.2.2.2.1 - k - (k' - k) = 0 by omega]
          show RW _ m [cdo (rn o.2.2.2.2 k')]
          rw [g4]
          exact ⟨a6, a7, a8, trivial⟩
      · rw [if_neg (nle y (by omega)), m_letter H1 ho g1 (by omega), bd_s]
        have est : stp q' 59 = some (0, q'.2) := by
          unfold stp
          rw [if_neg (by decide)]
          unfold sgnS
          rw [if_neg (fun z => absurd z.1 (by decide)), if_neg (fun z => absurd z.1 (by decide)), if_neg (fun z => absurd z.1 (by decide)), if_pos ⟨rfl, a3⟩]
        have g2' := g2
        obtain ⟨S2, f1, f2, f3, f4, f5, f6⟩ := m_wants (r := r) g1 g2 (by omega) (decide (ltr o k' = 59))
        have H2 := H1.w f2
        rw [if_b (g := fun w => bd (f_X5_wants S1 h w) fun t1 => if fI t1 91 h = -1 then f_X5_readBuffer_L17 f_X5_readBuffer_B89 fu t1 h 1 else f_X5_readBuffer_L17 f_X5_readBuffer_B89 fu t1 h 0), f1, bd_s]
        by_cases d : ltr o k' = 59
        · obtain ⟨d1, d2⟩ := (ltr_eq ho (c := 59) (by decide)).mp d
          rw [decide_eq_true d, if_pos rfl] at f6
          have G2 : gud o h S2 (k' + 1) (0, q'.2) := ⟨f5, f6, d1, by rw [rn_s g4, d2, est]⟩
          obtain ⟨S3, w, i1, i2, i3, i4⟩ := ih S2 (m + 1) (k' + 1) q'.2.1 q'.2.2 (by omega) (by omega) H2 (f4.trans e3) G2
          rw [f6, if_pos rfl]
          have esl : sl o.2.2.2.2 (o.2.2.2.1 - k) k = cdq q' :: sl o.2.2.2.2 (o.2.2.2.1 - (k' + 1)) (k' + 1) := by
            rw [skip, show o.2.2.2.1 - k - (k' - k) = (o.2.2.2.1 - (k' + 1)) + 1 by omega]
            show (if o.2.2.2.2 k' = 59 then cdo (rn o.2.2.2.2 k') :: _ else _) = _
            rw [if_pos d2, g4]
            rfl
          refine ⟨S3, w, i1, (e2.tr f2).tr i2, fun i hi => (i3 i (by omega)).trans (by rw [f3]; exact e4 i hi), ?_⟩
          rcases i4 with ⟨j1, j2, j3, j4, j5⟩ | B3
          · refine Or.inl ⟨j1, j2, ?_, ?_, ?_⟩
            · rw [esl, List.length_cons, show m + ((sl o.2.2.2.2 (o.2.2.2.1 - (k' + 1)) (k' + 1)).length + 1) = m + 1 + (sl o.2.2.2.2 (o.2.2.2.1 - (k' + 1)) (k' + 1)).length by omega]
              exact j3
            · rw [esl, List.length_cons]; omega
            · rw [esl]
              exact ⟨(i3 _ (by omega)).trans (by rw [f3]; exact a6), (i3 _ (by omega)).trans (by rw [f3]; exact a7), (i3 _ (by omega)).trans (by rw [f3]; exact a8), j5⟩
          · exact Or.inr B3
        · rw [decide_eq_false d, if_neg (by decide)] at f6
          rw [f6, if_neg (nm1 (by omega)), fin S2 (by omega), f6]
          refine ⟨S2, nI k', rfl, e2.tr f2, fun i hi => by rw [f3]; exact e4 i hi, Or.inr ⟨k', rfl, g3, q', g4, fun z => by omega, fun z => ?_⟩⟩
          have nd : o.2.2.2.2 k' ≠ 59 := fun z2 => d ((ltr_eq ho (c := 59) (by decide)).mpr ⟨z, z2⟩)
          by_cases y2 : 48 ≤ o.2.2.2.2 k' ∧ o.2.2.2.2 k' ≤ 57
          · exact a5 z y2.1 y2.2
          · unfold stp
            rw [if_neg y2]
            unfold sgnS
            rw [if_neg (fun z => by omega), if_neg (fun z => by omega), if_neg (fun z => by omega), if_neg (fun z => by omega)]
    · obtain ⟨w', j, b1, b2', b3, b4⟩ := id B1
      have := b2'.1
      rw [b1, if_neg (nm1 (by omega)), fin S1 (by omega), b1]
      exact ⟨S1, nI w', rfl, e2, e4, Or.inr ⟨w', rfl, b2'⟩⟩
theorem m_readBuffer {S : PS} {h z s b r : Nat} {o : OS} (H : MM S h z s b r o) (ho : OKs o) : ∃ S1 w, f_X5_readBuffer S h = some (w, S1) ∧ wf r S S1 ∧ ((w = -1 ∧ vl o.2.2.2.2 o.2.2.2.1 = true ∧ fI S1 89 h = nI (sl o.2.2.2.2 o.2.2.2.1 0).length ∧ (sl o.2.2.2.2 o.2.2.2.1 0).length ≤ 11 ∧ RW (aI S1 r) 0 (sl o.2.2.2.2 o.2.2.2.1 0)) ∨ (∃ e, w = nI e ∧ flt o e)) := by
  have W : wf r S (sI (sI (sI S 89 h 0) 90 h 0) 91 h (-1)) := ((wf.I (by decide) (by decide)).tr (wf.I (by decide) (by decide))).tr (wf.I (by decide) (by decide))
  have G : gud o h (sI (sI (sI S 89 h 0) 90 h 0) 91 h (-1)) 0 (0, 0, 1, 0) := ⟨(fI_ne (by decide)).trans fI_s, fI_s, Nat.zero_le _, rfl⟩
  obtain ⟨S1, w, e1, e2, e3, e4⟩ := m_rb ho FU _ 0 0 0 (1, 0) (by unfold FU; omega) (by omega) (H.w W) ((fI_ne (by decide)).trans ((fI_ne (by decide)).trans fI_s)) G
  refine ⟨S1, w, e1, W.tr e2, ?_⟩
  rw [Nat.zero_add, Nat.sub_zero] at e4
  exact e4
def o_first (o : OS) : Nat × Int32 × OS := (0, nI (fe o.2.2.2.2 o.2.2.2.1), o)
theorem m_firstError {S : PS} {h z s b r : Nat} {o : OS} (H : MM S h z s b r o) (ho : OKs o) : MO S h z s b r (f_X5_firstError S h) (o_first o) := by
  have h60 := ho.2.2.2.1
  obtain ⟨S1, w, e1, e2, e3⟩ := m_readBuffer (H.t (v := 0)) ho
  have H1 := (H.t (v := 0)).w e2
  have e80 : fI S1 80 h = nI 0 := (e2.2.2.2.2.2.2.1 80 h (Or.inl (by decide))).trans fI_s
  unfold f_X5_firstError f_X5_firstError_B23
  rw [e1, bd_s]
  rcases e3 with ⟨a1, a2, -⟩ | ⟨e, a1, a2⟩
  · obtain ⟨q, v1, v2⟩ := vl_iff.mp a2
    rw [if_pos a1, H1.2.2.2.2.1]
    exact ⟨S1, _, rfl, (mfr.I).tr e2.m, e80, fun _ => by show nI o.2.2.2.1 = nI (fe o.2.2.2.2 o.2.2.2.1); rw [fe_t v1], H1⟩
  · have := a2.1
    rw [a1, if_neg (show ¬ nI e = -1 from nm1 (by omega))]
    exact ⟨S1, _, rfl, (mfr.I).tr e2.m, e80, fun _ => by show nI e = nI (fe o.2.2.2.2 o.2.2.2.1); rw [flt_fe a2], H1⟩
theorem m_save2 {S : PS} {h z s b r : Nat} {o : OS} (H : MM S h z s b r o) (ho : OKs o) : ∃ S1, f_X5_save S h = some S1 ∧ mfr h z s b r S S1 ∧ MM S1 h z s b r (svO o) ∧ (∀ i, i ≠ 83 → fI S1 i h = fI S i h) ∧ aI S1 r = aI S r := by
  obtain ⟨v, e, w⟩ := m_save_row H ho
  obtain ⟨R, Z, v1, v2, t1, t2⟩ := H
  have c : mfr h z s b r S (sI (sW S s v) 83 h (nI (svN o.2.1))) := mfr.s.tr mfr.I
  refine ⟨_, e, c, ⟨R.fr c, ?_, fI_s, ?_, ?_, ?_⟩, fun i hi => fI_ne hi, aI_Wn R.sr'.symm⟩
  · show SQ (aI (sW S s v) z) o.1
    rw [aI_Wn R.zs]; exact Z
  · show ∀ q, q < svN o.2.1 → SQ (fun j => aI (sW S s v) s (45 * q + j)) (svG o.2.1 o.2.2.1 o.1 q)
    rw [aI_W]; exact w
  · exact (fI_ne (by decide)).trans t1
  · show ∀ j, j < o.2.2.2.1 → aI (sW S s v) b j = nI (o.2.2.2.2 j)
    rw [aI_Wn R.sb.symm]; exact t2
theorem m_read {S : PS} {h z s b r : Nat} {o : OS} (H : MM S h z s b r o) (ho : OKs o) : MO S h z s b r (f_X5_read S h) (o_read o) := by
  have h60 := ho.2.2.2.1
  obtain ⟨S1, w, e1, e2, e3⟩ := m_readBuffer H ho
  have H1 := H.w e2
  unfold f_X5_read f_X5_read_B14 o_read
  rw [e1, bd_s]
  rcases e3 with ⟨a1, a2, a3, a4, a5⟩ | ⟨e, a1, a2⟩
  · rw [if_pos a1, if_pos (by rw [fI_s]; exact Int32.le_refl _), if_pos a2]
    obtain ⟨S2, s1, s2, s3, s4, s5⟩ := m_save2 (H1.t (v := 0)) ho
    rw [s1, bd_s]
    have hlg : ∀ z, z ∈ sl o.2.2.2.2 o.2.2.2.1 0 → gd z ∧ z.2.2.2 = true := sl_gd _ _ (by rw [Nat.zero_add]; exact a2)
    have f89 : fI S2 89 h = nI (sl o.2.2.2.2 o.2.2.2.1 0).length := (s4 89 (by decide)).trans ((fI_ne (by decide)).trans a3)
    have f80 : fI S2 80 h = nI 0 := (s4 80 (by decide)).trans fI_s
    have rw0 : RW (aI S2 r) 0 (sl o.2.2.2.2 o.2.2.2.1 0) := by rw [s5]; exact a5
    have m0 : mfr h z s b r S S2 := e2.m.tr ((mfr.I).tr s2)
    obtain ⟨k1, k2, k3, k4, k5⟩ := svO_ok ho
    have loop : ∀ (l : List CT) (d : Nat) (x : CS) (fu : Nat) (S' : PS), l.length < fu → d + l.length ≤ 11 → OKc x → (∀ z, z ∈ l → gd z ∧ z.2.2.2 = true) → mfr h z s b r S S' → fI S' 80 h = nI 0 → fI S' 89 h = nI (d + l.length) → RW (aI S' r) d l → MM S' h z s b r (x, (svO o).2) → MO S h z s b r (f_X5_read_L32 f_X5_read_B91 fu S' h (nI d)) (0, nI (d + (adl x l).2), ((adl x l).1, (svO o).2.1, (svO o).2.2.1, 0, o.2.2.2.2)) := by
      intro l
      induction l with
      | nil =>
        intro d x fu S' hf hd hx hg mf t80 t89 rw' M
        obtain ⟨g, rfl⟩ : ∃ g, fu = g + 1 := ⟨fu - 1, by have : (0 : Nat) < fu := hf; omega⟩
        rw [show f_X5_read_L32 f_X5_read_B91 (g + 1) S' h (nI d) = f_X5_read_L32s (f_X5_read_L32 f_X5_read_B91 g) f_X5_read_B91 S' h (nI d) from rfl]
        unfold f_X5_read_L32s f_X5_read_B91
        have t89 : fI S' 89 h = nI d := t89
        rw [t89, if_pos (Int32.le_refl _)]
        exact ⟨_, _, rfl, mf.tr mfr.I, (fI_ne (by decide)).trans t80, fun _ => rfl, M.cl⟩
      | cons y l ih =>
        intro d x fu S' hf hd hx hg mf t80 t89 rw' M
        have hf : l.length + 1 < fu := hf
        have hd : d + (l.length + 1) ≤ 11 := hd
        obtain ⟨g, rfl⟩ : ∃ g, fu = g + 1 := ⟨fu - 1, by omega⟩
        obtain ⟨r1, r2, r3, r4⟩ := rw'
        obtain ⟨gy, oy⟩ := hg y List.mem_cons_self
        have ey : (y.1, y.2.1, y.2.2.1, true) = y := by rw [← oy]
        have oks : OKs (x, (svO o).2) := ⟨hx, k2, k3, k4, k5⟩
        have V := M.mv oks
        rw [show f_X5_read_L32 f_X5_read_B91 (g + 1) S' h (nI d) = f_X5_read_L32s (f_X5_read_L32 f_X5_read_B91 g) f_X5_read_B91 S' h (nI d) from rfl]
        unfold f_X5_read_L32s
        have t89 : fI S' 89 h = nI (d + (l.length + 1)) := t89
        have gy' : gd (y.1, y.2.1, y.2.2.1, true) := by rw [ey]; exact gy
        obtain ⟨rw2, ce, cl, cm⟩ := m_canAdd V hx.1 gy'
        rw [ey] at ce cm
        have T0 : MM (sW S' z rw2) h z s b r (x, (svO o).2) := M.q mfr.z rfl rfl (fun j hj => by rw [aI_W]; exact cl j hj) (aI_Wn M.1.zs.symm) (aI_Wn M.1.zb.symm)
        rw [t89, if_neg (nle (by omega) (by omega)), rr M.1, show (3 : Int32) * nI d = nI (3 * d) from pk_mul 3 d, ck_t (jrd M.1 (by omega)), rr M.1, show nI (3 * d) + (1 : Int32) = nI (3 * d + 1) from nI_1 _, ck_t (jrd M.1 (by omega)), rr M.1, i2, nI_add, ck_t (jrd M.1 (by omega)), nI_clamp (by omega), nI_clamp (by omega), nI_clamp (by omega), r1, r2, r3, ce, bd_s]
        have ead : adl x (y :: l) = if cn x.2 x.1 y = true then ((adl (x.1 + 1, fa x.2 x.1 y) l).1, (adl (x.1 + 1, fa x.2 x.1 y) l).2 + 1) else (x, 0) := rfl
        cases hc : cn x.2 x.1 y
        · rw [b2_f, if_pos rfl, ead, hc, if_neg (by decide)]
          unfold f_X5_read_B91
          exact ⟨_, _, rfl, (mf.tr mfr.z).tr mfr.I, (fI_ne (by decide)).trans t80, fun _ => rfl, T0.cl⟩
        · have hM := cm hc
          have R4 : MR (sW S' z rw2) h z s b r := T0.1
          have V4 : MV (sW S' z rw2) h z x.1 (x.1 + 1) (fa x.2 x.1 y) := hM
          have ez : aI (sW S' z rw2) z (0 : Int32).toNatClampNeg = nI x.1 := m_sz V4
          have M5 : MM (sW S' z (upd rw2 0 (nI x.1 + 1))) h z s b r ((x.1 + 1, fa x.2 x.1 y), (svO o).2) := M.row ⟨by rw [pk_us, nI_1], fun c hc' => by
            have := V4.2.2.2.2 c hc'
            rw [aI_W] at this
            rw [pk_un (by omega), pk_un (by omega), pk_un (by omega), pk_un (by omega)]
            exact ⟨this.1, this.2.1, this.2.2.1, this.2.2.2.1⟩⟩
          rw [b2_t, if_neg n10, rz R4, ck_t (j0 R4), ck_t (j0 R4), ez, sA_W, cl0, nI_1 d, ead, hc, if_pos rfl]
          have I := ih (d + 1) (x.1 + 1, fa x.2 x.1 y) g (sW S' z (upd rw2 0 (nI x.1 + 1))) (by omega) (by omega) (cn_ok hx gy oy hc) (fun z hz => hg z (List.mem_cons_of_mem _ hz)) (mf.tr mfr.z) t80 (by rw [show d + 1 + l.length = d + (l.length + 1) by omega]; exact t89) (by rw [aI_Wn M.1.zr.symm]; exact r4) M5
          rw [show d + 1 + (adl (x.1 + 1, fa x.2 x.1 y) l).2 = d + ((adl (x.1 + 1, fa x.2 x.1 y) l).2 + 1) by omega] at I
          exact I
    have L := loop (sl o.2.2.2.2 o.2.2.2.1 0) 0 o.1 FU S2 (by unfold FU; omega) (by omega) ho.1 hlg m0 f80 (by rw [Nat.zero_add]; exact f89) rw0 s3
    rw [Nat.zero_add] at L
    exact L
  · have := a2.1
    rw [a1, if_neg (show ¬ nI e = -1 from nm1 (by omega)), if_neg (by rw [fI_s]; decide), if_neg (by rw [flt_vl a2]; decide)]
    exact MO.no (n := 1) H1 e2.m (by decide)

/-! ===== the reference: sets of conditions ===== -/
theorem m_isOn {S : PS} {h hz sz k : Nat} {f : Nat → CT} (H : MV S h hz sz k f) {c : Nat} (hc : c < k) : f_X5_isOn S h (nI c) = some (b2 (f c).2.2.2) := by
  unfold f_X5_isOn
  rw [m_of3 H hc, bd_s]
  cases (f c).2.2.2
  · rw [b2_f, if_neg (by decide)]; exact ckb0
  · rw [b2_t, if_pos rfl]; exact ckb1
theorem m_in3 {v l h : Int32} : f_X5_in v l h = some (b2 (decide (l ≤ v) && decide (v ≤ h))) := by
  unfold f_X5_in
  by_cases a : v < l
  · rw [if_pos a, decide_eq_false (Int32.not_le.mpr a)]; exact ckb0
  · rw [if_neg a, decide_eq_true (Int32.not_lt.mp a)]
    by_cases b : h < v
    · rw [if_pos b, decide_eq_false (Int32.not_le.mpr b)]; exact ckb0
    · rw [if_neg b, decide_eq_true (Int32.not_lt.mp b)]; exact ckb1
theorem m_there {S : PS} {h hz sz k : Nat} {f : Nat → CT} (H : MV S h hz sz k f) (c : Int32) : f_X5_isThere S h c = some (b2 (decide (0 ≤ c) && decide (c < nI sz))) := by
  unfold f_X5_isThere
  by_cases a : c < 0
  · rw [if_pos a, decide_eq_false (Int32.not_le.mpr a)]; exact ckb0
  · rw [if_neg a, decide_eq_true (Int32.not_lt.mp a), m_z0 H, ck_t (m_in0 H), m_sz H]
    by_cases b : nI sz ≤ c
    · rw [if_pos b, decide_eq_false (Int32.not_lt.mpr b)]; exact ckb0
    · rw [if_neg b, decide_eq_true (Int32.not_le.mp b)]; exact ckb1
/-- those that are on, as a mask -/
def onm (f : Nat → CT) (n : Nat) : Nat := msk (fun c => (f c).2.2.2) n
theorem onm_lt (f : Nat → CT) (n : Nat) : onm f n < 2 ^ n := msk_lt _ _
theorem onm_bit (f : Nat → CT) (n i : Nat) : (onm f n).testBit i = (decide (i < n) && (f i).2.2.2) := msk_bit _ _ _
theorem m_onSet {S : PS} {h hz sz k : Nat} {f : Nat → CT} (H : MV S h hz sz k f) : f_X5_onSet S h = some (nI (onm f sz)) := by
  have hk := H.2.2.1
  have hk2 := H.2.2.2.1
  unfold f_X5_onSet
  refine lp_asc (L := fun n c => f_X5_onSet_L4 S (f_X5_onSet_B38 S) n h (nI (onm f c)) (nI c)) (e := sz) (fun n => ?_) (fun n c hc => ?_) FU 0 (by omega) (by unfold FU; omega)
  · show f_X5_onSet_L4s S (f_X5_onSet_L4 S (f_X5_onSet_B38 S) n) (f_X5_onSet_B38 S) h (nI (onm f sz)) (nI sz) = _
    unfold f_X5_onSet_L4s
    rw [m_z0 H, ck_t (m_in0 H), m_sz H, if_pos (Int32.le_refl _)]
    rfl
  · show f_X5_onSet_L4s S (f_X5_onSet_L4 S (f_X5_onSet_B38 S) n) (f_X5_onSet_B38 S) h (nI (onm f c)) (nI c) = _
    unfold f_X5_onSet_L4s
    rw [m_z0 H, ck_t (m_in0 H), m_sz H, if_neg (fun z => by have := (nI_leI (by omega) (by omega)).mp z; omega), m_isOn H (by omega), bd_s]
    show _ = f_X5_onSet_L4 S (f_X5_onSet_B38 S) n h (nI (msk (fun c => (f c).2.2.2) c ||| (if (f c).2.2.2 = true then 2 ^ c else 0))) (nI (c + 1))
    cases hv : (f c).2.2.2
    · rw [b2_f, if_pos rfl, if_neg (by decide)]
      unfold f_X5_onSet_B30
      rw [nI_1, i0, n_or]
      rfl
    · rw [b2_t, if_neg (by decide), if_pos rfl]
      unfold f_X5_onSet_B30
      rw [nI_1, n_shl (by omega), n_or]
      rfl
/-- a set is possible together -/
def ps (s : Nat) (f : Nat → CT) : Bool := al (fun c => al (fun d => !(s.testBit c && s.testBit d) || ag (f c) (f d)) 11) 11
theorem ps_iff {s : Nat} {f : Nat → CT} : ps s f = true ↔ ∀ c d, c < 11 → d < 11 → s.testBit c = true → s.testBit d = true → ag (f c) (f d) = true := by
  unfold ps
  rw [al_iff]
  constructor
  · intro h c d hc hd b1 b2
    have := al_iff.mp (h c hc) d hd
    rw [b1, b2] at this
    simpa using this
  · intro h c hc
    rw [al_iff]
    intro d hd
    cases b1 : s.testBit c
    · simp
    · cases b2 : s.testBit d
      · simp
      · simp [h c d hc hd b1 b2]
theorem ps_f {s : Nat} {f : Nat → CT} : ps s f = false ↔ ∃ c d, c < 11 ∧ d < 11 ∧ s.testBit c = true ∧ s.testBit d = true ∧ ag (f c) (f d) = false := by
  constructor
  · intro h
    apply Classical.byContradiction
    intro q
    have : ps s f = true := ps_iff.mpr (fun c d hc hd b1 b2 => by
      cases h3 : ag (f c) (f d) with
      | true => rfl
      | false => exact absurd ⟨c, d, hc, hd, b1, b2, h3⟩ q)
    rw [h] at this
    cases this
  · rintro ⟨c, d, hc, hd, b1, b2, h3⟩
    cases h : ps s f with
    | false => rfl
    | true => rw [ps_iff.mp h c d hc hd b1 b2] at h3; cases h3
/-- no condition of a possible set is void -/
theorem ps_vo {s : Nat} {f : Nat → CT} (h : ps s f = true) {c : Nat} (hc : c < 11) (b : s.testBit c = true) : vo (f c) = false := by
  have := ps_iff.mp h c c hc hc b b
  unfold ag at this
  cases hv : vo (f c) with
  | false => rfl
  | true => rw [hv] at this; cases this
theorem m_poss {S : PS} {h hz sz k : Nat} {f : Nat → CT} (H : MV S h hz sz k f) {s : Nat} (hs : s < 2 ^ k) (hs2 : s < 2 ^ (sz + 1)) (hs3 : s < 2 ^ 11) (h10 : sz ≤ 10) : f_X5_isPossible S h (nI s) = some (b2 (ps s f)) := by
  have hk2 := H.2.2.2.1
  have hs31 : s < 2 ^ 31 := Nat.lt_of_lt_of_le hs3 (by decide)
  have inb : ∀ c, s.testBit c = true → c < k := fun c hb => by
    rcases Nat.lt_or_ge c k with q | q
    · exact q
    · rw [bit_hi hs q] at hb; cases hb
  let R : Nat → Nat → Bool := fun c d => !(s.testBit c && s.testBit d) || ag (f c) (f d)
  -- the inner loop
  have inner : ∀ (ke : Nat → Int32 → Int32 → Int32 → Option Int32) (c : Nat), c ≤ sz → ∀ (acc : Bool), f_X5_isPossible_L17 S ke FU h (nI s) (b2 acc) (nI c) (nI 0) = ke h (nI s) (b2 (acc && al (R c) (c + 1))) (nI c) := by
    intro ke c hc acc
    refine lp_asc (L := fun n d => f_X5_isPossible_L17 S ke n h (nI s) (b2 (acc && al (R c) d)) (nI c) (nI d)) (e := c + 1) (r := ke h (nI s) (b2 (acc && al (R c) (c + 1))) (nI c)) (fun n => ?_) (fun n d hd => ?_) FU 0 (by omega) (by unfold FU; omega) |> fun z => by simpa [al] using z
    · show f_X5_isPossible_L17s S (f_X5_isPossible_L17 S ke n) ke h (nI s) (b2 (acc && al (R c) (c + 1))) (nI c) (nI (c + 1)) = _
      unfold f_X5_isPossible_L17s
      rw [if_pos (nI_lt (by omega) (by omega))]
    · show f_X5_isPossible_L17s S (f_X5_isPossible_L17 S ke n) ke h (nI s) (b2 (acc && al (R c) d)) (nI c) (nI d) = f_X5_isPossible_L17 S ke n h (nI s) (b2 (acc && al (R c) (d + 1))) (nI c) (nI (d + 1))
      have e1 : al (R c) (d + 1) = (al (R c) d && R c d) := rfl
      rw [e1, ← Bool.and_assoc]
      generalize (acc && al (R c) d) = acc2
      unfold f_X5_isPossible_L17s
      rw [if_neg (fun z => by have := (nI_ltI (by omega) (by omega)).mp z; omega), n_bitv hs31 (by omega), n_bitv hs31 (by omega)]
      have fin : ∀ (x : Bool), (if b2 acc2 = 0 then f_X5_isPossible_B72 S (f_X5_isPossible_L17 S ke n) ke h (nI s) (nI c) (nI d) else (if b2 x = 0 then f_X5_isPossible_B72 S (f_X5_isPossible_L17 S ke n) ke h (nI s) (nI c) (nI d) else f_X5_isPossible_B68 S (f_X5_isPossible_L17 S ke n) ke h (nI s) (nI c) (nI d))) = f_X5_isPossible_L17 S ke n h (nI s) (b2 (acc2 && x)) (nI c) (nI (d + 1)) := by
        intro x
        unfold f_X5_isPossible_B72 f_X5_isPossible_B68 f_X5_isPossible_B73
        rw [nI_1]
        cases acc2 <;> cases x <;> rfl
      by_cases hb : s.testBit c = true ∧ s.testBit d = true
      · rw [hb.1, hb.2, b2_t, if_pos rfl, if_pos rfl]
        unfold f_X5_isPossible_B47
        have eR : R c d = ag (f c) (f d) := by show (!(s.testBit c && s.testBit d) || ag (f c) (f d)) = _; rw [hb.1, hb.2]; rfl
        rw [if_neg (show ¬ (1 : Int32) = 0 by decide), m_go H (inb c hb.1) (inb d hb.2), bd_s, eR]
        exact fin _
      · have eR : R c d = true := by
          show (!(s.testBit c && s.testBit d) || ag (f c) (f d)) = true
          cases h1 : s.testBit c
          · rfl
          · cases h2 : s.testBit d
            · rfl
            · exact absurd ⟨h1, h2⟩ hb
        have go : f_X5_isPossible_B46 S (f_X5_isPossible_L17 S ke n) ke h (nI s) (b2 acc2) (nI c) (nI d) = f_X5_isPossible_L17 S ke n h (nI s) (b2 (acc2 && R c d)) (nI c) (nI (d + 1)) := by
          unfold f_X5_isPossible_B46 f_X5_isPossible_B47
          rw [if_pos rfl, eR]
          exact fin true
        cases h1 : s.testBit c
        · rw [b2_f, if_neg (by decide)]; exact go
        · rw [b2_t, if_pos rfl]
          cases h2 : s.testBit d
          · rw [b2_f, if_neg (by decide)]; exact go
          · exact absurd ⟨h1, h2⟩ hb
  unfold f_X5_isPossible
  have outer := lp_asc (L := fun n c => f_X5_isPossible_L4 S (f_X5_isPossible_B86 S) n h (nI s) (b2 (al (fun c => al (R c) (c + 1)) c)) (nI c)) (e := sz + 1) (r := some (b2 (al (fun c => al (R c) (c + 1)) (sz + 1)))) (fun n => by
    show f_X5_isPossible_L4s S (f_X5_isPossible_L4 S (f_X5_isPossible_B86 S) n) (f_X5_isPossible_B86 S) h (nI s) (b2 (al (fun c => al (R c) (c + 1)) (sz + 1))) (nI (sz + 1)) = _
    unfold f_X5_isPossible_L4s
    rw [m_z0 H, ck_t (m_in0 H), m_sz H, if_pos (nI_lt (by omega) (by omega))]
    unfold f_X5_isPossible_B86
    exact ckb2 _) (fun n c hc => by
    show f_X5_isPossible_L4s S (f_X5_isPossible_L4 S (f_X5_isPossible_B86 S) n) (f_X5_isPossible_B86 S) h (nI s) (b2 (al (fun c => al (R c) (c + 1)) c)) (nI c) = _
    unfold f_X5_isPossible_L4s
    rw [m_z0 H, ck_t (m_in0 H), m_sz H, if_neg (fun z => by have := (nI_ltI (by omega) (by omega)).mp z; omega), i0, inner _ c (by omega)]
    unfold f_X5_isPossible_B80
    rw [nI_1]
    rfl) FU 0 (by omega) (by unfold FU; omega)
  have e : al (fun c => al (R c) (c + 1)) (sz + 1) = ps s f := by
    rw [Bool.eq_iff_iff, al_iff, ps_iff]
    constructor
    · intro hh c d hc hd b1 b2
      have cs : ∀ c, s.testBit c = true → c < sz + 1 := fun c hb => by
        rcases Nat.lt_or_ge c (sz + 1) with q | q
        · exact q
        · rw [bit_hi hs2 q] at hb; cases hb
      have t : ∀ c d, s.testBit c = true → s.testBit d = true → d ≤ c → ag (f c) (f d) = true := by
        intro c d b1 b2 hdc
        have := al_iff.mp (hh c (cs c b1)) d (by omega)
        simp only [R, b1, b2] at this
        simpa using this
      rcases Nat.le_total d c with q | q
      · exact t c d b1 b2 q
      · rw [ag_sy]; exact t d c b2 b1 q
    · intro hh c hc
      rw [al_iff]
      intro d hd
      show (!(s.testBit c && s.testBit d) || ag (f c) (f d)) = true
      cases b1 : s.testBit c
      · simp
      · cases b2 : s.testBit d
        · simp
        · simp [hh c d (by omega) (by omega) b1 b2]
  rw [← e]
  exact outer

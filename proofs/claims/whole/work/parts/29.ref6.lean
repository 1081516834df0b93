/-! ===== the reference: the strongest, primes, blame ===== -/
/-- the first of the greatest weight above m0, and that weight -/
def bst (w : Nat → Nat) (m0 : Nat) : Nat → Int32 × Nat
  | 0 => (-1, m0)
  | n + 1 => if (bst w m0 n).2 < w n then (nI n, w n) else bst w m0 n
theorem bst_mx {w : Nat → Nat} {m0 : Nat} : ∀ n, m0 ≤ (bst w m0 n).2 ∧ ∀ c, c < n → w c ≤ (bst w m0 n).2
  | 0 => ⟨Nat.le_refl _, fun c h => by omega⟩
  | n + 1 => by
    obtain ⟨a, b⟩ := bst_mx (w := w) (m0 := m0) n
    unfold bst
    split
    · rename_i q
      refine ⟨by show m0 ≤ w n; omega, fun c h => ?_⟩
      show w c ≤ w n
      rcases Nat.lt_or_ge c n with r | r
      · have := b c r; omega
      · rw [show c = n by omega]; exact Nat.le_refl _
    · rename_i q
      refine ⟨a, fun c h => ?_⟩
      rcases Nat.lt_or_ge c n with r | r
      · exact b c r
      · rw [show c = n by omega]; omega
theorem bst_ex {w : Nat → Nat} {m0 : Nat} : ∀ n, bst w m0 n = (-1, m0) ∨ ∃ b, b < n ∧ bst w m0 n = (nI b, w b) ∧ m0 < w b
  | 0 => Or.inl rfl
  | n + 1 => by
    have mx := (bst_mx (w := w) (m0 := m0) n).1
    unfold bst
    split
    · exact Or.inr ⟨n, by omega, rfl, by omega⟩
    · rcases bst_ex (w := w) (m0 := m0) n with h | ⟨b, h1, h2, h3⟩
      · exact Or.inl h
      · exact Or.inr ⟨b, by omega, h2, h3⟩
theorem bst_2 {w : Nat → Nat} {m0 b : Nat} (hm : m0 ≤ b) : ∀ n, (∀ c, c < n → w c ≤ b) → (bst w m0 n).2 ≤ b
  | 0, _ => hm
  | n + 1, h => by
    unfold bst
    split
    · exact h n (by omega)
    · exact bst_2 hm n (fun c hc => h c (by omega))
theorem bst_cg {w w' : Nat → Nat} {m0 : Nat} : ∀ n, (∀ c, c < n → w c = w' c) → bst w m0 n = bst w' m0 n
  | 0, _ => rfl
  | n + 1, h => by
    unfold bst
    rw [bst_cg n (fun c hc => h c (by omega)), h n (by omega)]
def blw (f : Nat → CT) (sz c : Nat) : Nat := if (f c).2.2.2 = true then (if vo (f c) = true then pc (onm f sz) else agn f sz c) else 0
theorem onm_2048 {f : Nat → CT} {sz : Nat} (h : sz ≤ 11) : onm f sz < 2048 := onm_k h
theorem m_blamed {S : PS} {h hz sz k : Nat} {f : Nat → CT} (H : MV S h hz sz k f) : f_X5_blamed S h = some (bst (blw f sz) 0 sz).1 := by
  have hk := H.2.2.1
  have hk2 := H.2.2.2.1
  have hw : ∀ c, blw f sz c ≤ 11 := fun c => by
    have h1 := pc_le (onm f sz)
    have h2 := agn_le f sz c
    unfold blw
    split
    · split <;> omega
    · omega
  have h2 : ∀ n, (bst (blw f sz) 0 n).2 ≤ 11 := fun n => bst_2 (by omega) n (fun c _ => hw c)
  unfold f_X5_blamed
  refine lp_asc (L := fun n d => f_X5_blamed_L6 S (f_X5_blamed_B84 S) n h (bst (blw f sz) 0 d).1 (nI (bst (blw f sz) 0 d).2) (nI d)) (e := sz) (fun n => ?_) (fun n d hd => ?_) FU 0 (by omega) (by unfold FU; omega)
  · show f_X5_blamed_L6s S (f_X5_blamed_L6 S (f_X5_blamed_B84 S) n) (f_X5_blamed_B84 S) h (bst (blw f sz) 0 sz).1 (nI (bst (blw f sz) 0 sz).2) (nI sz) = _
    unfold f_X5_blamed_L6s
    rw [m_z0 H, ck_t (m_in0 H), m_sz H, if_pos (Int32.le_refl _)]
    rfl
  · show f_X5_blamed_L6s S (f_X5_blamed_L6 S (f_X5_blamed_B84 S) n) (f_X5_blamed_B84 S) h (bst (blw f sz) 0 d).1 (nI (bst (blw f sz) 0 d).2) (nI d) = f_X5_blamed_L6 S (f_X5_blamed_B84 S) n h (bst (blw f sz) 0 (d + 1)).1 (nI (bst (blw f sz) 0 (d + 1)).2) (nI (d + 1))
    have key : ∀ v, v = blw f sz d → f_X5_blamed_B51 S (f_X5_blamed_L6 S (f_X5_blamed_B84 S) n) (f_X5_blamed_B84 S) h (bst (blw f sz) 0 d).1 (nI (bst (blw f sz) 0 d).2) (nI d) (nI v) = f_X5_blamed_L6 S (f_X5_blamed_B84 S) n h (bst (blw f sz) 0 (d + 1)).1 (nI (bst (blw f sz) 0 (d + 1)).2) (nI (d + 1)) := by
      intro v hv
      have b1 := hw d
      have b2 := h2 d
      have eq : bst (blw f sz) 0 (d + 1) = if (bst (blw f sz) 0 d).2 < v then (nI d, v) else bst (blw f sz) 0 d := by rw [hv]; rfl
      unfold f_X5_blamed_B51 f_X5_blamed_B64 f_X5_blamed_B77
      rw [eq, nI_1]
      by_cases q : (bst (blw f sz) 0 d).2 < v
      · rw [if_neg (nle q (by omega)), if_neg (nle q (by omega)), if_pos q]
      · rw [if_pos (nI_le (by omega) (by omega)), if_pos (nI_le (by omega) (by omega)), if_neg q]
    unfold f_X5_blamed_L6s
    rw [m_z0 H, ck_t (m_in0 H), m_sz H, if_neg (nle hd (by omega)), m_isOn H (by omega), bd_s]
    cases ho : (f d).2.2.2
    · rw [b2_f, if_pos rfl, i0]
      exact key 0 (by unfold blw; rw [ho]; rfl)
    · rw [b2_t, if_neg n10, m_void H (by omega), bd_s]
      cases hv : vo (f d)
      · rw [b2_f, if_pos rfl, m_against H (by omega), bd_s]
        exact key _ (by unfold blw; rw [ho, hv]; rfl)
      · rw [b2_t, if_neg n10, m_onSet H, bd_s, m_bits (onm_2048 (by omega)), bd_s]
        exact key _ (by unfold blw; rw [ho, hv]; rfl)
def prb (n : Nat) : Bool := al (fun d => decide (d < 2) || !decide (n % d = 0)) n
def eqB (o : Option Int32) (b : Bool) : Bool := match o with
  | some v => v == b2 b
  | none => false
theorem eqB_e {o : Option Int32} {b : Bool} (h : eqB o b = true) : o = some (b2 b) := by
  unfold eqB at h
  split at h
  · rw [beq_iff_eq] at h; rw [h]
  · cases h
def prI (p : Int32) : Bool := (decide (2 ≤ p) && decide (p ≤ 31)) && prb p.toNatClampNeg
theorem m_pr_all : al (fun n => decide (n < 2) || eqB (f_X5_isPrime (nI n)) (prb n)) 32 = true := by decide +kernel
theorem m_isPrime (p : Int32) : f_X5_isPrime p = some (b2 (prI p)) := by
  unfold prI
  by_cases q : (decide (2 ≤ p) && decide (p ≤ 31)) = true
  · rw [q]
    rw [Bool.and_eq_true, decide_eq_true_iff, decide_eq_true_iff, Int32.le_iff_toInt_le, Int32.le_iff_toInt_le] at q
    obtain ⟨j, hj, e⟩ := nI_of2 (x := p) (M := 31) (n := 31) (by decide) (fun z => by
      rw [Int32.lt_iff_toInt_lt] at z
      have h1 : (2 : Int32).toInt = 2 := by decide
      have h2 : (0 : Int32).toInt = 0 := by decide
      omega) (Int32.le_iff_toInt_le.mpr q.2)
    subst e
    have h1 : (2 : Int32).toInt = 2 := by decide
    rw [nI_toInt (by omega), h1] at q
    have := al_iff.mp m_pr_all j (by omega)
    rw [decide_eq_false (by omega), Bool.false_or] at this
    rw [eqB_e this, nI_clamp (by omega)]
    rfl
  · unfold f_X5_isPrime
    rw [m_in3, bd_s]
    rw [Bool.not_eq_true] at q
    rw [q, b2_f]
    show f_X5_isPrime_L10s (f_X5_isPrime_L10 f_X5_isPrime_B37 2999) f_X5_isPrime_B37 p 0 2 = _
    unfold f_X5_isPrime_L10s f_X5_isPrime_B37
    split
    · exact ckb0
    · rw [if_pos rfl]; exact ckb0
/-- the greatest power of p in n, by steps -/
def pq (n p : Nat) : Nat → Nat
  | 0 => 1
  | j + 1 => if n % (pq n p j * p) = 0 then pq n p j * p else pq n p j
theorem pq_st {n p i : Nat} (h : ¬ n % (pq n p i * p) = 0) : ∀ j, i ≤ j → pq n p j = pq n p i
  | 0, q => by rw [show i = 0 by omega]
  | j + 1, q => by
    rcases Nat.eq_or_lt_of_le q with r | r
    · rw [r]
    · have ih := pq_st h j (by omega)
      show (if n % (pq n p j * p) = 0 then pq n p j * p else pq n p j) = _
      rw [ih, if_neg h]
theorem pq_dv {n p : Nat} : ∀ j, pq n p j ∣ n
  | 0 => Nat.one_dvd _
  | j + 1 => by
    unfold pq
    split
    · rename_i q; exact Nat.dvd_of_mod_eq_zero q
    · exact pq_dv j
theorem pq_pos {n p : Nat} (hp : 0 < p) : ∀ j, 0 < pq n p j
  | 0 => Nat.one_pos
  | j + 1 => by
    unfold pq
    split
    · exact Nat.mul_pos (pq_pos hp j) hp
    · exact pq_pos hp j
/-- either it has stopped, or it is p to the j -/
theorem pq_or {n p : Nat} : ∀ j, pq n p j = p ^ j ∨ ¬ n % (pq n p j * p) = 0
  | 0 => Or.inl rfl
  | j + 1 => by
    by_cases q : n % (pq n p j * p) = 0
    · rcases pq_or j with h | h
      · left
        unfold pq
        rw [if_pos q, h, Nat.pow_succ]
      · exact absurd q h
    · right
      have : pq n p (j + 1) = pq n p j := by
        show (if n % (pq n p j * p) = 0 then pq n p j * p else pq n p j) = _
        rw [if_neg q]
      rw [this]; exact q
def pp (n p : Nat) : Nat := pq n p 9
theorem pq_end {n p : Nat} (hn : 0 < n) (hn2 : n ≤ 999) (hp : 2 ≤ p) : ¬ n % (pq n p 9 * p) = 0 := by
  rcases pq_or (n := n) (p := p) 9 with h | h
  · intro q
    have h1 : (2 : Nat) ^ 10 ≤ p ^ 10 := Nat.pow_le_pow_left hp 10
    have h3 : p ^ 10 = pq n p 9 * p := by rw [h, ← Nat.pow_succ]
    have h2 := Nat.le_of_dvd hn (Nat.dvd_of_mod_eq_zero q)
    omega
  · exact h
theorem m_powerIn {S : PS} {h hz sz k : Nat} {f : Nat → CT} (H : MV S h hz sz k f) {c p : Nat} (hc : c < k) (hp : 2 ≤ p) (hp2 : p ≤ 31) : f_X5_powerIn S h (nI c) (nI p) = some (nI (pp (bm (f c)) p)) := by
  have g := m_gd H hc
  have bp := bm_pos g
  have bl := bm_le g
  have hle : ∀ j, pq (bm (f c)) p j ≤ 999 := fun j => Nat.le_trans (Nat.le_of_dvd bp (pq_dv j)) bl
  have hm : ∀ j, pq (bm (f c)) p j * p ≤ 999 * 31 := fun j => Nat.mul_le_mul (hle j) hp2
  unfold f_X5_powerIn
  have loop : ∀ n j, 10 ≤ n + j → j ≤ 9 → f_X5_powerIn_L2 S (f_X5_powerIn_B21 S) n h (nI c) (nI p) (nI (pq (bm (f c)) p j)) = some (nI (pp (bm (f c)) p)) := by
    intro n
    induction n with
    | zero => intro j h1 h2; omega
    | succ n ih =>
      intro j h1 h2
      have pp1 := pq_pos (n := bm (f c)) (p := p) (by omega) j
      have hj := hm j
      have hm1 := Nat.mul_pos pp1 (show 0 < p by omega)
      have hm2 := Nat.mod_lt (bm (f c)) hm1
      rw [show f_X5_powerIn_L2 S (f_X5_powerIn_B21 S) (n + 1) h (nI c) (nI p) (nI (pq (bm (f c)) p j)) = f_X5_powerIn_L2s S (f_X5_powerIn_L2 S (f_X5_powerIn_B21 S) n) (f_X5_powerIn_B21 S) h (nI c) (nI p) (nI (pq (bm (f c)) p j)) from rfl]
      unfold f_X5_powerIn_L2s f_X5_powerIn_B21
      rw [m_mod H hc, bd_s, pk_mul, ckn (by omega) hm1, pk_rem (by omega) hm1 (by omega)]
      by_cases q : bm (f c) % (pq (bm (f c)) p j * p) = 0
      · have hj9 : j ≠ 9 := fun z => by subst z; exact pq_end bp bl hp q
        have e : pq (bm (f c)) p (j + 1) = pq (bm (f c)) p j * p := by
          show (if _ then _ else _) = _
          rw [if_pos q]
        have I := ih (j + 1) (by omega) (by omega)
        rw [e] at I
        rw [if_pos ((nI_n0 (by omega)).mpr q)]
        exact I
      · rw [if_neg (fun z => q ((nI_n0 (by omega)).mp z))]
        unfold pp
        rw [pq_st q 9 h2]
  exact loop FU 0 (by unfold FU; omega) (by omega)
def stw (f : Nat → CT) (p c : Nat) : Nat := if ((f c).2.2.2 && !vo (f c)) = true then pp (bm (f c)) p else 1
theorem stw_le {f : Nat → CT} {p c : Nat} (g : gd (f c)) : stw f p c ≤ 999 := by
  unfold stw
  split
  · exact Nat.le_trans (Nat.le_of_dvd (bm_pos g) (pq_dv 9)) (bm_le g)
  · omega
theorem m_strongest {S : PS} {h hz sz k : Nat} {f : Nat → CT} (H : MV S h hz sz k f) {p : Nat} (hp : 2 ≤ p) (hp2 : p ≤ 31) : f_X5_strongest S h (nI p) = some (bst (stw f p) 1 sz).1 := by
  have hk := H.2.2.1
  have hk2 := H.2.2.2.1
  have hw : ∀ c, c < sz → stw f p c ≤ 999 := fun c hc => stw_le (m_gd H (by omega))
  have h2 : ∀ n, n ≤ sz → (bst (stw f p) 1 n).2 ≤ 999 := fun n hn => bst_2 (by omega) n (fun c hc => hw c (by omega))
  unfold f_X5_strongest
  refine lp_asc (L := fun n d => f_X5_strongest_L7 S (f_X5_strongest_B81 S) n h (nI p) (bst (stw f p) 1 d).1 (nI (bst (stw f p) 1 d).2) (nI d)) (e := sz) (fun n => ?_) (fun n d hd => ?_) FU 0 (by omega) (by unfold FU; omega)
  · show f_X5_strongest_L7s S (f_X5_strongest_L7 S (f_X5_strongest_B81 S) n) (f_X5_strongest_B81 S) h (nI p) (bst (stw f p) 1 sz).1 (nI (bst (stw f p) 1 sz).2) (nI sz) = _
    unfold f_X5_strongest_L7s
    rw [m_z0 H, ck_t (m_in0 H), m_sz H, if_pos (Int32.le_refl _)]
    rfl
  · show f_X5_strongest_L7s S (f_X5_strongest_L7 S (f_X5_strongest_B81 S) n) (f_X5_strongest_B81 S) h (nI p) (bst (stw f p) 1 d).1 (nI (bst (stw f p) 1 d).2) (nI d) = f_X5_strongest_L7 S (f_X5_strongest_B81 S) n h (nI p) (bst (stw f p) 1 (d + 1)).1 (nI (bst (stw f p) 1 (d + 1)).2) (nI (d + 1))
    have key : ∀ v, v = stw f p d → f_X5_strongest_B47 S (f_X5_strongest_L7 S (f_X5_strongest_B81 S) n) (f_X5_strongest_B81 S) h (nI p) (bst (stw f p) 1 d).1 (nI (bst (stw f p) 1 d).2) (nI d) (nI v) = f_X5_strongest_L7 S (f_X5_strongest_B81 S) n h (nI p) (bst (stw f p) 1 (d + 1)).1 (nI (bst (stw f p) 1 (d + 1)).2) (nI (d + 1)) := by
      intro v hv
      have b1 := hw d hd
      have b2 := h2 d (by omega)
      have eq : bst (stw f p) 1 (d + 1) = if (bst (stw f p) 1 d).2 < v then (nI d, v) else bst (stw f p) 1 d := by rw [hv]; rfl
      unfold f_X5_strongest_B47 f_X5_strongest_B61 f_X5_strongest_B74
      rw [eq, nI_1]
      by_cases q : (bst (stw f p) 1 d).2 < v
      · rw [if_neg (nle q (by omega)), if_neg (nle q (by omega)), if_pos q]
      · rw [if_pos (nI_le (by omega) (by omega)), if_pos (nI_le (by omega) (by omega)), if_neg q]
    unfold f_X5_strongest_L7s f_X5_strongest_B46
    rw [m_z0 H, ck_t (m_in0 H), m_sz H, if_neg (nle hd (by omega)), m_isOn H (by omega), bd_s]
    cases ho : (f d).2.2.2
    · rw [b2_f, if_pos rfl, i1]
      exact key 1 (by unfold stw; rw [ho]; rfl)
    · rw [b2_t, if_neg n10, m_void H (by omega), bd_s]
      cases hv : vo (f d)
      · rw [b2_f, if_pos rfl, m_powerIn H (by omega) hp hp2, bd_s]
        exact key _ (by unfold stw; rw [ho, hv]; rfl)
      · rw [b2_t, if_neg n10, i1]
        exact key 1 (by unfold stw; rw [ho, hv]; rfl)
/-- those that are on and not void that do not agree with b by the powers of p -/
def pm (f : Nat → CT) (sz p b : Nat) : Nat := ct (fun c => ((f c).2.2.2 && !vo (f c)) && !decide (br (f c) % pp (bm (f c)) p = br (f b) % pp (bm (f c)) p)) sz
def tp (f : Nat → CT) (sz p : Nat) (w : Int32) : Int32 := if (bst (stw f p) 1 sz).1 = -1 then (if w = 0 then -1 else if w = 1 then 1 else 0) else if w = 0 then (bst (stw f p) 1 sz).1 else if w = 1 then nI (bst (stw f p) 1 sz).2 else if w = 2 then nI (br (f (bst (stw f p) 1 sz).1.toNatClampNeg) % (bst (stw f p) 1 sz).2) else nI (pm f sz p (bst (stw f p) 1 sz).1.toNatClampNeg)
theorem nm1 {n : Nat} (h : n < 2 ^ 31) : ¬ nI n = -1 := fun z => by
  have := congrArg Int32.toInt z
  rw [nI_toInt h] at this
  have h1 : (-1 : Int32).toInt = -1 := by decide
  omega
theorem stw_on {f : Nat → CT} {p b : Nat} (h : 1 < stw f p b) : (f b).2.2.2 = true ∧ vo (f b) = false ∧ stw f p b = pp (bm (f b)) p := by
  unfold stw at *
  split at h
  · rename_i q
    rw [Bool.and_eq_true, Bool.not_eq_true'] at q
    exact ⟨q.1, q.2, by rw [if_pos (by rw [q.1, q.2]; rfl)]⟩
  · omega
theorem m_toldPrime {S : PS} {h hz sz k : Nat} {f : Nat → CT} (H : MV S h hz sz k f) {p : Nat} (hp : 2 ≤ p) (hp2 : p ≤ 31) (w : Int32) : f_X5_toldPrime S h (nI p) w = some (tp f sz p w) := by
  have hk := H.2.2.1
  have hk2 := H.2.2.2.1
  unfold f_X5_toldPrime tp
  rw [m_strongest H hp hp2, bd_s]
  rcases bst_ex (w := stw f p) (m0 := 1) sz with e | ⟨b, hb, e, h1⟩
  · rw [e]
    unfold f_X5_toldPrime_B29
    rw [if_pos rfl, if_pos rfl]
    split
    · rfl
    · split <;> rfl
  · rw [e]
    obtain ⟨o1, o2, o3⟩ := stw_on h1
    have g := m_gd H (show b < k by omega)
    have bp := bm_pos g
    have bl := bm_le g
    have rl := br_lt g o2
    have pb : 0 < pp (bm (f b)) p := pq_pos (by omega) 9
    have pl : pp (bm (f b)) p ≤ 999 := Nat.le_trans (Nat.le_of_dvd bp (pq_dv 9)) bl
    show (if nI b = -1 then _ else _) = some (if nI b = -1 then _ else if w = 0 then nI b else if w = 1 then nI (stw f p b) else if w = 2 then nI (br (f (nI b).toNatClampNeg) % stw f p b) else nI (pm f sz p (nI b).toNatClampNeg))
    rw [if_neg (nm1 (by omega)), if_neg (nm1 (by omega)), nI_clamp (by omega), m_powerIn H (by omega) hp hp2, bd_s, o3]
    have body := lp_asc (L := fun n d => f_X5_toldPrime_L44 S (f_X5_toldPrime_B118 S) n h (nI p) w (nI b) (nI (pp (bm (f b)) p)) (nI (pm f d p b)) (nI d)) (e := sz) (r := f_X5_toldPrime_B118 S h w (nI b) (nI (pp (bm (f b)) p)) (nI (pm f sz p b))) (fun n => by
      show f_X5_toldPrime_L44s S (f_X5_toldPrime_L44 S (f_X5_toldPrime_B118 S) n) (f_X5_toldPrime_B118 S) h (nI p) w (nI b) (nI (pp (bm (f b)) p)) (nI (pm f sz p b)) (nI sz) = _
      unfold f_X5_toldPrime_L44s
      rw [m_z0 H, ck_t (m_in0 H), m_sz H, if_pos (Int32.le_refl _)]) (fun n d hd => by
      show f_X5_toldPrime_L44s S (f_X5_toldPrime_L44 S (f_X5_toldPrime_B118 S) n) (f_X5_toldPrime_B118 S) h (nI p) w (nI b) (nI (pp (bm (f b)) p)) (nI (pm f d p b)) (nI d) = f_X5_toldPrime_L44 S (f_X5_toldPrime_B118 S) n h (nI p) w (nI b) (nI (pp (bm (f b)) p)) (nI (pm f (d + 1) p b)) (nI (d + 1))
      have g2 := m_gd H (show d < k by omega)
      unfold f_X5_toldPrime_L44s f_X5_toldPrime_B112 f_X5_toldPrime_B109 f_X5_toldPrime_B112
      rw [m_z0 H, ck_t (m_in0 H), m_sz H, if_neg (nle hd (by omega)), m_isOn H (by omega), bd_s, nI_1, nI_0a, nI_1a]
      unfold pm
      cases ho : (f d).2.2.2
      · rw [b2_f, if_pos rfl, ct_n (by rw [ho]; rfl)]
      · rw [b2_t, if_neg n10, m_void H (by omega), bd_s]
        cases hv : vo (f d)
        · have bp2 := bm_pos g2
          have bl2 := bm_le g2
          have rl2 := br_lt g2 hv
          have pb2 : 0 < pp (bm (f d)) p := pq_pos (by omega) 9
          have pl2 : pp (bm (f d)) p ≤ 999 := Nat.le_trans (Nat.le_of_dvd bp2 (pq_dv 9)) bl2
          have q1 := Nat.mod_lt (br (f d)) pb2
          have q2 := Nat.mod_lt (br (f b)) pb2
          rw [b2_f, if_pos rfl, m_powerIn H (by omega) hp hp2, bd_s, m_rest H (by omega) hv, bd_s, ckn (by omega) pb2, m_rest H (by omega) o2, bd_s, ckn (by omega) pb2, pk_rem (by omega) pb2 (by omega), pk_rem (by omega) pb2 (by omega)]
          by_cases q : br (f d) % pp (bm (f d)) p = br (f b) % pp (bm (f d)) p
          · rw [if_pos (by rw [q]), ct_n (by rw [ho, hv, decide_eq_true q]; rfl)]
          · rw [if_neg (fun z => q ((nI_eq (by omega) (by omega)).mp z)), ct_s (by rw [ho, hv, decide_eq_false q]; rfl)]
        · rw [b2_t, if_neg n10, ct_n (by rw [ho, hv]; rfl)]) FU 0 (by omega) (by unfold FU; omega)
    refine Eq.trans body ?_
    unfold f_X5_toldPrime_B118 f_X5_toldPrime_B154
    split
    · rfl
    · split
      · rfl
      · split
        · rw [m_rest H (by omega) o2, bd_s, ckn (by omega) pb, pk_rem (by omega) pb (by omega)]
        · rfl

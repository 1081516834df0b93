/-! ===== masks ===== -/
theorem im1 : (-1 : Int32) = nI 4294967295 := by decide
theorem n_and (a b : Nat) : nI a &&& nI b = nI (a &&& b) := by
  apply Int32.toBitVec_inj.1
  show BitVec.ofNat 32 a &&& BitVec.ofNat 32 b = BitVec.ofNat 32 (a &&& b)
  apply BitVec.eq_of_getLsbD_eq
  intro i hi
  simp [hi]
theorem n_or (a b : Nat) : nI a ||| nI b = nI (a ||| b) := by
  apply Int32.toBitVec_inj.1
  show BitVec.ofNat 32 a ||| BitVec.ofNat 32 b = BitVec.ofNat 32 (a ||| b)
  apply BitVec.eq_of_getLsbD_eq
  intro i hi
  simp [hi]
theorem n_xor (a b : Nat) : nI a ^^^ nI b = nI (a ^^^ b) := by
  apply Int32.toBitVec_inj.1
  show BitVec.ofNat 32 a ^^^ BitVec.ofNat 32 b = BitVec.ofNat 32 (a ^^^ b)
  apply BitVec.eq_of_getLsbD_eq
  intro i hi
  simp [hi]
theorem s_l : ∀ n, n < 32 → ((nI n &&& 31).toBitVec.smod 32).toNat = n := by decide +kernel
theorem n_shl {c : Nat} (hc : c < 31) : (1 : Int32) <<< (nI c &&& 31) = nI (2 ^ c) := by
  have h2 : (2 : Nat) ^ c < 2 ^ 31 := Nat.pow_lt_pow_right (by decide) hc
  rw [i1, pk_shlN _ c (s_l c (by omega)) (by rw [Nat.one_mul]; exact Nat.lt_trans h2 (by decide)), Nat.one_mul]
theorem n_bit {s c : Nat} (hs : s < 2 ^ 31) (hc : c < 31) : (nI s >>> (nI c &&& 31)) &&& (1 : Int32) = nI (s / 2 ^ c % 2) := by
  rw [pk_shrN hs _ c (s_l c (by omega)), i1, n_and, Nat.and_one_is_mod]
theorem n_bit1 {s c : Nat} (hs : s < 2 ^ 31) (hc : c < 31) : (nI s >>> (nI c &&& 31)) &&& (1 : Int32) = 1 ↔ s.testBit c = true := by
  have := Nat.mod_lt (s / 2 ^ c) (show 0 < 2 by decide)
  rw [n_bit hs hc, i1, nI_eq (by omega) (by decide), Nat.testBit_eq_decide_div_mod_eq, decide_eq_true_iff]
theorem n_bitv {s c : Nat} (hs : s < 2 ^ 31) (hc : c < 31) : (nI s >>> (nI c &&& 31)) &&& (1 : Int32) = b2 (s.testBit c) := by
  by_cases h : s.testBit c = true
  · rw [(n_bit1 hs hc).mpr h, h]; rfl
  · have := Nat.mod_lt (s / 2 ^ c) (show 0 < 2 by decide)
    have h2 : ¬ s / 2 ^ c % 2 = 1 := by rw [Nat.testBit_eq_decide_div_mod_eq, decide_eq_true_iff] at h; exact h
    rw [n_bit hs hc, Bool.not_eq_true _ |>.mp h, show s / 2 ^ c % 2 = 0 by omega]; rfl
/-- and with one bit -/
theorem n_ab {s c : Nat} (hc : c < 31) : nI s &&& nI (2 ^ c) = 0 ↔ s.testBit c = false := by
  have h2 : (2 : Nat) ^ c < 2 ^ 31 := Nat.pow_lt_pow_right (by decide) hc
  have hle : s &&& 2 ^ c ≤ 2 ^ c := Nat.and_le_right
  rw [n_and, nI_n0 (by omega)]
  constructor
  · intro h
    have h1 : (s &&& 2 ^ c).testBit c = false := by rw [h]; simp
    rw [Nat.testBit_and] at h1
    simpa using h1
  · intro h
    apply Nat.eq_of_testBit_eq
    intro i
    rw [Nat.testBit_and, Nat.zero_testBit, Nat.testBit_two_pow]
    by_cases q : c = i
    · subst q; rw [h]; rfl
    · simp [q]
def al (p : Nat → Bool) : Nat → Bool
  | 0 => true
  | n + 1 => al p n && p n
theorem al_iff {p : Nat → Bool} : ∀ {n : Nat}, al p n = true ↔ ∀ i, i < n → p i = true
  | 0 => ⟨fun _ i h => by omega, fun _ => rfl⟩
  | n + 1 => by
    unfold al
    rw [Bool.and_eq_true, al_iff]
    exact ⟨fun h i hi => by
      rcases Nat.lt_or_ge i n with q | q
      · exact h.1 i q
      · rw [show i = n by omega]; exact h.2, fun h => ⟨fun i hi => h i (by omega), h n (by omega)⟩⟩
theorem al_f {p : Nat → Bool} {n : Nat} : al p n = false ↔ ∃ i, i < n ∧ p i = false := by
  constructor
  · intro h
    apply Classical.byContradiction
    intro q
    rw [al_iff.mpr (fun i hi => by
      cases hp : p i with
      | true => rfl
      | false => exact absurd ⟨i, hi, hp⟩ q)] at h
    cases h
  · rintro ⟨i, hi, hp⟩
    cases h : al p n with
    | false => rfl
    | true => rw [al_iff.mp h i hi] at hp; cases hp
theorem al_cg {p q : Nat → Bool} {n : Nat} (h : ∀ i, i < n → p i = q i) : al p n = al q n := by
  rw [Bool.eq_iff_iff, al_iff, al_iff]
  exact ⟨fun k i hi => by rw [← h i hi]; exact k i hi, fun k i hi => by rw [h i hi]; exact k i hi⟩
def ct (p : Nat → Bool) : Nat → Nat
  | 0 => 0
  | n + 1 => ct p n + (if p n = true then 1 else 0)
theorem ct_le (p : Nat → Bool) : ∀ n, ct p n ≤ n
  | 0 => Nat.le_refl 0
  | n + 1 => by
    have := ct_le p n
    unfold ct
    split <;> omega
theorem ct_cg {p q : Nat → Bool} : ∀ {n : Nat}, (∀ i, i < n → p i = q i) → ct p n = ct q n
  | 0, _ => rfl
  | n + 1, h => by
    unfold ct
    rw [ct_cg (fun i hi => h i (by omega)), h n (by omega)]
theorem ct_tail {p : Nat → Bool} {n : Nat} : ∀ {m : Nat}, n ≤ m → (∀ i, n ≤ i → i < m → p i = false) → ct p m = ct p n
  | 0, h, _ => by rw [show n = 0 by omega]
  | m + 1, h, hp => by
    rcases Nat.eq_or_lt_of_le h with q | q
    · rw [q]
    · show ct p m + (if p m = true then 1 else 0) = ct p n
      rw [hp m (by omega) (by omega), ct_tail (by omega) (fun i a b => hp i a (by omega))]
      simp
def msk (p : Nat → Bool) : Nat → Nat
  | 0 => 0
  | n + 1 => msk p n ||| (if p n = true then 2 ^ n else 0)
theorem msk_lt (p : Nat → Bool) : ∀ n, msk p n < 2 ^ n
  | 0 => by show 0 < 2 ^ 0; decide
  | n + 1 => by
    have h := msk_lt p n
    unfold msk
    have h2 : (2 : Nat) ^ n < 2 ^ (n + 1) := Nat.pow_lt_pow_right (by decide) (by omega)
    refine Nat.or_lt_two_pow (by omega) ?_
    split
    · exact h2
    · exact Nat.two_pow_pos _
theorem msk_bit (p : Nat → Bool) : ∀ n i, (msk p n).testBit i = (decide (i < n) && p i)
  | 0, i => by simp [msk]
  | n + 1, i => by
    unfold msk
    rw [Nat.testBit_or, msk_bit p n i]
    by_cases hp : p n = true
    · rw [if_pos hp, Nat.testBit_two_pow]
      by_cases q : n = i
      · subst q; simp [hp]
      · by_cases r : i < n
        · simp [q, r, show i < n + 1 by omega]
        · simp [q, r, show ¬ i < n + 1 by omega]
    · rw [if_neg hp, Nat.zero_testBit]
      by_cases q : i = n
      · subst q; simp [Bool.not_eq_true _ |>.mp hp]
      · by_cases r : i < n
        · simp [r, show i < n + 1 by omega]
        · simp [r, show ¬ i < n + 1 by omega]
theorem bits_eq {a b n : Nat} (ha : a < 2 ^ n) (hb : b < 2 ^ n) (h : ∀ i, i < n → a.testBit i = b.testBit i) : a = b := by
  apply Nat.eq_of_testBit_eq
  intro i
  rcases Nat.lt_or_ge i n with q | q
  · exact h i q
  · rw [Nat.testBit_lt_two_pow (Nat.lt_of_lt_of_le ha (Nat.pow_le_pow_right (by decide) q)), Nat.testBit_lt_two_pow (Nat.lt_of_lt_of_le hb (Nat.pow_le_pow_right (by decide) q))]
theorem bit_hi {a n i : Nat} (ha : a < 2 ^ n) (h : n ≤ i) : a.testBit i = false := Nat.testBit_lt_two_pow (Nat.lt_of_lt_of_le ha (Nat.pow_le_pow_right (by decide) h))
/-- a without b's bits -/
def an (a b : Nat) : Nat := a &&& (b ^^^ 4294967295)
theorem n_an (a b : Nat) : nI a &&& (nI b ^^^ (-1)) = nI (an a b) := by rw [im1, n_xor, n_and]; rfl
theorem an_le (a b : Nat) : an a b ≤ a := Nat.and_le_left
theorem an_bit {a b i : Nat} (ha : a < 2 ^ 31) : (an a b).testBit i = (a.testBit i && !b.testBit i) := by
  unfold an
  rw [Nat.testBit_and, Nat.testBit_xor, show (4294967295 : Nat) = 2 ^ 32 - 1 by decide, Nat.testBit_two_pow_sub_one]
  rcases Nat.lt_or_ge i 31 with q | q
  · rw [decide_eq_true (show i < 32 by omega)]
    cases a.testBit i <;> cases b.testBit i <;> rfl
  · rw [bit_hi ha q]; rfl
/-- how many bits -/
def pc (a : Nat) : Nat := ct (fun i => a.testBit i) 11
theorem pc_le (a : Nat) : pc a ≤ 11 := ct_le _ _
def eqN (o : Option Int32) (n : Nat) : Bool := match o with
  | some v => v == nI n
  | none => false
theorem eqN_e {o : Option Int32} {n : Nat} (h : eqN o n = true) : o = some (nI n) := by
  unfold eqN at h
  split at h
  · rw [beq_iff_eq] at h; rw [h]
  · cases h
theorem m_bits_all : al (fun a => eqN (f_X5_bits (nI a)) (pc a)) 2048 = true := by decide +kernel
theorem x_bits_all : al (fun a => eqN (f_J6_bitCount_0f7a4 (nI a)) (pc a)) 2048 = true := by decide +kernel
theorem m_bits {a : Nat} (h : a < 2048) : f_X5_bits (nI a) = some (nI (pc a)) := eqN_e (al_iff.mp m_bits_all a h)
theorem x_bits {a : Nat} (h : a < 2048) : f_J6_bitCount_0f7a4 (nI a) = some (nI (pc a)) := eqN_e (al_iff.mp x_bits_all a h)

/-! ===== numbers: congruences, the least of a kind, joining ===== -/
theorem lp_asc {ρ : Type} {L : Nat → Nat → ρ} {e : Nat} {r : ρ} (hx : ∀ n, L (n + 1) e = r) (hs : ∀ n c, c < e → L (n + 1) c = L n (c + 1)) : ∀ n c, c ≤ e → e - c < n → L n c = r := by
  intro n
  induction n with
  | zero => intro c h1 h2; omega
  | succ n ih =>
    intro c h1 h2
    rcases Nat.eq_or_lt_of_le h1 with h | h
    · subst h; exact hx n
    · rw [hs n c h]; exact ih (c + 1) h (by omega)
theorem bez (a b : Nat) : ∃ u v : Int, u * a + v * b = (Nat.gcd a b : Int) := by
  induction a, b using Nat.gcd.induction with
  | H0 n => exact ⟨0, 1, by simp⟩
  | H1 m n hm ih =>
    obtain ⟨u, v, h⟩ := ih
    refine ⟨v - u * (n / m : Nat), u, ?_⟩
    rw [Nat.gcd_rec m n, ← h]
    have e : (n : Int) = m * (n / m : Nat) + (n % m : Nat) := by
      have := Nat.div_add_mod n m
      exact_mod_cast this.symm
    rw [Int.sub_mul]
    have e2 : u * (n : Int) = u * (m * (n / m : Nat)) + u * (n % m : Nat) := by rw [← Int.mul_add, ← e]
    rw [e2]
    have e3 : u * (n / m : Nat) * m = u * (m * (n / m : Nat)) := by rw [Int.mul_assoc, Int.mul_comm ((n / m : Nat) : Int) m]
    omega
/-- y and z leave the same by m -/
def cg (m : Nat) (y z : Int) : Prop := (m : Int) ∣ y - z
theorem cg_nat {m y z : Nat} : cg m y z ↔ y % m = z % m := by
  unfold cg
  constructor
  · intro h
    have h2 : ((y : Int) - z) % m = 0 := Int.emod_eq_zero_of_dvd h
    have h3 := Int.emod_eq_emod_iff_emod_sub_eq_zero.mpr h2
    exact_mod_cast h3
  · intro h
    have h3 : (y : Int) % m = (z : Int) % m := by exact_mod_cast h
    exact Int.dvd_of_emod_eq_zero (Int.emod_eq_emod_iff_emod_sub_eq_zero.mp h3)
theorem cg.rf {m : Nat} {y : Int} : cg m y y := by unfold cg; rw [Int.sub_self]; exact Int.dvd_zero _
theorem cg.sy {m : Nat} {y z : Int} (h : cg m y z) : cg m z y := by
  unfold cg at *
  obtain ⟨k, hk⟩ := h
  exact ⟨-k, by rw [Int.mul_neg, ← hk]; omega⟩
theorem cg.tr {m : Nat} {x y z : Int} (h : cg m x y) (h2 : cg m y z) : cg m x z := by
  unfold cg at *
  obtain ⟨k, hk⟩ := h
  obtain ⟨j, hj⟩ := h2
  exact ⟨k + j, by rw [Int.mul_add, ← hk, ← hj]; omega⟩
theorem cg.ad {m : Nat} {x y z w : Int} (h : cg m x y) (h2 : cg m z w) : cg m (x + z) (y + w) := by
  unfold cg at *
  obtain ⟨k, hk⟩ := h
  obtain ⟨j, hj⟩ := h2
  exact ⟨k + j, by rw [Int.mul_add, ← hk, ← hj]; omega⟩
theorem cg.ml {m : Nat} {x y : Int} (a : Int) (h : cg m x y) : cg m (a * x) (a * y) := by
  unfold cg at *
  obtain ⟨k, hk⟩ := h
  exact ⟨a * k, by rw [← Int.mul_sub, hk, ← Int.mul_assoc, ← Int.mul_assoc, Int.mul_comm a m]⟩
theorem cg.dv {m d : Nat} {x y : Int} (hd : d ∣ m) (h : cg m x y) : cg d x y := Int.dvd_trans (Int.natCast_dvd_natCast.mpr hd) h
theorem cg.lcm {a b : Nat} {x y : Int} (h : cg a x y) (h2 : cg b x y) : cg (Nat.lcm a b) x y := by
  unfold cg at *
  rw [Int.ofNat_dvd_left] at *
  exact Nat.lcm_dvd h h2
/-- small ones are the same -/
theorem cg.eq {m x y : Nat} (h : cg m x y) (hx : x < m) (hy : y < m) : x = y := by
  have := cg_nat.mp h
  rwa [Nat.mod_eq_of_lt hx, Nat.mod_eq_of_lt hy] at this
theorem cg_md {m : Nat} (x : Nat) : cg m (x % m : Nat) x := cg_nat.mpr (Nat.mod_mod _ _)
/-- a y and a z are alike by m just if y and z are, by m / gcd -/
theorem cg_lin {a m : Nat} (hm : 0 < m) {y z : Int} : cg m (a * y) (a * z) ↔ cg (m / Nat.gcd a m) y z := by
  have hg : 0 < Nat.gcd a m := Nat.gcd_pos_of_pos_right _ hm
  obtain ⟨n, hn⟩ := Nat.gcd_dvd_right a m
  obtain ⟨a', ha⟩ := Nat.gcd_dvd_left a m
  have e1 : m / Nat.gcd a m = n := Nat.div_eq_of_eq_mul_right hg hn
  have e2 : a / Nat.gcd a m = a' := Nat.div_eq_of_eq_mul_right hg ha
  have hco : Nat.Coprime n a' := by
    have := Nat.coprime_div_gcd_div_gcd hg
    rw [e1, e2] at this
    exact this.symm
  rw [e1]
  unfold cg
  rw [← Int.mul_sub, Int.ofNat_dvd_left, Int.ofNat_dvd_left, Int.natAbs_mul, Int.natAbs_natCast]
  constructor
  · intro h
    rw [hn] at h
    have h2 : Nat.gcd a m * n ∣ Nat.gcd a m * (a' * (y - z).natAbs) := by
      rw [← Nat.mul_assoc, ← ha]
      exact (by rwa [← hn] at h ⊢)
    exact hco.dvd_of_dvd_mul_left (Nat.dvd_of_mul_dvd_mul_left hg h2)
  · intro h
    have h3 : Nat.gcd a m * n ∣ Nat.gcd a m * (a' * (y - z).natAbs) := Nat.mul_dvd_mul (Nat.dvd_refl _) (Nat.dvd_trans h (Nat.dvd_mul_left _ _))
    rw [← Nat.mul_assoc, ← ha, ← hn] at h3
    exact h3
/-- where gcd a m divides b, a y is like b by m for some y -/
theorem lin_ex {a m b : Nat} (hm : 0 < m) (h : Nat.gcd a m ∣ b) : ∃ y, y < m / Nat.gcd a m ∧ (a * y) % m = b % m := by
  have hg : 0 < Nat.gcd a m := Nat.gcd_pos_of_pos_right _ hm
  have hn : 0 < m / Nat.gcd a m := Nat.div_pos (Nat.le_of_dvd hm (Nat.gcd_dvd_right a m)) hg
  obtain ⟨u, v, huv⟩ := bez a m
  obtain ⟨k, hk⟩ := h
  let z : Int := (u * k) % ((m / Nat.gcd a m : Nat) : Int)
  have hn' : (0 : Int) < ((m / Nat.gcd a m : Nat) : Int) := by exact_mod_cast hn
  have hz0 : 0 ≤ z := Int.emod_nonneg _ (by omega)
  have hz1 : z < ((m / Nat.gcd a m : Nat) : Int) := Int.emod_lt_of_pos _ hn'
  refine ⟨z.toNat, by omega, ?_⟩
  have e : ((z.toNat : Nat) : Int) = z := Int.toNat_of_nonneg hz0
  apply cg_nat.mp
  have c1 : cg (m / Nat.gcd a m) z (u * k) := by
    unfold cg
    refine ⟨-((u * k) / ((m / Nat.gcd a m : Nat) : Int)), ?_⟩
    have := Int.emod_add_mul_ediv (u * k) ((m / Nat.gcd a m : Nat) : Int)
    show (u * k) % ((m / Nat.gcd a m : Nat) : Int) - u * k = _
    rw [Int.mul_neg]
    omega
  have c2 := (cg_lin (a := a) hm).mpr c1
  have c3 : cg m ((a : Int) * (u * k)) (b : Int) := by
    unfold cg
    refine ⟨-(v * k), ?_⟩
    have h1 : (b : Int) = (u * a + v * m) * k := by rw [huv, hk]; push_cast; rfl
    rw [h1, Int.add_mul, Int.mul_neg]
    have t1 : (a : Int) * (u * k) = u * a * k := by rw [← Int.mul_assoc, Int.mul_comm (a : Int) u]
    have t2 : (m : Int) * (v * k) = v * m * k := by rw [← Int.mul_assoc, Int.mul_comm (m : Int) v]
    rw [t1, t2]
    omega
  have := c2.tr c3
  rw [← e] at this
  push_cast
  exact this
theorem gcd_lcm_dvd (a b n : Nat) (ha : 0 < a) (hb : 0 < b) : Nat.gcd (Nat.lcm a b) n ∣ Nat.lcm (Nat.gcd a n) (Nat.gcd b n) := by
  have hl : Nat.gcd (Nat.lcm a b) n ∣ Nat.lcm a b := Nat.gcd_dvd_left _ _
  have hn : Nat.gcd (Nat.lcm a b) n ∣ n := Nat.gcd_dvd_right _ _
  generalize Nat.gcd (Nat.lcm a b) n = d at hl hn ⊢
  have hd : 0 < d := Nat.pos_of_dvd_of_pos hl (Nat.lcm_pos ha hb)
  have k1 : Nat.gcd d a ∣ Nat.gcd a n := Nat.dvd_gcd (Nat.gcd_dvd_right _ _) (Nat.dvd_trans (Nat.gcd_dvd_left _ _) hn)
  have k2 : Nat.gcd d b ∣ Nat.gcd b n := Nat.dvd_gcd (Nat.gcd_dvd_right _ _) (Nat.dvd_trans (Nat.gcd_dvd_left _ _) hn)
  refine Nat.dvd_trans ?_ (Nat.lcm_dvd (Nat.dvd_trans k1 (Nat.dvd_lcm_left _ _)) (Nat.dvd_trans k2 (Nat.dvd_lcm_right _ _)))
  -- d divides lcm (gcd d a) (gcd d b)
  have hg : 0 < Nat.gcd (Nat.gcd d a) (Nat.gcd d b) := Nat.gcd_pos_of_pos_left _ (Nat.gcd_pos_of_pos_left _ hd)
  apply Nat.dvd_of_mul_dvd_mul_left hg
  rw [Nat.gcd_mul_lcm]
  -- gcd (gcd d a) (gcd d b) * d ∣ gcd d a * gcd d b
  have e1 : Nat.gcd d a * Nat.gcd d b = Nat.gcd (Nat.gcd (d * d) (d * b)) (Nat.gcd (a * d) (a * b)) := by
    rw [Nat.gcd_mul_left, Nat.gcd_mul_left, Nat.gcd_mul_right]
  rw [e1]
  have x1 : Nat.gcd (Nat.gcd d a) (Nat.gcd d b) ∣ d := Nat.dvd_trans (Nat.gcd_dvd_left _ _) (Nat.gcd_dvd_left _ _)
  have x2 : Nat.gcd (Nat.gcd d a) (Nat.gcd d b) ∣ a := Nat.dvd_trans (Nat.gcd_dvd_left _ _) (Nat.gcd_dvd_right _ _)
  have x3 : Nat.gcd (Nat.gcd d a) (Nat.gcd d b) ∣ b := Nat.dvd_trans (Nat.gcd_dvd_right _ _) (Nat.gcd_dvd_right _ _)
  refine Nat.dvd_gcd (Nat.dvd_gcd (Nat.mul_dvd_mul x1 (Nat.dvd_refl d)) ?_) (Nat.dvd_gcd (Nat.mul_dvd_mul x2 (Nat.dvd_refl d)) ?_)
  · rw [Nat.mul_comm d b]; exact Nat.mul_dvd_mul x3 (Nat.dvd_refl d)
  · rw [← Nat.gcd_mul_lcm a b]
    exact Nat.mul_dvd_mul (Nat.dvd_gcd x2 x3) hl
/-- the first below n that p holds of; n where there is none -/
def lst (p : Nat → Bool) : Nat → Nat
  | 0 => 0
  | n + 1 => if lst p n < n then lst p n else if p n then n else n + 1
theorem lst_le (p : Nat → Bool) : ∀ n, lst p n ≤ n
  | 0 => Nat.le_refl 0
  | n + 1 => by
    have ih := lst_le p n
    unfold lst
    split
    · omega
    · split <;> omega
theorem lst_eq {p : Nat → Bool} {k : Nat} (hk : p k = true) (hl : ∀ j, j < k → p j = false) : ∀ n, k < n → lst p n = k
  | 0, h => by omega
  | n + 1, h => by
    unfold lst
    rcases Nat.lt_or_ge k n with q | q
    · rw [lst_eq hk hl n q, if_pos q]
    · have e : k = n := by omega
      subst e
      have hle := lst_le p k
      by_cases h2 : lst p k < k
      · exfalso
        have : ∀ m, m ≤ k → ¬ lst p m < m := by
          intro m
          induction m with
          | zero => intro _; omega
          | succ m ih =>
            intro hm h3
            unfold lst at h3
            have := ih (by omega)
            rw [if_neg this, hl m (by omega)] at h3
            simp at h3
        exact this k (Nat.le_refl k) h2
      · rw [if_neg h2, if_pos hk]
theorem lst_ex {p : Nat → Bool} {n : Nat} (h : ∃ k, k < n ∧ p k = true) : lst p n < n ∧ p (lst p n) = true ∧ ∀ j, j < lst p n → p j = false := by
  obtain ⟨k, hk, hp⟩ := h
  obtain ⟨j, hj, hm⟩ : ∃ j, p j = true ∧ (∀ i, i < j → p i = false) ∧ j ≤ k := by
    clear hk
    induction k using Nat.strongRecOn with
    | ind k ih =>
      by_cases q : ∃ i, i < k ∧ p i = true
      · obtain ⟨i, hi, hpi⟩ := q
        obtain ⟨j, a, b, c⟩ := ih i hi hpi
        exact ⟨j, a, b, by omega⟩
      · exact ⟨k, hp, fun i hi => by
          cases h : p i with
          | false => rfl
          | true => exact absurd ⟨i, hi, h⟩ q, Nat.le_refl k⟩
  rw [lst_eq hj hm.1 n (by omega)]
  exact ⟨by omega, hj, hm.1⟩

/-! ===== joining ===== -/
def LIM : Nat := 1000000000000000
theorem limL : (1000000000000000 : Int64) = lN LIM := rfl
theorem div_lcm {n m : Nat} : n / Nat.gcd n m * m = Nat.lcm n m := by
  rw [Nat.lcm_eq_mul_div, Nat.div_mul_right_comm (Nat.gcd_dvd_left n m)]
/-- N by bare moduli alone, of those of the set that are not void -/
def sp (s : Nat) (f : Nat → CT) : Nat → Nat
  | 0 => 1
  | n + 1 => if (s.testBit n && !vo (f n)) = true then Nat.lcm (sp s f n) (bm (f n)) else sp s f n
/-- the same, that stays where it is too great -/
def wd (s : Nat) (f : Nat → CT) : Nat → Nat
  | 0 => 1
  | n + 1 => if (s.testBit n && (!vo (f n) && decide (wd s f n ≤ LIM))) = true then Nat.lcm (wd s f n) (bm (f n)) else wd s f n
theorem lcm_ge {a b : Nat} (hb : 0 < b) : a ≤ Nat.lcm a b := Nat.le_lcm_left a hb
theorem sp_pos {s : Nat} {f : Nat → CT} : ∀ n, (∀ c, c < n → s.testBit c = true → gd (f c)) → 0 < sp s f n
  | 0, _ => Nat.one_pos
  | n + 1, h => by
    have ih := sp_pos n (fun c hc => h c (by omega))
    unfold sp
    split
    · rename_i q
      rw [Bool.and_eq_true] at q
      exact Nat.lcm_pos ih (bm_pos (h n (by omega) q.1))
    · exact ih
theorem wd_sp {s : Nat} {f : Nat → CT} : ∀ n, (∀ c, c < n → s.testBit c = true → gd (f c)) → 0 < wd s f n ∧ wd s f n ≤ sp s f n ∧ wd s f n ≤ LIM * 999 ∧ (wd s f n ≤ LIM → wd s f n = sp s f n)
  | 0, _ => ⟨Nat.one_pos, Nat.le_refl 1, (by show 1 ≤ 1000000000000000 * 999; decide), fun _ => rfl⟩
  | n + 1, h => by
    obtain ⟨p, a, b, c⟩ := wd_sp n (fun c hc => h c (by omega))
    have spp := sp_pos n (fun c hc => h c (by omega))
    unfold wd sp
    by_cases q : (s.testBit n && !vo (f n)) = true
    · have q2 := q
      rw [Bool.and_eq_true] at q2
      have g := h n (by omega) q2.1
      have bp := bm_pos g
      have bl := bm_le g
      rw [if_pos q]
      by_cases r : wd s f n ≤ LIM
      · rw [if_pos (by rw [q2.1, q2.2, decide_eq_true r]; rfl), c r]
        have h1 : Nat.lcm (sp s f n) (bm (f n)) ≤ sp s f n * bm (f n) := Nat.lcm_le_mul spp bp
        have h2 : sp s f n * bm (f n) ≤ LIM * 999 := Nat.mul_le_mul (c r ▸ r) bl
        exact ⟨Nat.lcm_pos spp bp, Nat.le_refl _, by omega, fun _ => rfl⟩
      · rw [if_neg (by rw [q2.1, q2.2, decide_eq_false r]; decide)]
        exact ⟨p, Nat.le_trans a (lcm_ge bp), b, fun z => absurd z r⟩
    · rw [if_neg q, if_neg (by
        intro z
        rw [← Bool.and_assoc, Bool.and_eq_true] at z
        exact q z.1)]
      exact ⟨p, a, b, c⟩
theorem sp_tail {s : Nat} {f : Nat → CT} {n : Nat} : ∀ {m : Nat}, n ≤ m → (∀ i, n ≤ i → i < m → s.testBit i = false) → sp s f m = sp s f n
  | 0, h, _ => by rw [show n = 0 by omega]
  | m + 1, h, hp => by
    rcases Nat.eq_or_lt_of_le h with q | q
    · rw [q]
    · show (if (s.testBit m && !vo (f m)) = true then Nat.lcm (sp s f m) (bm (f m)) else sp s f m) = sp s f n
      rw [hp m (by omega) (by omega), sp_tail (by omega) (fun i a b => hp i a (by omega))]
      rfl
/-- N of the set would be too great -/
def tg (s : Nat) (f : Nat → CT) : Bool := decide (LIM < sp s f 11)
theorem wd_tg {s : Nat} {f : Nat → CT} {n : Nat} (hn : n ≤ 11) (hs : s < 2 ^ n) (h : ∀ c, c < n → s.testBit c = true → gd (f c)) : (LIM < wd s f n) ↔ tg s f = true := by
  obtain ⟨p, a, b, c⟩ := wd_sp n h
  unfold tg
  rw [decide_eq_true_iff, sp_tail hn (fun i h1 _ => bit_hi hs h1)]
  constructor
  · intro q; omega
  · intro q
    rcases Nat.lt_or_ge LIM (wd s f n) with r | r
    · exact r
    · rw [← c r] at q; exact q
/-- N of a possible set -/
def NN (s : Nat) (f : Nat → CT) : Nat → Nat
  | 0 => 1
  | n + 1 => if s.testBit n = true then Nat.lcm (NN s f n) (bm (f n)) else NN s f n
theorem NN_pos {s : Nat} {f : Nat → CT} : ∀ n, (∀ c, c < n → s.testBit c = true → gd (f c)) → 0 < NN s f n
  | 0, _ => Nat.one_pos
  | n + 1, h => by
    have ih := NN_pos n (fun c hc => h c (by omega))
    unfold NN
    split
    · rename_i q
      exact Nat.lcm_pos ih (bm_pos (h n (by omega) q))
    · exact ih
theorem NN_tail {s : Nat} {f : Nat → CT} {n : Nat} : ∀ {m : Nat}, n ≤ m → (∀ i, n ≤ i → i < m → s.testBit i = false) → NN s f m = NN s f n
  | 0, h, _ => by rw [show n = 0 by omega]
  | m + 1, h, hp => by
    rcases Nat.eq_or_lt_of_le h with q | q
    · rw [q]
    · show (if s.testBit m = true then Nat.lcm (NN s f m) (bm (f m)) else NN s f m) = NN s f n
      rw [hp m (by omega) (by omega), NN_tail (by omega) (fun i a b => hp i a (by omega))]
      rfl
theorem NN_mono {s : Nat} {f : Nat → CT} {n : Nat} : ∀ {m : Nat}, n ≤ m → (∀ c, c < m → s.testBit c = true → gd (f c)) → NN s f n ≤ NN s f m
  | 0, h, _ => by rw [show n = 0 by omega]; exact Nat.le_refl _
  | m + 1, h, hg => by
    rcases Nat.eq_or_lt_of_le h with q | q
    · rw [q]; exact Nat.le_refl _
    · have ih := NN_mono (n := n) (m := m) (by omega) (fun c hc => hg c (by omega))
      show _ ≤ (if s.testBit m = true then Nat.lcm (NN s f m) (bm (f m)) else NN s f m)
      split
      · rename_i b
        exact Nat.le_trans ih (lcm_ge (bm_pos (hg m (by omega) b)))
      · exact ih
theorem NN_sp {s : Nat} {f : Nat → CT} : ∀ n, (∀ c, c < n → s.testBit c = true → vo (f c) = false) → NN s f n = sp s f n
  | 0, _ => rfl
  | n + 1, h => by
    unfold NN sp
    rw [NN_sp n (fun c hc => h c (by omega))]
    cases b : s.testBit n
    · rfl
    · rw [h n (by omega) b]; rfl
theorem sol {N n R r : Nat} (hn : 0 < n) (h : R % Nat.gcd N n = r % Nat.gcd N n) : ∃ j, j < n / Nat.gcd N n ∧ (R + N * j) % n = r % n := by
  have hlt := Nat.mod_lt R hn
  have c0 : cg n ((r + (n - R % n) : Nat) : Int) ((r : Int) - R) := by
    have hm := Nat.div_add_mod R n
    unfold cg
    refine ⟨1 + (R / n : Nat), ?_⟩
    have e : (R : Int) = n * (R / n : Nat) + (R % n : Nat) := by exact_mod_cast hm.symm
    rw [Int.mul_add, Int.mul_one]
    have e2 : ((r + (n - R % n) : Nat) : Int) = r + n - (R % n : Nat) := by omega
    rw [e2]
    omega
  have hg : Nat.gcd N n ∣ r + (n - R % n) := by
    have c1 := c0.dv (Nat.gcd_dvd_right N n)
    have c2 : cg (Nat.gcd N n) ((r : Int) - R) 0 := by
      have := (cg_nat.mpr h).sy
      unfold cg at *
      rw [Int.sub_zero]
      exact this
    have c3 := c1.tr c2
    have := cg_nat (z := 0) |>.mp (by exact_mod_cast c3)
    exact Nat.dvd_of_mod_eq_zero (by rw [this]; exact Nat.zero_mod _)
  obtain ⟨y, hy, e⟩ := lin_ex (a := N) (m := n) hn hg
  refine ⟨y, hy, cg_nat.mp ?_⟩
  have c4 := (cg_nat.mpr e).tr c0
  have c5 := (cg.rf (m := n) (y := (R : Int))).ad c4
  have e3 : (R : Int) + ((r : Int) - R) = r := by omega
  rw [e3] at c5
  push_cast
  push_cast at c5
  exact c5
/-- what a part of a set comes to -/
def JI (s : Nat) (f : Nat → CT) (c N R : Nat) : Prop := N = NN s f c ∧ R < N ∧ ∀ d, d < c → s.testBit d = true → R % bm (f d) = br (f d)
theorem ji_uni {s : Nat} {f : Nat → CT} {R R' : Nat} : ∀ c, (∀ d, d < c → s.testBit d = true → R % bm (f d) = R' % bm (f d)) → cg (NN s f c) R R'
  | 0, _ => by unfold cg NN; exact Int.one_dvd _
  | c + 1, h => by
    have ih := ji_uni c (fun d hd => h d (by omega))
    unfold NN
    split
    · rename_i b
      exact ih.lcm (cg_nat.mpr (h c (by omega) b))
    · exact ih
theorem ji_one {s : Nat} {f : Nat → CT} {c N R N' R' : Nat} (h : JI s f c N R) (h' : JI s f c N' R') : N = N' ∧ R = R' := by
  obtain ⟨e, l, r⟩ := h
  obtain ⟨e', l', r'⟩ := h'
  refine ⟨e.trans e'.symm, ?_⟩
  have := ji_uni (s := s) (f := f) (R := R) (R' := R') c (fun d hd b => (r d hd b).trans (r' d hd b).symm)
  rw [e] at l
  rw [e'] at l'
  exact this.eq l l'
/-- the next one can be joined -/
theorem ji_sol {s : Nat} {f : Nat → CT} {c N R : Nat} (hp : ps s f = true) (h : JI s f c N R) (hc : c < 11) (hb : s.testBit c = true) (hg : ∀ d, d < 11 → s.testBit d = true → gd (f d)) : R % Nat.gcd N (bm (f c)) = br (f c) % Nat.gcd N (bm (f c)) := by
  obtain ⟨e, l, r⟩ := h
  subst e
  apply cg_nat.mp
  have key : ∀ n, n ≤ c → cg (Nat.gcd (NN s f n) (bm (f c))) R (br (f c)) := by
    intro n
    induction n with
    | zero => intro _; unfold NN; rw [Nat.gcd_one_left]; unfold cg; exact Int.one_dvd _
    | succ n ih =>
      intro hn
      have ih := ih (by omega)
      unfold NN
      split
      · rename_i b
        refine (cg.lcm ih ?_).dv (gcd_lcm_dvd _ _ _ (NN_pos n (fun d hd => hg d (by omega))) (bm_pos (hg n (by omega) b)))
        have c1 : cg (bm (f n)) R (br (f n)) := cg_nat.mpr ((r n (by omega) b).trans (Nat.mod_eq_of_lt (br_spec (hg n (by omega) b) (ps_vo hp (by omega) b)).1).symm)
        have c2 : cg (Nat.gcd (bm (f n)) (bm (f c))) (br (f n)) (br (f c)) := by
          apply cg_nat.mpr
          have := ps_iff.mp hp n c (by omega) hc b hb
          unfold ag at this
          rw [Bool.and_eq_true, Bool.and_eq_true, decide_eq_true_iff] at this
          exact this.2.2
        exact (c1.dv (Nat.gcd_dvd_left _ _)).tr c2
      · exact ih
  exact key c (Nat.le_refl c)
/-- the number that a set comes to -/
def RR (s : Nat) (f : Nat → CT) : Nat := lst (fun R => al (fun d => !s.testBit d || decide (R % bm (f d) = br (f d))) 11) (NN s f 11)
theorem ji_RR {s : Nat} {f : Nat → CT} {N R : Nat} (h : JI s f 11 N R) : N = NN s f 11 ∧ R = RR s f := by
  have hh := h
  obtain ⟨e, l, r⟩ := h
  have p : ∀ R, (al (fun d => !s.testBit d || decide (R % bm (f d) = br (f d))) 11) = true ↔ ∀ d, d < 11 → s.testBit d = true → R % bm (f d) = br (f d) := by
    intro R
    rw [al_iff]
    constructor
    · intro h d hd b
      have := h d hd
      rw [b] at this
      simpa using this
    · intro h d hd
      cases b : s.testBit d
      · rfl
      · simp [h d hd b]
  subst e
  obtain ⟨q1, q2, -⟩ := lst_ex (p := fun R => al (fun d => !s.testBit d || decide (R % bm (f d) = br (f d))) 11) (n := NN s f 11) ⟨R, l, (p R).mpr r⟩
  exact ⟨rfl, (ji_one hh (⟨rfl, q1, (p _).mp q2⟩ : JI s f 11 (NN s f 11) (RR s f))).2⟩
theorem ji_tail {s : Nat} {f : Nat → CT} {n N R : Nat} (hn : n ≤ 11) (hs : s < 2 ^ n) (h : JI s f n N R) : JI s f 11 N R := by
  obtain ⟨e, l, r⟩ := h
  refine ⟨e.trans (NN_tail hn (fun i h1 _ => bit_hi hs h1)).symm, l, fun d hd b => r d ?_ b⟩
  rcases Nat.lt_or_ge d n with q | q
  · exact q
  · rw [bit_hi hs q] at b; cases b

/-! ===== new objects ===== -/
theorem fR_ne {S : PS} {i j a c : Nat} {v : Option Nat} (h : j ≠ i) : fR (sR S i a v) j c = fR S j c := by
  show u2 (fR S) i a v j c = _
  exact u2_nf h
theorem fR_s {S : PS} {i a : Nat} {v : Option Nat} : fR (sR S i a v) i a = v := u2_self
theorem nm_nO {S : PS} {n m k : Nat} (hn : frn S n) (h : n < m) : m ∉ PL (nO S n k) := fun hm => by
  rw [PL_nO, List.mem_append, List.mem_singleton] at hm
  rcases hm with hm | hm
  · exact hn m (by omega) hm
  · omega
/-- a state without conditions -/
def st0 (S : PS) (n bl : Nat) : PS := sI (sI (sR (nA (sR (nA (sR (nO S n 3) 48 n (some bl)) (n + 1) 7 10) 49 n (some (n + 1))) (n + 2) 6 10) 50 n (some (n + 2))) 51 n 0) 52 n 0
theorem x_st0 {S : PS} {n bl : Nat} (hn : frn S n) (hb : vd S bl 0) (f : Nat → CT) : f_X3_init (nO S n 3) (n + 1) n bl = some (st0 S n bl, n + 3) ∧ keep S (st0 S n bl) ∧ SV (st0 S n bl) (n, n + 1, n + 2) (0, f) ∧ frn (st0 S n bl) (n + 3) := by
  have h0 := hn n (Nat.le_refl _)
  have m1 : n + 1 ∉ PL (nO S n 3) := nm_nO hn (by omega)
  have m2 : n + 2 ∉ PL (nA (sR (nO S n 3) 48 n (some bl)) (n + 1) 7 10) := fun hm => by
    rw [PL_nA, PL_sR, List.mem_append, List.mem_singleton] at hm
    rcases hm with hm | hm
    · exact nm_nO hn (by omega) hm
    · omega
  have x1 : EX S (nO S n 3) := EX.nO h0
  have x2 : EX (nO S n 3) (nA (sR (nO S n 3) 48 n (some bl)) (n + 1) 7 10) := EX.nA (S := sR (nO S n 3) 48 n (some bl)) (n := 10) m1
  have x3 : EX (nA (sR (nO S n 3) 48 n (some bl)) (n + 1) 7 10) (st0 S n bl) := EX.nA (S := sR (nA (sR (nO S n 3) 48 n (some bl)) (n + 1) 7 10) 49 n (some (n + 1))) (n := 10) m2
  have xx : EX S (st0 S n bl) := x1.tr (x2.tr x3)
  refine ⟨rfl, ⟨xx, fun a ha => ?_⟩, ⟨⟨x3 _ _ (x2 _ _ vd_nO), ⟨bl, ?_, xx _ _ hb⟩, ?_, fR_s, x3 _ _ (vd_nA (S := sR (nO S n 3) 48 n (some bl)) (n := 10)), vd_nA (S := sR (nA (sR (nO S n 3) 48 n (some bl)) (n + 1) 7 10) 49 n (some (n + 1))) (n := 10), ?_, va_up_self _ _ _, fun k c hk hc => ?_⟩, ?_, fI_s, fun k hk => absurd hk (Nat.not_lt_zero k), fun k hk => ?_⟩, ?_⟩
  · have n0 : a ≠ n := fun e => h0 (by rw [← e]; exact ha)
    have n1 : a ≠ n + 1 := fun e => hn (n + 1) (by omega) (by rw [← e]; exact ha)
    have n2 : a ≠ n + 2 := fun e => hn (n + 2) (by omega) (by rw [← e]; exact ha)
    refine ⟨fun i => ?_, fun i => ?_, ?_, ?_, ?_⟩
    · show u2 (u2 (fun i b => if b = n then 0 else fI S i b) 51 n 0) 52 n 0 i a = _
      rw [u2_ne n0, u2_ne n0]
      exact if_neg n0
    · show u2 (u2 (u2 (fun i b => if b = n then none else fR S i b) 48 n (some bl)) 49 n (some (n + 1))) 50 n (some (n + 2)) i a = _
      rw [u2_ne n0, u2_ne n0, u2_ne n0]
      exact if_neg n0
    · show va_up (va_up (aN S) (n + 1) 10) (n + 2) 10 a = _
      rw [va_up_ne _ _ n2, va_up_ne _ _ n1]
    · show va_up (va_up (aI S) (n + 1) (fun _ => 0)) (n + 2) (fun _ => 0) a = _
      rw [va_up_ne _ _ n2, va_up_ne _ _ n1]
    · show va_up (va_up (aR S) (n + 1) (fun _ => none)) (n + 2) (fun _ => none) a = _
      rw [va_up_ne _ _ n2, va_up_ne _ _ n1]
  · show u2 (u2 (u2 (fun i b => if b = n then none else fR S i b) 48 n (some bl)) 49 n (some (n + 1))) 50 n (some (n + 2)) 48 n = some bl
    rw [u2_nf (by decide), u2_nf (by decide), u2_self]
  · show u2 (u2 (u2 (fun i b => if b = n then none else fR S i b) 48 n (some bl)) 49 n (some (n + 1))) 50 n (some (n + 2)) 49 n = some (n + 1)
    rw [u2_nf (by decide), u2_self]
  · show va_up (va_up (aN S) (n + 1) 10) (n + 2) 10 (n + 1) = 10
    rw [va_up_ne _ _ (by omega), va_up_self]
  · have hc : va_up (va_up (aR S) (n + 1) (fun _ => none)) (n + 2) (fun _ => none) (n + 1) k = some c := hc
    rw [va_up_ne _ _ (by omega), va_up_self] at hc
    cases hc
  · show fI (sI (sI _ 51 n 0) 52 n 0) 51 n = nI 0
    rw [fI_ne (by decide)]
    exact fI_s
  · show va_up (va_up (aI S) (n + 1) (fun _ => 0)) (n + 2) (fun _ => 0) (n + 2) k = nI (pmk (0, f) k)
    rw [va_up_self]
    unfold pmk
    rw [if_neg (Nat.not_lt_zero k)]
    rfl
  · intro q hq hm
    have hm : q ∈ ((PL S ++ [n]) ++ [n + 1]) ++ [n + 2] := hm
    rw [List.mem_append, List.mem_append, List.mem_append, List.mem_singleton, List.mem_singleton, List.mem_singleton] at hm
    rcases hm with ((hm | hm) | hm) | hm
    · exact hn q (by omega) hm
    · omega
    · omega
    · omega
def tT (n : Nat) (q : Nat) : TR := if q = 6 then (n + 1, n + 2, n + 3) else (n + 5 + 3 * q, n + 5 + 3 * q + 1, n + 5 + 3 * q + 2)
theorem tT6 (n : Nat) : tT n 6 = (n + 1, n + 2, n + 3) := if_pos rfl
theorem tTn {n q : Nat} (h : q < 6) : tT n q = (n + 5 + 3 * q, n + 5 + 3 * q + 1, n + 5 + 3 * q + 2) := if_neg (by omega)
def f0 : Nat → CT := fun _ => (1, 0, 1, true)
/-- nothing yet -/
def o0 : OS := ((0, f0), 0, fun _ => (0, f0), 0, fun _ => 33)
theorem ok0 : OKc (0, f0) := ⟨Nat.zero_le _, fun c hc => absurd hc (Nat.not_lt_zero c), by
  show tg (onm f0 0) f0 = false
  exact decide_eq_false (by decide)⟩
theorem o0_ok : OKs o0 := ⟨ok0, Nat.zero_le _, fun q hq => absurd hq (Nat.not_lt_zero q), Nat.zero_le _, fun j hj => absurd hj (Nat.not_lt_zero j)⟩
/-- while the row of saved states is filled -/
def IP (n x bl k : Nat) (S : PS) : Prop := vd S x 4 ∧ vd S bl 0 ∧ fR S 64 x = some (n + 1) ∧ fR S 65 x = some (n + 4) ∧ vd S (n + 4) 8 ∧ aN S (n + 4) = 6 ∧ SV S (n + 1, n + 2, n + 3) (0, f0) ∧ (∀ q, q < k → SR S (tT n q) ∧ aR S (n + 4) q = some (tT n q).1) ∧ frn S (n + 5 + 3 * k)
theorem x_fill {n x bl : Nat} : ∀ m k S, k + m = 6 → IP n x bl k S → ∃ S1, f_X4_init_L38 f_X4_init_B67 (m + 1) S (n + 5 + 3 * k) x bl (nI k) = f_X4_init_B67 S1 (n + 23) x ∧ IP n x bl 6 S1 := by
  intro m
  induction m with
  | zero =>
    intro k S hk I
    obtain ⟨i1, i2, i3, i4, i5, i6, i7, i8, i9⟩ := id I
    refine ⟨S, ?_, by rw [show 6 = k by omega]; exact I⟩
    show f_X4_init_L38s (f_X4_init_L38 f_X4_init_B67 0) f_X4_init_B67 S (n + 5 + 3 * k) x bl (nI k) = _
    unfold f_X4_init_L38s
    rw [rq_e i4 i5, i6, if_pos (by rw [show k = 6 by omega]; exact Int32.le_refl _), show n + 5 + 3 * k = n + 23 by omega]
  | succ m ih =>
    intro k S hk I
    obtain ⟨i1, i2, i3, i4, i5, i6, i7, i8, i9⟩ := I
    obtain ⟨e1, e2, e3, e4⟩ := x_st0 i9 i2 f0
    have k6 : k < 6 := by omega
    have st : ∀ p r, stf (p, n + 4, r) (st0 S (n + 5 + 3 * k) bl) (sQ (st0 S (n + 5 + 3 * k) bl) (n + 4) (nI k) (some (n + 5 + 3 * k))) := fun p r => stf.Q (t := (p, n + 4, r))
    have fk := e2.2
    obtain ⟨x1, x2, x3, x4, x5⟩ := fk x i1.1
    obtain ⟨a1, a2, a3, a4, a5⟩ := fk (n + 4) i5.1
    have svq : ∀ (u : TR) (y : CS), u.2.1 ≠ n + 4 → SV (st0 S (n + 5 + 3 * k) bl) u y → SV (sQ (st0 S (n + 5 + 3 * k) bl) (n + 4) (nI k) (some (n + 5 + 3 * k))) u y := fun u y hu V => V.ot (st (u.1 + 1) (u.2.2 + 1)) (by show u.1 ≠ u.1 + 1; omega) hu (by show u.2.2 ≠ u.2.2 + 1; omega)
    have srq : ∀ (u : TR), u.2.1 ≠ n + 4 → SR (st0 S (n + 5 + 3 * k) bl) u → SR (sQ (st0 S (n + 5 + 3 * k) bl) (n + 4) (nI k) (some (n + 5 + 3 * k))) u := fun u hu V => V.ot (st 0 0) hu
    have I1 : IP n x bl (k + 1) (sQ (st0 S (n + 5 + 3 * k) bl) (n + 4) (nI k) (some (n + 5 + 3 * k))) := by
      refine ⟨e2.1 _ _ i1, e2.1 _ _ i2, (x2 _).trans i3, (x2 _).trans i4, e2.1 _ _ i5, a3.trans i6, svq _ _ (by show n + 2 ≠ n + 4; omega) (i7.kp e2), fun q hq => ?_, fun q hq hm => ?_⟩
      · by_cases z : q = k
        · subst z
          rw [tTn k6]
          exact ⟨srq _ (by show n + 5 + 3 * q + 1 ≠ n + 4; omega) e3.1, aR_Qs (by omega)⟩
        · obtain ⟨s1, s2⟩ := i8 q (by omega)
          have t1 := tTn (n := n) (q := q) (by omega)
          refine ⟨srq _ (by rw [t1]; show n + 5 + 3 * q + 1 ≠ n + 4; omega) (s1.kp e2), ?_⟩
          rw [aR_Qn (by omega) z, a5]
          exact s2
      · exact e4 q (by omega) hm
    obtain ⟨S1, g1, g2⟩ := ih (k + 1) _ (by omega) I1
    refine ⟨S1, ?_, g2⟩
    show f_X4_init_L38s (f_X4_init_L38 f_X4_init_B67 (m + 1)) f_X4_init_B67 S (n + 5 + 3 * k) x bl (nI k) = _
    unfold f_X4_init_L38s
    rw [rq_e i4 i5, i6, if_neg (nle k6 (by decide)), rq_e i4 i5, show f_X3_init (nO S (n + 5 + 3 * k) 3) (n + 5 + 3 * k + 1) (n + 5 + 3 * k) bl = _ from e1, bd_s]
    show ck (decide (¬ (nI k < 0 ∨ aN (st0 S (n + 5 + 3 * k) bl) (n + 4) ≤ (nI k).toNatClampNeg))) (f_X4_init_L38 f_X4_init_B67 (m + 1) (sQ (st0 S (n + 5 + 3 * k) bl) (n + 4) (nI k) (some (n + 5 + 3 * k))) (n + 5 + 3 * k + 3) x bl (nI k + 1)) = _
    rw [a3, i6, ck_t (nI_in k6 (by decide)), nI_1, ← g1, show n + 5 + 3 * k + 3 = n + 5 + 3 * (k + 1) by omega]
theorem IP.kp {n x bl k : Nat} {S S1 : PS} (I : IP n x bl k S) (h : keep S S1) (hf : ∀ q, n + 5 + 3 * k ≤ q → q ∉ PL S1) : IP n x bl k S1 := by
  obtain ⟨i1, i2, i3, i4, i5, i6, i7, i8, i9⟩ := I
  obtain ⟨x1, x2, x3, x4, x5⟩ := h.2 x i1.1
  obtain ⟨a1, a2, a3, a4, a5⟩ := h.2 (n + 4) i5.1
  exact ⟨h.1 _ _ i1, h.1 _ _ i2, (x2 _).trans i3, (x2 _).trans i4, h.1 _ _ i5, a3.trans i6, i7.kp h, fun q hq => ⟨(i8 q hq).1.kp h, by rw [a5]; exact (i8 q hq).2⟩, hf⟩
/-- the last cells and fields of a new object -/
def d1 (S : PS) (m x : Nat) : PS := nA (sI (sI S 66 x 0) 67 x 0) m 6 60
def d2 (S : PS) (m x : Nat) : PS := nO (sI (sR (d1 S m x) 68 x (some m)) 69 x 0) (m + 1) 2
def d3 (S : PS) (m x : Nat) : PS := sI (sI (sI (sI (d2 S m x) 32 (m + 1) 0) 33 (m + 1) 0) 34 (m + 1) 1) 35 (m + 1) 0
def d4 (S : PS) (m x : Nat) : PS := nO (sR (d3 S m x) 70 x (some (m + 1))) (m + 1 + 1) 1
def d5 (S : PS) (m x : Nat) : PS := sR (sL (sL (d4 S m x) 16 (m + 1 + 1) 1) 17 (m + 1 + 1) 0) 71 x (some (m + 1 + 1))
def kx (S S1 : PS) : Prop := EX S S1 ∧ ∀ a, a ∈ PL S → (∀ i, i < 60 → fI S1 i a = fI S i a) ∧ (∀ i, i < 66 → fR S1 i a = fR S i a) ∧ aN S1 a = aN S a ∧ aI S1 a = aI S a ∧ aR S1 a = aR S a
theorem CD.kx' {S S1 : PS} {c : Nat} {y : CT} (h : CD S c y) (k : kx S S1) : CD S1 c y := by
  obtain ⟨v, e0, e1, e2, e3, e4⟩ := h
  have f := (k.2 c v.1).1
  exact ⟨k.1 c 0 v, (f 0 (by decide)).trans e0, (f 1 (by decide)).trans e1, (f 2 (by decide)).trans e2, (f 3 (by decide)).trans e3, (f 4 (by decide)).trans e4⟩
theorem SR.kx' {S S1 : PS} {t : TR} (h : SR S t) (k : kx S S1) : SR S1 t := by
  obtain ⟨v, ⟨bl, b1, b2⟩, e1, e2, v1, v2, n1, n2, r⟩ := h
  obtain ⟨p1, p2, p3, p4, p5⟩ := k.2 _ v1.1
  obtain ⟨q1, q2, q3, q4, q5⟩ := k.2 _ v2.1
  obtain ⟨r1, r2, r3, r4, r5⟩ := k.2 _ v.1
  exact ⟨k.1 _ _ v, ⟨bl, (r2 48 (by decide)).trans b1, k.1 _ _ b2⟩, (r2 49 (by decide)).trans e1, (r2 50 (by decide)).trans e2, k.1 _ _ v1, k.1 _ _ v2, p3.trans n1, q3.trans n2, fun j c hj hc => by rw [p5] at hc; exact k.1 _ _ (r j c hj hc)⟩
theorem SV.kx' {S S1 : PS} {t : TR} {x : CS} (h : SV S t x) (k : kx S S1) : SV S1 t x := by
  obtain ⟨R, e1, e2, c, m⟩ := h
  obtain ⟨r1, r2, r3, r4, r5⟩ := k.2 _ R.1.1
  obtain ⟨p1, p2, p3, p4, p5⟩ := k.2 _ R.2.2.2.2.1.1
  obtain ⟨q1, q2, q3, q4, q5⟩ := k.2 _ R.2.2.2.2.2.1.1
  exact ⟨R.kx' k, (r1 51 (by decide)).trans e1, (r1 52 (by decide)).trans e2, fun j hj => by
    obtain ⟨d, d1, d2⟩ := c j hj
    exact ⟨d, by rw [p5]; exact d1, d2.kx' k⟩, fun j hj => by rw [q4]; exact m j hj⟩
theorem b67 {S : PS} {m x : Nat} : f_X4_init_B67 S m x = some (d5 S m x, m + 1 + 1 + 1) := rfl
theorem d_fI {S : PS} {m x i a : Nat} (h1 : a ≠ m + 1) (h2 : a ≠ m + 1 + 1) : fI (d5 S m x) i a = u2 (u2 (u2 (fI S) 66 x 0) 67 x 0) 69 x 0 i a := by
  show (if a = m + 1 + 1 then 0 else u2 (u2 (u2 (u2 (fun i b => if b = m + 1 then 0 else u2 (u2 (u2 (fI S) 66 x 0) 67 x 0) 69 x 0 i b) 32 (m + 1) 0) 33 (m + 1) 0) 34 (m + 1) 1) 35 (m + 1) 0 i a) = _
  rw [if_neg h2, u2_ne h1, u2_ne h1, u2_ne h1, u2_ne h1, if_neg h1]
theorem d_fR {S : PS} {m x i a : Nat} (h1 : a ≠ m + 1) (h2 : a ≠ m + 1 + 1) : fR (d5 S m x) i a = u2 (u2 (u2 (fR S) 68 x (some m)) 70 x (some (m + 1))) 71 x (some (m + 1 + 1)) i a := by
  show u2 (fun i b => if b = m + 1 + 1 then none else u2 (fun i b => if b = m + 1 then none else u2 (fR S) 68 x (some m) i b) 70 x (some (m + 1)) i b) 71 x (some (m + 1 + 1)) i a = _
  simp only [u2, if_neg h1, if_neg h2]
theorem d_aN {S : PS} {m x a : Nat} : aN (d5 S m x) a = va_up (aN S) m 60 a := rfl
theorem d_aI {S : PS} {m x a : Nat} : aI (d5 S m x) a = va_up (aI S) m (fun _ => 0) a := rfl
theorem d_aR {S : PS} {m x a : Nat} : aR (d5 S m x) a = va_up (aR S) m (fun _ => none) a := rfl
theorem d_ex {S : PS} {m x : Nat} (hf : frn S m) : EX S (d5 S m x) ∧ vd (d5 S m x) m 6 ∧ vd (d5 S m x) (m + 1) 2 ∧ vd (d5 S m x) (m + 1 + 1) 1 := by
  have q1 : m ∉ PL (sI (sI S 66 x 0) 67 x 0) := hf m (Nat.le_refl _)
  have X1 : EX S (d1 S m x) := EX.nA (S := sI (sI S 66 x 0) 67 x 0) (n := 60) q1
  have q2 : m + 1 ∉ PL (d1 S m x) := fun hm => by
    have hm : m + 1 ∈ PL S ++ [m] := hm
    rw [List.mem_append, List.mem_singleton] at hm
    rcases hm with hm | hm
    · exact hf (m + 1) (by omega) hm
    · omega
  have X2 : EX (d1 S m x) (d2 S m x) := EX.nO (S := sI (sR (d1 S m x) 68 x (some m)) 69 x 0) q2
  have q3 : m + 1 + 1 ∉ PL (d2 S m x) := fun hm => by
    have hm : m + 1 + 1 ∈ (PL S ++ [m]) ++ [m + 1] := hm
    rw [List.mem_append, List.mem_singleton, List.mem_append, List.mem_singleton] at hm
    rcases hm with (hm | hm) | hm
    · exact hf (m + 1 + 1) (by omega) hm
    · omega
    · omega
  have X3 : EX (d2 S m x) (d4 S m x) := EX.nO (S := sR (d3 S m x) 70 x (some (m + 1))) q3
  have v1 : vd (d1 S m x) m 6 := vd_nA (S := sI (sI S 66 x 0) 67 x 0) (n := 60)
  have v2 : vd (d2 S m x) (m + 1) 2 := vd_nO (S := sI (sR (d1 S m x) 68 x (some m)) 69 x 0)
  have v3 : vd (d4 S m x) (m + 1 + 1) 1 := vd_nO (S := sR (d3 S m x) 70 x (some (m + 1)))
  exact ⟨X1.tr (X2.tr X3), X3 _ _ (X2 _ _ v1), X3 _ _ v2, v3⟩
theorem d_kx {S : PS} {m x : Nat} (hf : frn S m) : kx S (d5 S m x) := by
  refine ⟨(d_ex hf).1, fun a ha => ?_⟩
  have n0 : a ≠ m := fun e => hf m (by omega) (by rw [← e]; exact ha)
  have n1 : a ≠ m + 1 := fun e => hf (m + 1) (by omega) (by rw [← e]; exact ha)
  have n2 : a ≠ m + 1 + 1 := fun e => hf (m + 1 + 1) (by omega) (by rw [← e]; exact ha)
  refine ⟨fun i hi => ?_, fun i hi => ?_, va_up_ne _ _ n0, va_up_ne _ _ n0, va_up_ne _ _ n0⟩
  · rw [d_fI n1 n2, u2_nf (by omega), u2_nf (by omega), u2_nf (by omega)]
  · rw [d_fR n1 n2, u2_nf (by omega), u2_nf (by omega), u2_nf (by omega)]
/-- the row of saved states made, empty -/
theorem x_ini0 {S2 : PS} {n x : Nat} (vx2 : vd S2 x 4) (vn2 : vd S2 n 0) (hxn : x < n) (e3 : SV S2 (n + 1, n + 2, n + 3) (0, f0)) (e4 : frn S2 (n + 4)) : IP n x n 0 (sR (nA (sR S2 64 x (some (n + 1))) (n + 4) 8 6) 65 x (some (n + 4))) := by
  have m4 : n + 4 ∉ PL S2 := e4 (n + 4) (Nat.le_refl _)
  have ex3 : EX S2 (nA (sR S2 64 x (some (n + 1))) (n + 4) 8 6) := EX.nA (S := sR S2 64 x (some (n + 1))) (n := 6) m4
  have nx4 : x ≠ n + 4 := by omega
  have stt : ∀ t : TR, t.1 ≠ x → t.1 ≠ n + 4 → t.2.1 ≠ n + 4 → t.2.2 ≠ n + 4 → ∀ y, SV S2 t y → SV (sR (nA (sR S2 64 x (some (n + 1))) (n + 4) 8 6) 65 x (some (n + 4))) t y := by
    intro t t1 t2 t3 t4 y V
    obtain ⟨⟨v, ⟨bl, b1, b2⟩, r1, r2, v1, v2, a1, a2, r⟩, f1, f2, c, m⟩ := V
    have eR : ∀ i, i ≠ 64 → i ≠ 65 → fR (sR (nA (sR S2 64 x (some (n + 1))) (n + 4) 8 6) 65 x (some (n + 4))) i t.1 = fR S2 i t.1 := fun i q1 q2 => by
      rw [fR_ne q2]
      exact fR_ne (S := S2) q1
    have eAR : aR (sR (nA (sR S2 64 x (some (n + 1))) (n + 4) 8 6) 65 x (some (n + 4))) t.2.1 = aR S2 t.2.1 := va_up_ne _ _ t3
    refine ⟨⟨ex3 _ _ v, ⟨bl, (eR 48 (by decide) (by decide)).trans b1, ex3 _ _ b2⟩, (eR 49 (by decide) (by decide)).trans r1, (eR 50 (by decide) (by decide)).trans r2, ex3 _ _ v1, ex3 _ _ v2, (va_up_ne _ _ t3).trans a1, (va_up_ne _ _ t4).trans a2, fun k c hk hc => ?_⟩, f1, f2, fun k hk => ?_, fun k hk => ?_⟩
    · rw [eAR] at hc
      exact ex3 _ _ (r k c hk hc)
    · obtain ⟨d, d1, d2⟩ := c k hk
      obtain ⟨w, w0, w1, w2, w3, w4⟩ := d2
      exact ⟨d, by rw [eAR]; exact d1, ex3 _ _ w, w0, w1, w2, w3, w4⟩
    · show va_up (aI S2) (n + 4) (fun _ => 0) t.2.2 k = _
      rw [va_up_ne _ _ t4]
      exact m k hk
  refine ⟨ex3 _ _ vx2, ex3 _ _ vn2, ?_, fR_s, vd_nA (S := sR S2 64 x (some (n + 1))) (n := 6), va_up_self _ _ _, stt (n + 1, n + 2, n + 3) (by show n + 1 ≠ x; omega) (by show n + 1 ≠ n + 4; omega) (by show n + 2 ≠ n + 4; omega) (by show n + 3 ≠ n + 4; omega) _ e3, fun q hq => absurd hq (Nat.not_lt_zero q), fun q hq hm => ?_⟩
  · rw [fR_ne (by decide)]
    exact fR_s (S := S2)
  · have hm : q ∈ PL S2 ++ [n + 4] := hm
    rw [List.mem_append, List.mem_singleton] at hm
    rcases hm with hm | hm
    · exact e4 q (by omega) hm
    · omega
theorem x_ini1 {S : PS} {n x : Nat} (hx : vd S x 4) (hn : frn S n) (hxn : x < n) : ∃ S1, f_X4_init S n x = f_X4_init_B67 S1 (n + 23) x ∧ IP n x n 6 S1 := by
  obtain ⟨S1, k1, k2, k3, k4⟩ := x_new hn (z := (1, 0, 1, true)) ⟨by decide, by decide, by decide, by decide, by decide⟩
  have k1 : f_X0_init (nO S n 0) n 1 0 1 = some S1 := k1
  have n1 := hn.nx k4
  obtain ⟨e1, e2, e3, e4⟩ := x_st0 (n := n + 1) n1 k3.1 f0
  have I0 := x_ini0 (S2 := st0 S1 (n + 1) n) (n := n) (x := x) (e2.1 _ _ (k2.1 _ _ hx)) (e2.1 _ _ k3.1) hxn e3 e4
  obtain ⟨S3, g1, g2⟩ := x_fill 6 0 _ (by omega) I0
  refine ⟨S3, ?_, g2⟩
  rw [← g1]
  unfold f_X4_init
  rw [k1, bd_s, show f_X3_init (nO S1 (n + 1) 3) (n + 1 + 1) (n + 1) n = _ from e1, bd_s]
  show f_X4_init_L38 f_X4_init_B67 (6 + 1) (sR (nA (sR (st0 S1 (n + 1) n) 64 x (some (n + 1))) (n + 1 + 3) 8 6) 65 x (some (n + 1 + 3))) (n + 1 + 3 + 1) x n 0 = _
  have z : (0 : Int32) = nI 0 := rfl
  rw [show n + 1 + 3 = n + 4 by omega, show n + 4 + 1 = n + 5 + 3 * 0 by omega, z]
theorem x_ini2 {S3 : PS} {n x : Nat} (hxn : x < n) (g2 : IP n x n 6 S3) : XX (d5 S3 (n + 23) x) x (tT n) (n + 4) (n + 23) (n + 23 + 1) (n + 23 + 1 + 1) o0 := by
  obtain ⟨i1, i2, i3, i4, i5, i6, i7, i8, i9⟩ := g2
  have i9 : frn S3 (n + 23) := i9
  have K := d_kx (x := x) i9
  obtain ⟨D0, D1, D2, D3⟩ := d_ex (x := x) i9
  have x1 : x ≠ n + 23 + 1 := by omega
  have x2 : x ≠ n + 23 + 1 + 1 := by omega
  have nsa : n + 4 ≠ n + 23 := by omega
  obtain ⟨y1, y2, y3, y4, y5⟩ := K.2 x i1.1
  obtain ⟨a1, a2, a3, a4, a5⟩ := K.2 (n + 4) i5.1
  have t6 := tT6 n
  refine ⟨⟨D0 _ _ i1, ?_, (y2 65 (by decide)).trans i4, ?_, ?_, ?_, D0 _ _ i5, a3.trans i6, fun q hq => by rw [a5]; exact (i8 q hq).2, D1, by rw [d_aN, va_up_self], D2, D3, fun q hq => ?_, fun p q hp hq hpq => ?_, fun q hq => ?_⟩, ?_, ⟨0, by decide, ?_, fun q hq => absurd hq (Nat.not_lt_zero q)⟩, ?_, ?_, fun j hj => absurd hj (Nat.not_lt_zero j)⟩
  · rw [t6]; exact (y2 64 (by decide)).trans i3
  · rw [d_fR x1 x2, u2_nf (by decide), u2_nf (by decide), u2_self]
  · rw [d_fR x1 x2, u2_nf (by decide), u2_self]
  · rw [d_fR x1 x2, u2_self]
  · rcases Nat.eq_or_lt_of_le hq with z | z
    · rw [z, t6]; exact (i7.kx' K).1
    · exact (i8 q z).1.kx' K
  · rcases Nat.eq_or_lt_of_le hp with z1 | z1
    · rcases Nat.eq_or_lt_of_le hq with z2 | z2
      · omega
      · rw [z1, t6, tTn z2]
        exact ⟨by show n + 1 ≠ n + 5 + 3 * q; omega, by show n + 2 ≠ n + 5 + 3 * q + 1; omega, by show n + 3 ≠ n + 5 + 3 * q + 2; omega⟩
    · rcases Nat.eq_or_lt_of_le hq with z2 | z2
      · rw [z2, t6, tTn z1]
        exact ⟨by show n + 5 + 3 * p ≠ n + 1; omega, by show n + 5 + 3 * p + 1 ≠ n + 2; omega, by show n + 5 + 3 * p + 2 ≠ n + 3; omega⟩
      · rw [tTn z1, tTn z2]
        exact ⟨by show n + 5 + 3 * p ≠ n + 5 + 3 * q; omega, by show n + 5 + 3 * p + 1 ≠ n + 5 + 3 * q + 1; omega, by show n + 5 + 3 * p + 2 ≠ n + 5 + 3 * q + 2; omega⟩
  · rcases Nat.eq_or_lt_of_le hq with z | z
    · rw [z, t6]; show n + 3 ≠ n + 23; omega
    · rw [tTn z]; show n + 5 + 3 * q + 2 ≠ n + 23; omega
  · rw [t6]; exact i7.kx' K
  · rw [d_fI x1 x2, u2_nf (by decide), u2_nf (by decide), u2_self]; rfl
  · rw [d_fI x1 x2, u2_nf (by decide), u2_self]; rfl
  · rw [d_fI x1 x2, u2_self]; rfl
theorem x_init {S : PS} {n x : Nat} (hx : vd S x 4) (hn : frn S n) (hxn : x < n) : ∃ S1, f_X4_init S n x = some (S1, n + 23 + 1 + 1 + 1) ∧ XX S1 x (tT n) (n + 4) (n + 23) (n + 23 + 1) (n + 23 + 1 + 1) o0 := by
  obtain ⟨S3, g1, g2⟩ := x_ini1 hx hn hxn
  exact ⟨d5 S3 (n + 23) x, by rw [g1, b67], x_ini2 hxn g2⟩
/-! the reference's object -/
def r5 (S : PS) (n h : Nat) : PS := sI (sR (nA (sR (nA (sR (nA (sR (nA S n 6 45) 81 h (some n)) (n + 1) 6 270) 82 h (some (n + 1))) (n + 1 + 1) 6 60) 84 h (some (n + 1 + 1))) (n + 1 + 1 + 1) 6 45) 88 h (some (n + 1 + 1 + 1))) 80 h 0
theorem m_init {S : PS} {n h : Nat} (hh : vd S h 5) (hn : frn S n) (h83 : fI S 83 h = 0) (h85 : fI S 85 h = 0) : f_X5_init S n h = some (r5 S n h, n + 1 + 1 + 1 + 1) ∧ MM (r5 S n h) h n (n + 1) (n + 1 + 1) (n + 1 + 1 + 1) o0 := by
  have q0 : n ∉ PL S := hn n (Nat.le_refl _)
  have hne : h ≠ n := fun e => q0 (by rw [← e]; exact hh.1)
  have p1 : ∀ q, n + 1 ≤ q → q ∉ PL (nA S n 6 45) := fun q hq hm => by
    have hm : q ∈ PL S ++ [n] := hm
    rw [List.mem_append, List.mem_singleton] at hm
    rcases hm with hm | hm
    · exact hn q (by omega) hm
    · omega
  have p2 : ∀ q, n + 2 ≤ q → q ∉ PL (nA (sR (nA S n 6 45) 81 h (some n)) (n + 1) 6 270) := fun q hq hm => by
    rw [PL_nA, PL_sR, List.mem_append, List.mem_singleton] at hm
    rcases hm with hm | hm
    · exact p1 q (by omega) hm
    · omega
  have p3 : ∀ q, n + 3 ≤ q → q ∉ PL (nA (sR (nA (sR (nA S n 6 45) 81 h (some n)) (n + 1) 6 270) 82 h (some (n + 1))) (n + 1 + 1) 6 60) := fun q hq hm => by
    rw [PL_nA, PL_sR, List.mem_append, List.mem_singleton] at hm
    rcases hm with hm | hm
    · exact p2 q (by omega) hm
    · omega
  have X0 : EX S (nA S n 6 45) := EX.nA q0
  have X1 : EX (nA S n 6 45) (nA (sR (nA S n 6 45) 81 h (some n)) (n + 1) 6 270) := EX.nA (S := sR (nA S n 6 45) 81 h (some n)) (n := 270) (p1 _ (Nat.le_refl _))
  have X2 : EX (nA (sR (nA S n 6 45) 81 h (some n)) (n + 1) 6 270) (nA (sR (nA (sR (nA S n 6 45) 81 h (some n)) (n + 1) 6 270) 82 h (some (n + 1))) (n + 1 + 1) 6 60) := EX.nA (S := sR (nA (sR (nA S n 6 45) 81 h (some n)) (n + 1) 6 270) 82 h (some (n + 1))) (n := 60) (p2 _ (Nat.le_refl _))
  have X3 : EX (nA (sR (nA (sR (nA S n 6 45) 81 h (some n)) (n + 1) 6 270) 82 h (some (n + 1))) (n + 1 + 1) 6 60) (r5 S n h) := EX.nA (S := sR (nA (sR (nA (sR (nA S n 6 45) 81 h (some n)) (n + 1) 6 270) 82 h (some (n + 1))) (n + 1 + 1) 6 60) 84 h (some (n + 1 + 1))) (n := 45) (p3 _ (Nat.le_refl _))
  have v0 : vd (nA S n 6 45) n 6 := vd_nA
  have v1 : vd (nA (sR (nA S n 6 45) 81 h (some n)) (n + 1) 6 270) (n + 1) 6 := vd_nA (S := sR (nA S n 6 45) 81 h (some n)) (n := 270)
  have v2 : vd (nA (sR (nA (sR (nA S n 6 45) 81 h (some n)) (n + 1) 6 270) 82 h (some (n + 1))) (n + 1 + 1) 6 60) (n + 1 + 1) 6 := vd_nA (S := sR (nA (sR (nA S n 6 45) 81 h (some n)) (n + 1) 6 270) 82 h (some (n + 1))) (n := 60)
  have v3 : vd (r5 S n h) (n + 1 + 1 + 1) 6 := vd_nA (S := sR (nA (sR (nA (sR (nA S n 6 45) 81 h (some n)) (n + 1) 6 270) 82 h (some (n + 1))) (n + 1 + 1) 6 60) 84 h (some (n + 1 + 1))) (n := 45)
  have eR : ∀ i a, fR (r5 S n h) i a = u2 (u2 (u2 (u2 (fR S) 81 h (some n)) 82 h (some (n + 1))) 84 h (some (n + 1 + 1))) 88 h (some (n + 1 + 1 + 1)) i a := fun _ _ => rfl
  have eN : ∀ a, aN (r5 S n h) a = va_up (va_up (va_up (va_up (aN S) n 45) (n + 1) 270) (n + 1 + 1) 60) (n + 1 + 1 + 1) 45 a := fun _ => rfl
  have eI : ∀ a, aI (r5 S n h) a = va_up (va_up (va_up (va_up (aI S) n (fun _ => 0)) (n + 1) (fun _ => 0)) (n + 1 + 1) (fun _ => 0)) (n + 1 + 1 + 1) (fun _ => 0) a := fun _ => rfl
  refine ⟨rfl, ⟨X3 _ _ (X2 _ _ (X1 _ _ (X0 _ _ hh))), ?_, ?_, ?_, ?_, X3 _ _ (X2 _ _ (X1 _ _ v0)), X3 _ _ (X2 _ _ v1), X3 _ _ v2, v3, ?_, ?_, ?_, ?_, by omega, by omega, by omega, by omega, by omega, by omega⟩, ⟨?_, fun c hc => absurd hc (Nat.not_lt_zero c)⟩, ?_, fun q hq => absurd hq (Nat.not_lt_zero q), ?_, fun j hj => absurd hj (Nat.not_lt_zero j)⟩
  · rw [eR, u2_nf (by decide), u2_nf (by decide), u2_nf (by decide), u2_self]
  · rw [eR, u2_nf (by decide), u2_nf (by decide), u2_self]
  · rw [eR, u2_nf (by decide), u2_self]
  · rw [eR, u2_self]
  · rw [eN, va_up_ne _ _ (by omega), va_up_ne _ _ (by omega), va_up_ne _ _ (by omega), va_up_self]
  · rw [eN, va_up_ne _ _ (by omega), va_up_ne _ _ (by omega), va_up_self]
  · rw [eN, va_up_ne _ _ (by omega), va_up_self]
  · rw [eN, va_up_self]
  · rw [eI, va_up_ne _ _ (by omega), va_up_ne _ _ (by omega), va_up_ne _ _ (by omega), va_up_self]; rfl
  · show fI (sI _ 80 h 0) 83 h = nI 0
    rw [fI_ne (by decide)]
    exact h83
  · show fI (sI _ 80 h 0) 85 h = nI 0
    rw [fI_ne (by decide)]
    exact h85

/-! ===== the class: reading a text ===== -/
theorem XX.al {S S1 : PS} {x : Nat} {T : Nat → TR} {sa bu sc jo : Nat} {o : OS} (H : XX S x T sa bu sc jo o) (e : ∀ t, stf t S S1) (e1 : fI S1 66 x = fI S 66 x) (e2 : fI S1 67 x = fI S 67 x) (e3 : fI S1 69 x = fI S 69 x) (eb : aI S1 bu = aI S bu) : XX S1 x T sa bu sc jo o := by
  obtain ⟨R, V, ⟨od, d1, d2, d3⟩, f1, f2, f3⟩ := H
  exact ⟨R.al e, V.al e, ⟨od, d1, e1.trans d2, fun q hq => (d3 q hq).al e⟩, e2.trans f1, e3.trans f2, fun j hj => by rw [eb]; exact f3 j hj⟩
/-- the scanner stands at q -/
def SCN (S : PS) (sc : Nat) (q : SS) : Prop := vd S sc 2 ∧ fI S 32 sc = nI q.1 ∧ fI S 33 sc = nI q.2.1 ∧ fI S 34 sc = nI q.2.2.1 ∧ fI S 35 sc = nI q.2.2.2
def scf (S S1 : PS) : Prop := PL S1 = PL S ∧ PK S1 = PK S ∧ fL S1 = fL S ∧ fR S1 = fR S ∧ aN S1 = aN S ∧ aI S1 = aI S ∧ aR S1 = aR S ∧ ∀ i a, i < 32 ∨ 35 < i → fI S1 i a = fI S i a
theorem scf.rf {S : PS} : scf S S := ⟨rfl, rfl, rfl, rfl, rfl, rfl, rfl, fun _ _ _ => rfl⟩
theorem scf.tr {S S1 S2 : PS} (h : scf S S1) (g : scf S1 S2) : scf S S2 := by
  obtain ⟨a1, a2, a3, a4, a5, a6, a7, a8⟩ := h
  obtain ⟨b1, b2, b3, b4, b5, b6, b7, b8⟩ := g
  exact ⟨b1.trans a1, b2.trans a2, b3.trans a3, b4.trans a4, b5.trans a5, b6.trans a6, b7.trans a7, fun i a q => (b8 i a q).trans (a8 i a q)⟩
theorem scf.I {S : PS} {i a : Nat} {v : Int32} (h1 : 32 ≤ i) (h2 : i ≤ 35) : scf S (sI S i a v) := ⟨rfl, rfl, rfl, rfl, rfl, rfl, rfl, fun j b q => fI_ne (by omega)⟩
theorem scf.st {S S1 : PS} (h : scf S S1) : ∀ t, stf t S S1 := by
  obtain ⟨a1, a2, a3, a4, a5, a6, a7, a8⟩ := h
  exact fun t => ⟨a1, a2, a4, a5, fun i a q => a8 i a (Or.inl (by omega)), fun i a q _ => a8 i a (Or.inr (by omega)), fun a _ => by rw [a6], fun a _ => by rw [a7]⟩
theorem XX.sn {S S1 : PS} {x : Nat} {T : Nat → TR} {sa bu sc jo : Nat} {o : OS} (H : XX S x T sa bu sc jo o) (e : scf S S1) : XX S1 x T sa bu sc jo o := H.al e.st (e.2.2.2.2.2.2.2 _ _ (Or.inr (by decide))) (e.2.2.2.2.2.2.2 _ _ (Or.inr (by decide))) (e.2.2.2.2.2.2.2 _ _ (Or.inr (by decide))) (by rw [e.2.2.2.2.2.1])
/-- a new place and value -/
theorem SCN.v {S : PS} {sc : Nat} {q : SS} (Q : SCN S sc q) {p v : Nat} : SCN (sI (sI S 32 sc (nI p)) 33 sc (nI v)) sc (p, v, q.2.2) := ⟨Q.1, (fI_ne (by decide)).trans fI_s, fI_s, (fI_ne (by decide)).trans ((fI_ne (by decide)).trans Q.2.2.2.1), (fI_ne (by decide)).trans ((fI_ne (by decide)).trans Q.2.2.2.2)⟩
theorem SCN.w {S : PS} {sc : Nat} {q : SS} (Q : SCN S sc q) {v : Nat} : SCN (sI S 33 sc (nI v)) sc (q.1, v, q.2.2) := ⟨Q.1, (fI_ne (by decide)).trans Q.2.1, fI_s, (fI_ne (by decide)).trans Q.2.2.2.1, (fI_ne (by decide)).trans Q.2.2.2.2⟩
theorem SCN.p {S : PS} {sc : Nat} {q : SS} (Q : SCN S sc q) {p : Nat} : SCN (sI S 32 sc (nI p)) sc (p, q.2) := ⟨Q.1, fI_s, (fI_ne (by decide)).trans Q.2.2.1, (fI_ne (by decide)).trans Q.2.2.2.1, (fI_ne (by decide)).trans Q.2.2.2.2⟩
theorem SCN.f {S : PS} {sc : Nat} {q : SS} (Q : SCN S sc q) {f : Nat} : SCN (sI (sI S 34 sc (nI f)) 32 sc 2) sc (2, q.2.1, f, q.2.2.2) := ⟨Q.1, fI_s, (fI_ne (by decide)).trans ((fI_ne (by decide)).trans Q.2.2.1), (fI_ne (by decide)).trans fI_s, (fI_ne (by decide)).trans ((fI_ne (by decide)).trans Q.2.2.2.2)⟩
theorem SCN.r {S : PS} {sc : Nat} {q : SS} (Q : SCN S sc q) {f : Nat} : SCN (sI (sI S 35 sc (nI f)) 32 sc 5) sc (5, q.2.1, q.2.2.1, f) := ⟨Q.1, fI_s, (fI_ne (by decide)).trans ((fI_ne (by decide)).trans Q.2.2.1), (fI_ne (by decide)).trans ((fI_ne (by decide)).trans Q.2.2.2.1), (fI_ne (by decide)).trans fI_s⟩
/-- what a step of the scanner leaves -/
def SX (S : PS) (sc : Nat) (q : SS) (e : Option (Int32 × PS)) (w : Option SS) : Prop := ∃ S1, e = some (b2 w.isSome, S1) ∧ scf S S1 ∧ SCN S1 sc (w.getD q)
theorem x_beg {S : PS} {sc : Nat} {q : SS} (Q : SCN S sc q) {p d l : Nat} (hd : d ≤ 9) (hl : l ≤ 1) : SX S sc q (bd (f_X2_begins S sc (nI p) (nI d) (nI l)) fun t2 => ck (decide (t2.1 &&& 1 = t2.1)) (some (t2.1, t2.2))) (if l ≤ d then some (p, d, q.2.2) else none) := by
  unfold f_X2_begins
  by_cases y : l ≤ d
  · rw [if_pos (nI_le y (by omega)), if_pos y, bd_s]
    exact ⟨_, ckb1, (scf.I (by decide) (by decide)).tr (scf.I (by decide) (by decide)), Q.v⟩
  · rw [if_neg (nle (by omega) (by omega)), if_neg y, bd_s]
    exact ⟨_, ckb0, scf.rf, Q⟩
theorem x_cont {S : PS} {sc : Nat} {q : SS} (Q : SCN S sc q) (hv : q.2.1 ≤ 999) {d : Nat} (hd : d ≤ 9) : SX S sc q (bd (f_X2_continues S sc (nI d)) fun t2 => ck (decide (t2.1 &&& 1 = t2.1)) (some (t2.1, t2.2))) (if q.2.1 < 1 ∨ 999 < q.2.1 * 10 + d then none else some (q.1, q.2.1 * 10 + d, q.2.2)) := by
  unfold f_X2_continues f_X2_continues_B23
  rw [Q.2.2.1, show (10 : Int32) = nI 10 from rfl, pk_mul, nI_add]
  by_cases y : q.2.1 < 1
  · rw [if_pos (show nI q.2.1 < 1 from nI_lt (b := 1) y (by decide)), if_pos (Or.inl y), bd_s]
    exact ⟨_, ckb0, scf.rf, Q⟩
  · rw [if_neg (show ¬ nI q.2.1 < 1 from nlt (b := 1) (by omega) (by omega))]
    by_cases y2 : 999 < q.2.1 * 10 + d
    · rw [if_neg (show ¬ nI (q.2.1 * 10 + d) ≤ 999 from nle (b := 999) y2 (by omega)), if_pos (Or.inr y2), bd_s]
      exact ⟨_, ckb0, scf.rf, Q⟩
    · rw [if_pos (show nI (q.2.1 * 10 + d) ≤ 999 from nI_le (b := 999) (by omega) (by decide)), if_neg (by omega), bd_s]
      exact ⟨_, ckb1, scf.I (by decide) (by decide), Q.w⟩
theorem x_digit {S : PS} {sc : Nat} {q : SS} (Q : SCN S sc q) (hp : q.1 ≤ 6) (hv : q.2.1 ≤ 999) {d : Nat} (hd : d ≤ 9) : SX S sc q (f_X2_takesDigit S sc (nI d)) (dgt q d) := by
  obtain ⟨p, v, x⟩ := q
  have e32 : fI S 32 sc = nI p := Q.2.1
  unfold f_X2_takesDigit dgt
  rw [e32]
  have hp : p ≤ 6 := hp
  have h7 : p = 0 ∨ p = 1 ∨ p = 2 ∨ p = 3 ∨ p = 4 ∨ p = 5 ∨ p = 6 := by omega
  rcases h7 with e | e | e | e | e | e | e <;> subst e
  · rw [if_pos (show nI 0 = 0 from rfl), if_pos (show (0, v, x).1 = 0 from rfl)]
    exact x_beg Q (p := 1) (l := 1) hd (by decide)
  · rw [if_neg (show ¬ nI 1 = 0 by decide), if_pos (show nI 1 = 1 from rfl), if_neg (show ¬ (1, v, x).1 = 0 from (by decide : ¬ (1 : Nat) = 0)), if_neg (show ¬ (1, v, x).1 = 3 from (by decide : ¬ (1 : Nat) = 3)), if_neg (show ¬ (1, v, x).1 = 5 from (by decide : ¬ (1 : Nat) = 5)), if_neg (show ¬ (1, v, x).1 = 2 from (by decide : ¬ (1 : Nat) = 2))]
    exact x_cont Q hv hd
  · rw [if_neg (show ¬ nI 2 = 0 by decide), if_neg (show ¬ nI 2 = 1 by decide), if_pos (show nI 2 = 2 from rfl), if_neg (show ¬ (2, v, x).1 = 0 from (by decide : ¬ (2 : Nat) = 0)), if_neg (show ¬ (2, v, x).1 = 3 from (by decide : ¬ (2 : Nat) = 3)), if_neg (show ¬ (2, v, x).1 = 5 from (by decide : ¬ (2 : Nat) = 5)), if_pos (show (2, v, x).1 = 2 from rfl)]
    exact ⟨S, rfl, scf.rf, Q⟩
  · rw [if_neg (show ¬ nI 3 = 0 by decide), if_neg (show ¬ nI 3 = 1 by decide), if_neg (show ¬ nI 3 = 2 by decide), if_pos (show nI 3 = 3 from rfl), if_neg (show ¬ (3, v, x).1 = 0 from (by decide : ¬ (3 : Nat) = 0)), if_pos (show (3, v, x).1 = 3 from rfl)]
    have := x_beg Q (p := 4) (l := 0) hd (by decide)
    rw [if_pos (Nat.zero_le _)] at this
    exact this
  · rw [if_neg (show ¬ nI 4 = 0 by decide), if_neg (show ¬ nI 4 = 1 by decide), if_neg (show ¬ nI 4 = 2 by decide), if_neg (show ¬ nI 4 = 3 by decide), if_pos (show nI 4 = 4 from rfl), if_neg (show ¬ (4, v, x).1 = 0 from (by decide : ¬ (4 : Nat) = 0)), if_neg (show ¬ (4, v, x).1 = 3 from (by decide : ¬ (4 : Nat) = 3)), if_neg (show ¬ (4, v, x).1 = 5 from (by decide : ¬ (4 : Nat) = 5)), if_neg (show ¬ (4, v, x).1 = 2 from (by decide : ¬ (4 : Nat) = 2))]
    exact x_cont Q hv hd
  · rw [if_neg (show ¬ nI 5 = 0 by decide), if_neg (show ¬ nI 5 = 1 by decide), if_neg (show ¬ nI 5 = 2 by decide), if_neg (show ¬ nI 5 = 3 by decide), if_neg (show ¬ nI 5 = 4 by decide), if_pos (show nI 5 = 5 from rfl), if_neg (show ¬ (5, v, x).1 = 0 from (by decide : ¬ (5 : Nat) = 0)), if_neg (show ¬ (5, v, x).1 = 3 from (by decide : ¬ (5 : Nat) = 3)), if_pos (show (5, v, x).1 = 5 from rfl)]
    exact x_beg Q (p := 6) (l := 1) hd (by decide)
  · rw [if_neg (show ¬ nI 6 = 0 by decide), if_neg (show ¬ nI 6 = 1 by decide), if_neg (show ¬ nI 6 = 2 by decide), if_neg (show ¬ nI 6 = 3 by decide), if_neg (show ¬ nI 6 = 4 by decide), if_neg (show ¬ nI 6 = 5 by decide), if_pos (show nI 6 = 6 from rfl), if_neg (show ¬ (6, v, x).1 = 0 from (by decide : ¬ (6 : Nat) = 0)), if_neg (show ¬ (6, v, x).1 = 3 from (by decide : ¬ (6 : Nat) = 3)), if_neg (show ¬ (6, v, x).1 = 5 from (by decide : ¬ (6 : Nat) = 5)), if_neg (show ¬ (6, v, x).1 = 2 from (by decide : ¬ (6 : Nat) = 2))]
    exact x_cont Q hv hd
theorem nI_iff {a b : Nat} (ha : a < 2 ^ 31) (hb : b < 2 ^ 31) : nI a = nI b ↔ a = b := nI_eq ha hb
theorem x_sign {S : PS} {sc : Nat} {q : SS} (Q : SCN S sc q) (hp : q.1 ≤ 6) {c : Nat} (hc : c ≤ 126) : SX S sc q (f_X2_takesSign S sc (nI c)) (sgnS q c) := by
  have e32 : fI S 32 sc = nI q.1 := Q.2.1
  have ci : ∀ d, d < 2 ^ 31 → (nI c = nI d ↔ c = d) := fun d hd => nI_iff (by omega) hd
  have pi : ∀ d, d < 2 ^ 31 → (nI q.1 = nI d ↔ q.1 = d) := fun d hd => nI_iff (by omega) hd
  have no : SX S sc q (f_X2_takesSign_B119 S) none := ⟨S, rfl, scf.rf, Q⟩
  have b97 : SX S sc q (f_X2_takesSign_B97 S sc (nI c)) (if c = 59 ∧ q.1 = 6 then some (0, q.2) else none) := by
    unfold f_X2_takesSign_B97
    rw [e32]
    by_cases y : c = 59
    · rw [if_pos (show nI c = 59 from (ci 59 (by decide)).mpr y)]
      by_cases y2 : q.1 = 6
      · rw [if_pos (show nI q.1 = 6 from (pi 6 (by decide)).mpr y2), if_pos ⟨y, y2⟩]
        exact ⟨_, rfl, scf.I (by decide) (by decide), Q.p (p := 0)⟩
      · rw [if_neg (show ¬ nI q.1 = 6 from fun z => y2 ((pi 6 (by decide)).mp z)), if_neg (fun z => y2 z.2)]
        exact no
    · rw [if_neg (show ¬ nI c = 59 from fun z => y ((ci 59 (by decide)).mp z)), if_neg (fun z => y z.1)]
      exact no
  have b68 : SX S sc q (f_X2_takesSign_B68 S sc (nI c)) (if c = 37 ∧ q.1 = 4 then some (5, q.2.1, q.2.2.1, q.2.1) else if c = 59 ∧ q.1 = 6 then some (0, q.2) else none) := by
    unfold f_X2_takesSign_B68
    rw [e32, Q.2.2.1]
    by_cases y : c = 37
    · rw [if_pos (show nI c = 37 from (ci 37 (by decide)).mpr y)]
      by_cases y2 : q.1 = 4
      · rw [if_pos (show nI q.1 = 4 from (pi 4 (by decide)).mpr y2), if_pos ⟨y, y2⟩]
        exact ⟨_, rfl, (scf.I (by decide) (by decide)).tr (scf.I (by decide) (by decide)), Q.r⟩
      · rw [if_neg (show ¬ nI q.1 = 4 from fun z => y2 ((pi 4 (by decide)).mp z)), if_neg (fun z => y2 z.2)]
        exact b97
    · rw [if_neg (show ¬ nI c = 37 from fun z => y ((ci 37 (by decide)).mp z)), if_neg (fun z => y z.1)]
      exact b97
  have b47 : SX S sc q (f_X2_takesSign_B47 S sc (nI c)) (if c = 61 ∧ q.1 = 2 then some (3, q.2) else if c = 37 ∧ q.1 = 4 then some (5, q.2.1, q.2.2.1, q.2.1) else if c = 59 ∧ q.1 = 6 then some (0, q.2) else none) := by
    unfold f_X2_takesSign_B47
    rw [e32]
    by_cases y : c = 61
    · rw [if_pos (show nI c = 61 from (ci 61 (by decide)).mpr y)]
      by_cases y2 : q.1 = 2
      · rw [if_pos (show nI q.1 = 2 from (pi 2 (by decide)).mpr y2), if_pos ⟨y, y2⟩]
        exact ⟨_, rfl, scf.I (by decide) (by decide), Q.p (p := 3)⟩
      · rw [if_neg (show ¬ nI q.1 = 2 from fun z => y2 ((pi 2 (by decide)).mp z)), if_neg (fun z => y2 z.2)]
        exact b68
    · rw [if_neg (show ¬ nI c = 61 from fun z => y ((ci 61 (by decide)).mp z)), if_neg (fun z => y z.1)]
      exact b68
  unfold f_X2_takesSign f_X2_takesSign_B21 f_X2_takesSign_B37 sgnS
  rw [e32, Q.2.2.1]
  by_cases y : c = 120
  · rw [if_pos (show nI c = 120 from (ci 120 (by decide)).mpr y)]
    by_cases y0 : q.1 = 0
    · rw [if_pos (show nI q.1 = 0 from (pi 0 (by decide)).mpr y0), if_pos (show nI q.1 = 0 from (pi 0 (by decide)).mpr y0), if_pos ⟨y, Or.inl y0⟩, if_pos y0]
      exact ⟨_, rfl, (scf.I (by decide) (by decide)).tr (scf.I (by decide) (by decide)), Q.f (f := 1)⟩
    · rw [if_neg (show ¬ nI q.1 = 0 from fun z => y0 ((pi 0 (by decide)).mp z))]
      by_cases y1 : q.1 = 1
      · rw [if_pos (show nI q.1 = 1 from (pi 1 (by decide)).mpr y1), if_neg (show ¬ nI q.1 = 0 from fun z => y0 ((pi 0 (by decide)).mp z)), if_pos ⟨y, Or.inr y1⟩, if_neg y0]
        exact ⟨_, rfl, (scf.I (by decide) (by decide)).tr (scf.I (by decide) (by decide)), Q.f⟩
      · rw [if_neg (show ¬ nI q.1 = 1 from fun z => y1 ((pi 1 (by decide)).mp z)), if_neg (fun z => z.2.elim y0 y1)]
        exact b47
  · rw [if_neg (show ¬ nI c = 120 from fun z => y ((ci 120 (by decide)).mp z)), if_neg (fun z => y z.1)]
    exact b47
theorem x_takes {S : PS} {sc : Nat} {q : SS} (Q : SCN S sc q) (hq : okS q) {c : Nat} (hc : c ≤ 126) : SX S sc q (f_X2_takes S sc (nI c)) (stp q c) := by
  unfold f_X2_takes f_X2_takes_B23 f_X2_takes_B28 stp
  have wrap : ∀ (e : Option (Int32 × PS)) (w : Option SS), SX S sc q e w → SX S sc q (bd e fun t => ck (decide (t.1 &&& 1 = t.1)) (some (t.1, t.2))) w := by
    rintro e w ⟨S1, e1, e2, e3⟩
    refine ⟨S1, ?_, e2, e3⟩
    rw [e1, bd_s]
    exact ckb2 _
  by_cases y1 : c < 48
  · rw [if_pos (show nI c < 48 from nI_lt (b := 48) y1 (by decide)), if_neg (fun z => by omega)]
    exact wrap _ _ (x_sign Q hq.1 hc)
  · rw [if_neg (show ¬ nI c < 48 from nlt (b := 48) (by omega) (by omega))]
    by_cases y2 : 57 < c
    · rw [if_pos (show (57 : Int32) < nI c from nI_lt (a := 57) y2 (by omega)), if_neg (fun z => by omega)]
      exact wrap _ _ (x_sign Q hq.1 hc)
    · rw [if_neg (show ¬ (57 : Int32) < nI c from nlt (a := 57) (by omega) (by decide)), if_pos ⟨by omega, by omega⟩, show nI c - (48 : Int32) = nI (c - 48) from pk_sub (b := 48) (by omega)]
      exact wrap _ _ (x_digit Q hq.1 hq.2.1 (by omega))
theorem x_code {S : PS} {x : Nat} {T : Nat → TR} {sa bu sc jo : Nat} {o : OS} (H : XX S x T sa bu sc jo o) (ho : OKs o) {k : Nat} (hk : k < o.2.2.2.1) : f_X4_codeAt S x (nI k) = some (nI (o.2.2.2.2 k)) := by
  have h60 := ho.2.2.2.1
  have n60 := H.1.2.2.2.2.2.2.2.2.2.2.1
  unfold f_X4_codeAt f_X4_codeAt_B22 f_X4_codeAt_B23
  rw [if_neg (nneg (by omega)), rbu H.1, n60, if_neg (nle (by omega) (by decide)), rbu H.1, n60, ck_t (nI_in (by omega) (by decide)), nI_clamp (by omega), H.2.2.2.2.2 k hk]
theorem x_start {S : PS} {x : Nat} {T : Nat → TR} {sa bu sc jo : Nat} {o : OS} (H : XX S x T sa bu sc jo o) : ∃ S1, f_X2_start S sc = some S1 ∧ scf S S1 ∧ SCN S1 sc (0, 0, 1, 0) := by
  refine ⟨_, rfl, (((scf.I (by decide) (by decide)).tr (scf.I (by decide) (by decide))).tr (scf.I (by decide) (by decide))).tr (scf.I (by decide) (by decide)), H.1.2.2.2.2.2.2.2.2.2.2.2.1, ?_, ?_, ?_, fI_s⟩
  · rw [fI_ne (by decide), fI_ne (by decide), fI_ne (by decide)]; exact fI_s
  · rw [fI_ne (by decide), fI_ne (by decide)]; exact fI_s
  · rw [fI_ne (by decide)]; exact fI_s
theorem x_first {S : PS} {x : Nat} {T : Nat → TR} {sa bu sc jo : Nat} {o : OS} (H : XX S x T sa bu sc jo o) (ho : OKs o) : ∃ S1, f_X4_firstError S x = some (nI (fe o.2.2.2.2 o.2.2.2.1), S1) ∧ XX S1 x T sa bu sc jo o ∧ PL S1 = PL S ∧ ((fe o.2.2.2.2 o.2.2.2.1 = o.2.2.2.1 ∧ ∃ q, rn o.2.2.2.2 o.2.2.2.1 = some q ∧ SCN S1 sc q) ∨ (fe o.2.2.2.2 o.2.2.2.1 < o.2.2.2.1 ∧ vl o.2.2.2.2 o.2.2.2.1 = false)) := by
  have h60 := ho.2.2.2.1
  have loop : ∀ fu k S' q, 61 < fu + k → k ≤ o.2.2.2.1 → XX S' x T sa bu sc jo o → PL S' = PL S → SCN S' sc q → rn o.2.2.2.2 k = some q → ∃ S1, f_X4_firstError_L9 f_X4_firstError_B40 f_X4_firstError_B32 fu S' x (nI k) = some (nI (fe o.2.2.2.2 o.2.2.2.1), S1) ∧ XX S1 x T sa bu sc jo o ∧ PL S1 = PL S ∧ ((fe o.2.2.2.2 o.2.2.2.1 = o.2.2.2.1 ∧ ∃ q, rn o.2.2.2.2 o.2.2.2.1 = some q ∧ SCN S1 sc q) ∨ (fe o.2.2.2.2 o.2.2.2.1 < o.2.2.2.1 ∧ vl o.2.2.2.2 o.2.2.2.1 = false)) := by
    intro fu
    induction fu with
    | zero => intro k S' q h1 h2; omega
    | succ fu ih =>
      intro k S' q h1 h2 H' hP Q hr
      rw [show f_X4_firstError_L9 f_X4_firstError_B40 f_X4_firstError_B32 (fu + 1) S' x (nI k) = f_X4_firstError_L9s (f_X4_firstError_L9 f_X4_firstError_B40 f_X4_firstError_B32 fu) f_X4_firstError_B40 f_X4_firstError_B32 S' x (nI k) from rfl]
      unfold f_X4_firstError_L9s f_X4_firstError_B40 f_X4_firstError_B32
      rw [H'.2.2.2.2.1]
      rcases Nat.eq_or_lt_of_le h2 with y | y
      · rw [y] at hr
        rw [if_pos (by rw [y]; exact Int32.le_refl _)]
        exact ⟨S', by rw [fe_t hr], H', hP, Or.inl ⟨fe_t hr, q, hr, Q⟩⟩
      · have c126 := (ho.2.2.2.2 k y).2
        obtain ⟨S1, e1, e2, e3⟩ := x_takes Q (rn_ok hr) c126
        rw [if_neg (nle y (by omega)), rsc H'.1, x_code H' ho y, bd_s, e1, bd_s]
        cases hs : stp q (o.2.2.2.2 k) with
        | none =>
          have efe := fe_k hr y hs
          show ∃ S2, (if b2 false = 0 then some (nI k, S1) else _) = _ ∧ _
          rw [b2_f, if_pos rfl]
          refine ⟨S1, by rw [efe], H'.sn e2, e2.1.trans hP, Or.inr ⟨by rw [efe]; exact y, ?_⟩⟩
          unfold vl
          have : rn o.2.2.2.2 (k + 1) = none := by rw [rn_s hr, hs]
          rw [rn_n this o.2.2.2.1 y]
        | some q' =>
          rw [hs] at e3
          show ∃ S2, (if b2 true = 0 then _ else f_X4_firstError_L9 _ _ fu S1 x (nI k + 1)) = _ ∧ _
          rw [b2_t, if_neg n10, nI_1]
          exact ih (k + 1) S1 q' (by omega) y (H'.sn e2) (e2.1.trans hP) e3 (by rw [rn_s hr, hs])
  obtain ⟨S1, e1, e2, e3⟩ := x_start H
  unfold f_X4_firstError
  rw [rsc H.1, e1, bd_s]
  exact loop FU 0 S1 _ (by unfold FU; omega) (Nat.zero_le _) (H.sn e2) e2.1 e3 rfl
theorem keep.nO {S : PS} {n k : Nat} (hn : n ∉ PL S) : keep S (nO S n k) := ⟨EX.nO hn, fun a ha => by
  have ne : a ≠ n := fun e => hn (by rw [← e]; exact ha)
  exact ⟨fun i => if_neg ne, fun i => if_neg ne, rfl, rfl, rfl⟩⟩
theorem SCN.kq {S S1 : PS} {sc : Nat} {q : SS} (Q : SCN S sc q) (k : keep S S1) : SCN S1 sc q := by
  obtain ⟨v, f1, f2, f3, f4⟩ := Q
  have f := (k.2 _ v.1).1
  exact ⟨k.1 _ _ v, (f _).trans f1, (f _).trans f2, (f _).trans f3, (f _).trans f4⟩
theorem x_conds {x : Nat} {T : Nat → TR} {sa bu sc jo : Nat} {p : Nat × (Nat → CS) × Nat × (Nat → Nat)} (hv : vl p.2.2.2 p.2.2.1 = true) : ∀ n0 k fu S' n y a q, k + n0 = p.2.2.1 → n0 + 2 ≤ fu → XX S' x T sa bu sc jo (y, p) → OKs (y, p) → frn S' n → SCN S' sc q → rn p.2.2.2 k = some q → ∃ S1 n1, f_X4_readConditions_L11 f_X4_readConditions_B115 f_X4_readConditions_B74 fu S' n x (nI a) (nI k) = some (nI (a + (adl y (sl p.2.2.2 n0 k)).2), S1, n1) ∧ XX S1 x T sa bu sc jo ((adl y (sl p.2.2.2 n0 k)).1, p) ∧ frn S1 n1 := by
  intro n0
  induction n0 with
  | zero =>
    intro k fu S' n y a q hk hf H ho hn Q hr
    have h60 : p.2.2.1 ≤ 60 := ho.2.2.2.1
    obtain ⟨fu, rfl⟩ : ∃ g, fu = g + 2 := ⟨fu - 2, by omega⟩
    have hk : k = p.2.2.1 := hk
    have f69 : fI S' 69 x = nI k := by rw [hk]; exact H.2.2.2.2.1
    have h6 : q.1 = 6 := by
      obtain ⟨q2, v1, v2⟩ := vl_iff.mp hv
      rw [hk, v1] at hr
      exact Option.some.inj hr ▸ v2
    have gz := cdq_gd (rn_ok hr) h6
    rw [show f_X4_readConditions_L11 f_X4_readConditions_B115 f_X4_readConditions_B74 (fu + 2) S' n x (nI a) (nI k) = f_X4_readConditions_L11s (f_X4_readConditions_L11 f_X4_readConditions_B115 f_X4_readConditions_B74 (fu + 1)) f_X4_readConditions_B115 f_X4_readConditions_B74 S' n x (nI a) (nI k) from rfl]
    unfold f_X4_readConditions_L11s f_X4_readConditions_B37
    have hn0 := hn n (Nat.le_refl _)
    have kO := keep.nO (k := 0) hn0
    have RO' := H.1.kp kO
    have QO := Q.kq kO
    obtain ⟨S1, k1, k2, k3, k4⟩ := x_new hn gz
    have k1 : f_X0_init (nO S' n 0) n (nI q.2.2.1) (nI q.2.2.2) (nI q.2.1) = some S1 := k1
    have H1 := H.kp k2
    rw [f69, if_neg (nlt (Nat.le_refl _) (by omega)), if_pos rfl, rsc RO', rsc RO', rsc RO', QO.2.2.1, QO.2.2.2.1, QO.2.2.2.2, k1, bd_s, x_refused H1 ho k3 gz, bd_s]
    have esl : sl p.2.2.2 0 k = [cdq q] := by
      show [cdo (rn p.2.2.2 k)] = _
      rw [hr]; rfl
    rw [esl]
    have ead : adl y [cdq q] = if cn y.2 y.1 (cdq q) = true then ((y.1 + 1, fa y.2 y.1 (cdq q)), 0 + 1) else (y, 0) := rfl
    rw [ead]
    cases hc : cn y.2 y.1 (cdq q)
    · rw [show (!false) = true from rfl, b2_t, if_neg n10, if_neg (by decide)]
      exact ⟨S1, n + 1, rfl, H1, hn.nx k4⟩
    · have hsz : y.1 < 10 := by
        unfold cn at hc
        rw [Bool.and_eq_true, decide_eq_true_iff] at hc
        exact hc.1
      obtain ⟨S2, p1, p2, p3, p4⟩ := x_put H1.2.1 hsz ho.1.2.1 k3 gz rfl
      have H2 := H1.now p2 p4 (p3 66 x (by decide) (by decide)) (p3 67 x (by decide) (by decide)) (p3 69 x (by decide) (by decide))
      have g69 : fI S2 69 x = nI k := by rw [hk]; exact H2.2.2.2.2.1
      rw [show (!true) = false from rfl, b2_f, if_pos rfl, if_pos rfl, rnw H1.1, p1, bd_s]
      unfold f_X4_readConditions_B88 f_X4_readConditions_B109
      rw [g69, if_pos (Int32.le_refl _), nI_1, nI_1]
      rw [show f_X4_readConditions_L11 f_X4_readConditions_B115 f_X4_readConditions_B74 (fu + 1) S2 (n + 1) x (nI (a + 1)) (nI (k + 1)) = f_X4_readConditions_L11s (f_X4_readConditions_L11 f_X4_readConditions_B115 f_X4_readConditions_B74 fu) f_X4_readConditions_B115 f_X4_readConditions_B74 S2 (n + 1) x (nI (a + 1)) (nI (k + 1)) from rfl]
      unfold f_X4_readConditions_L11s f_X4_readConditions_B115
      rw [g69, if_pos (nI_lt (by omega) (by omega))]
      exact ⟨S2, n + 1, rfl, H2, fun z hz => by rw [p2.1]; exact hn.nx k4 z hz⟩
  | succ n0 ih =>
    intro k fu S' n y a q hk hf H ho hn Q hr
    have h60 : p.2.2.1 ≤ 60 := ho.2.2.2.1
    obtain ⟨fu, rfl⟩ : ∃ g, fu = g + 1 := ⟨fu - 1, by omega⟩
    have hkt : k < p.2.2.1 := by omega
    have c126 : p.2.2.2 k ≤ 126 := (ho.2.2.2.2 k hkt).2
    obtain ⟨qt, vt, -⟩ := vl_iff.mp hv
    obtain ⟨q', hr'⟩ := rn_b vt (show k + 1 ≤ p.2.2.1 by omega)
    have hs : stp q (p.2.2.2 k) = some q' := by rw [← rn_s hr]; exact hr'
    rw [show f_X4_readConditions_L11 f_X4_readConditions_B115 f_X4_readConditions_B74 (fu + 1) S' n x (nI a) (nI k) = f_X4_readConditions_L11s (f_X4_readConditions_L11 f_X4_readConditions_B115 f_X4_readConditions_B74 fu) f_X4_readConditions_B115 f_X4_readConditions_B74 S' n x (nI a) (nI k) from rfl]
    unfold f_X4_readConditions_L11s
    -- going on with the character
    have step : ∀ S2 n2 y2 a2, XX S2 x T sa bu sc jo (y2, p) → OKs (y2, p) → frn S2 n2 → SCN S2 sc q → ∃ S1 n1, f_X4_readConditions_B88 (f_X4_readConditions_L11 f_X4_readConditions_B115 f_X4_readConditions_B74 fu) f_X4_readConditions_B115 f_X4_readConditions_B74 S2 n2 x (nI a2) (nI k) = some (nI (a2 + (adl y2 (sl p.2.2.2 n0 (k + 1))).2), S1, n1) ∧ XX S1 x T sa bu sc jo ((adl y2 (sl p.2.2.2 n0 (k + 1))).1, p) ∧ frn S1 n1 := by
      intro S2 n2 y2 a2 H2 ho2 hn2 Q2
      obtain ⟨S3, e1, e2, e3⟩ := x_takes Q2 (rn_ok hr) c126
      unfold f_X4_readConditions_B88 f_X4_readConditions_B109
      rw [H2.2.2.2.2.1, if_neg (show ¬ nI p.2.2.1 ≤ nI k from nle hkt (by omega)), rsc H2.1, x_code H2 ho2 hkt, bd_s, e1, bd_s, nI_1]
      rw [hs] at e3
      exact ih (k + 1) fu S3 n2 y2 a2 q' (by omega) (by omega) (H2.sn e2) ho2 (fun z hz => by rw [e2.1]; exact hn2 z hz) e3 hr'
    rw [H.2.2.2.2.1, if_neg (show ¬ nI p.2.2.1 < nI k from nlt (by omega) (by omega)), if_neg (show ¬ nI k = nI p.2.2.1 from fun z => by have := (nI_eq (by omega) (by omega)).mp z; omega), x_code H ho hkt, bd_s]
    have esl : sl p.2.2.2 (n0 + 1) k = if p.2.2.2 k = 59 then cdq q :: sl p.2.2.2 n0 (k + 1) else sl p.2.2.2 n0 (k + 1) := by
      show (if p.2.2.2 k = 59 then cdo (rn p.2.2.2 k) :: sl p.2.2.2 n0 (k + 1) else sl p.2.2.2 n0 (k + 1)) = _
      rw [hr]; rfl
    rw [esl]
    by_cases d : p.2.2.2 k = 59
    · have h6 : q.1 = 6 := by rw [d] at hs; exact (stp59 hs).1
      have gz := cdq_gd (rn_ok hr) h6
      have hn0 := hn n (Nat.le_refl _)
      have kO := keep.nO (k := 0) hn0
      have RO' := H.1.kp kO
      have QO := Q.kq kO
      obtain ⟨S1, k1, k2, k3, k4⟩ := x_new hn gz
      have k1 : f_X0_init (nO S' n 0) n (nI q.2.2.1) (nI q.2.2.2) (nI q.2.1) = some S1 := k1
      have H1 := H.kp k2
      unfold f_X4_readConditions_B37
      rw [if_pos (show nI (p.2.2.2 k) = 59 by rw [d]; rfl), if_pos d, rsc RO', rsc RO', rsc RO', QO.2.2.1, QO.2.2.2.1, QO.2.2.2.2, k1, bd_s, x_refused H1 ho k3 gz, bd_s]
      have ead : adl y (cdq q :: sl p.2.2.2 n0 (k + 1)) = if cn y.2 y.1 (cdq q) = true then ((adl (y.1 + 1, fa y.2 y.1 (cdq q)) (sl p.2.2.2 n0 (k + 1))).1, (adl (y.1 + 1, fa y.2 y.1 (cdq q)) (sl p.2.2.2 n0 (k + 1))).2 + 1) else (y, 0) := rfl
      rw [ead]
      cases hc : cn y.2 y.1 (cdq q)
      · rw [show (!false) = true from rfl, b2_t, if_neg n10, if_neg (by decide)]
        exact ⟨S1, n + 1, rfl, H1, hn.nx k4⟩
      · have hsz : y.1 < 10 := by
          unfold cn at hc
          rw [Bool.and_eq_true, decide_eq_true_iff] at hc
          exact hc.1
        obtain ⟨S2, p1, p2, p3, p4⟩ := x_put H1.2.1 hsz ho.1.2.1 k3 gz rfl
        have H2 := H1.now p2 p4 (p3 66 x (by decide) (by decide)) (p3 67 x (by decide) (by decide)) (p3 69 x (by decide) (by decide))
        obtain ⟨o1, o2, o3, o4, o5⟩ := id ho
        have ho2 : OKs ((y.1 + 1, fa y.2 y.1 (cdq q)), p) := ⟨cn_ok o1 gz rfl hc, o2, o3, o4, o5⟩
        have Q1 := Q.kq k2
        have Q2 : SCN S2 sc q := ⟨p2.v.mpr Q1.1, (p3 _ _ (by decide) (by decide)).trans Q1.2.1, (p3 _ _ (by decide) (by decide)).trans Q1.2.2.1, (p3 _ _ (by decide) (by decide)).trans Q1.2.2.2.1, (p3 _ _ (by decide) (by decide)).trans Q1.2.2.2.2⟩
        obtain ⟨S3, n3, g1, g2⟩ := step S2 (n + 1) _ (a + 1) H2 ho2 (fun z hz => by rw [p2.1]; exact hn.nx k4 z hz) Q2
        rw [show (!true) = false from rfl, b2_f, if_pos rfl, if_pos rfl, rnw H1.1, p1, bd_s, nI_1]
        rw [show a + 1 + (adl (y.1 + 1, fa y.2 y.1 (cdq q)) (sl p.2.2.2 n0 (k + 1))).2 = a + ((adl (y.1 + 1, fa y.2 y.1 (cdq q)) (sl p.2.2.2 n0 (k + 1))).2 + 1) by omega] at g1
        exact ⟨S3, n3, g1, g2⟩
    · rw [if_neg (show ¬ nI (p.2.2.2 k) = 59 from fun z => d ((nI_eq (b := 59) (by omega) (by decide)).mp z)), if_neg d]
      exact step S' n y a H ho hn Q
theorem x_read {S : PS} {x : Nat} {T : Nat → TR} {sa bu sc jo : Nat} {o : OS} {n : Nat} (H : XX S x T sa bu sc jo o) (ho : OKs o) (hn : frn S n) : XN 0 0 x T sa bu sc jo (f_X4_read S n x) (o_read o) := by
  have h60 := ho.2.2.2.1
  obtain ⟨S1, e1, H1, eP, e2⟩ := x_first H ho
  unfold f_X4_read f_X4_read_B21 o_read
  rw [e1, bd_s, H1.2.2.2.2.1]
  rcases e2 with ⟨f1, q, f2, f3⟩ | ⟨f1, f2⟩
  · rw [f1, if_neg (show ¬ nI o.2.2.2.1 < nI o.2.2.2.1 from nlt (Nat.le_refl _) (by omega)), rsc H1.1]
    unfold f_X2_isComplete f_X2_isComplete_B14
    have okq := rn_ok f2
    rw [f3.2.1]
    by_cases h6 : q.1 = 6
    · have hv : vl o.2.2.2.2 o.2.2.2.1 = true := vl_iff.mpr ⟨q, f2, h6⟩
      obtain ⟨S2, s1, s2, s3, s4, s5, s6⟩ := x_save H1 ho
      obtain ⟨S3, g1, g2, g3⟩ := x_start s2
      have H3 := s2.sn g2
      have hn3 : frn S3 n := fun z hz => by rw [g2.1, s3, eP]; exact hn z hz
      obtain ⟨S4, n4, r1, r2, r3⟩ := x_conds (p := (svO o).2) hv o.2.2.2.1 0 62 S3 n o.1 0 _ (Nat.zero_add _) (by omega) H3 (svO_ok ho) hn3 g3 rfl
      rw [if_pos (show nI q.1 = 6 by rw [h6]; rfl), ckb1, bd_s, if_neg n10, s1, bd_s, if_pos hv]
      unfold f_X4_readConditions
      rw [rsc s2.1, g1, bd_s, show f_X4_readConditions_L11 f_X4_readConditions_B115 f_X4_readConditions_B74 62 S3 n x 0 0 = _ from r1, bd_s]
      have hh := r2.cl
      rw [Nat.zero_add]
      exact XN.ok hh r3
    · have hv : ¬ vl o.2.2.2.2 o.2.2.2.1 = true := fun z => by
        obtain ⟨q2, v1, v2⟩ := vl_iff.mp z
        rw [f2] at v1
        exact h6 (Option.some.inj v1 ▸ v2)
      have := okq.1
      rw [if_neg (show ¬ nI q.1 = 6 from fun z => h6 ((nI_eq (b := 6) (by omega) (by decide)).mp z)), ckb0, bd_s, if_pos rfl, if_neg hv]
      exact XN.t1 H1 (fun z hz => by rw [eP]; exact hn z hz)
  · rw [if_pos (nI_lt f1 (by omega)), if_neg (by rw [f2]; decide)]
    exact XN.t1 H1 (fun z hz => by rw [eP]; exact hn z hz)

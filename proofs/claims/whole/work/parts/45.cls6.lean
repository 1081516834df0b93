/-! ===== the class: states written ===== -/
/-- only what belongs to the state t (and numbers of other kinds) has changed -/
def stf (t : TR) (S S1 : PS) : Prop := PL S1 = PL S ∧ PK S1 = PK S ∧ fR S1 = fR S ∧ aN S1 = aN S ∧ (∀ i a, i < 5 → fI S1 i a = fI S i a) ∧ (∀ i a, i = 51 ∨ i = 52 → a ≠ t.1 → fI S1 i a = fI S i a) ∧ (∀ a, a ≠ t.2.2 → aI S1 a = aI S a) ∧ ∀ a, a ≠ t.2.1 → aR S1 a = aR S a
theorem stf.rf {t : TR} {S : PS} : stf t S S := ⟨rfl, rfl, rfl, rfl, fun _ _ _ => rfl, fun _ _ _ _ => rfl, fun _ _ => rfl, fun _ _ => rfl⟩
theorem stf.tr {t : TR} {S S1 S2 : PS} (h : stf t S S1) (g : stf t S1 S2) : stf t S S2 := by
  obtain ⟨a1, a2, a3, a4, a5, a6, a7, a8⟩ := h
  obtain ⟨b1, b2, b3, b4, b5, b6, b7, b8⟩ := g
  exact ⟨b1.trans a1, b2.trans a2, b3.trans a3, b4.trans a4, fun i a q => (b5 i a q).trans (a5 i a q), fun i a q r => (b6 i a q r).trans (a6 i a q r), fun a q => (b7 a q).trans (a7 a q), fun a q => (b8 a q).trans (a8 a q)⟩
theorem stf.I {t : TR} {S : PS} {i a : Nat} {v : Int32} (hi : 5 ≤ i) (h : i = 51 ∨ i = 52 → a = t.1) : stf t S (sI S i a v) := ⟨rfl, rfl, rfl, rfl, fun j b q => fI_ne (by omega), fun j b q r => by
  by_cases e : j = i
  · subst e
    show u2 (fI S) j a v j b = _
    exact u2_ne (by rw [h q]; exact r)
  · exact fI_ne e, fun _ _ => rfl, fun _ _ => rfl⟩
theorem stf.L {t : TR} {S : PS} {i a : Nat} {v : Int64} : stf t S (sL S i a v) := ⟨rfl, rfl, rfl, rfl, fun _ _ _ => rfl, fun _ _ _ _ => rfl, fun _ _ => rfl, fun _ _ => rfl⟩
theorem stf.A {t : TR} {S : PS} {k v : Int32} : stf t S (sA S t.2.2 k v) := ⟨rfl, rfl, rfl, rfl, fun _ _ _ => rfl, fun _ _ _ _ => rfl, fun a q => va_up_ne _ _ q, fun _ _ => rfl⟩
theorem stf.Q {t : TR} {S : PS} {k : Int32} {v : Option Nat} : stf t S (sQ S t.2.1 k v) := ⟨rfl, rfl, rfl, rfl, fun _ _ _ => rfl, fun _ _ _ _ => rfl, fun _ _ => rfl, fun a q => va_up_ne _ _ q⟩
theorem stf.v {t : TR} {S S1 : PS} (h : stf t S S1) {a k : Nat} : vd S1 a k ↔ vd S a k := by
  unfold vd
  rw [h.1, h.2.1]
theorem CD.st {S S1 : PS} {t : TR} {c : Nat} {y : CT} (h : CD S c y) (e : stf t S S1) : CD S1 c y := by
  obtain ⟨v, e0, e1, e2, e3, e4⟩ := h
  have f := e.2.2.2.2.1
  exact ⟨e.v.mpr v, (f 0 c (by decide)).trans e0, (f 1 c (by decide)).trans e1, (f 2 c (by decide)).trans e2, (f 3 c (by decide)).trans e3, (f 4 c (by decide)).trans e4⟩
theorem SR.st {S S1 : PS} {t u : TR} (h : SR S u) (e : stf t S S1) (r : ∀ k c, k < 10 → aR S1 u.2.1 k = some c → vd S c 0) : SR S1 u := by
  obtain ⟨v, ⟨bl, b1, b2⟩, e1, e2, v1, v2, n1, n2, -⟩ := h
  have eR := e.2.2.1
  have eN := e.2.2.2.1
  exact ⟨e.v.mpr v, ⟨bl, by rw [eR]; exact b1, e.v.mpr b2⟩, by rw [eR]; exact e1, by rw [eR]; exact e2, e.v.mpr v1, e.v.mpr v2, by rw [eN]; exact n1, by rw [eN]; exact n2, fun k c hk hc => e.v.mpr (r k c hk hc)⟩
theorem SR.ot {S S1 : PS} {t u : TR} (h : SR S u) (e : stf t S S1) (n : u.2.1 ≠ t.2.1) : SR S1 u := h.st e (fun k c hk hc => by
  rw [e.2.2.2.2.2.2.2 _ n] at hc
  exact h.2.2.2.2.2.2.2.2 k c hk hc)
theorem SV.ot {S S1 : PS} {t u : TR} {y : CS} (h : SV S u y) (e : stf t S S1) (n1 : u.1 ≠ t.1) (n2 : u.2.1 ≠ t.2.1) (n3 : u.2.2 ≠ t.2.2) : SV S1 u y := by
  obtain ⟨R, f1, f2, c, m⟩ := h
  have g := e.2.2.2.2.2.1
  refine ⟨R.ot e n2, (g 51 _ (Or.inl rfl) n1).trans f1, (g 52 _ (Or.inr rfl) n1).trans f2, fun k hk => ?_, fun k hk => ?_⟩
  · obtain ⟨d, d1, d2⟩ := c k hk
    exact ⟨d, by rw [e.2.2.2.2.2.2.2 _ n2]; exact d1, d2.st e⟩
  · rw [e.2.2.2.2.2.2.1 _ n3]; exact m k hk
theorem SV.al {S S1 : PS} {u : TR} {y : CS} (h : SV S u y) (e : ∀ t, stf t S S1) : SV S1 u y := h.ot (e (u.1 + 1, u.2.1 + 1, u.2.2 + 1)) (by show u.1 ≠ u.1 + 1; omega) (by show u.2.1 ≠ u.2.1 + 1; omega) (by show u.2.2 ≠ u.2.2 + 1; omega)
theorem XR.st {S S1 : PS} {x : Nat} {T : Nat → TR} {sa bu sc jo : Nat} (h : XR S x T sa bu sc jo) {p : Nat} (hp : p ≤ 6) (e : stf (T p) S S1) (r : ∀ k c, k < 10 → aR S1 (T p).2.1 k = some c → vd S c 0) : XR S1 x T sa bu sc jo := by
  obtain ⟨v, r1, r2, r3, r4, r5, v2, n2, e2, v3, n3, v4, v5, c, d, b⟩ := h
  have eR := e.2.2.1
  have eN := e.2.2.2.1
  have hne : sa ≠ (T p).2.1 := fun z => by
    have a1 := v2.2
    have a2 := (c p hp).2.2.2.2.1.2
    rw [z, a2] at a1
    cases a1
  refine ⟨e.v.mpr v, by rw [eR]; exact r1, by rw [eR]; exact r2, by rw [eR]; exact r3, by rw [eR]; exact r4, by rw [eR]; exact r5, e.v.mpr v2, by rw [eN]; exact n2, fun q hq => by rw [e.2.2.2.2.2.2.2 _ hne]; exact e2 q hq, e.v.mpr v3, by rw [eN]; exact n3, e.v.mpr v4, e.v.mpr v5, fun q hq => ?_, d, b⟩
  by_cases z : q = p
  · subst z; exact (c q hq).st e r
  · exact (c q hq).ot e (d q p hq hp z).2.1
theorem XR.al {S S1 : PS} {x : Nat} {T : Nat → TR} {sa bu sc jo : Nat} (h : XR S x T sa bu sc jo) (e : ∀ t, stf t S S1) : XR S1 x T sa bu sc jo := by
  obtain ⟨v, r1, r2, r3, r4, r5, v2, n2, e2, v3, n3, v4, v5, c, d, b⟩ := h
  have e0 := e (sa + 1, sa + 1, sa + 1)
  have eR := e0.2.2.1
  have eN := e0.2.2.2.1
  exact ⟨e0.v.mpr v, by rw [eR]; exact r1, by rw [eR]; exact r2, by rw [eR]; exact r3, by rw [eR]; exact r4, by rw [eR]; exact r5, e0.v.mpr v2, by rw [eN]; exact n2, fun q hq => by rw [e0.2.2.2.2.2.2.2 sa (by show sa ≠ sa + 1; omega)]; exact e2 q hq, e0.v.mpr v3, by rw [eN]; exact n3, e0.v.mpr v4, e0.v.mpr v5, fun q hq => (c q hq).ot (e ((T q).1 + 1, (T q).2.1 + 1, (T q).2.2 + 1)) (by show (T q).2.1 ≠ (T q).2.1 + 1; omega), d, b⟩
/-- the world of the object after its own state was written -/
theorem XX.now {S S1 : PS} {x : Nat} {T : Nat → TR} {sa bu sc jo : Nat} {o : OS} {y : CS} (H : XX S x T sa bu sc jo o) (e : stf (T 6) S S1) (V : SV S1 (T 6) y) (e1 : fI S1 66 x = fI S 66 x) (e2 : fI S1 67 x = fI S 67 x) (e3 : fI S1 69 x = fI S 69 x) : XX S1 x T sa bu sc jo (y, o.2) := by
  obtain ⟨R, -, ⟨od, d1, d2, d3⟩, f1, f2, f3⟩ := H
  have dd := R.2.2.2.2.2.2.2.2.2.2.2.2.2.2.1
  have hb := R.2.2.2.2.2.2.2.2.2.2.2.2.2.2.2 6 (Nat.le_refl _)
  refine ⟨R.st (Nat.le_refl _) e (fun k c hk hc => e.v.mp (V.1.2.2.2.2.2.2.2.2 k c hk hc)), V, ⟨od, d1, e1.trans d2, fun q hq => ?_⟩, e2.trans f1, e3.trans f2, fun j hj => ?_⟩
  · have hq6 : (od + q) % 6 < 6 := Nat.mod_lt _ (by decide)
    obtain ⟨n1, n2, n3⟩ := dd ((od + q) % 6) 6 (by omega) (Nat.le_refl _) (by omega)
    exact (d3 q hq).ot e n1 n2 n3
  · rw [e.2.2.2.2.2.2.1 _ hb.symm]; exact f3 j hj
theorem aR_Qs {S : PS} {a : Nat} {k : Nat} (hk : k < 2 ^ 31) {v : Option Nat} : aR (sQ S a (nI k) v) a k = v := by
  show va_up (aR S) a (va_up (aR S a) (nI k).toNatClampNeg v) a k = v
  rw [nI_clamp hk, va_up_self, va_up_self]
theorem aR_Qn {S : PS} {a : Nat} {k j : Nat} (hk : k < 2 ^ 31) (h : j ≠ k) {v : Option Nat} : aR (sQ S a (nI k) v) a j = aR S a j := by
  show va_up (aR S) a (va_up (aR S a) (nI k).toNatClampNeg v) a j = _
  rw [nI_clamp hk, va_up_self, va_up_ne _ _ h]
theorem aI_As {S : PS} {a : Nat} {k : Nat} (hk : k < 2 ^ 31) {v : Int32} : aI (sA S a (nI k) v) a k = v := by
  show va_up (aI S) a (upd (aI S a) (nI k).toNatClampNeg v) a k = v
  rw [nI_clamp hk, va_up_self, pk_us]
theorem aI_An {S : PS} {a : Nat} {k j : Nat} (hk : k < 2 ^ 31) (h : j ≠ k) {v : Int32} : aI (sA S a (nI k) v) a j = aI S a j := by
  show va_up (aI S) a (upd (aI S a) (nI k).toNatClampNeg v) a j = _
  rw [nI_clamp hk, va_up_self, pk_un h]
/-- numbers of the object and the scanner: unchanged -/
def hi (S S1 : PS) : Prop := ∀ i a, i ≠ 51 → i ≠ 52 → fI S1 i a = fI S i a
theorem hi.rf {S : PS} : hi S S := fun _ _ _ _ => rfl
theorem hi.tr {S S1 S2 : PS} (h : hi S S1) (g : hi S1 S2) : hi S S2 := fun i a p q => (g i a p q).trans (h i a p q)
theorem hi.I {S : PS} {i a : Nat} {v : Int32} (h : i = 51 ∨ i = 52) : hi S (sI S i a v) := fun j b p q => fI_ne (by omega)
/-! copying a state -/
def CPa (S : PS) (t : TR) (y : CS) (d1 d2 : Nat) (S1 : PS) : Prop := stf t S S1 ∧ hi S S1 ∧ fI S1 51 t.1 = nI y.1 ∧ fI S1 52 t.1 = nI (onm y.2 y.1) ∧ (∀ j, j < d1 → ∃ c, aR S1 t.2.1 j = some c ∧ vd S c 0 ∧ (j < y.1 → CD S c (y.2 j))) ∧ (∀ j, d1 ≤ j → aR S1 t.2.1 j = aR S t.2.1 j) ∧ ∀ j, j < d2 → aI S1 t.2.2 j = nI (pmk y j)
theorem CPa.sr {S S1 : PS} {t : TR} {y : CS} {d1 d2 : Nat} (h : CPa S t y d1 d2 S1) (ht : SR S t) : SR S1 t := ht.st h.1 (fun k c hk hc => by
  by_cases q : k < d1
  · obtain ⟨c', e1, e2, -⟩ := h.2.2.2.2.1 k q
    rw [e1] at hc
    exact Option.some.inj hc ▸ e2
  · rw [h.2.2.2.2.2.1 k (by omega)] at hc
    exact ht.2.2.2.2.2.2.2.2 k c hk hc)
theorem CPa.sv {S S1 : PS} {t : TR} {y : CS} {d1 d2 : Nat} (h : CPa S t y d1 d2 S1) (ht : SR S t) (hy : y.1 ≤ 10) (h1 : 10 ≤ d1) (h2 : 10 ≤ d2) : SV S1 t y := ⟨h.sr ht, h.2.2.1, h.2.2.2.1, fun k hk => by
  obtain ⟨c, e1, -, e3⟩ := h.2.2.2.2.1 k (by omega)
  exact ⟨c, e1, (e3 hk).st h.1⟩, fun k hk => h.2.2.2.2.2.2 k (by omega)⟩
theorem x_copy {S : PS} {t u : TR} {y : CS} (ht : SR S t) (hu : SV S u y) (hy : y.1 ≤ 10) (h1 : t.1 ≠ u.1) (h2 : t.2.1 ≠ u.2.1) (h3 : t.2.2 ≠ u.2.2) : ∃ S1, f_X3_copyFrom S t.1 u.1 = some S1 ∧ stf t S S1 ∧ hi S S1 ∧ SV S1 t y := by
  have two : ∀ n d S', 11 ≤ n + d → d ≤ 10 → CPa S t y 10 d S' → ∃ S1, f_X3_copyFrom_L46 f_X3_copyFrom_B72 n S' t.1 u.1 (nI d) = some S1 ∧ stf t S S1 ∧ hi S S1 ∧ SV S1 t y := by
    intro n
    induction n with
    | zero => intro d S' q1 q2; omega
    | succ n ih =>
      intro d S' q1 q2 P
      have RT := P.sr ht
      have HU := hu.ot P.1 h1.symm h2.symm h3.symm
      rw [show f_X3_copyFrom_L46 f_X3_copyFrom_B72 (n + 1) S' t.1 u.1 (nI d) = f_X3_copyFrom_L46s (f_X3_copyFrom_L46 f_X3_copyFrom_B72 n) f_X3_copyFrom_B72 S' t.1 u.1 (nI d) from rfl]
      unfold f_X3_copyFrom_L46s f_X3_copyFrom_B72
      rw [rq_e RT.2.2.2.1 RT.2.2.2.2.2.1, RT.2.2.2.2.2.2.2.1]
      rcases Nat.eq_or_lt_of_le q2 with q | q
      · exact ⟨S', by rw [q, if_pos (show nI 10 ≤ nI 10 from Int32.le_refl _)], P.1, P.2.1, P.sv ht hy (Nat.le_refl _) (by omega)⟩
      · rw [if_neg (nle q (by decide)), rq_e RT.2.2.2.1 RT.2.2.2.2.2.1, HU.pat q, bd_s, RT.2.2.2.2.2.2.2.1, ck_t (nI_in q (by decide)), nI_1]
        obtain ⟨p1, p2, p3, p4, p5, p6, p7⟩ := P
        refine ih (d + 1) _ (by omega) (by omega) ⟨p1.tr stf.A, p2, p3, p4, p5, p6, fun j hj => ?_⟩
        by_cases z : j = d
        · rw [z]; exact aI_As (by omega)
        · rw [aI_An (by omega) z]; exact p7 j (by omega)
  have one : ∀ n d S', 11 ≤ n + d → d ≤ 10 → CPa S t y d 0 S' → ∃ S1, f_X3_copyFrom_L18 f_X3_copyFrom_B44 n S' t.1 u.1 (nI d) = some S1 ∧ stf t S S1 ∧ hi S S1 ∧ SV S1 t y := by
    intro n
    induction n with
    | zero => intro d S' q1 q2; omega
    | succ n ih =>
      intro d S' q1 q2 P
      have RT := P.sr ht
      have HU := hu.ot P.1 h1.symm h2.symm h3.symm
      rw [show f_X3_copyFrom_L18 f_X3_copyFrom_B44 (n + 1) S' t.1 u.1 (nI d) = f_X3_copyFrom_L18s (f_X3_copyFrom_L18 f_X3_copyFrom_B44 n) f_X3_copyFrom_B44 S' t.1 u.1 (nI d) from rfl]
      unfold f_X3_copyFrom_L18s f_X3_copyFrom_B44
      rw [rq_e RT.2.2.1 RT.2.2.2.2.1, RT.2.2.2.2.2.2.1]
      rcases Nat.eq_or_lt_of_le q2 with q | q
      · rw [q, if_pos (show nI 10 ≤ nI 10 from Int32.le_refl _)]
        subst q
        exact two FU 0 S' (by unfold FU; omega) (by omega) P
      · obtain ⟨c, c1, c2, c3⟩ := x_at HU.1 (k := d) (by omega)
        rw [if_neg (nle q (by decide)), rq_e RT.2.2.1 RT.2.2.2.2.1, c1, bd_s, RT.2.2.2.2.2.2.1, ck_t (nI_in q (by decide)), nI_1]
        obtain ⟨p1, p2, p3, p4, p5, p6, p7⟩ := P
        refine ih (d + 1) _ (by omega) (by omega) ⟨p1.tr stf.Q, p2, p3, p4, fun j hj => ?_, fun j hj => ?_, fun j hj => absurd hj (Nat.not_lt_zero j)⟩
        · by_cases z : j = d
          · subst z
            refine ⟨c, aR_Qs (by omega), p1.v.mp c2, fun hj2 => ?_⟩
            obtain ⟨e, e1, e2⟩ := hu.2.2.2.1 j hj2
            have e1' : aR S' u.2.1 j = some e := by rw [p1.2.2.2.2.2.2.2 _ h2.symm]; exact e1
            rw [c3 q e e1']
            exact e2
          · obtain ⟨e, e1, e2⟩ := p5 j (by omega)
            exact ⟨e, by rw [aR_Qn (by omega) z]; exact e1, e2⟩
        · rw [aR_Qn (by omega) (by omega)]; exact p6 j (by omega)
  unfold f_X3_copyFrom
  rw [hu.2.1]
  have e52 : fI (sI S 51 t.1 (nI y.1)) 52 u.1 = nI (onm y.2 y.1) := (fI_ne (by decide)).trans hu.2.2.1
  rw [e52]
  refine one FU 0 _ (by unfold FU; omega) (by omega) ⟨(stf.I (by decide) (fun _ => rfl)).tr (stf.I (by decide) (fun _ => rfl)), (hi.I (Or.inl rfl)).tr (hi.I (Or.inr rfl)), ?_, fI_s, fun j hj => absurd hj (Nat.not_lt_zero j), fun j _ => rfl, fun j hj => absurd hj (Nat.not_lt_zero j)⟩
  exact (fI_ne (by decide)).trans fI_s
/-! saved states -/
theorem x_fm : al (fun k => eqN (f_J9_floorMod_7cf53 (nI k) 6) (k % 6)) 12 = true := by decide +kernel
theorem x_savedAt {S : PS} {x : Nat} {T : Nat → TR} {sa bu sc jo : Nat} (R : XR S x T sa bu sc jo) {k : Nat} (hk : k < 12) : f_X4_savedAt S x (nI k) = some (T (k % 6)).1 := by
  have h6 : k % 6 < 6 := Nat.mod_lt _ (by decide)
  have er := R.2.2.2.2.2.2.2.2.1 (k % 6) h6
  have n6 := R.2.2.2.2.2.2.2.1
  unfold f_X4_savedAt
  rw [eqN_e (al_iff.mp x_fm k hk), bd_s, if_neg (nneg (by omega)), rsa R, n6, if_neg (nle h6 (by decide)), rsa R, n6, ck_t (nI_in h6 (by decide)), nI_clamp (by omega), er]
  dsimp only [nl]
  rw [rsa R, n6, ck_t (show ¬ (nI (k % 6) < 0 ∨ 6 ≤ k % 6) from fun h9 => h9.elim (nneg (by omega)) (fun h8 => by omega)), er, rq_e rfl (R.2.2.2.2.2.2.2.2.2.2.2.2.2.1 (k % 6) (by omega)).1]
theorem x_save {S : PS} {x : Nat} {T : Nat → TR} {sa bu sc jo : Nat} {o : OS} (H : XX S x T sa bu sc jo o) (ho : OKs o) : ∃ S1, f_X4_save S x = some S1 ∧ XX S1 x T sa bu sc jo (svO o) ∧ PL S1 = PL S ∧ PK S1 = PK S ∧ fR S1 = fR S ∧ ∀ i a, i < 51 → fI S1 i a = fI S i a := by
  obtain ⟨R, V, ⟨od, d1, d2, d3⟩, f1, f2, f3⟩ := id H
  have h6 := ho.2.1
  have dd := R.2.2.2.2.2.2.2.2.2.2.2.2.2.2.1
  have hp : (od + o.2.1) % 6 < 6 := Nat.mod_lt _ (by decide)
  obtain ⟨n1, n2, n3⟩ := dd ((od + o.2.1) % 6) 6 (by omega) (Nat.le_refl _) (by omega)
  obtain ⟨S1, e, c1, c2, c3⟩ := x_copy (R.2.2.2.2.2.2.2.2.2.2.2.2.2.1 _ (by omega)) V ho.1.1 n1 n2 n3
  have g66 : fI S1 66 x = nI od := (c2 66 x (by decide) (by decide)).trans d2
  have g67 : fI S1 67 x = nI o.2.1 := (c2 67 x (by decide) (by decide)).trans f1
  have g69 : fI S1 69 x = nI o.2.2.2.1 := (c2 69 x (by decide) (by decide)).trans f2
  have R1 : XR S1 x T sa bu sc jo := R.st (p := (od + o.2.1) % 6) (by omega) c1 (fun k c hk hc => c1.v.mp (c3.1.2.2.2.2.2.2.2.2 k c hk hc))
  have V6 : SV S1 (T 6) o.1 := V.ot c1 n1.symm n2.symm n3.symm
  have hb := R.2.2.2.2.2.2.2.2.2.2.2.2.2.2.2 ((od + o.2.1) % 6) (by omega)
  have B1 : ∀ j, j < o.2.2.2.1 → aI S1 bu j = nI (o.2.2.2.2 j) := fun j hj => by rw [c1.2.2.2.2.2.2.1 _ hb.symm]; exact f3 j hj
  have oth : ∀ q, q < o.2.1 → (od + q) % 6 ≠ (od + o.2.1) % 6 → SV S1 (T ((od + q) % 6)) (o.2.2.1 q) := fun q hq hne => by
    have hq6 : (od + q) % 6 < 6 := Nat.mod_lt _ (by decide)
    obtain ⟨m1, m2, m3⟩ := dd ((od + q) % 6) ((od + o.2.1) % 6) (by omega) (by omega) hne
    exact (d3 q hq).ot c1 m1 m2 m3
  unfold f_X4_save f_X4_save_B55
  rw [d2, f1, nI_add, x_savedAt R (by omega), bd_s, rnw R, e, bd_s, g67, g66]
  have pre : ∀ (i : Nat) (v : Int32), 53 ≤ i → PL (sI S1 i x v) = PL S ∧ PK (sI S1 i x v) = PK S ∧ fR (sI S1 i x v) = fR S ∧ ∀ j a, j < 51 → fI (sI S1 i x v) j a = fI S j a := fun i v hi => ⟨c1.1, c1.2.1, c1.2.2.1, fun j a hj => (fI_ne (by omega)).trans (c2 j a (by omega) (by omega))⟩
  by_cases q6 : o.2.1 = 6
  · have em : (od + o.2.1) % 6 = od := by omega
    rw [em] at c3 oth
    have a66 : ∀ t, stf t S1 (sI S1 66 x (nI ((od + 1) % 6))) := fun t => stf.I (by decide) (fun h => by omega)
    rw [if_pos (show (6 : Int32) ≤ nI o.2.1 by rw [q6]; exact Int32.le_refl _), nI_1, show nI (od + 1) - nI (od + 1) / 6 * 6 = nI ((od + 1) % 6) from pk_rem (d := 6) (by omega) (by decide) (by decide)]
    refine ⟨_, rfl, ⟨R1.al a66, V6.al a66, ⟨(od + 1) % 6, by omega, fI_s, fun q hq => ?_⟩, ?_, ?_, B1⟩, pre 66 _ (by decide)⟩
    · have hq : q < svN o.2.1 := hq
      unfold svN at hq
      rw [if_pos q6] at hq
      show SV _ _ (svG o.2.1 o.2.2.1 o.1 q)
      unfold svG
      rw [if_pos q6]
      by_cases q5 : q = 5
      · rw [if_pos q5, show ((od + 1) % 6 + q) % 6 = od by omega]
        exact c3.al a66
      · rw [if_neg q5, show ((od + 1) % 6 + q) % 6 = (od + (q + 1)) % 6 by omega]
        exact (oth (q + 1) (by omega) (by omega)).al a66
    · show fI (sI S1 66 x (nI ((od + 1) % 6))) 67 x = nI (svN o.2.1)
      rw [fI_ne (by decide), g67]
      unfold svN
      rw [if_pos q6, q6]
    · exact (fI_ne (by decide)).trans g69
  · have a67 : ∀ t, stf t S1 (sI S1 67 x (nI (o.2.1 + 1))) := fun t => stf.I (by decide) (fun h => by omega)
    rw [if_neg (show ¬ (6 : Int32) ≤ nI o.2.1 from nle (a := 6) (by omega) (by decide)), nI_1]
    refine ⟨_, rfl, ⟨R1.al a67, V6.al a67, ⟨od, d1, (fI_ne (by decide)).trans g66, fun q hq => ?_⟩, ?_, ?_, B1⟩, pre 67 _ (by decide)⟩
    · have hq : q < svN o.2.1 := hq
      unfold svN at hq
      rw [if_neg q6] at hq
      show SV _ _ (svG o.2.1 o.2.2.1 o.1 q)
      unfold svG
      rw [if_neg q6]
      by_cases q5 : q = o.2.1
      · rw [if_pos q5, q5]
        exact c3.al a67
      · rw [if_neg q5]
        exact (oth q (by omega) (by omega)).al a67
    · show fI (sI S1 67 x (nI (o.2.1 + 1))) 67 x = nI (svN o.2.1)
      rw [fI_s]
      unfold svN
      rw [if_neg q6]
    · exact (fI_ne (by decide)).trans g69
theorem x_undo {S : PS} {x : Nat} {T : Nat → TR} {sa bu sc jo : Nat} {o : OS} (H : XX S x T sa bu sc jo o) (ho : OKs o) : XG 1 1 x T sa bu sc jo S (f_X4_undo S x) (o_undo o) := by
  obtain ⟨R, V, ⟨od, d1, d2, d3⟩, f1, f2, f3⟩ := id H
  have h6 := ho.2.1
  have dd := R.2.2.2.2.2.2.2.2.2.2.2.2.2.2.1
  unfold f_X4_undo o_undo
  rw [f1]
  by_cases q : o.2.1 = 0
  · rw [if_neg (show ¬ (1 : Int32) ≤ nI o.2.1 from nle (a := 1) (by omega) (by decide)), if_pos q]
    exact XG.t1 H rfl
  · rw [if_pos (show (1 : Int32) ≤ nI o.2.1 from nI_le (a := 1) (by omega) (by omega)), if_neg q, show nI o.2.1 - (1 : Int32) = nI (o.2.1 - 1) from pk_sub (b := 1) (by omega)]
    generalize hk : o.2.1 - 1 = k
    have a67 : ∀ t, stf t S (sI S 67 x (nI k)) := fun t => stf.I (by decide) (fun h => by omega)
    have R1 := R.al a67
    have hp : (od + k) % 6 < 6 := Nat.mod_lt _ (by decide)
    obtain ⟨n1, n2, n3⟩ := dd 6 ((od + k) % 6) (Nat.le_refl _) (by omega) (by omega)
    have e66 : fI (sI S 67 x (nI k)) 66 x = nI od := (fI_ne (by decide)).trans d2
    have e67 : fI (sI S 67 x (nI k)) 67 x = nI k := fI_s
    have VS := (d3 k (by omega)).al a67
    obtain ⟨S1, e, c1, c2, c3⟩ := x_copy (R1.2.2.2.2.2.2.2.2.2.2.2.2.2.1 6 (Nat.le_refl _)) VS (ho.2.2.1 k (by omega)).1 n1 n2 n3
    rw [rnw R1, e66, e67, nI_add, x_savedAt R1 (by omega), bd_s, e, bd_s, show fI S1 67 x = nI k from (c2 67 x (by decide) (by decide)).trans e67]
    have H1 : XX (sI S 67 x (nI k)) x T sa bu sc jo (o.1, k, o.2.2.1, o.2.2.2.1, o.2.2.2.2) := ⟨R1, V.al a67, ⟨od, d1, e66, fun q hq => (d3 q (by have hq : q < k := hq; omega)).al a67⟩, e67, (fI_ne (by decide)).trans f2, f3⟩
    exact XG.ok (H1.now c1 c3 (c2 66 x (by decide) (by decide)) (c2 67 x (by decide) (by decide)) (c2 69 x (by decide) (by decide))) c1.1

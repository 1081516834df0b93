/-! ===== texts: places of a text, conditions in it ===== -/
/-- where a text stands: place, value, factor, remainder -/
abbrev SS : Type := Nat × Nat × Nat × Nat
def dgt (q : SS) (d : Nat) : Option SS := if q.1 = 0 then (if 1 ≤ d then some (1, d, q.2.2) else none) else if q.1 = 3 then some (4, d, q.2.2) else if q.1 = 5 then (if 1 ≤ d then some (6, d, q.2.2) else none) else if q.1 = 2 then none else if q.2.1 < 1 ∨ 999 < q.2.1 * 10 + d then none else some (q.1, q.2.1 * 10 + d, q.2.2)
def sgnS (q : SS) (c : Nat) : Option SS := if c = 120 ∧ (q.1 = 0 ∨ q.1 = 1) then some (2, q.2.1, (if q.1 = 0 then 1 else q.2.1), q.2.2.2) else if c = 61 ∧ q.1 = 2 then some (3, q.2) else if c = 37 ∧ q.1 = 4 then some (5, q.2.1, q.2.2.1, q.2.1) else if c = 59 ∧ q.1 = 6 then some (0, q.2) else none
def stp (q : SS) (c : Nat) : Option SS := if 48 ≤ c ∧ c ≤ 57 then dgt q (c - 48) else sgnS q c
def rn (bc : Nat → Nat) : Nat → Option SS
  | 0 => some (0, 0, 1, 0)
  | k + 1 => match rn bc k with
    | none => none
    | some q => stp q (bc k)
theorem rn_s {bc : Nat → Nat} {k : Nat} {q : SS} (h : rn bc k = some q) : rn bc (k + 1) = stp q (bc k) := by
  show (match rn bc k with | none => none | some q => stp q (bc k)) = _
  rw [h]
theorem rn_n {bc : Nat → Nat} {k : Nat} (h : rn bc k = none) : ∀ j, k ≤ j → rn bc j = none
  | 0, q => by rw [show k = 0 by omega] at h; exact h
  | j + 1, q => by
    rcases Nat.eq_or_lt_of_le q with r | r
    · rw [← r]; exact h
    · have ih := rn_n h j (by omega)
      show (match rn bc j with | none => none | some q => stp q (bc j)) = _
      rw [ih]
theorem rn_b {bc : Nat → Nat} {k : Nat} {q : SS} (h : rn bc k = some q) {j : Nat} (hj : j ≤ k) : ∃ p, rn bc j = some p := by
  cases e : rn bc j with
  | some p => exact ⟨p, rfl⟩
  | none => rw [rn_n e k hj] at h; cases h
/-- what stands in a place -/
def okS (q : SS) : Prop := q.1 ≤ 6 ∧ q.2.1 ≤ 999 ∧ 1 ≤ q.2.2.1 ∧ q.2.2.1 ≤ 999 ∧ q.2.2.2 ≤ 999 ∧ (q.1 = 1 → 1 ≤ q.2.1) ∧ (q.1 = 6 → 1 ≤ q.2.1)
theorem dgt_ok {q q' : SS} {d : Nat} (h : okS q) (hd : d ≤ 9) (e : dgt q d = some q') : okS q' := by
  obtain ⟨h1, h2, h3, h4, h5, h6, h7⟩ := h
  unfold dgt at e
  by_cases a : q.1 = 0
  · rw [if_pos a] at e
    by_cases b : 1 ≤ d
    · rw [if_pos b] at e
      cases e
      exact ⟨by show 1 ≤ 6; decide, by show d ≤ 999; omega, h3, h4, h5, fun _ => b, fun z => absurd (show (1 : Nat) = 6 from z) (by decide)⟩
    · rw [if_neg b] at e; cases e
  · rw [if_neg a] at e
    by_cases a3 : q.1 = 3
    · rw [if_pos a3] at e
      cases e
      exact ⟨by show 4 ≤ 6; decide, by show d ≤ 999; omega, h3, h4, h5, fun z => absurd (show (4 : Nat) = 1 from z) (by decide), fun z => absurd (show (4 : Nat) = 6 from z) (by decide)⟩
    · rw [if_neg a3] at e
      by_cases a5 : q.1 = 5
      · rw [if_pos a5] at e
        by_cases b : 1 ≤ d
        · rw [if_pos b] at e
          cases e
          exact ⟨by show 6 ≤ 6; decide, by show d ≤ 999; omega, h3, h4, h5, fun _ => b, fun _ => b⟩
        · rw [if_neg b] at e; cases e
      · rw [if_neg a5] at e
        by_cases a2 : q.1 = 2
        · rw [if_pos a2] at e; cases e
        · rw [if_neg a2] at e
          by_cases c : q.2.1 < 1 ∨ 999 < q.2.1 * 10 + d
          · rw [if_pos c] at e; cases e
          · rw [if_neg c] at e
            cases e
            exact ⟨h1, by show q.2.1 * 10 + d ≤ 999; omega, h3, h4, h5, fun _ => by show 1 ≤ q.2.1 * 10 + d; omega, fun _ => by show 1 ≤ q.2.1 * 10 + d; omega⟩
theorem sgnS_ok {q q' : SS} {c : Nat} (h : okS q) (e : sgnS q c = some q') : okS q' := by
  obtain ⟨h1, h2, h3, h4, h5, h6, h7⟩ := h
  unfold sgnS at e
  by_cases a : c = 120 ∧ (q.1 = 0 ∨ q.1 = 1)
  · rw [if_pos a] at e
    cases e
    refine ⟨by show 2 ≤ 6; decide, h2, ?_, ?_, h5, fun z => absurd (show (2 : Nat) = 1 from z) (by decide), fun z => absurd (show (2 : Nat) = 6 from z) (by decide)⟩
    · show 1 ≤ (if q.1 = 0 then 1 else q.2.1)
      split
      · omega
      · exact h6 (by omega)
    · show (if q.1 = 0 then 1 else q.2.1) ≤ 999
      split <;> omega
  · rw [if_neg a] at e
    by_cases b : c = 61 ∧ q.1 = 2
    · rw [if_pos b] at e
      cases e
      exact ⟨by show 3 ≤ 6; decide, h2, h3, h4, h5, fun z => absurd (show (3 : Nat) = 1 from z) (by decide), fun z => absurd (show (3 : Nat) = 6 from z) (by decide)⟩
    · rw [if_neg b] at e
      by_cases d : c = 37 ∧ q.1 = 4
      · rw [if_pos d] at e
        cases e
        exact ⟨by show 5 ≤ 6; decide, h2, h3, h4, h2, fun z => absurd (show (5 : Nat) = 1 from z) (by decide), fun z => absurd (show (5 : Nat) = 6 from z) (by decide)⟩
      · rw [if_neg d] at e
        by_cases f : c = 59 ∧ q.1 = 6
        · rw [if_pos f] at e
          cases e
          exact ⟨by show 0 ≤ 6; decide, h2, h3, h4, h5, fun z => absurd (show (0 : Nat) = 1 from z) (by decide), fun z => absurd (show (0 : Nat) = 6 from z) (by decide)⟩
        · rw [if_neg f] at e; cases e
theorem stp_ok {q q' : SS} {c : Nat} (h : okS q) (e : stp q c = some q') : okS q' := by
  unfold stp at e
  by_cases a : 48 ≤ c ∧ c ≤ 57
  · rw [if_pos a] at e; exact dgt_ok h (by omega) e
  · rw [if_neg a] at e; exact sgnS_ok h e
theorem rn_ok {bc : Nat → Nat} : ∀ {k : Nat} {q : SS}, rn bc k = some q → okS q
  | 0, q, h => by
    have : (0, 0, 1, 0) = q := Option.some.inj h
    rw [← this]
    exact ⟨by decide, by decide, by decide, by decide, by decide, fun z => absurd (show (0 : Nat) = 1 from z) (by decide), fun z => absurd (show (0 : Nat) = 6 from z) (by decide)⟩
  | k + 1, q, h => by
    obtain ⟨p, hp⟩ := rn_b h (Nat.le_succ k)
    rw [rn_s hp] at h
    exact stp_ok (rn_ok hp) h
/-- the first place that can't stand -/
def fe (bc : Nat → Nat) (t : Nat) : Nat := lst (fun k => (rn bc (k + 1)).isNone) t
theorem lst_no {p : Nat → Bool} : ∀ {n : Nat}, (∀ j, j < n → p j = false) → lst p n = n
  | 0, _ => rfl
  | n + 1, h => by
    unfold lst
    rw [lst_no (fun j hj => h j (by omega)), if_neg (Nat.lt_irrefl n), h n (by omega)]
    rfl
theorem fe_t {bc : Nat → Nat} {t : Nat} {q : SS} (h : rn bc t = some q) : fe bc t = t := lst_no (fun j hj => by
  obtain ⟨p, hp⟩ := rn_b h (show j + 1 ≤ t by omega)
  show (rn bc (j + 1)).isNone = false
  rw [hp]; rfl)
theorem fe_k {bc : Nat → Nat} {t k : Nat} {q : SS} (h : rn bc k = some q) (hk : k < t) (e : stp q (bc k) = none) : fe bc t = k := lst_eq (by
  show (rn bc (k + 1)).isNone = true
  rw [rn_s h, e]; rfl) (fun j hj => by
  obtain ⟨p, hp⟩ := rn_b h (show j + 1 ≤ k by omega)
  show (rn bc (j + 1)).isNone = false
  rw [hp]; rfl) t hk
/-- the buffer tells conditions as a text -/
def vl (bc : Nat → Nat) (t : Nat) : Bool := match rn bc t with
  | some q => decide (q.1 = 6)
  | none => false
theorem vl_iff {bc : Nat → Nat} {t : Nat} : vl bc t = true ↔ ∃ q, rn bc t = some q ∧ q.1 = 6 := by
  unfold vl
  cases h : rn bc t with
  | none => exact ⟨fun z => (by cases z), fun ⟨q, e, _⟩ => (by cases e)⟩
  | some q => exact ⟨fun z => ⟨q, rfl, of_decide_eq_true z⟩, fun ⟨p, e, e6⟩ => (by cases e; exact decide_eq_true e6)⟩
/-- a place's condition -/
def cdq (q : SS) : CT := (q.2.2.1, q.2.2.2, q.2.1, true)
def cdo (q : Option SS) : CT := match q with
  | some q => cdq q
  | none => (1, 0, 1, true)
theorem cdq_gd {q : SS} (h : okS q) (h6 : q.1 = 6) : gd (cdq q) := ⟨h.2.2.1, h.2.2.2.1, h.2.2.2.2.1, h.2.2.2.2.2.2 h6, h.2.1⟩
/-- the conditions that end from k on -/
def sl (bc : Nat → Nat) : Nat → Nat → List CT
  | 0, k => [cdo (rn bc k)]
  | n + 1, k => if bc k = 59 then cdo (rn bc k) :: sl bc n (k + 1) else sl bc n (k + 1)
/-- conditions added one after the other, up to the first that is refused -/
def adl : CS → List CT → CS × Nat
  | x, [] => (x, 0)
  | x, z :: l => if cn x.2 x.1 z = true then ((adl (x.1 + 1, fa x.2 x.1 z) l).1, (adl (x.1 + 1, fa x.2 x.1 z) l).2 + 1) else (x, 0)
theorem stp59 {q q' : SS} (h : stp q 59 = some q') : q.1 = 6 ∧ q'.1 = 0 := by
  unfold stp at h
  rw [if_neg (by decide)] at h
  unfold sgnS at h
  rw [if_neg (fun z => absurd z.1 (by decide)), if_neg (fun z => absurd z.1 (by decide)), if_neg (fun z => absurd z.1 (by decide))] at h
  by_cases c : (59 : Nat) = 59 ∧ q.1 = 6
  · rw [if_pos c] at h
    cases h
    exact ⟨c.2, rfl⟩
  · rw [if_neg c] at h; cases h
theorem sl_gd {bc : Nat → Nat} : ∀ n k, vl bc (k + n) = true → ∀ z, z ∈ sl bc n k → gd z ∧ z.2.2.2 = true
  | 0, k, h, z, hz => by
    obtain ⟨q, e, e6⟩ := vl_iff.mp h
    unfold sl at hz
    rw [List.mem_singleton, show rn bc k = some q from e] at hz
    rw [hz]
    exact ⟨cdq_gd (rn_ok e) e6, rfl⟩
  | n + 1, k, h, z, hz => by
    have ih := sl_gd n (k + 1) (by rw [show k + 1 + n = k + (n + 1) by omega]; exact h)
    obtain ⟨q, e, e6⟩ := vl_iff.mp h
    unfold sl at hz
    by_cases c : bc k = 59
    · rw [if_pos c, List.mem_cons] at hz
      rcases hz with hz | hz
      · obtain ⟨p, hp⟩ := rn_b e (show k ≤ k + (n + 1) by omega)
        obtain ⟨p', hp'⟩ := rn_b e (show k + 1 ≤ k + (n + 1) by omega)
        rw [rn_s hp, c] at hp'
        rw [hz, hp]
        exact ⟨cdq_gd (rn_ok hp) (stp59 hp').1, rfl⟩
      · exact ih z hz
    · rw [if_neg c] at hz
      exact ih z hz
theorem adl_ok {l : List CT} : ∀ {x : CS}, OKc x → (∀ z, z ∈ l → gd z ∧ z.2.2.2 = true) → OKc (adl x l).1 := by
  induction l with
  | nil => intro x h _; exact h
  | cons z l ih =>
    intro x h hg
    unfold adl
    split
    · rename_i hc
      obtain ⟨g1, g2⟩ := hg z List.mem_cons_self
      exact ih (cn_ok h g1 g2 hc) (fun y hy => hg y (List.mem_cons_of_mem _ hy))
    · exact h
def o_read (o : OS) : Nat × Int32 × OS := if vl o.2.2.2.2 o.2.2.2.1 = true then (0, nI (adl o.1 (sl o.2.2.2.2 o.2.2.2.1 0)).2, ((adl o.1 (sl o.2.2.2.2 o.2.2.2.1 0)).1, (svO o).2.1, (svO o).2.2.1, 0, o.2.2.2.2)) else (1, 0, o)
theorem o_read_ok {o : OS} (ho : OKs o) : OKs (o_read o).2.2 := by
  unfold o_read
  split
  · rename_i h
    obtain ⟨s1, s2, s3, s4, s5⟩ := svO_ok ho
    exact ⟨adl_ok ho.1 (sl_gd _ _ (by rw [Nat.zero_add]; exact h)), s2, s3, Nat.zero_le _, fun j hj => absurd hj (Nat.not_lt_zero j)⟩
  · exact ho

/-! ===== the reference: its whole state; saving ===== -/
theorem fI_ne {S : PS} {i j a c : Nat} {v : Int32} (h : j ≠ i) : fI (sI S i a v) j c = fI S j c := by
  show u2 (fI S) i a v j c = _
  exact u2_nf h
theorem fI_s {S : PS} {i a : Nat} {v : Int32} : fI (sI S i a v) i a = v := u2_self
abbrev CS : Type := Nat × (Nat → CT)
/-- conditions, saved states (how many, which), the buffer (how long, its codes) -/
abbrev OS : Type := CS × Nat × (Nat → CS) × Nat × (Nat → Nat)
def OKc (x : CS) : Prop := x.1 ≤ 10 ∧ (∀ c, c < x.1 → gd (x.2 c)) ∧ ok x.2 x.1
def OKs (o : OS) : Prop := OKc o.1 ∧ o.2.1 ≤ 6 ∧ (∀ q, q < o.2.1 → OKc (o.2.2.1 q)) ∧ o.2.2.2.1 ≤ 60 ∧ ∀ j, j < o.2.2.2.1 → 33 ≤ o.2.2.2.2 j ∧ o.2.2.2.2 j ≤ 126
def SQ (r : Nat → Int32) (x : CS) : Prop := r 0 = nI x.1 ∧ ∀ c, c < x.1 → r (1 + 4 * c) = nI (x.2 c).1 ∧ r (2 + 4 * c) = nI (x.2 c).2.1 ∧ r (3 + 4 * c) = nI (x.2 c).2.2.1 ∧ r (4 + 4 * c) = b2 (x.2 c).2.2.2
theorem SQ.cg {r r' : Nat → Int32} {x : CS} (h : SQ r x) (e : ∀ j, j < 1 + 4 * x.1 → r' j = r j) : SQ r' x := ⟨by rw [e 0 (by omega)]; exact h.1, fun c hc => by
  rw [e _ (by omega), e _ (by omega), e _ (by omega), e _ (by omega)]; exact h.2 c hc⟩
def MR (S : PS) (h z s b r : Nat) : Prop := vd S h 5 ∧ fR S 81 h = some z ∧ fR S 82 h = some s ∧ fR S 84 h = some b ∧ fR S 88 h = some r ∧ vd S z 6 ∧ vd S s 6 ∧ vd S b 6 ∧ vd S r 6 ∧ aN S z = 45 ∧ aN S s = 270 ∧ aN S b = 60 ∧ aN S r = 45 ∧ z ≠ s ∧ z ≠ b ∧ z ≠ r ∧ s ≠ b ∧ s ≠ r ∧ b ≠ r
theorem MR.fr {S S1 : PS} {h z s b r : Nat} (H : MR S h z s b r) (c : mfr h z s b r S S1) : MR S1 h z s b r := by
  obtain ⟨c1, c2, c3, c4, -⟩ := c
  unfold MR vd at *
  rw [c1, c2, c3, c4]
  exact H
theorem rz {S : PS} {h z s b r : Nat} (H : MR S h z s b r) {α : Type} (e : Nat → Option α) : (rq (fR S 81 h) S 6 fun b => e b) = e z := rq_e H.2.1 H.2.2.2.2.2.1
theorem rs {S : PS} {h z s b r : Nat} (H : MR S h z s b r) {α : Type} (e : Nat → Option α) : (rq (fR S 82 h) S 6 fun b => e b) = e s := rq_e H.2.2.1 H.2.2.2.2.2.2.1
theorem rb {S : PS} {h z s b r : Nat} (H : MR S h z s b r) {α : Type} (e : Nat → Option α) : (rq (fR S 84 h) S 6 fun b => e b) = e b := rq_e H.2.2.2.1 H.2.2.2.2.2.2.2.1
theorem rr {S : PS} {h z s b r : Nat} (H : MR S h z s b r) {α : Type} (e : Nat → Option α) : (rq (fR S 88 h) S 6 fun b => e b) = e r := rq_e H.2.2.2.2.1 H.2.2.2.2.2.2.2.2.1
theorem jz {S : PS} {h z s b r : Nat} (H : MR S h z s b r) {j : Nat} (hj : j < 45) : ¬ (nI j < 0 ∨ aN S z ≤ (nI j).toNatClampNeg) := by rw [H.2.2.2.2.2.2.2.2.2.1]; exact nI_in hj (by decide)
theorem jsv {S : PS} {h z s b r : Nat} (H : MR S h z s b r) {j : Nat} (hj : j < 270) : ¬ (nI j < 0 ∨ aN S s ≤ (nI j).toNatClampNeg) := by rw [H.2.2.2.2.2.2.2.2.2.2.1]; exact nI_in hj (by decide)
theorem jbf {S : PS} {h z s b r : Nat} (H : MR S h z s b r) {j : Nat} (hj : j < 60) : ¬ (nI j < 0 ∨ aN S b ≤ (nI j).toNatClampNeg) := by rw [H.2.2.2.2.2.2.2.2.2.2.2.1]; exact nI_in hj (by decide)
theorem jrd {S : PS} {h z s b r : Nat} (H : MR S h z s b r) {j : Nat} (hj : j < 45) : ¬ (nI j < 0 ∨ aN S r ≤ (nI j).toNatClampNeg) := by rw [H.2.2.2.2.2.2.2.2.2.2.2.2.1]; exact nI_in hj (by decide)
theorem MR.zs {S : PS} {h z s b r : Nat} (H : MR S h z s b r) : z ≠ s := H.2.2.2.2.2.2.2.2.2.2.2.2.2.1
theorem MR.zb {S : PS} {h z s b r : Nat} (H : MR S h z s b r) : z ≠ b := H.2.2.2.2.2.2.2.2.2.2.2.2.2.2.1
theorem MR.zr {S : PS} {h z s b r : Nat} (H : MR S h z s b r) : z ≠ r := H.2.2.2.2.2.2.2.2.2.2.2.2.2.2.2.1
theorem MR.sb {S : PS} {h z s b r : Nat} (H : MR S h z s b r) : s ≠ b := H.2.2.2.2.2.2.2.2.2.2.2.2.2.2.2.2.1
theorem MR.sr' {S : PS} {h z s b r : Nat} (H : MR S h z s b r) : s ≠ r := H.2.2.2.2.2.2.2.2.2.2.2.2.2.2.2.2.2.1
theorem MR.br {S : PS} {h z s b r : Nat} (H : MR S h z s b r) : b ≠ r := H.2.2.2.2.2.2.2.2.2.2.2.2.2.2.2.2.2.2
def MM (S : PS) (h z s b r : Nat) (o : OS) : Prop := MR S h z s b r ∧ SQ (aI S z) o.1 ∧ fI S 83 h = nI o.2.1 ∧ (∀ q, q < o.2.1 → SQ (fun j => aI S s (45 * q + j)) (o.2.2.1 q)) ∧ fI S 85 h = nI o.2.2.2.1 ∧ ∀ j, j < o.2.2.2.1 → aI S b j = nI (o.2.2.2.2 j)
theorem MM.mv {S : PS} {h z s b r : Nat} {o : OS} (H : MM S h z s b r o) (ho : OKs o) : MV S h z o.1.1 o.1.1 o.1.2 := by
  obtain ⟨R, Z, -⟩ := H
  obtain ⟨k1, k2, -⟩ := ho.1
  exact ⟨⟨R.1, R.2.1, R.2.2.2.2.2.1, R.2.2.2.2.2.2.2.2.2.1⟩, Z.1, Nat.le_refl _, by omega, fun c hc => ⟨(Z.2 c hc).1, (Z.2 c hc).2.1, (Z.2 c hc).2.2.1, (Z.2 c hc).2.2.2, k2 c hc⟩⟩
/-- the same object, where only its scratch has changed -/
theorem MM.q {S S1 : PS} {h z s b r : Nat} {o : OS} (H : MM S h z s b r o) (c : mfr h z s b r S S1) (e1 : fI S1 83 h = fI S 83 h) (e2 : fI S1 85 h = fI S 85 h) (e3 : ∀ j, j < 1 + 4 * o.1.1 → aI S1 z j = aI S z j) (e4 : aI S1 s = aI S s) (e5 : aI S1 b = aI S b) : MM S1 h z s b r o := by
  obtain ⟨R, Z, v1, v2, t1, t2⟩ := H
  exact ⟨R.fr c, Z.cg e3, e1.trans v1, by rw [e4]; exact v2, e2.trans t1, by rw [e5]; exact t2⟩
theorem scr.m {S S1 : PS} {h z s b r : Nat} (c : scr S S1) : mfr h z s b r S S1 := by
  obtain ⟨c1, c2, c3, c4, c5, c6, c7, c8⟩ := c
  exact ⟨c1, c2, c4, c5, c7, fun a i _ => by rw [c3], fun a i q => c8 i a (by omega) (by omega), fun a _ _ _ _ => by rw [c6]⟩
/-- after reads that used the scratch fields alone -/
theorem MM.scr {S S1 : PS} {h z s b r : Nat} {o : OS} (H : MM S h z s b r o) (c : scr S S1) : MM S1 h z s b r o := H.q c.m (by rw [c.2.2.1]) (by rw [c.2.2.1]) (fun j _ => by rw [c.2.2.2.2.2.1]) (by rw [c.2.2.2.2.2.1]) (by rw [c.2.2.2.2.2.1])
theorem MM.t {S : PS} {h z s b r : Nat} {o : OS} {v : Int32} (H : MM S h z s b r o) : MM (sI S 80 h v) h z s b r o := H.q mfr.I (fI_ne (by decide)) (fI_ne (by decide)) (fun _ _ => rfl) rfl rfl
/-- a row copied into another -/
def cp (r z : Nat → Int32) (lo k : Nat) : Nat → Int32 := fun j => if lo ≤ j ∧ j < lo + k then z (j - lo) else r j
theorem mfr.s {h z s b r : Nat} {S : PS} {v : Nat → Int32} : mfr h z s b r S (sW S s v) := mfr.W (Or.inr (Or.inl rfl))
theorem mfr.z {h z s b r : Nat} {S : PS} {v : Nat → Int32} : mfr h z s b r S (sW S z v) := mfr.W (Or.inl rfl)
theorem cp_up {r z : Nat → Int32} {lo k : Nat} : upd (cp r z lo k) (lo + k) (z k) = cp r z lo (k + 1) := by
  funext j
  unfold upd cp
  by_cases q : j = lo + k
  · rw [if_pos q, if_pos (by omega)]
    congr 1; omega
  · rw [if_neg q]
    by_cases q2 : lo ≤ j ∧ j < lo + k
    · rw [if_pos q2, if_pos (by omega)]
    · rw [if_neg q2, if_neg (by omega)]
theorem cp_0 {r z : Nat → Int32} {lo : Nat} : cp r z lo 0 = r := by
  funext j; unfold cp; rw [if_neg (by omega)]
theorem m_save49 {S : PS} {h z s b r sv : Nat} (R : MR S h z s b r) (hv : fI S 83 h = nI sv) (h6 : sv < 6) : f_X5_save_B49 S h = some (sI (sW S s (cp (aI S s) (aI S z) (45 * sv) 45)) 83 h (nI (sv + 1))) := by
  unfold f_X5_save_B49
  have body := lp_from (L := fun n d => f_X5_save_L51 f_X5_save_B83 n (sW S s (cp (aI S s) (aI S z) (45 * sv) d)) h (nI d)) (lo := 0) (e := 45) (r := some (sI (sW S s (cp (aI S s) (aI S z) (45 * sv) 45)) 83 h (nI (sv + 1)))) (fun n => by
    show f_X5_save_L51s (f_X5_save_L51 f_X5_save_B83 n) f_X5_save_B83 (sW S s (cp (aI S s) (aI S z) (45 * sv) 45)) h (nI 45) = _
    unfold f_X5_save_L51s f_X5_save_B83
    rw [if_pos (show (45 : Int32) ≤ nI 45 from Int32.le_refl _), show fI (sW S s (cp (aI S s) (aI S z) (45 * sv) 45)) 83 h = nI sv from hv, nI_1]) (fun n d hl hd => by
    show f_X5_save_L51s (f_X5_save_L51 f_X5_save_B83 n) f_X5_save_B83 (sW S s (cp (aI S s) (aI S z) (45 * sv) d)) h (nI d) = f_X5_save_L51 f_X5_save_B83 n (sW S s (cp (aI S s) (aI S z) (45 * sv) (d + 1))) h (nI (d + 1))
    have R1 := R.fr (mfr.s (v := cp (aI S s) (aI S z) (45 * sv) d))
    unfold f_X5_save_L51s
    rw [if_neg (show ¬ (45 : Int32) ≤ nI d from nle (a := 45) hd (by decide)), rs R1, rz R1, ck_t (jz R1 hd), show fI (sW S s (cp (aI S s) (aI S z) (45 * sv) d)) 83 h = nI sv from hv, show nI sv * (45 : Int32) = nI (45 * sv) by rw [Nat.mul_comm]; exact pk_mul sv 45, nI_add, ck_t (jsv R1 (by omega)), aI_Wn R.zs, sA_W, nI_clamp (by omega), nI_clamp (by omega), cp_up, nI_1]) FU 0 (by omega) (by omega) (by unfold FU; omega)
  rw [cp_0, sW_s] at body
  exact body
/-- a row's contents moved down by 45 places, up to k -/
def sh (r : Nat → Int32) (k : Nat) : Nat → Int32 := fun j => if j < k then r (j + 45) else r j
def svN (sv : Nat) : Nat := if sv = 6 then 6 else sv + 1
def svG (sv : Nat) (g : Nat → CS) (x : CS) : Nat → CS := fun q => if sv = 6 then (if q = 5 then x else g (q + 1)) else (if q = sv then x else g q)
theorem m_save_row {S : PS} {h z s b r : Nat} {o : OS} (H : MM S h z s b r o) (ho : OKs o) : ∃ v, f_X5_save S h = some (sI (sW S s v) 83 h (nI (svN o.2.1))) ∧ ∀ q, q < svN o.2.1 → SQ (fun j => v (45 * q + j)) (svG o.2.1 o.2.2.1 o.1 q) := by
  obtain ⟨R, Z, v1, v2, t1, t2⟩ := H
  have h6 := ho.2.1
  have hz := ho.1.1
  unfold f_X5_save svN svG
  rw [v1]
  by_cases q6 : o.2.1 = 6
  · rw [if_pos (show nI o.2.1 = 6 by rw [q6]; rfl), if_pos q6]
    have body := lp_from (L := fun n d => f_X5_save_L11 f_X5_save_B39 n (sW S s (sh (aI S s) d)) h (nI d)) (lo := 0) (e := 225) (r := f_X5_save_B39 (sW S s (sh (aI S s) 225)) h) (fun n => by
      show f_X5_save_L11s (f_X5_save_L11 f_X5_save_B39 n) f_X5_save_B39 (sW S s (sh (aI S s) 225)) h (nI 225) = _
      unfold f_X5_save_L11s
      rw [if_pos (show (225 : Int32) ≤ nI 225 from Int32.le_refl _)]) (fun n d hl hd => by
      show f_X5_save_L11s (f_X5_save_L11 f_X5_save_B39 n) f_X5_save_B39 (sW S s (sh (aI S s) d)) h (nI d) = f_X5_save_L11 f_X5_save_B39 n (sW S s (sh (aI S s) (d + 1))) h (nI (d + 1))
      have R1 := R.fr (mfr.s (v := sh (aI S s) d))
      unfold f_X5_save_L11s
      rw [if_neg (show ¬ (225 : Int32) ≤ nI d from nle (a := 225) hd (by decide)), rs R1, rs R1, show nI d + (45 : Int32) = nI (d + 45) from nI_add d 45, ck_t (jsv R1 (by omega)), ck_t (jsv R1 (by omega)), aI_W, sA_W, nI_clamp (by omega), nI_clamp (by omega), nI_1]
      congr 2
      funext j
      unfold upd sh
      by_cases q : j = d
      · rw [if_pos q, if_neg (by omega), if_pos (by omega), q]
      · rw [if_neg q]
        by_cases q2 : j < d
        · rw [if_pos q2, if_pos (by omega)]
        · rw [if_neg q2, if_neg (by omega)]) FU 0 (by omega) (by omega) (by unfold FU; omega)
    have e0 : sh (aI S s) 0 = aI S s := by funext j; unfold sh; rw [if_neg (by omega)]
    rw [e0, sW_s] at body
    rw [show f_X5_save_L11 f_X5_save_B39 FU S h 0 = _ from body]
    unfold f_X5_save_B39
    rw [show fI (sW S s (sh (aI S s) 225)) 83 h = nI 6 by rw [← q6]; exact v1, show nI 6 - (1 : Int32) = nI 5 by decide]
    have R2 : MR (sI (sW S s (sh (aI S s) 225)) 83 h (nI 5)) h z s b r := R.fr (mfr.s.tr mfr.I)
    refine ⟨cp (sh (aI S s) 225) (aI S z) 225 45, (m_save49 R2 (sv := 5) u2_self (by decide)).trans ?_, ?_⟩
    · show some (sI (sI (sW (sW S s (sh (aI S s) 225)) s (cp (aI (sW S s (sh (aI S s) 225)) s) (aI (sW S s (sh (aI S s) 225)) z) (45 * 5) 45)) 83 h (nI 5)) 83 h (nI (5 + 1))) = _
      rw [sW_W, aI_W, aI_Wn R.zs]
      congr 1
      show (PL S, PK S, u2 (u2 (fI S) 83 h (nI 5)) 83 h (nI 6), fL S, fR S, aN S, _, aR S) = (PL S, PK S, u2 (fI S) 83 h (nI 6), fL S, fR S, aN S, _, aR S)
      have e : u2 (u2 (fI S) 83 h (nI 5)) 83 h (nI 6) = u2 (fI S) 83 h (nI 6) := by
        funext i a
        unfold u2
        split
        · rfl
        · rfl
      rw [e]
      rfl
    · intro q hq
      rw [if_pos q6]
      by_cases q5 : q = 5
      · rw [if_pos q5]
        refine Z.cg (fun j hj => ?_)
        show cp (sh (aI S s) 225) (aI S z) 225 45 (45 * q + j) = _
        unfold cp
        rw [if_pos (by omega), show 45 * q + j - 225 = j by omega]
      · rw [if_neg q5]
        have K := ho.2.2.1 (q + 1) (by omega)
        refine (v2 (q + 1) (by omega)).cg (fun j hj => ?_)
        have := K.1
        show cp (sh (aI S s) 225) (aI S z) 225 45 (45 * q + j) = aI S s (45 * (q + 1) + j)
        unfold cp sh
        rw [if_neg (by omega), if_pos (by omega), show 45 * q + j + 45 = 45 * (q + 1) + j by omega]
  · rw [if_neg (show ¬ nI o.2.1 = 6 from fun z => q6 ((nI_eq (b := 6) (by omega) (by decide)).mp z)), if_neg q6]
    refine ⟨_, m_save49 R v1 (by omega), ?_⟩
    intro q hq
    rw [if_neg q6]
    by_cases q5 : q = o.2.1
    · rw [if_pos q5]
      refine Z.cg (fun j hj => ?_)
      show cp (aI S s) (aI S z) (45 * o.2.1) 45 (45 * q + j) = _
      unfold cp
      rw [if_pos (by omega)]
      congr 1; omega
    · rw [if_neg q5]
      have K := ho.2.2.1 q (by omega)
      refine (v2 q (by omega)).cg (fun j hj => ?_)
      have := K.1
      show cp (aI S s) (aI S z) (45 * o.2.1) 45 (45 * q + j) = aI S s (45 * q + j)
      unfold cp
      rw [if_neg (by omega)]
def svO (o : OS) : OS := (o.1, svN o.2.1, svG o.2.1 o.2.2.1 o.1, o.2.2.2.1, o.2.2.2.2)
theorem svO_ok {o : OS} (ho : OKs o) : OKs (svO o) := by
  obtain ⟨k1, k2, k3, k4, k5⟩ := ho
  refine ⟨k1, ?_, ?_, k4, k5⟩
  · show svN o.2.1 ≤ 6
    unfold svN; split <;> omega
  · intro q hq
    have hq : q < svN o.2.1 := hq
    show OKc (svG o.2.1 o.2.2.1 o.1 q)
    unfold svN at hq
    unfold svG
    split
    · rename_i q6
      rw [if_pos q6] at hq
      split
      · exact k1
      · exact k3 (q + 1) (by omega)
    · rename_i q6
      rw [if_neg q6] at hq
      split
      · exact k1
      · exact k3 q (by omega)
theorem m_save {S : PS} {h z s b r : Nat} {o : OS} (H : MM S h z s b r o) (ho : OKs o) : ∃ S1, f_X5_save S h = some S1 ∧ mfr h z s b r S S1 ∧ MM S1 h z s b r (svO o) ∧ fI S1 80 h = fI S 80 h ∧ aI S1 z = aI S z := by
  obtain ⟨v, e, w⟩ := m_save_row H ho
  obtain ⟨R, Z, v1, v2, t1, t2⟩ := H
  have c : mfr h z s b r S (sI (sW S s v) 83 h (nI (svN o.2.1))) := mfr.s.tr mfr.I
  refine ⟨_, e, c, ⟨R.fr c, ?_, u2_self, ?_, ?_, ?_⟩, fI_ne (show (80 : Nat) ≠ 83 by decide), aI_Wn R.zs⟩
  · show SQ (aI (sW S s v) z) o.1
    rw [aI_Wn R.zs]; exact Z
  · show ∀ q, q < svN o.2.1 → SQ (fun j => aI (sW S s v) s (45 * q + j)) (svG o.2.1 o.2.2.1 o.1 q)
    rw [aI_W]; exact w
  · exact (fI_ne (show (85 : Nat) ≠ 83 by decide)).trans t1
  · show ∀ j, j < o.2.2.2.1 → aI (sW S s v) b j = nI (o.2.2.2.2 j)
    rw [aI_Wn R.sb.symm]; exact t2

abbrev vwCl : List vw_C := [(RX0, TX0, 5), (RX1, TX1, 2), (RX2, TX2, 4), (RX3, TX3, 5), (RX4, TX4, 8), (RX5, TX5, 13)]
/-- the heap as a picture: the addresses, the kind of each, ints, longs and references by field and address, arrays' lengths, their ints, their references -/
abbrev PS : Type := List Nat × (Nat → Nat) × (Nat → Nat → Int32) × (Nat → Nat → Int64) × (Nat → Nat → Option Nat) × (Nat → Nat) × (Nat → Nat → Int32) × (Nat → Nat → Option Nat)
def PL (S : PS) : List Nat := S.1
def PK (S : PS) : Nat → Nat := S.2.1
def fI (S : PS) : Nat → Nat → Int32 := S.2.2.1
def fL (S : PS) : Nat → Nat → Int64 := S.2.2.2.1
def fR (S : PS) : Nat → Nat → Option Nat := S.2.2.2.2.1
def aN (S : PS) : Nat → Nat := S.2.2.2.2.2.1
def aI (S : PS) : Nat → Nat → Int32 := S.2.2.2.2.2.2.1
def aR (S : PS) : Nat → Nat → Option Nat := S.2.2.2.2.2.2.2
def u2 {α : Type} (f : Nat → Nat → α) (i a : Nat) (v : α) : Nat → Nat → α := fun j b => if j = i ∧ b = a then v else f j b
def sI (S : PS) (i a : Nat) (v : Int32) : PS := (PL S, PK S, u2 (fI S) i a v, fL S, fR S, aN S, aI S, aR S)
def sL (S : PS) (i a : Nat) (v : Int64) : PS := (PL S, PK S, fI S, u2 (fL S) i a v, fR S, aN S, aI S, aR S)
def sR (S : PS) (i a : Nat) (v : Option Nat) : PS := (PL S, PK S, fI S, fL S, u2 (fR S) i a v, aN S, aI S, aR S)
def sA (S : PS) (a : Nat) (k v : Int32) : PS := (PL S, PK S, fI S, fL S, fR S, aN S, va_up (aI S) a (upd (aI S a) k.toNatClampNeg v), aR S)
def sQ (S : PS) (a : Nat) (k : Int32) (v : Option Nat) : PS := (PL S, PK S, fI S, fL S, fR S, aN S, aI S, va_up (aR S) a (va_up (aR S a) k.toNatClampNeg v))
def nO (S : PS) (q k : Nat) : PS := (PL S ++ [q], va_up (PK S) q k, (fun i b => if b = q then 0 else fI S i b), (fun i b => if b = q then 0 else fL S i b), (fun i b => if b = q then none else fR S i b), aN S, aI S, aR S)
def nA (S : PS) (q k n : Nat) : PS := (PL S ++ [q], va_up (PK S) q k, fI S, fL S, fR S, va_up (aN S) q n, va_up (aI S) q (fun _ => 0), va_up (aR S) q (fun _ => none))
abbrev vd (S : PS) (a k : Nat) : Prop := a ∈ PL S ∧ PK S a = k
def EX (S S1 : PS) : Prop := ∀ a k : Nat, vd S a k → vd S1 a k
theorem EX.rf {S : PS} : EX S S := fun _ _ h => h
theorem EX.tr {S S1 S2 : PS} (h : EX S S1) (h2 : EX S1 S2) : EX S S2 := fun a k q => h2 a k (h a k q)
theorem PL_sI (S : PS) (i a : Nat) (v : Int32) : PL (sI S i a v) = PL S := rfl
theorem PK_sI (S : PS) (i a : Nat) (v : Int32) : PK (sI S i a v) = PK S := rfl
theorem fI_sI (S : PS) (i a : Nat) (v : Int32) : fI (sI S i a v) = u2 (fI S) i a v := rfl
theorem fL_sI (S : PS) (i a : Nat) (v : Int32) : fL (sI S i a v) = fL S := rfl
theorem fR_sI (S : PS) (i a : Nat) (v : Int32) : fR (sI S i a v) = fR S := rfl
theorem aN_sI (S : PS) (i a : Nat) (v : Int32) : aN (sI S i a v) = aN S := rfl
theorem aI_sI (S : PS) (i a : Nat) (v : Int32) : aI (sI S i a v) = aI S := rfl
theorem aR_sI (S : PS) (i a : Nat) (v : Int32) : aR (sI S i a v) = aR S := rfl
theorem PL_sL (S : PS) (i a : Nat) (v : Int64) : PL (sL S i a v) = PL S := rfl
theorem PK_sL (S : PS) (i a : Nat) (v : Int64) : PK (sL S i a v) = PK S := rfl
theorem fI_sL (S : PS) (i a : Nat) (v : Int64) : fI (sL S i a v) = fI S := rfl
theorem fL_sL (S : PS) (i a : Nat) (v : Int64) : fL (sL S i a v) = u2 (fL S) i a v := rfl
theorem fR_sL (S : PS) (i a : Nat) (v : Int64) : fR (sL S i a v) = fR S := rfl
theorem aN_sL (S : PS) (i a : Nat) (v : Int64) : aN (sL S i a v) = aN S := rfl
theorem aI_sL (S : PS) (i a : Nat) (v : Int64) : aI (sL S i a v) = aI S := rfl
theorem aR_sL (S : PS) (i a : Nat) (v : Int64) : aR (sL S i a v) = aR S := rfl
theorem PL_sR (S : PS) (i a : Nat) (v : Option Nat) : PL (sR S i a v) = PL S := rfl
theorem PK_sR (S : PS) (i a : Nat) (v : Option Nat) : PK (sR S i a v) = PK S := rfl
theorem fI_sR (S : PS) (i a : Nat) (v : Option Nat) : fI (sR S i a v) = fI S := rfl
theorem fL_sR (S : PS) (i a : Nat) (v : Option Nat) : fL (sR S i a v) = fL S := rfl
theorem fR_sR (S : PS) (i a : Nat) (v : Option Nat) : fR (sR S i a v) = u2 (fR S) i a v := rfl
theorem aN_sR (S : PS) (i a : Nat) (v : Option Nat) : aN (sR S i a v) = aN S := rfl
theorem aI_sR (S : PS) (i a : Nat) (v : Option Nat) : aI (sR S i a v) = aI S := rfl
theorem aR_sR (S : PS) (i a : Nat) (v : Option Nat) : aR (sR S i a v) = aR S := rfl
theorem PL_sA (S : PS) (a : Nat) (k v : Int32) : PL (sA S a k v) = PL S := rfl
theorem PK_sA (S : PS) (a : Nat) (k v : Int32) : PK (sA S a k v) = PK S := rfl
theorem fI_sA (S : PS) (a : Nat) (k v : Int32) : fI (sA S a k v) = fI S := rfl
theorem fL_sA (S : PS) (a : Nat) (k v : Int32) : fL (sA S a k v) = fL S := rfl
theorem fR_sA (S : PS) (a : Nat) (k v : Int32) : fR (sA S a k v) = fR S := rfl
theorem aN_sA (S : PS) (a : Nat) (k v : Int32) : aN (sA S a k v) = aN S := rfl
theorem aI_sA (S : PS) (a : Nat) (k v : Int32) : aI (sA S a k v) = va_up (aI S) a (upd (aI S a) k.toNatClampNeg v) := rfl
theorem aR_sA (S : PS) (a : Nat) (k v : Int32) : aR (sA S a k v) = aR S := rfl
theorem PL_sQ (S : PS) (a : Nat) (k : Int32) (v : Option Nat) : PL (sQ S a k v) = PL S := rfl
theorem PK_sQ (S : PS) (a : Nat) (k : Int32) (v : Option Nat) : PK (sQ S a k v) = PK S := rfl
theorem fI_sQ (S : PS) (a : Nat) (k : Int32) (v : Option Nat) : fI (sQ S a k v) = fI S := rfl
theorem fL_sQ (S : PS) (a : Nat) (k : Int32) (v : Option Nat) : fL (sQ S a k v) = fL S := rfl
theorem fR_sQ (S : PS) (a : Nat) (k : Int32) (v : Option Nat) : fR (sQ S a k v) = fR S := rfl
theorem aN_sQ (S : PS) (a : Nat) (k : Int32) (v : Option Nat) : aN (sQ S a k v) = aN S := rfl
theorem aI_sQ (S : PS) (a : Nat) (k : Int32) (v : Option Nat) : aI (sQ S a k v) = aI S := rfl
theorem aR_sQ (S : PS) (a : Nat) (k : Int32) (v : Option Nat) : aR (sQ S a k v) = va_up (aR S) a (va_up (aR S a) k.toNatClampNeg v) := rfl
theorem PL_nO (S : PS) (q k : Nat) : PL (nO S q k) = PL S ++ [q] := rfl
theorem PK_nO (S : PS) (q k : Nat) : PK (nO S q k) = va_up (PK S) q k := rfl
theorem fI_nO (S : PS) (q k : Nat) : fI (nO S q k) = (fun i b => if b = q then 0 else fI S i b) := rfl
theorem fL_nO (S : PS) (q k : Nat) : fL (nO S q k) = (fun i b => if b = q then 0 else fL S i b) := rfl
theorem fR_nO (S : PS) (q k : Nat) : fR (nO S q k) = (fun i b => if b = q then none else fR S i b) := rfl
theorem aN_nO (S : PS) (q k : Nat) : aN (nO S q k) = aN S := rfl
theorem aI_nO (S : PS) (q k : Nat) : aI (nO S q k) = aI S := rfl
theorem aR_nO (S : PS) (q k : Nat) : aR (nO S q k) = aR S := rfl
theorem PL_nA (S : PS) (q k n : Nat) : PL (nA S q k n) = PL S ++ [q] := rfl
theorem PK_nA (S : PS) (q k n : Nat) : PK (nA S q k n) = va_up (PK S) q k := rfl
theorem fI_nA (S : PS) (q k n : Nat) : fI (nA S q k n) = fI S := rfl
theorem fL_nA (S : PS) (q k n : Nat) : fL (nA S q k n) = fL S := rfl
theorem fR_nA (S : PS) (q k n : Nat) : fR (nA S q k n) = fR S := rfl
theorem aN_nA (S : PS) (q k n : Nat) : aN (nA S q k n) = va_up (aN S) q n := rfl
theorem aI_nA (S : PS) (q k n : Nat) : aI (nA S q k n) = va_up (aI S) q (fun _ => 0) := rfl
theorem aR_nA (S : PS) (q k n : Nat) : aR (nA S q k n) = va_up (aR S) q (fun _ => none) := rfl
abbrev cyT : Type := ClassId × ClassId × ClassId
def pF (cy : cyT) (S : PS) : Nat → va_E := fun a => match PK S a with
  | 0 => .inr (0, [.int (fI S 0 a), .int (fI S 1 a), .int (fI S 2 a), .int (fI S 3 a), .int (fI S 4 a)])
  | 1 => .inr (1, [.long (fL S 16 a), .long (fL S 17 a)])
  | 2 => .inr (2, [.int (fI S 32 a), .int (fI S 33 a), .int (fI S 34 a), .int (fI S 35 a)])
  | 3 => .inr (3, [va_rf (fR S 48 a), va_rf (fR S 49 a), va_rf (fR S 50 a), .int (fI S 51 a), .int (fI S 52 a)])
  | 4 => .inr (4, [va_rf (fR S 64 a), va_rf (fR S 65 a), .int (fI S 66 a), .int (fI S 67 a), va_rf (fR S 68 a), .int (fI S 69 a), va_rf (fR S 70 a), va_rf (fR S 71 a)])
  | 5 => .inr (5, [.int (fI S 80 a), va_rf (fR S 81 a), va_rf (fR S 82 a), .int (fI S 83 a), va_rf (fR S 84 a), .int (fI S 85 a), .long (fL S 86 a), .long (fL S 87 a), va_rf (fR S 88 a), .int (fI S 89 a), .int (fI S 90 a), .int (fI S 91 a), .long (fL S 92 a)])
  | 6 => .inl (cy.1, aN S a, .inl (aI S a))
  | 7 => .inl (cy.2.1, aN S a, .inr (.inr (.inr (.inr (aR S a)))))
  | _ => .inl (cy.2.2, aN S a, .inr (.inr (.inr (.inr (aR S a)))))
theorem pF_0 {cy : cyT} {S : PS} {a : Nat} (h : PK S a = 0) : pF cy S a = .inr (0, [.int (fI S 0 a), .int (fI S 1 a), .int (fI S 2 a), .int (fI S 3 a), .int (fI S 4 a)]) := by simp only [pF, h]
theorem pF_1 {cy : cyT} {S : PS} {a : Nat} (h : PK S a = 1) : pF cy S a = .inr (1, [.long (fL S 16 a), .long (fL S 17 a)]) := by simp only [pF, h]
theorem pF_2 {cy : cyT} {S : PS} {a : Nat} (h : PK S a = 2) : pF cy S a = .inr (2, [.int (fI S 32 a), .int (fI S 33 a), .int (fI S 34 a), .int (fI S 35 a)]) := by simp only [pF, h]
theorem pF_3 {cy : cyT} {S : PS} {a : Nat} (h : PK S a = 3) : pF cy S a = .inr (3, [va_rf (fR S 48 a), va_rf (fR S 49 a), va_rf (fR S 50 a), .int (fI S 51 a), .int (fI S 52 a)]) := by simp only [pF, h]
theorem pF_4 {cy : cyT} {S : PS} {a : Nat} (h : PK S a = 4) : pF cy S a = .inr (4, [va_rf (fR S 64 a), va_rf (fR S 65 a), .int (fI S 66 a), .int (fI S 67 a), va_rf (fR S 68 a), .int (fI S 69 a), va_rf (fR S 70 a), va_rf (fR S 71 a)]) := by simp only [pF, h]
theorem pF_5 {cy : cyT} {S : PS} {a : Nat} (h : PK S a = 5) : pF cy S a = .inr (5, [.int (fI S 80 a), va_rf (fR S 81 a), va_rf (fR S 82 a), .int (fI S 83 a), va_rf (fR S 84 a), .int (fI S 85 a), .long (fL S 86 a), .long (fL S 87 a), va_rf (fR S 88 a), .int (fI S 89 a), .int (fI S 90 a), .int (fI S 91 a), .long (fL S 92 a)]) := by simp only [pF, h]
theorem pF_6 {cy : cyT} {S : PS} {a : Nat} (h : PK S a = 6) : pF cy S a = .inl (cy.1, aN S a, .inl (aI S a)) := by simp only [pF, h]
theorem pF_7 {cy : cyT} {S : PS} {a : Nat} (h : PK S a = 7) : pF cy S a = .inl (cy.2.1, aN S a, .inr (.inr (.inr (.inr (aR S a))))) := by simp only [pF, h]
theorem pF_8 {cy : cyT} {S : PS} {a : Nat} (h : PK S a = 8) : pF cy S a = .inl (cy.2.2, aN S a, .inr (.inr (.inr (.inr (aR S a))))) := by simp only [pF, h]
def wl (cy : cyT) (S : PS) : va_W := va_pl (PL S) (pF cy S)
theorem u2_ne {α : Type} {f : Nat → Nat → α} {i a j b : Nat} {v : α} (h : b ≠ a) : u2 f i a v j b = f j b := if_neg (fun q => h q.2)
theorem u2_self {α : Type} {f : Nat → Nat → α} {i a : Nat} {v : α} : u2 f i a v i a = v := if_pos ⟨rfl, rfl⟩
theorem u2_nf {α : Type} {f : Nat → Nat → α} {i a j b : Nat} {v : α} (h : j ≠ i) : u2 f i a v j b = f j b := if_neg (fun q => h q.1)
theorem pF_sI_ne {cy : cyT} {S : PS} {i a b : Nat} {v : Int32} (h : b ≠ a) : pF cy (sI S i a v) b = pF cy S b := by
  unfold pF; simp only [PK_sI, fI_sI, fL_sI, fR_sI, aN_sI, aI_sI, aR_sI, u2_ne h]
theorem pF_sL_ne {cy : cyT} {S : PS} {i a b : Nat} {v : Int64} (h : b ≠ a) : pF cy (sL S i a v) b = pF cy S b := by
  unfold pF; simp only [PK_sL, fI_sL, fL_sL, fR_sL, aN_sL, aI_sL, aR_sL, u2_ne h]
theorem pF_sR_ne {cy : cyT} {S : PS} {i a b : Nat} {v : Option Nat} (h : b ≠ a) : pF cy (sR S i a v) b = pF cy S b := by
  unfold pF; simp only [PK_sR, fI_sR, fL_sR, fR_sR, aN_sR, aI_sR, aR_sR, u2_ne h]
theorem pF_sA_ne {cy : cyT} {S : PS} {a b : Nat} {k v : Int32} (h : b ≠ a) : pF cy (sA S a k v) b = pF cy S b := by
  unfold pF; simp only [PK_sA, fI_sA, fL_sA, fR_sA, aN_sA, aI_sA, aR_sA, va_up_ne _ _ h]
theorem pF_sQ_ne {cy : cyT} {S : PS} {a b : Nat} {k : Int32} {v : Option Nat} (h : b ≠ a) : pF cy (sQ S a k v) b = pF cy S b := by
  unfold pF; simp only [PK_sQ, fI_sQ, fL_sQ, fR_sQ, aN_sQ, aI_sQ, aR_sQ, va_up_ne _ _ h]
theorem pF_nO_ne {cy : cyT} {S : PS} {q k b : Nat} (h : b ≠ q) : pF cy (nO S q k) b = pF cy S b := by
  unfold pF; simp only [PK_nO, fI_nO, fL_nO, fR_nO, aN_nO, aI_nO, aR_nO, va_up_ne _ _ h, if_neg h]
theorem pF_nA_ne {cy : cyT} {S : PS} {q k n b : Nat} (h : b ≠ q) : pF cy (nA S q k n) b = pF cy S b := by
  unfold pF; simp only [PK_nA, fI_nA, fL_nA, fR_nA, aN_nA, aI_nA, aR_nA, va_up_ne _ _ h]
theorem wl_set {cy : cyT} {S S1 : PS} {a : Nat} {e : va_E} (hL : PL S1 = PL S) (h1 : pF cy S1 a = e) (h2 : ∀ b, b ≠ a → pF cy S1 b = pF cy S b) : va_pl (PL S) (va_up (pF cy S) a e) = wl cy S1 := by
  unfold wl
  rw [hL]
  refine va_pl_congr fun b => ?_
  by_cases hb : b = a
  · subst hb; rw [va_up_self, h1]
  · rw [va_up_ne _ _ hb, h2 b hb]
theorem st_0 {cy : cyT} {S : PS} {a : Nat} (h : PK S a = 0) (v : Int32) : va_pl (PL S) (va_up (pF cy S) a (.inr (0, [.int v, .int (fI S 1 a), .int (fI S 2 a), .int (fI S 3 a), .int (fI S 4 a)]))) = wl cy (sI S 0 a v) :=
  wl_set rfl (by rw [pF_0 (show PK (sI S 0 a v) a = 0 from h)]; simp only [fI_sI, fL_sI, fR_sI, u2_self, u2_nf (show (1 : Nat) ≠ 0 by decide), u2_nf (show (2 : Nat) ≠ 0 by decide), u2_nf (show (3 : Nat) ≠ 0 by decide), u2_nf (show (4 : Nat) ≠ 0 by decide)]) (fun b hb => pF_sI_ne hb)
theorem st_1 {cy : cyT} {S : PS} {a : Nat} (h : PK S a = 0) (v : Int32) : va_pl (PL S) (va_up (pF cy S) a (.inr (0, [.int (fI S 0 a), .int v, .int (fI S 2 a), .int (fI S 3 a), .int (fI S 4 a)]))) = wl cy (sI S 1 a v) :=
  wl_set rfl (by rw [pF_0 (show PK (sI S 1 a v) a = 0 from h)]; simp only [fI_sI, fL_sI, fR_sI, u2_self, u2_nf (show (0 : Nat) ≠ 1 by decide), u2_nf (show (2 : Nat) ≠ 1 by decide), u2_nf (show (3 : Nat) ≠ 1 by decide), u2_nf (show (4 : Nat) ≠ 1 by decide)]) (fun b hb => pF_sI_ne hb)
theorem st_2 {cy : cyT} {S : PS} {a : Nat} (h : PK S a = 0) (v : Int32) : va_pl (PL S) (va_up (pF cy S) a (.inr (0, [.int (fI S 0 a), .int (fI S 1 a), .int v, .int (fI S 3 a), .int (fI S 4 a)]))) = wl cy (sI S 2 a v) :=
  wl_set rfl (by rw [pF_0 (show PK (sI S 2 a v) a = 0 from h)]; simp only [fI_sI, fL_sI, fR_sI, u2_self, u2_nf (show (0 : Nat) ≠ 2 by decide), u2_nf (show (1 : Nat) ≠ 2 by decide), u2_nf (show (3 : Nat) ≠ 2 by decide), u2_nf (show (4 : Nat) ≠ 2 by decide)]) (fun b hb => pF_sI_ne hb)
theorem st_3 {cy : cyT} {S : PS} {a : Nat} (h : PK S a = 0) (v : Int32) : va_pl (PL S) (va_up (pF cy S) a (.inr (0, [.int (fI S 0 a), .int (fI S 1 a), .int (fI S 2 a), .int v, .int (fI S 4 a)]))) = wl cy (sI S 3 a v) :=
  wl_set rfl (by rw [pF_0 (show PK (sI S 3 a v) a = 0 from h)]; simp only [fI_sI, fL_sI, fR_sI, u2_self, u2_nf (show (0 : Nat) ≠ 3 by decide), u2_nf (show (1 : Nat) ≠ 3 by decide), u2_nf (show (2 : Nat) ≠ 3 by decide), u2_nf (show (4 : Nat) ≠ 3 by decide)]) (fun b hb => pF_sI_ne hb)
theorem st_4 {cy : cyT} {S : PS} {a : Nat} (h : PK S a = 0) (v : Int32) : va_pl (PL S) (va_up (pF cy S) a (.inr (0, [.int (fI S 0 a), .int (fI S 1 a), .int (fI S 2 a), .int (fI S 3 a), .int v]))) = wl cy (sI S 4 a v) :=
  wl_set rfl (by rw [pF_0 (show PK (sI S 4 a v) a = 0 from h)]; simp only [fI_sI, fL_sI, fR_sI, u2_self, u2_nf (show (0 : Nat) ≠ 4 by decide), u2_nf (show (1 : Nat) ≠ 4 by decide), u2_nf (show (2 : Nat) ≠ 4 by decide), u2_nf (show (3 : Nat) ≠ 4 by decide)]) (fun b hb => pF_sI_ne hb)
theorem st_16 {cy : cyT} {S : PS} {a : Nat} (h : PK S a = 1) (v : Int64) : va_pl (PL S) (va_up (pF cy S) a (.inr (1, [.long v, .long (fL S 17 a)]))) = wl cy (sL S 16 a v) :=
  wl_set rfl (by rw [pF_1 (show PK (sL S 16 a v) a = 1 from h)]; simp only [fI_sL, fL_sL, fR_sL, u2_self, u2_nf (show (17 : Nat) ≠ 16 by decide)]) (fun b hb => pF_sL_ne hb)
theorem st_17 {cy : cyT} {S : PS} {a : Nat} (h : PK S a = 1) (v : Int64) : va_pl (PL S) (va_up (pF cy S) a (.inr (1, [.long (fL S 16 a), .long v]))) = wl cy (sL S 17 a v) :=
  wl_set rfl (by rw [pF_1 (show PK (sL S 17 a v) a = 1 from h)]; simp only [fI_sL, fL_sL, fR_sL, u2_self, u2_nf (show (16 : Nat) ≠ 17 by decide)]) (fun b hb => pF_sL_ne hb)
theorem st_32 {cy : cyT} {S : PS} {a : Nat} (h : PK S a = 2) (v : Int32) : va_pl (PL S) (va_up (pF cy S) a (.inr (2, [.int v, .int (fI S 33 a), .int (fI S 34 a), .int (fI S 35 a)]))) = wl cy (sI S 32 a v) :=
  wl_set rfl (by rw [pF_2 (show PK (sI S 32 a v) a = 2 from h)]; simp only [fI_sI, fL_sI, fR_sI, u2_self, u2_nf (show (33 : Nat) ≠ 32 by decide), u2_nf (show (34 : Nat) ≠ 32 by decide), u2_nf (show (35 : Nat) ≠ 32 by decide)]) (fun b hb => pF_sI_ne hb)
theorem st_33 {cy : cyT} {S : PS} {a : Nat} (h : PK S a = 2) (v : Int32) : va_pl (PL S) (va_up (pF cy S) a (.inr (2, [.int (fI S 32 a), .int v, .int (fI S 34 a), .int (fI S 35 a)]))) = wl cy (sI S 33 a v) :=
  wl_set rfl (by rw [pF_2 (show PK (sI S 33 a v) a = 2 from h)]; simp only [fI_sI, fL_sI, fR_sI, u2_self, u2_nf (show (32 : Nat) ≠ 33 by decide), u2_nf (show (34 : Nat) ≠ 33 by decide), u2_nf (show (35 : Nat) ≠ 33 by decide)]) (fun b hb => pF_sI_ne hb)
theorem st_34 {cy : cyT} {S : PS} {a : Nat} (h : PK S a = 2) (v : Int32) : va_pl (PL S) (va_up (pF cy S) a (.inr (2, [.int (fI S 32 a), .int (fI S 33 a), .int v, .int (fI S 35 a)]))) = wl cy (sI S 34 a v) :=
  wl_set rfl (by rw [pF_2 (show PK (sI S 34 a v) a = 2 from h)]; simp only [fI_sI, fL_sI, fR_sI, u2_self, u2_nf (show (32 : Nat) ≠ 34 by decide), u2_nf (show (33 : Nat) ≠ 34 by decide), u2_nf (show (35 : Nat) ≠ 34 by decide)]) (fun b hb => pF_sI_ne hb)
theorem st_35 {cy : cyT} {S : PS} {a : Nat} (h : PK S a = 2) (v : Int32) : va_pl (PL S) (va_up (pF cy S) a (.inr (2, [.int (fI S 32 a), .int (fI S 33 a), .int (fI S 34 a), .int v]))) = wl cy (sI S 35 a v) :=
  wl_set rfl (by rw [pF_2 (show PK (sI S 35 a v) a = 2 from h)]; simp only [fI_sI, fL_sI, fR_sI, u2_self, u2_nf (show (32 : Nat) ≠ 35 by decide), u2_nf (show (33 : Nat) ≠ 35 by decide), u2_nf (show (34 : Nat) ≠ 35 by decide)]) (fun b hb => pF_sI_ne hb)
theorem st_48 {cy : cyT} {S : PS} {a : Nat} (h : PK S a = 3) (v : Option Nat) : va_pl (PL S) (va_up (pF cy S) a (.inr (3, [va_rf v, va_rf (fR S 49 a), va_rf (fR S 50 a), .int (fI S 51 a), .int (fI S 52 a)]))) = wl cy (sR S 48 a v) :=
  wl_set rfl (by rw [pF_3 (show PK (sR S 48 a v) a = 3 from h)]; simp only [fI_sR, fL_sR, fR_sR, u2_self, u2_nf (show (49 : Nat) ≠ 48 by decide), u2_nf (show (50 : Nat) ≠ 48 by decide)]) (fun b hb => pF_sR_ne hb)
theorem st_49 {cy : cyT} {S : PS} {a : Nat} (h : PK S a = 3) (v : Option Nat) : va_pl (PL S) (va_up (pF cy S) a (.inr (3, [va_rf (fR S 48 a), va_rf v, va_rf (fR S 50 a), .int (fI S 51 a), .int (fI S 52 a)]))) = wl cy (sR S 49 a v) :=
  wl_set rfl (by rw [pF_3 (show PK (sR S 49 a v) a = 3 from h)]; simp only [fI_sR, fL_sR, fR_sR, u2_self, u2_nf (show (48 : Nat) ≠ 49 by decide), u2_nf (show (50 : Nat) ≠ 49 by decide)]) (fun b hb => pF_sR_ne hb)
theorem st_50 {cy : cyT} {S : PS} {a : Nat} (h : PK S a = 3) (v : Option Nat) : va_pl (PL S) (va_up (pF cy S) a (.inr (3, [va_rf (fR S 48 a), va_rf (fR S 49 a), va_rf v, .int (fI S 51 a), .int (fI S 52 a)]))) = wl cy (sR S 50 a v) :=
  wl_set rfl (by rw [pF_3 (show PK (sR S 50 a v) a = 3 from h)]; simp only [fI_sR, fL_sR, fR_sR, u2_self, u2_nf (show (48 : Nat) ≠ 50 by decide), u2_nf (show (49 : Nat) ≠ 50 by decide)]) (fun b hb => pF_sR_ne hb)
theorem st_51 {cy : cyT} {S : PS} {a : Nat} (h : PK S a = 3) (v : Int32) : va_pl (PL S) (va_up (pF cy S) a (.inr (3, [va_rf (fR S 48 a), va_rf (fR S 49 a), va_rf (fR S 50 a), .int v, .int (fI S 52 a)]))) = wl cy (sI S 51 a v) :=
  wl_set rfl (by rw [pF_3 (show PK (sI S 51 a v) a = 3 from h)]; simp only [fI_sI, fL_sI, fR_sI, u2_self, u2_nf (show (52 : Nat) ≠ 51 by decide)]) (fun b hb => pF_sI_ne hb)
theorem st_52 {cy : cyT} {S : PS} {a : Nat} (h : PK S a = 3) (v : Int32) : va_pl (PL S) (va_up (pF cy S) a (.inr (3, [va_rf (fR S 48 a), va_rf (fR S 49 a), va_rf (fR S 50 a), .int (fI S 51 a), .int v]))) = wl cy (sI S 52 a v) :=
  wl_set rfl (by rw [pF_3 (show PK (sI S 52 a v) a = 3 from h)]; simp only [fI_sI, fL_sI, fR_sI, u2_self, u2_nf (show (51 : Nat) ≠ 52 by decide)]) (fun b hb => pF_sI_ne hb)
theorem st_64 {cy : cyT} {S : PS} {a : Nat} (h : PK S a = 4) (v : Option Nat) : va_pl (PL S) (va_up (pF cy S) a (.inr (4, [va_rf v, va_rf (fR S 65 a), .int (fI S 66 a), .int (fI S 67 a), va_rf (fR S 68 a), .int (fI S 69 a), va_rf (fR S 70 a), va_rf (fR S 71 a)]))) = wl cy (sR S 64 a v) :=
  wl_set rfl (by rw [pF_4 (show PK (sR S 64 a v) a = 4 from h)]; simp only [fI_sR, fL_sR, fR_sR, u2_self, u2_nf (show (65 : Nat) ≠ 64 by decide), u2_nf (show (68 : Nat) ≠ 64 by decide), u2_nf (show (70 : Nat) ≠ 64 by decide), u2_nf (show (71 : Nat) ≠ 64 by decide)]) (fun b hb => pF_sR_ne hb)
theorem st_65 {cy : cyT} {S : PS} {a : Nat} (h : PK S a = 4) (v : Option Nat) : va_pl (PL S) (va_up (pF cy S) a (.inr (4, [va_rf (fR S 64 a), va_rf v, .int (fI S 66 a), .int (fI S 67 a), va_rf (fR S 68 a), .int (fI S 69 a), va_rf (fR S 70 a), va_rf (fR S 71 a)]))) = wl cy (sR S 65 a v) :=
  wl_set rfl (by rw [pF_4 (show PK (sR S 65 a v) a = 4 from h)]; simp only [fI_sR, fL_sR, fR_sR, u2_self, u2_nf (show (64 : Nat) ≠ 65 by decide), u2_nf (show (68 : Nat) ≠ 65 by decide), u2_nf (show (70 : Nat) ≠ 65 by decide), u2_nf (show (71 : Nat) ≠ 65 by decide)]) (fun b hb => pF_sR_ne hb)
theorem st_66 {cy : cyT} {S : PS} {a : Nat} (h : PK S a = 4) (v : Int32) : va_pl (PL S) (va_up (pF cy S) a (.inr (4, [va_rf (fR S 64 a), va_rf (fR S 65 a), .int v, .int (fI S 67 a), va_rf (fR S 68 a), .int (fI S 69 a), va_rf (fR S 70 a), va_rf (fR S 71 a)]))) = wl cy (sI S 66 a v) :=
  wl_set rfl (by rw [pF_4 (show PK (sI S 66 a v) a = 4 from h)]; simp only [fI_sI, fL_sI, fR_sI, u2_self, u2_nf (show (67 : Nat) ≠ 66 by decide), u2_nf (show (69 : Nat) ≠ 66 by decide)]) (fun b hb => pF_sI_ne hb)
theorem st_67 {cy : cyT} {S : PS} {a : Nat} (h : PK S a = 4) (v : Int32) : va_pl (PL S) (va_up (pF cy S) a (.inr (4, [va_rf (fR S 64 a), va_rf (fR S 65 a), .int (fI S 66 a), .int v, va_rf (fR S 68 a), .int (fI S 69 a), va_rf (fR S 70 a), va_rf (fR S 71 a)]))) = wl cy (sI S 67 a v) :=
  wl_set rfl (by rw [pF_4 (show PK (sI S 67 a v) a = 4 from h)]; simp only [fI_sI, fL_sI, fR_sI, u2_self, u2_nf (show (66 : Nat) ≠ 67 by decide), u2_nf (show (69 : Nat) ≠ 67 by decide)]) (fun b hb => pF_sI_ne hb)
theorem st_68 {cy : cyT} {S : PS} {a : Nat} (h : PK S a = 4) (v : Option Nat) : va_pl (PL S) (va_up (pF cy S) a (.inr (4, [va_rf (fR S 64 a), va_rf (fR S 65 a), .int (fI S 66 a), .int (fI S 67 a), va_rf v, .int (fI S 69 a), va_rf (fR S 70 a), va_rf (fR S 71 a)]))) = wl cy (sR S 68 a v) :=
  wl_set rfl (by rw [pF_4 (show PK (sR S 68 a v) a = 4 from h)]; simp only [fI_sR, fL_sR, fR_sR, u2_self, u2_nf (show (64 : Nat) ≠ 68 by decide), u2_nf (show (65 : Nat) ≠ 68 by decide), u2_nf (show (70 : Nat) ≠ 68 by decide), u2_nf (show (71 : Nat) ≠ 68 by decide)]) (fun b hb => pF_sR_ne hb)
theorem st_69 {cy : cyT} {S : PS} {a : Nat} (h : PK S a = 4) (v : Int32) : va_pl (PL S) (va_up (pF cy S) a (.inr (4, [va_rf (fR S 64 a), va_rf (fR S 65 a), .int (fI S 66 a), .int (fI S 67 a), va_rf (fR S 68 a), .int v, va_rf (fR S 70 a), va_rf (fR S 71 a)]))) = wl cy (sI S 69 a v) :=
  wl_set rfl (by rw [pF_4 (show PK (sI S 69 a v) a = 4 from h)]; simp only [fI_sI, fL_sI, fR_sI, u2_self, u2_nf (show (66 : Nat) ≠ 69 by decide), u2_nf (show (67 : Nat) ≠ 69 by decide)]) (fun b hb => pF_sI_ne hb)
theorem st_70 {cy : cyT} {S : PS} {a : Nat} (h : PK S a = 4) (v : Option Nat) : va_pl (PL S) (va_up (pF cy S) a (.inr (4, [va_rf (fR S 64 a), va_rf (fR S 65 a), .int (fI S 66 a), .int (fI S 67 a), va_rf (fR S 68 a), .int (fI S 69 a), va_rf v, va_rf (fR S 71 a)]))) = wl cy (sR S 70 a v) :=
  wl_set rfl (by rw [pF_4 (show PK (sR S 70 a v) a = 4 from h)]; simp only [fI_sR, fL_sR, fR_sR, u2_self, u2_nf (show (64 : Nat) ≠ 70 by decide), u2_nf (show (65 : Nat) ≠ 70 by decide), u2_nf (show (68 : Nat) ≠ 70 by decide), u2_nf (show (71 : Nat) ≠ 70 by decide)]) (fun b hb => pF_sR_ne hb)
theorem st_71 {cy : cyT} {S : PS} {a : Nat} (h : PK S a = 4) (v : Option Nat) : va_pl (PL S) (va_up (pF cy S) a (.inr (4, [va_rf (fR S 64 a), va_rf (fR S 65 a), .int (fI S 66 a), .int (fI S 67 a), va_rf (fR S 68 a), .int (fI S 69 a), va_rf (fR S 70 a), va_rf v]))) = wl cy (sR S 71 a v) :=
  wl_set rfl (by rw [pF_4 (show PK (sR S 71 a v) a = 4 from h)]; simp only [fI_sR, fL_sR, fR_sR, u2_self, u2_nf (show (64 : Nat) ≠ 71 by decide), u2_nf (show (65 : Nat) ≠ 71 by decide), u2_nf (show (68 : Nat) ≠ 71 by decide), u2_nf (show (70 : Nat) ≠ 71 by decide)]) (fun b hb => pF_sR_ne hb)
theorem st_80 {cy : cyT} {S : PS} {a : Nat} (h : PK S a = 5) (v : Int32) : va_pl (PL S) (va_up (pF cy S) a (.inr (5, [.int v, va_rf (fR S 81 a), va_rf (fR S 82 a), .int (fI S 83 a), va_rf (fR S 84 a), .int (fI S 85 a), .long (fL S 86 a), .long (fL S 87 a), va_rf (fR S 88 a), .int (fI S 89 a), .int (fI S 90 a), .int (fI S 91 a), .long (fL S 92 a)]))) = wl cy (sI S 80 a v) :=
  wl_set rfl (by rw [pF_5 (show PK (sI S 80 a v) a = 5 from h)]; simp only [fI_sI, fL_sI, fR_sI, u2_self, u2_nf (show (83 : Nat) ≠ 80 by decide), u2_nf (show (85 : Nat) ≠ 80 by decide), u2_nf (show (89 : Nat) ≠ 80 by decide), u2_nf (show (90 : Nat) ≠ 80 by decide), u2_nf (show (91 : Nat) ≠ 80 by decide)]) (fun b hb => pF_sI_ne hb)
theorem st_81 {cy : cyT} {S : PS} {a : Nat} (h : PK S a = 5) (v : Option Nat) : va_pl (PL S) (va_up (pF cy S) a (.inr (5, [.int (fI S 80 a), va_rf v, va_rf (fR S 82 a), .int (fI S 83 a), va_rf (fR S 84 a), .int (fI S 85 a), .long (fL S 86 a), .long (fL S 87 a), va_rf (fR S 88 a), .int (fI S 89 a), .int (fI S 90 a), .int (fI S 91 a), .long (fL S 92 a)]))) = wl cy (sR S 81 a v) :=
  wl_set rfl (by rw [pF_5 (show PK (sR S 81 a v) a = 5 from h)]; simp only [fI_sR, fL_sR, fR_sR, u2_self, u2_nf (show (82 : Nat) ≠ 81 by decide), u2_nf (show (84 : Nat) ≠ 81 by decide), u2_nf (show (88 : Nat) ≠ 81 by decide)]) (fun b hb => pF_sR_ne hb)
theorem st_82 {cy : cyT} {S : PS} {a : Nat} (h : PK S a = 5) (v : Option Nat) : va_pl (PL S) (va_up (pF cy S) a (.inr (5, [.int (fI S 80 a), va_rf (fR S 81 a), va_rf v, .int (fI S 83 a), va_rf (fR S 84 a), .int (fI S 85 a), .long (fL S 86 a), .long (fL S 87 a), va_rf (fR S 88 a), .int (fI S 89 a), .int (fI S 90 a), .int (fI S 91 a), .long (fL S 92 a)]))) = wl cy (sR S 82 a v) :=
  wl_set rfl (by rw [pF_5 (show PK (sR S 82 a v) a = 5 from h)]; simp only [fI_sR, fL_sR, fR_sR, u2_self, u2_nf (show (81 : Nat) ≠ 82 by decide), u2_nf (show (84 : Nat) ≠ 82 by decide), u2_nf (show (88 : Nat) ≠ 82 by decide)]) (fun b hb => pF_sR_ne hb)
theorem st_83 {cy : cyT} {S : PS} {a : Nat} (h : PK S a = 5) (v : Int32) : va_pl (PL S) (va_up (pF cy S) a (.inr (5, [.int (fI S 80 a), va_rf (fR S 81 a), va_rf (fR S 82 a), .int v, va_rf (fR S 84 a), .int (fI S 85 a), .long (fL S 86 a), .long (fL S 87 a), va_rf (fR S 88 a), .int (fI S 89 a), .int (fI S 90 a), .int (fI S 91 a), .long (fL S 92 a)]))) = wl cy (sI S 83 a v) :=
  wl_set rfl (by rw [pF_5 (show PK (sI S 83 a v) a = 5 from h)]; simp only [fI_sI, fL_sI, fR_sI, u2_self, u2_nf (show (80 : Nat) ≠ 83 by decide), u2_nf (show (85 : Nat) ≠ 83 by decide), u2_nf (show (89 : Nat) ≠ 83 by decide), u2_nf (show (90 : Nat) ≠ 83 by decide), u2_nf (show (91 : Nat) ≠ 83 by decide)]) (fun b hb => pF_sI_ne hb)
theorem st_84 {cy : cyT} {S : PS} {a : Nat} (h : PK S a = 5) (v : Option Nat) : va_pl (PL S) (va_up (pF cy S) a (.inr (5, [.int (fI S 80 a), va_rf (fR S 81 a), va_rf (fR S 82 a), .int (fI S 83 a), va_rf v, .int (fI S 85 a), .long (fL S 86 a), .long (fL S 87 a), va_rf (fR S 88 a), .int (fI S 89 a), .int (fI S 90 a), .int (fI S 91 a), .long (fL S 92 a)]))) = wl cy (sR S 84 a v) :=
  wl_set rfl (by rw [pF_5 (show PK (sR S 84 a v) a = 5 from h)]; simp only [fI_sR, fL_sR, fR_sR, u2_self, u2_nf (show (81 : Nat) ≠ 84 by decide), u2_nf (show (82 : Nat) ≠ 84 by decide), u2_nf (show (88 : Nat) ≠ 84 by decide)]) (fun b hb => pF_sR_ne hb)
theorem st_85 {cy : cyT} {S : PS} {a : Nat} (h : PK S a = 5) (v : Int32) : va_pl (PL S) (va_up (pF cy S) a (.inr (5, [.int (fI S 80 a), va_rf (fR S 81 a), va_rf (fR S 82 a), .int (fI S 83 a), va_rf (fR S 84 a), .int v, .long (fL S 86 a), .long (fL S 87 a), va_rf (fR S 88 a), .int (fI S 89 a), .int (fI S 90 a), .int (fI S 91 a), .long (fL S 92 a)]))) = wl cy (sI S 85 a v) :=
  wl_set rfl (by rw [pF_5 (show PK (sI S 85 a v) a = 5 from h)]; simp only [fI_sI, fL_sI, fR_sI, u2_self, u2_nf (show (80 : Nat) ≠ 85 by decide), u2_nf (show (83 : Nat) ≠ 85 by decide), u2_nf (show (89 : Nat) ≠ 85 by decide), u2_nf (show (90 : Nat) ≠ 85 by decide), u2_nf (show (91 : Nat) ≠ 85 by decide)]) (fun b hb => pF_sI_ne hb)
theorem st_86 {cy : cyT} {S : PS} {a : Nat} (h : PK S a = 5) (v : Int64) : va_pl (PL S) (va_up (pF cy S) a (.inr (5, [.int (fI S 80 a), va_rf (fR S 81 a), va_rf (fR S 82 a), .int (fI S 83 a), va_rf (fR S 84 a), .int (fI S 85 a), .long v, .long (fL S 87 a), va_rf (fR S 88 a), .int (fI S 89 a), .int (fI S 90 a), .int (fI S 91 a), .long (fL S 92 a)]))) = wl cy (sL S 86 a v) :=
  wl_set rfl (by rw [pF_5 (show PK (sL S 86 a v) a = 5 from h)]; simp only [fI_sL, fL_sL, fR_sL, u2_self, u2_nf (show (87 : Nat) ≠ 86 by decide), u2_nf (show (92 : Nat) ≠ 86 by decide)]) (fun b hb => pF_sL_ne hb)
theorem st_87 {cy : cyT} {S : PS} {a : Nat} (h : PK S a = 5) (v : Int64) : va_pl (PL S) (va_up (pF cy S) a (.inr (5, [.int (fI S 80 a), va_rf (fR S 81 a), va_rf (fR S 82 a), .int (fI S 83 a), va_rf (fR S 84 a), .int (fI S 85 a), .long (fL S 86 a), .long v, va_rf (fR S 88 a), .int (fI S 89 a), .int (fI S 90 a), .int (fI S 91 a), .long (fL S 92 a)]))) = wl cy (sL S 87 a v) :=
  wl_set rfl (by rw [pF_5 (show PK (sL S 87 a v) a = 5 from h)]; simp only [fI_sL, fL_sL, fR_sL, u2_self, u2_nf (show (86 : Nat) ≠ 87 by decide), u2_nf (show (92 : Nat) ≠ 87 by decide)]) (fun b hb => pF_sL_ne hb)
theorem st_88 {cy : cyT} {S : PS} {a : Nat} (h : PK S a = 5) (v : Option Nat) : va_pl (PL S) (va_up (pF cy S) a (.inr (5, [.int (fI S 80 a), va_rf (fR S 81 a), va_rf (fR S 82 a), .int (fI S 83 a), va_rf (fR S 84 a), .int (fI S 85 a), .long (fL S 86 a), .long (fL S 87 a), va_rf v, .int (fI S 89 a), .int (fI S 90 a), .int (fI S 91 a), .long (fL S 92 a)]))) = wl cy (sR S 88 a v) :=
  wl_set rfl (by rw [pF_5 (show PK (sR S 88 a v) a = 5 from h)]; simp only [fI_sR, fL_sR, fR_sR, u2_self, u2_nf (show (81 : Nat) ≠ 88 by decide), u2_nf (show (82 : Nat) ≠ 88 by decide), u2_nf (show (84 : Nat) ≠ 88 by decide)]) (fun b hb => pF_sR_ne hb)
theorem st_89 {cy : cyT} {S : PS} {a : Nat} (h : PK S a = 5) (v : Int32) : va_pl (PL S) (va_up (pF cy S) a (.inr (5, [.int (fI S 80 a), va_rf (fR S 81 a), va_rf (fR S 82 a), .int (fI S 83 a), va_rf (fR S 84 a), .int (fI S 85 a), .long (fL S 86 a), .long (fL S 87 a), va_rf (fR S 88 a), .int v, .int (fI S 90 a), .int (fI S 91 a), .long (fL S 92 a)]))) = wl cy (sI S 89 a v) :=
  wl_set rfl (by rw [pF_5 (show PK (sI S 89 a v) a = 5 from h)]; simp only [fI_sI, fL_sI, fR_sI, u2_self, u2_nf (show (80 : Nat) ≠ 89 by decide), u2_nf (show (83 : Nat) ≠ 89 by decide), u2_nf (show (85 : Nat) ≠ 89 by decide), u2_nf (show (90 : Nat) ≠ 89 by decide), u2_nf (show (91 : Nat) ≠ 89 by decide)]) (fun b hb => pF_sI_ne hb)
theorem st_90 {cy : cyT} {S : PS} {a : Nat} (h : PK S a = 5) (v : Int32) : va_pl (PL S) (va_up (pF cy S) a (.inr (5, [.int (fI S 80 a), va_rf (fR S 81 a), va_rf (fR S 82 a), .int (fI S 83 a), va_rf (fR S 84 a), .int (fI S 85 a), .long (fL S 86 a), .long (fL S 87 a), va_rf (fR S 88 a), .int (fI S 89 a), .int v, .int (fI S 91 a), .long (fL S 92 a)]))) = wl cy (sI S 90 a v) :=
  wl_set rfl (by rw [pF_5 (show PK (sI S 90 a v) a = 5 from h)]; simp only [fI_sI, fL_sI, fR_sI, u2_self, u2_nf (show (80 : Nat) ≠ 90 by decide), u2_nf (show (83 : Nat) ≠ 90 by decide), u2_nf (show (85 : Nat) ≠ 90 by decide), u2_nf (show (89 : Nat) ≠ 90 by decide), u2_nf (show (91 : Nat) ≠ 90 by decide)]) (fun b hb => pF_sI_ne hb)
theorem st_91 {cy : cyT} {S : PS} {a : Nat} (h : PK S a = 5) (v : Int32) : va_pl (PL S) (va_up (pF cy S) a (.inr (5, [.int (fI S 80 a), va_rf (fR S 81 a), va_rf (fR S 82 a), .int (fI S 83 a), va_rf (fR S 84 a), .int (fI S 85 a), .long (fL S 86 a), .long (fL S 87 a), va_rf (fR S 88 a), .int (fI S 89 a), .int (fI S 90 a), .int v, .long (fL S 92 a)]))) = wl cy (sI S 91 a v) :=
  wl_set rfl (by rw [pF_5 (show PK (sI S 91 a v) a = 5 from h)]; simp only [fI_sI, fL_sI, fR_sI, u2_self, u2_nf (show (80 : Nat) ≠ 91 by decide), u2_nf (show (83 : Nat) ≠ 91 by decide), u2_nf (show (85 : Nat) ≠ 91 by decide), u2_nf (show (89 : Nat) ≠ 91 by decide), u2_nf (show (90 : Nat) ≠ 91 by decide)]) (fun b hb => pF_sI_ne hb)
theorem st_92 {cy : cyT} {S : PS} {a : Nat} (h : PK S a = 5) (v : Int64) : va_pl (PL S) (va_up (pF cy S) a (.inr (5, [.int (fI S 80 a), va_rf (fR S 81 a), va_rf (fR S 82 a), .int (fI S 83 a), va_rf (fR S 84 a), .int (fI S 85 a), .long (fL S 86 a), .long (fL S 87 a), va_rf (fR S 88 a), .int (fI S 89 a), .int (fI S 90 a), .int (fI S 91 a), .long v]))) = wl cy (sL S 92 a v) :=
  wl_set rfl (by rw [pF_5 (show PK (sL S 92 a v) a = 5 from h)]; simp only [fI_sL, fL_sL, fR_sL, u2_self, u2_nf (show (86 : Nat) ≠ 92 by decide), u2_nf (show (87 : Nat) ≠ 92 by decide)]) (fun b hb => pF_sL_ne hb)
theorem st_row {cy : cyT} {S : PS} {a : Nat} (h : PK S a = 6) (k v : Int32) : va_pl (PL S) (va_up (pF cy S) a (.inl (cy.1, aN S a, .inl (upd (aI S a) k.toNatClampNeg v)))) = wl cy (sA S a k v) :=
  wl_set rfl (by rw [pF_6 (show PK (sA S a k v) a = 6 from h)]; simp only [aN_sA, aI_sA, va_up_self]) (fun b hb => pF_sA_ne hb)
theorem st_row7 {cy : cyT} {S : PS} {a : Nat} (h : PK S a = 7) (k : Int32) (v : Option Nat) : va_pl (PL S) (va_up (pF cy S) a (.inl (cy.2.1, aN S a, .inr (.inr (.inr (.inr (va_up (aR S a) k.toNatClampNeg v))))))) = wl cy (sQ S a k v) :=
  wl_set rfl (by rw [pF_7 (show PK (sQ S a k v) a = 7 from h)]; simp only [aN_sQ, aR_sQ, va_up_self]) (fun b hb => pF_sQ_ne hb)
theorem st_row8 {cy : cyT} {S : PS} {a : Nat} (h : PK S a = 8) (k : Int32) (v : Option Nat) : va_pl (PL S) (va_up (pF cy S) a (.inl (cy.2.2, aN S a, .inr (.inr (.inr (.inr (va_up (aR S a) k.toNatClampNeg v))))))) = wl cy (sQ S a k v) :=
  wl_set rfl (by rw [pF_8 (show PK (sQ S a k v) a = 8 from h)]; simp only [aN_sQ, aR_sQ, va_up_self]) (fun b hb => pF_sQ_ne hb)
theorem wl_new {cy : cyT} {S S1 : PS} {q : Nat} {e : va_E} (hL : PL S1 = PL S ++ [q]) (hq : q ∉ PL S) (h1 : pF cy S1 q = e) (h2 : ∀ b, b ≠ q → pF cy S1 b = pF cy S b) : wl cy S ++ [(q, e)] = wl cy S1 := by
  unfold wl
  rw [va_pl_push hq, hL]
  refine va_pl_congr fun b => ?_
  by_cases hb : b = q
  · subst hb; rw [va_up_self, h1]
  · rw [va_up_ne _ _ hb, h2 b hb]
theorem nw_0 {cy : cyT} {S : PS} {q : Nat} (hq : q ∉ PL S) : wl cy S ++ [(q, .inr (0, [.int 0, .int 0, .int 0, .int 0, .int 0]))] = wl cy (nO S q 0) :=
  wl_new rfl hq (by rw [pF_0 (show PK (nO S q 0) q = 0 from va_up_self _ _ _)]; simp only [fI_nO, fL_nO, fR_nO, if_true, va_rf]) (fun b hb => pF_nO_ne hb)
theorem nw_1 {cy : cyT} {S : PS} {q : Nat} (hq : q ∉ PL S) : wl cy S ++ [(q, .inr (1, [.long 0, .long 0]))] = wl cy (nO S q 1) :=
  wl_new rfl hq (by rw [pF_1 (show PK (nO S q 1) q = 1 from va_up_self _ _ _)]; simp only [fI_nO, fL_nO, fR_nO, if_true, va_rf]) (fun b hb => pF_nO_ne hb)
theorem nw_2 {cy : cyT} {S : PS} {q : Nat} (hq : q ∉ PL S) : wl cy S ++ [(q, .inr (2, [.int 0, .int 0, .int 0, .int 0]))] = wl cy (nO S q 2) :=
  wl_new rfl hq (by rw [pF_2 (show PK (nO S q 2) q = 2 from va_up_self _ _ _)]; simp only [fI_nO, fL_nO, fR_nO, if_true, va_rf]) (fun b hb => pF_nO_ne hb)
theorem nw_3 {cy : cyT} {S : PS} {q : Nat} (hq : q ∉ PL S) : wl cy S ++ [(q, .inr (3, [.null, .null, .null, .int 0, .int 0]))] = wl cy (nO S q 3) :=
  wl_new rfl hq (by rw [pF_3 (show PK (nO S q 3) q = 3 from va_up_self _ _ _)]; simp only [fI_nO, fL_nO, fR_nO, if_true, va_rf]) (fun b hb => pF_nO_ne hb)
theorem nw_4 {cy : cyT} {S : PS} {q : Nat} (hq : q ∉ PL S) : wl cy S ++ [(q, .inr (4, [.null, .null, .int 0, .int 0, .null, .int 0, .null, .null]))] = wl cy (nO S q 4) :=
  wl_new rfl hq (by rw [pF_4 (show PK (nO S q 4) q = 4 from va_up_self _ _ _)]; simp only [fI_nO, fL_nO, fR_nO, if_true, va_rf]) (fun b hb => pF_nO_ne hb)
theorem nw_5 {cy : cyT} {S : PS} {q : Nat} (hq : q ∉ PL S) : wl cy S ++ [(q, .inr (5, [.int 0, .null, .null, .int 0, .null, .int 0, .long 0, .long 0, .null, .int 0, .int 0, .int 0, .long 0]))] = wl cy (nO S q 5) :=
  wl_new rfl hq (by rw [pF_5 (show PK (nO S q 5) q = 5 from va_up_self _ _ _)]; simp only [fI_nO, fL_nO, fR_nO, if_true, va_rf]) (fun b hb => pF_nO_ne hb)
theorem nw_6 {cy : cyT} {S : PS} {q n : Nat} (hq : q ∉ PL S) : wl cy S ++ [(q, .inl (cy.1, n, .inl (fun _ => 0)))] = wl cy (nA S q 6 n) :=
  wl_new rfl hq (by rw [pF_6 (show PK (nA S q 6 n) q = 6 from va_up_self _ _ _)]; simp only [aN_nA, aI_nA, va_up_self]) (fun b hb => pF_nA_ne hb)
theorem nw_7 {cy : cyT} {S : PS} {q n : Nat} (hq : q ∉ PL S) : wl cy S ++ [(q, .inl (cy.2.1, n, .inr (.inr (.inr (.inr (fun _ => none))))))] = wl cy (nA S q 7 n) :=
  wl_new rfl hq (by rw [pF_7 (show PK (nA S q 7 n) q = 7 from va_up_self _ _ _)]; simp only [aN_nA, aR_nA, va_up_self]) (fun b hb => pF_nA_ne hb)
theorem nw_8 {cy : cyT} {S : PS} {q n : Nat} (hq : q ∉ PL S) : wl cy S ++ [(q, .inl (cy.2.2, n, .inr (.inr (.inr (.inr (fun _ => none))))))] = wl cy (nA S q 8 n) :=
  wl_new rfl hq (by rw [pF_8 (show PK (nA S q 8 n) q = 8 from va_up_self _ _ _)]; simp only [aN_nA, aR_nA, va_up_self]) (fun b hb => pF_nA_ne hb)
theorem EX.nO {S : PS} {q k : Nat} (hq : q ∉ PL S) : EX S (nO S q k) := fun a j h => ⟨List.mem_append_left _ h.1, (va_up_ne _ _ (fun e : a = q => hq (by rw [← e]; exact h.1))).trans h.2⟩
theorem EX.nA {S : PS} {q k n : Nat} (hq : q ∉ PL S) : EX S (nA S q k n) := fun a j h => ⟨List.mem_append_left _ h.1, (va_up_ne _ _ (fun e : a = q => hq (by rw [← e]; exact h.1))).trans h.2⟩
theorem vd_nO {S : PS} {q k : Nat} : vd (nO S q k) q k := ⟨List.mem_append_right _ List.mem_cons_self, va_up_self _ _ _⟩
theorem vd_nA {S : PS} {q k n : Nat} : vd (nA S q k n) q k := ⟨List.mem_append_right _ List.mem_cons_self, va_up_self _ _ _⟩
def ck {α : Type} (b : Bool) (e : Option α) : Option α := if b = true then e else none
def bd {α β : Type} (e : Option α) (k : α → Option β) : Option β := e.bind k
def rq {α : Type} (o : Option Nat) (S : PS) (k : Nat) (f : Nat → Option α) : Option α := match o with
  | none => none
  | some b => ck (decide (vd S b k)) (f b)
def nx {α β γ : Type} (e : Option ((α ⊕ Nat) × β)) (k : α → β → Option γ) : Option γ := match e with
  | some (.inl v, u) => k v u
  | _ => none
def nl {α : Type} (o : Option Nat) (e : Option α) (f : Option α) : Option α := match o with
  | none => e
  | some _ => f
theorem ck_some {α : Type} {b : Bool} {e : Option α} {r : α} (h : ck b e = some r) : b = true ∧ e = some r := by
  unfold ck at h
  split at h
  · exact ⟨by assumption, h⟩
  · cases h
theorem ckd_some {α : Type} {P : Prop} {i : Decidable P} {e : Option α} {r : α} (h : ck (@decide P i) e = some r) : P ∧ e = some r := ⟨of_decide_eq_true (ck_some h).1, (ck_some h).2⟩
theorem bd_some {α β : Type} {e : Option α} {k : α → Option β} {r : β} (h : bd e k = some r) : ∃ t, e = some t ∧ k t = some r := by
  unfold bd at h
  cases e with
  | none => cases h
  | some t => exact ⟨t, rfl, h⟩
theorem rq_some {α : Type} {o : Option Nat} {S : PS} {k : Nat} {f : Nat → Option α} {r : α} (h : rq o S k f = some r) : ∃ b, o = some b ∧ vd S b k ∧ f b = some r := by
  unfold rq at h
  cases o with
  | none => cases h
  | some b => exact ⟨b, rfl, (ckd_some h).1, (ckd_some h).2⟩
theorem nx_some {α β γ : Type} {e : Option ((α ⊕ Nat) × β)} {k : α → β → Option γ} {r : γ} (h : nx e k = some r) : ∃ v u, e = some (.inl v, u) ∧ k v u = some r := by
  unfold nx at h
  split at h
  · rename_i v u
    exact ⟨v, u, rfl, h⟩
  · cases h
theorem it_t {α : Type} {c : Prop} {i : Decidable c} {a b : Option α} {r : α} (hc : c) (h : @ite _ c i a b = some r) : a = some r := by rw [if_pos hc] at h; exact h
theorem it_f {α : Type} {c : Prop} {i : Decidable c} {a b : Option α} {r : α} (hc : ¬ c) (h : @ite _ c i a b = some r) : b = some r := by rw [if_neg hc] at h; exact h
section QC
/-- the nest mates' words, the constants' texts, the arrays' classes: what a launch keeps, warm or not -/
def NW (U : State) : Prop := va_Nw (.methodLinkNest RX0 21 yX4_commonDivisor "SharedModuli") U ∧ va_Nw (.methodLinkNest RX0 25 yX4_rest "SharedModuli") U ∧ va_Nw (.methodLinkNest RX0 34 yX4_share "SharedModuli") U ∧ va_Nw (.methodLinkNest RX0 37 yX4_inverse "SharedModuli") U ∧ va_Nw (.fieldLinkNest RX4 189 "SharedModuli$Condition" "factor" "I" "SharedModuli") U ∧ va_Nw (.fieldLinkNest RX4 192 "SharedModuli$Condition" "remainder" "I" "SharedModuli") U ∧ va_Nw (.fieldLinkNest RX4 195 "SharedModuli$Condition" "modulus" "I" "SharedModuli") U ∧ va_Nw (.fieldLinkNest RX1 16 "SharedModuli$Condition" "bareModulus" "I" "SharedModuli") U ∧ va_Nw (.fieldLinkNest RX4 129 "SharedModuli$Condition" "bareModulus" "I" "SharedModuli") U ∧ va_Nw (.fieldLinkNest RX1 31 "SharedModuli$Condition" "bareRemainder" "I" "SharedModuli") U ∧ va_Nw (.fieldLinkNest RX4 126 "SharedModuli$Condition" "bareRemainder" "I" "SharedModuli") U ∧ va_Nw (.fieldLinkNest RX4 95 "SharedModuli$State" "size" "I" "SharedModuli") U ∧ va_Nw (.fieldLinkNest RX4 98 "SharedModuli$State" "on" "I" "SharedModuli") U ∧ va_Nw (.fieldLinkNest RX4 329 "SharedModuli$Scanner" "value" "I" "SharedModuli") U ∧ va_Nw (.fieldLinkNest RX4 327 "SharedModuli$Scanner" "factor" "I" "SharedModuli") U ∧ va_Nw (.fieldLinkNest RX4 328 "SharedModuli$Scanner" "remainder" "I" "SharedModuli") U ∧ va_Nw (.fieldLinkNest RX4 254 "SharedModuli$Joint" "modulus" "J" "SharedModuli") U ∧ va_Nw (.fieldLinkNest RX4 276 "SharedModuli$Joint" "remainder" "J" "SharedModuli") U ∧ va_Nw (.methodLinkNest RX4 157 yX2_start "SharedModuli") U ∧ va_Nw (.methodLinkNest RX3 44 yX4_bit "SharedModuli") U ∧ va_Nw (.methodLinkNest RX1 22 yX4_commonDivisor "SharedModuli") U ∧ va_Nw (.methodLinkNest RX1 28 yX4_share "SharedModuli") U ∧ va_Nw (.methodLinkNest RX1 34 yX4_rest "SharedModuli") U ∧ va_Nw (.methodLinkNest RX1 37 yX4_inverse "SharedModuli") U ∧ va_Nw (.methodLinkNest RX3 71 yX4_widened "SharedModuli") U
theorem NW.warm {s U : State} (hW : s.WarmedH U.vm) (h : NW s) : NW U := ⟨va_Nw.warmM hW h.1, va_Nw.warmM hW h.2.1, va_Nw.warmM hW h.2.2.1, va_Nw.warmM hW h.2.2.2.1, va_Nw.warmF hW h.2.2.2.2.1, va_Nw.warmF hW h.2.2.2.2.2.1, va_Nw.warmF hW h.2.2.2.2.2.2.1, va_Nw.warmF hW h.2.2.2.2.2.2.2.1, va_Nw.warmF hW h.2.2.2.2.2.2.2.2.1, va_Nw.warmF hW h.2.2.2.2.2.2.2.2.2.1, va_Nw.warmF hW h.2.2.2.2.2.2.2.2.2.2.1, va_Nw.warmF hW h.2.2.2.2.2.2.2.2.2.2.2.1, va_Nw.warmF hW h.2.2.2.2.2.2.2.2.2.2.2.2.1, va_Nw.warmF hW h.2.2.2.2.2.2.2.2.2.2.2.2.2.1, va_Nw.warmF hW h.2.2.2.2.2.2.2.2.2.2.2.2.2.2.1, va_Nw.warmF hW h.2.2.2.2.2.2.2.2.2.2.2.2.2.2.2.1, va_Nw.warmF hW h.2.2.2.2.2.2.2.2.2.2.2.2.2.2.2.2.1, va_Nw.warmF hW h.2.2.2.2.2.2.2.2.2.2.2.2.2.2.2.2.2.1, va_Nw.warmM hW h.2.2.2.2.2.2.2.2.2.2.2.2.2.2.2.2.2.2.1, va_Nw.warmM hW h.2.2.2.2.2.2.2.2.2.2.2.2.2.2.2.2.2.2.2.1, va_Nw.warmM hW h.2.2.2.2.2.2.2.2.2.2.2.2.2.2.2.2.2.2.2.2.1, va_Nw.warmM hW h.2.2.2.2.2.2.2.2.2.2.2.2.2.2.2.2.2.2.2.2.2.1, va_Nw.warmM hW h.2.2.2.2.2.2.2.2.2.2.2.2.2.2.2.2.2.2.2.2.2.2.1, va_Nw.warmM hW h.2.2.2.2.2.2.2.2.2.2.2.2.2.2.2.2.2.2.2.2.2.2.2.1, va_Nw.warmM hW h.2.2.2.2.2.2.2.2.2.2.2.2.2.2.2.2.2.2.2.2.2.2.2.2⟩
theorem NW.same {u U : State} (hv : u.vm = U.vm) (h : NW u) : NW U := ⟨va_Nw.same rfl hv h.1, va_Nw.same rfl hv h.2.1, va_Nw.same rfl hv h.2.2.1, va_Nw.same rfl hv h.2.2.2.1, va_Nw.same rfl hv h.2.2.2.2.1, va_Nw.same rfl hv h.2.2.2.2.2.1, va_Nw.same rfl hv h.2.2.2.2.2.2.1, va_Nw.same rfl hv h.2.2.2.2.2.2.2.1, va_Nw.same rfl hv h.2.2.2.2.2.2.2.2.1, va_Nw.same rfl hv h.2.2.2.2.2.2.2.2.2.1, va_Nw.same rfl hv h.2.2.2.2.2.2.2.2.2.2.1, va_Nw.same rfl hv h.2.2.2.2.2.2.2.2.2.2.2.1, va_Nw.same rfl hv h.2.2.2.2.2.2.2.2.2.2.2.2.1, va_Nw.same rfl hv h.2.2.2.2.2.2.2.2.2.2.2.2.2.1, va_Nw.same rfl hv h.2.2.2.2.2.2.2.2.2.2.2.2.2.2.1, va_Nw.same rfl hv h.2.2.2.2.2.2.2.2.2.2.2.2.2.2.2.1, va_Nw.same rfl hv h.2.2.2.2.2.2.2.2.2.2.2.2.2.2.2.2.1, va_Nw.same rfl hv h.2.2.2.2.2.2.2.2.2.2.2.2.2.2.2.2.2.1, va_Nw.same rfl hv h.2.2.2.2.2.2.2.2.2.2.2.2.2.2.2.2.2.2.1, va_Nw.same rfl hv h.2.2.2.2.2.2.2.2.2.2.2.2.2.2.2.2.2.2.2.1, va_Nw.same rfl hv h.2.2.2.2.2.2.2.2.2.2.2.2.2.2.2.2.2.2.2.2.1, va_Nw.same rfl hv h.2.2.2.2.2.2.2.2.2.2.2.2.2.2.2.2.2.2.2.2.2.1, va_Nw.same rfl hv h.2.2.2.2.2.2.2.2.2.2.2.2.2.2.2.2.2.2.2.2.2.2.1, va_Nw.same rfl hv h.2.2.2.2.2.2.2.2.2.2.2.2.2.2.2.2.2.2.2.2.2.2.2.1, va_Nw.same rfl hv h.2.2.2.2.2.2.2.2.2.2.2.2.2.2.2.2.2.2.2.2.2.2.2.2⟩
theorem nk_m_RX0_21 {s : State} (h : NW s) : va_Nw (.methodLinkNest RX0 21 yX4_commonDivisor "SharedModuli") s := h.1
theorem nk_m_RX0_25 {s : State} (h : NW s) : va_Nw (.methodLinkNest RX0 25 yX4_rest "SharedModuli") s := h.2.1
theorem nk_m_RX0_34 {s : State} (h : NW s) : va_Nw (.methodLinkNest RX0 34 yX4_share "SharedModuli") s := h.2.2.1
theorem nk_m_RX0_37 {s : State} (h : NW s) : va_Nw (.methodLinkNest RX0 37 yX4_inverse "SharedModuli") s := h.2.2.2.1
theorem nk_f_RX4_189 {s : State} (h : NW s) : va_Nw (.fieldLinkNest RX4 189 "SharedModuli$Condition" "factor" "I" "SharedModuli") s := h.2.2.2.2.1
theorem nk_f_RX4_192 {s : State} (h : NW s) : va_Nw (.fieldLinkNest RX4 192 "SharedModuli$Condition" "remainder" "I" "SharedModuli") s := h.2.2.2.2.2.1
theorem nk_f_RX4_195 {s : State} (h : NW s) : va_Nw (.fieldLinkNest RX4 195 "SharedModuli$Condition" "modulus" "I" "SharedModuli") s := h.2.2.2.2.2.2.1
theorem nk_f_RX1_16 {s : State} (h : NW s) : va_Nw (.fieldLinkNest RX1 16 "SharedModuli$Condition" "bareModulus" "I" "SharedModuli") s := h.2.2.2.2.2.2.2.1
theorem nk_f_RX4_129 {s : State} (h : NW s) : va_Nw (.fieldLinkNest RX4 129 "SharedModuli$Condition" "bareModulus" "I" "SharedModuli") s := h.2.2.2.2.2.2.2.2.1
theorem nk_f_RX1_31 {s : State} (h : NW s) : va_Nw (.fieldLinkNest RX1 31 "SharedModuli$Condition" "bareRemainder" "I" "SharedModuli") s := h.2.2.2.2.2.2.2.2.2.1
theorem nk_f_RX4_126 {s : State} (h : NW s) : va_Nw (.fieldLinkNest RX4 126 "SharedModuli$Condition" "bareRemainder" "I" "SharedModuli") s := h.2.2.2.2.2.2.2.2.2.2.1
theorem nk_f_RX4_95 {s : State} (h : NW s) : va_Nw (.fieldLinkNest RX4 95 "SharedModuli$State" "size" "I" "SharedModuli") s := h.2.2.2.2.2.2.2.2.2.2.2.1
theorem nk_f_RX4_98 {s : State} (h : NW s) : va_Nw (.fieldLinkNest RX4 98 "SharedModuli$State" "on" "I" "SharedModuli") s := h.2.2.2.2.2.2.2.2.2.2.2.2.1
theorem nk_f_RX4_329 {s : State} (h : NW s) : va_Nw (.fieldLinkNest RX4 329 "SharedModuli$Scanner" "value" "I" "SharedModuli") s := h.2.2.2.2.2.2.2.2.2.2.2.2.2.1
theorem nk_f_RX4_327 {s : State} (h : NW s) : va_Nw (.fieldLinkNest RX4 327 "SharedModuli$Scanner" "factor" "I" "SharedModuli") s := h.2.2.2.2.2.2.2.2.2.2.2.2.2.2.1
theorem nk_f_RX4_328 {s : State} (h : NW s) : va_Nw (.fieldLinkNest RX4 328 "SharedModuli$Scanner" "remainder" "I" "SharedModuli") s := h.2.2.2.2.2.2.2.2.2.2.2.2.2.2.2.1
theorem nk_f_RX4_254 {s : State} (h : NW s) : va_Nw (.fieldLinkNest RX4 254 "SharedModuli$Joint" "modulus" "J" "SharedModuli") s := h.2.2.2.2.2.2.2.2.2.2.2.2.2.2.2.2.1
theorem nk_f_RX4_276 {s : State} (h : NW s) : va_Nw (.fieldLinkNest RX4 276 "SharedModuli$Joint" "remainder" "J" "SharedModuli") s := h.2.2.2.2.2.2.2.2.2.2.2.2.2.2.2.2.2.1
theorem nk_m_RX4_157 {s : State} (h : NW s) : va_Nw (.methodLinkNest RX4 157 yX2_start "SharedModuli") s := h.2.2.2.2.2.2.2.2.2.2.2.2.2.2.2.2.2.2.1
theorem nk_m_RX3_44 {s : State} (h : NW s) : va_Nw (.methodLinkNest RX3 44 yX4_bit "SharedModuli") s := h.2.2.2.2.2.2.2.2.2.2.2.2.2.2.2.2.2.2.2.1
theorem nk_m_RX1_22 {s : State} (h : NW s) : va_Nw (.methodLinkNest RX1 22 yX4_commonDivisor "SharedModuli") s := h.2.2.2.2.2.2.2.2.2.2.2.2.2.2.2.2.2.2.2.2.1
theorem nk_m_RX1_28 {s : State} (h : NW s) : va_Nw (.methodLinkNest RX1 28 yX4_share "SharedModuli") s := h.2.2.2.2.2.2.2.2.2.2.2.2.2.2.2.2.2.2.2.2.2.1
theorem nk_m_RX1_34 {s : State} (h : NW s) : va_Nw (.methodLinkNest RX1 34 yX4_rest "SharedModuli") s := h.2.2.2.2.2.2.2.2.2.2.2.2.2.2.2.2.2.2.2.2.2.2.1
theorem nk_m_RX1_37 {s : State} (h : NW s) : va_Nw (.methodLinkNest RX1 37 yX4_inverse "SharedModuli") s := h.2.2.2.2.2.2.2.2.2.2.2.2.2.2.2.2.2.2.2.2.2.2.2.1
theorem nk_m_RX3_71 {s : State} (h : NW s) : va_Nw (.methodLinkNest RX3 71 yX4_widened "SharedModuli") s := h.2.2.2.2.2.2.2.2.2.2.2.2.2.2.2.2.2.2.2.2.2.2.2.2
def SW (U : State) : Prop := (∃ a : Nat, vk_R RX4 61 "a factor, remainder or modulus is out of range" a U) ∧ (∃ a : Nat, vk_R RX4 72 "there are 10 conditions, or N would be too great" a U) ∧ (∃ a : Nat, vk_R RX4 88 "there is no such condition" a U) ∧ (∃ a : Nat, vk_R RX4 111 "N would be too great" a U) ∧ (∃ a : Nat, vk_R RX4 124 "the condition is void" a U) ∧ (∃ a : Nat, vk_R RX4 139 "the conditions that are on are not possible togethe\x72" a U) ∧ (∃ a : Nat, vk_R RX4 153 "the character code is not 33 to 126" a U) ∧ (∃ a : Nat, vk_R RX4 155 "the buffer has 60 characters" a U) ∧ (∃ a : Nat, vk_R RX4 172 "the buffer does not tell conditions as a text" a U) ∧ (∃ a : Nat, vk_R RX4 177 "there is no saved state" a U) ∧ (∃ a : Nat, vk_R RX4 187 "what is not 0 to 8" a U) ∧ (∃ a : Nat, vk_R RX4 201 "what is not 0 or 1" a U) ∧ (∃ a : Nat, vk_R RX4 207 "what is not 0 to 6" a U) ∧ (∃ a : Nat, vk_R RX4 221 "p is out of range or no prime, or what is not 0 to 3" a U) ∧ (∃ a : Nat, vk_R RX4 242 "an argument is out of range" a U) ∧ (∃ a : Nat, vk_R RX4 257 "the number is out of range" a U) ∧ (∃ a : Nat, vk_R RX4 259 "a number is out of range" a U)
theorem SW.warm {s U : State} (hW : s.WarmedH U.vm) (h : SW s) : SW U := ⟨⟨_, vk_R.warm hW h.1.choose_spec⟩, ⟨_, vk_R.warm hW h.2.1.choose_spec⟩, ⟨_, vk_R.warm hW h.2.2.1.choose_spec⟩, ⟨_, vk_R.warm hW h.2.2.2.1.choose_spec⟩, ⟨_, vk_R.warm hW h.2.2.2.2.1.choose_spec⟩, ⟨_, vk_R.warm hW h.2.2.2.2.2.1.choose_spec⟩, ⟨_, vk_R.warm hW h.2.2.2.2.2.2.1.choose_spec⟩, ⟨_, vk_R.warm hW h.2.2.2.2.2.2.2.1.choose_spec⟩, ⟨_, vk_R.warm hW h.2.2.2.2.2.2.2.2.1.choose_spec⟩, ⟨_, vk_R.warm hW h.2.2.2.2.2.2.2.2.2.1.choose_spec⟩, ⟨_, vk_R.warm hW h.2.2.2.2.2.2.2.2.2.2.1.choose_spec⟩, ⟨_, vk_R.warm hW h.2.2.2.2.2.2.2.2.2.2.2.1.choose_spec⟩, ⟨_, vk_R.warm hW h.2.2.2.2.2.2.2.2.2.2.2.2.1.choose_spec⟩, ⟨_, vk_R.warm hW h.2.2.2.2.2.2.2.2.2.2.2.2.2.1.choose_spec⟩, ⟨_, vk_R.warm hW h.2.2.2.2.2.2.2.2.2.2.2.2.2.2.1.choose_spec⟩, ⟨_, vk_R.warm hW h.2.2.2.2.2.2.2.2.2.2.2.2.2.2.2.1.choose_spec⟩, ⟨_, vk_R.warm hW h.2.2.2.2.2.2.2.2.2.2.2.2.2.2.2.2.choose_spec⟩⟩
theorem SW.same {u U : State} (hv : U.vm = u.vm) (h : SW u) : SW U := ⟨⟨_, vk_R.same hv h.1.choose_spec⟩, ⟨_, vk_R.same hv h.2.1.choose_spec⟩, ⟨_, vk_R.same hv h.2.2.1.choose_spec⟩, ⟨_, vk_R.same hv h.2.2.2.1.choose_spec⟩, ⟨_, vk_R.same hv h.2.2.2.2.1.choose_spec⟩, ⟨_, vk_R.same hv h.2.2.2.2.2.1.choose_spec⟩, ⟨_, vk_R.same hv h.2.2.2.2.2.2.1.choose_spec⟩, ⟨_, vk_R.same hv h.2.2.2.2.2.2.2.1.choose_spec⟩, ⟨_, vk_R.same hv h.2.2.2.2.2.2.2.2.1.choose_spec⟩, ⟨_, vk_R.same hv h.2.2.2.2.2.2.2.2.2.1.choose_spec⟩, ⟨_, vk_R.same hv h.2.2.2.2.2.2.2.2.2.2.1.choose_spec⟩, ⟨_, vk_R.same hv h.2.2.2.2.2.2.2.2.2.2.2.1.choose_spec⟩, ⟨_, vk_R.same hv h.2.2.2.2.2.2.2.2.2.2.2.2.1.choose_spec⟩, ⟨_, vk_R.same hv h.2.2.2.2.2.2.2.2.2.2.2.2.2.1.choose_spec⟩, ⟨_, vk_R.same hv h.2.2.2.2.2.2.2.2.2.2.2.2.2.2.1.choose_spec⟩, ⟨_, vk_R.same hv h.2.2.2.2.2.2.2.2.2.2.2.2.2.2.2.1.choose_spec⟩, ⟨_, vk_R.same hv h.2.2.2.2.2.2.2.2.2.2.2.2.2.2.2.2.choose_spec⟩⟩
theorem sk_61 {s : State} (h : SW s) : ∃ a : Nat, vk_R RX4 61 "a factor, remainder or modulus is out of range" a s := h.1
theorem sk_72 {s : State} (h : SW s) : ∃ a : Nat, vk_R RX4 72 "there are 10 conditions, or N would be too great" a s := h.2.1
theorem sk_88 {s : State} (h : SW s) : ∃ a : Nat, vk_R RX4 88 "there is no such condition" a s := h.2.2.1
theorem sk_111 {s : State} (h : SW s) : ∃ a : Nat, vk_R RX4 111 "N would be too great" a s := h.2.2.2.1
theorem sk_124 {s : State} (h : SW s) : ∃ a : Nat, vk_R RX4 124 "the condition is void" a s := h.2.2.2.2.1
theorem sk_139 {s : State} (h : SW s) : ∃ a : Nat, vk_R RX4 139 "the conditions that are on are not possible togethe\x72" a s := h.2.2.2.2.2.1
theorem sk_153 {s : State} (h : SW s) : ∃ a : Nat, vk_R RX4 153 "the character code is not 33 to 126" a s := h.2.2.2.2.2.2.1
theorem sk_155 {s : State} (h : SW s) : ∃ a : Nat, vk_R RX4 155 "the buffer has 60 characters" a s := h.2.2.2.2.2.2.2.1
theorem sk_172 {s : State} (h : SW s) : ∃ a : Nat, vk_R RX4 172 "the buffer does not tell conditions as a text" a s := h.2.2.2.2.2.2.2.2.1
theorem sk_177 {s : State} (h : SW s) : ∃ a : Nat, vk_R RX4 177 "there is no saved state" a s := h.2.2.2.2.2.2.2.2.2.1
theorem sk_187 {s : State} (h : SW s) : ∃ a : Nat, vk_R RX4 187 "what is not 0 to 8" a s := h.2.2.2.2.2.2.2.2.2.2.1
theorem sk_201 {s : State} (h : SW s) : ∃ a : Nat, vk_R RX4 201 "what is not 0 or 1" a s := h.2.2.2.2.2.2.2.2.2.2.2.1
theorem sk_207 {s : State} (h : SW s) : ∃ a : Nat, vk_R RX4 207 "what is not 0 to 6" a s := h.2.2.2.2.2.2.2.2.2.2.2.2.1
theorem sk_221 {s : State} (h : SW s) : ∃ a : Nat, vk_R RX4 221 "p is out of range or no prime, or what is not 0 to 3" a s := h.2.2.2.2.2.2.2.2.2.2.2.2.2.1
theorem sk_242 {s : State} (h : SW s) : ∃ a : Nat, vk_R RX4 242 "an argument is out of range" a s := h.2.2.2.2.2.2.2.2.2.2.2.2.2.2.1
theorem sk_257 {s : State} (h : SW s) : ∃ a : Nat, vk_R RX4 257 "the number is out of range" a s := h.2.2.2.2.2.2.2.2.2.2.2.2.2.2.2.1
theorem sk_259 {s : State} (h : SW s) : ∃ a : Nat, vk_R RX4 259 "a number is out of range" a s := h.2.2.2.2.2.2.2.2.2.2.2.2.2.2.2.2
abbrev tyl (cy : cyT) : List (ClassId × FieldType) := [(cy.1, .int), (cy.2.1, .object RX0), (cy.2.2, .object RX3)]
def XW (U : State) : Prop := va_Nw (.castable "java/lang/IllegalArgumentException" "java/lang/IllegalArgumentException") U ∧ va_Nw (.castable "java/lang/IllegalStateException" "java/lang/IllegalStateException") U ∧ va_Nw (.castable "java/lang/IndexOutOfBoundsException" "java/lang/IndexOutOfBoundsException") U ∧ va_Nw (.declares (Bundle.initS "java/lang/RuntimeException")) U ∧ va_Nw (.declares (Bundle.initS "java/lang/Exception")) U ∧ va_Nw (.declares (Bundle.initS "java/lang/Throwable")) U
theorem XW.warm {s U : State} (hW : s.WarmedH U.vm) (h : XW s) : XW U := ⟨va_Nw.warmC hW h.1, va_Nw.warmC hW h.2.1, va_Nw.warmC hW h.2.2.1, va_Nw.warmD hW h.2.2.2.1, va_Nw.warmD hW h.2.2.2.2.1, va_Nw.warmD hW h.2.2.2.2.2⟩
theorem XW.same {u U : State} (hv : u.vm = U.vm) (h : XW u) : XW U := ⟨va_Nw.same rfl hv h.1, va_Nw.same rfl hv h.2.1, va_Nw.same rfl hv h.2.2.1, va_Nw.same rfl hv h.2.2.2.1, va_Nw.same rfl hv h.2.2.2.2.1, va_Nw.same rfl hv h.2.2.2.2.2⟩
def KN (D : va_G) (cy : cyT) (U : State) : Prop := va_K D vwCl (tyl cy) U ∧ NW U ∧ SW U ∧ va_AO RX0 U ∧ va_AO RX3 U ∧ XW U
theorem KN.warm {D : va_G} {cy : cyT} {s U : State} (hW : s.WarmedH U.vm) (h : KN D cy s) : KN D cy U := ⟨h.1.moved hW.alike, h.2.1.warm hW, h.2.2.1.warm hW, h.2.2.2.1.moved hW.alike, h.2.2.2.2.1.moved hW.alike, h.2.2.2.2.2.warm hW⟩
theorem KN.same {D : va_G} {cy : cyT} {u U : State} (hv : u.vm = U.vm) (h : KN D cy u) : KN D cy U := ⟨h.1.moved (hv ▸ Vm.Alike.refl _), h.2.1.same hv, h.2.2.1.same hv.symm, h.2.2.2.1.moved (hv ▸ Vm.Alike.refl _), h.2.2.2.2.1.moved (hv ▸ Vm.Alike.refl _), h.2.2.2.2.2.same hv⟩
/-- the cells outside: what a throw needs, and the class's own array of primes -/
def HZ (A : Nat → Prop) (U : State) (H : Heap) : Prop := vx_Zq Bundle.tN "UNASSIGNED_STACK" Bundle.steD A U H ∧ vx_Zq Bundle.tN "SUPPRESSED_SENTINEL" Bundle.listD A U H ∧ ∃ t : Nat, va_Z "SharedModuli" "DIGEST_PRIMES" "[I" (.ref t) A U H ∧ va_T .int t 6 (fun j => .int (nI ([2, 3, 5, 7, 11, 13].getD j 0))) A U H
theorem HZ.moved {A : Nat → Prop} {u U : State} {H : Heap} (hvm : u.vm.Alike U.vm) (h : HZ A u H) : HZ A U H := ⟨h.1.moved hvm, h.2.1.moved hvm, h.2.2.choose, h.2.2.choose_spec.1.moved hvm, h.2.2.choose_spec.2.moved hvm⟩
theorem HZ.kept {A : Nat → Prop} {U : State} {H H1 : Heap} (h : HZ A U H) (hq : ∀ a : Nat, a < H.size → ¬ A a → H1[a]? = H[a]?) : HZ A U H1 := ⟨h.1.kept hq, h.2.1.kept hq, h.2.2.choose, h.2.2.choose_spec.1.kept hq, h.2.2.choose_spec.2.kept hq⟩
theorem HZ.narrow {A B : Nat → Prop} {U : State} {H : Heap} (h : HZ A U H) (hAB : ∀ q, B q → A q) : HZ B U H := ⟨h.1.narrow hAB, h.2.1.narrow hAB, h.2.2.choose, h.2.2.choose_spec.1.narrow hAB, h.2.2.choose_spec.2.narrow hAB⟩
/-- a picture stands in the heap H, which has n cells; what has changed since H0 lies in A -/
def Hw (D : va_G) (cy : cyT) (A : Nat → Prop) (H0 : Heap) (S : PS) (n : Nat) (H : Heap) (locs : List Loc) : Prop := va_P D vwCl (wl cy S) H ∧ va_D A (wl cy S) ∧ va_S A H0 H locs ∧ H.size = n
abbrev AA (cy : cyT) (S : PS) (n : Nat) : Nat → Prop := va_A (wl cy S) n
theorem wl_at {cy : cyT} {S : PS} {a : Nat} (h : a ∈ PL S) : ∃ k : Nat, (wl cy S)[k]? = some (a, pF cy S a) := va_pl_get (X := []) h
theorem wl_put {A : Nat → Prop} {cy : cyT} {S S1 : PS} {a k : Nat} {e : va_E} (hD : va_D A (wl cy S)) (h : a ∈ PL S) (hk : (wl cy S)[k]? = some (a, pF cy S a)) (hs : va_pl (PL S) (va_up (pF cy S) a e) = wl cy S1) : (wl cy S).set k (a, e) = wl cy S1 := (va_pl_set (X := []) hD h hk).trans hs
theorem Hw.fresh {D : va_G} {cy : cyT} {A : Nat → Prop} {H0 H : Heap} {S : PS} {n : Nat} {locs : List Loc} (h : Hw D cy A H0 S n H locs) : n ∉ PL S := va_pl_fresh (X := []) h.1 (Nat.le_of_eq h.2.2.2)
theorem Hw.free {D : va_G} {cy : cyT} {A : Nat → Prop} {H0 H : Heap} {S : PS} {n : Nat} {locs : List Loc} (h : Hw D cy A H0 S n H locs) (hA : ∀ q, H0.size ≤ q → A q) : ∀ q, AA cy S n q → A q := by
  intro q hq
  rcases hq with ⟨k, e, hk⟩ | hq
  · exact h.2.1.2 k (q, e) hk
  · exact hA q (Nat.le_trans h.2.2.1.1 (h.2.2.2 ▸ hq))
/-- contracts: a method that reads -/
def PcR (D : va_G) (cy : cyT) (H : Heap) (av : List Value) : Array Value → State → Prop := va_Pc av (fun U => U.heap = H ∧ KN D cy U)
theorem PcR.bl {D : va_G} {cy : cyT} {H : Heap} {av : List Value} : FrameBlind (PcR D cy H av) := fun _ _ _ _ q => ⟨q.1, q.2.1, q.2.2.same rfl⟩
theorem PcR.in {D : va_G} {cy : cyT} {s : State} {H : Heap} {av : List Value} (hK : KN D cy s) : ∀ U : State, U.heap = H → s.WarmedH U.vm → PcR D cy H av av.toArray U := fun _ hU hW => ⟨rfl, hU, hK.warm hW⟩
/-- one that writes, or makes; z: it needs the cells outside -/
def PcW (z : Prop) (D : va_G) (cy : cyT) (S : PS) (n : Nat) (av : List Value) : Array Value → State → Prop := va_Pc av (fun U => U.heap.size = n ∧ va_P D vwCl (wl cy S) U.heap ∧ va_D (fun _ => True) (wl cy S) ∧ KN D cy U ∧ (z → HZ (AA cy S n) U U.heap))
theorem PcW.bl {z : Prop} {D : va_G} {cy : cyT} {S : PS} {n : Nat} {av : List Value} : FrameBlind (PcW z D cy S n av) := fun _ _ _ _ q => ⟨q.1, q.2.1, q.2.2.1, q.2.2.2.1, q.2.2.2.2.1.same rfl, fun hz => (q.2.2.2.2.2 hz).moved (Vm.Alike.refl _)⟩
theorem PcW.in {z : Prop} {D : va_G} {cy : cyT} {A : Nat → Prop} {s : State} {H : Heap} {S : PS} {n : Nat} {locs : List Loc} {av : List Value} (hK : KN D cy s) (hw : Hw D cy A s.heap S n H locs) (hA : ∀ q, s.heap.size ≤ q → A q) (hZ : z → HZ A s s.heap) : ∀ U : State, U.heap = H → s.WarmedH U.vm → PcW z D cy S n av av.toArray U := fun U hU hW => ⟨rfl, by rw [hU]; exact hw.2.2.2, by rw [hU]; exact hw.1, hw.2.1.weaken (fun _ _ _ _ => trivial), hK.warm hW, fun hz => by rw [hU]; exact (((hZ hz).kept hw.2.2.1.2.1).narrow (hw.free hA)).moved hW.alike⟩
/-- the world behind it -/
def BW (D : va_G) (cy : cyT) (S : PS) (n : Nat) (u : PS × Nat) (t : State) : Prop := va_P D vwCl (wl cy u.1) t.heap ∧ va_D (AA cy S n) (wl cy u.1) ∧ t.heap.size = u.2 ∧ EX S u.1
/-- behind a throw: the old cells stand as they stood but for the world's -/
def BX (code : Nat) (E : String) (t : State) : Prop := E = (if code = 0 then "java/lang/IllegalArgumentException" else if code = 1 then "java/lang/IllegalStateException" else "java/lang/IndexOutOfBoundsException")
theorem Hw.start {D : va_G} {cy : cyT} {S : PS} {n : Nat} {U : State} (h1 : U.heap.size = n) (h2 : va_P D vwCl (wl cy S) U.heap) (h3 : va_D (fun _ => True) (wl cy S)) : Hw D cy (AA cy S n) U.heap S n U.heap [] := ⟨h2, h3.self, va_S.rf, h1⟩
theorem BW.of {D : va_G} {cy : cyT} {S S1 : PS} {n n1 : Nat} {H0 H : Heap} {locs : List Loc} {t : State} (h : Hw D cy (AA cy S n) H0 S1 n1 H locs) (hE : EX S S1) (ht : t.heap = H) : BW D cy S n (S1, n1) t := ⟨by rw [ht]; exact h.1, h.2.1, by rw [ht]; exact h.2.2.2, hE⟩
section QCR
variable {p : Program} {l : Launch} {e : Env} {R : Room} {s : State} {m : MethodId} {args : Array Value} {below : List Frame} {meth : Method} {c : Code} {H : Heap} {locs : List Loc} {cells slots : Nat} {Q : State → Prop}
variable {cc : ByteArray} {nL pc : Nat} {ls : Array Slot} {rest st0 : List Value} {D : va_G} {cy : cyT} {A : Nat → Prop} {a : Nat} {S : PS} {n : Nat} {H0 : Heap} {Ts : List Cond} {own : String}
theorem q_get (F : CallFix p m c cc nL s args Ts own) (hK : KN D cy s) (hP : va_P D vwCl (wl cy S) H) (ha : a ∈ PL S) {ci : Nat} {fs : List Value} (he : pF cy S a = .inr (ci, fs)) {C : String} {T : u_T} {N : Nat} (hin : ∀ w ∈ u_ws C T N, w ∈ Ts) (hc : vwCl[ci]? = some (C, T, N)) (k : Nat) (hk : k < N) {index : Nat} (hlink : (Cond.fieldLink own index (T k).1 (T k).2.1 (T k).2.2.1).before args s = true) {v : Value} (hv : fs[k]? = some v) (hdg : decode cc pc = .ok (.getfield index, 3))
    (kk : W p l e R s m args below meth c H locs cells slots Q (F0 m (pc + 3) ls (v :: rest))) : W p l e R s m args below meth c H locs cells slots Q (F0 m pc ls (.ref a :: rest)) := by
  obtain ⟨k0, hk0⟩ := wl_at (cy := cy) ha
  rw [he] at hk0
  exact va_get F.1 F.2.1 F.2.2.2.2 hin F.2.2.2.1 hK.1 hP k0 hk0 hc k hk hlink (fun _ h9 => h9) hv hdg kk
theorem q_getN (F : CallFix p m c cc nL s args Ts own) (hK : KN D cy s) (hP : va_P D vwCl (wl cy S) H) (ha : a ∈ PL S) {ci : Nat} {fs : List Value} (he : pF cy S a = .inr (ci, fs)) {C : String} {T : u_T} {N : Nat} (hin : ∀ w ∈ u_ws C T N, w ∈ Ts) (hc : vwCl[ci]? = some (C, T, N)) (k : Nat) (hk : k < N) {index : Nat} {host : String} (hlink : va_Nw (.fieldLinkNest own index (T k).1 (T k).2.1 (T k).2.2.1 host) s) {v : Value} (hv : fs[k]? = some v) (hdg : decode cc pc = .ok (.getfield index, 3))
    (kk : W p l e R s m args below meth c H locs cells slots Q (F0 m (pc + 3) ls (v :: rest))) : W p l e R s m args below meth c H locs cells slots Q (F0 m pc ls (.ref a :: rest)) := by
  obtain ⟨k0, hk0⟩ := wl_at (cy := cy) ha
  rw [he] at hk0
  exact va_getN F.1 F.2.1 F.2.2.2.2 hin F.2.2.2.1 hK.1 hP k0 hk0 hc k hk (va_Nw.use rfl hlink) (fun _ h9 => h9) hv hdg kk
theorem q_rcv (hK : KN D cy s) (hP : va_P D vwCl (wl cy S) H) (ha : a ∈ PL S) {ci : Nat} {fs : List Value} (he : pF cy S a = .inr (ci, fs)) {q : vw_C} (hc : vwCl[ci]? = some q) : ∃ cell : Cell, H[a]? = some cell ∧ cell.vm.isStatics = false ∧ s.vm.findClass q.1 = some cell.cls := by
  obtain ⟨k0, hk0⟩ := wl_at (cy := cy) ha
  rw [he] at hk0
  exact va_recv hK.1 hP hc hk0
theorem q_put (F : CallFix p m c cc nL s args Ts own) (hK : KN D cy s) (hw : Hw D cy A H0 S n H locs) (ha : a ∈ PL S) {ci : Nat} {fs : List Value} (he : pF cy S a = .inr (ci, fs)) {C : String} {T : u_T} {N : Nat} (hin : ∀ w ∈ u_ws C T N, w ∈ Ts) (ty0 : Nat → FieldType) (hty : ∀ k, k < N → parseFieldDescriptor (T k).2.2.1 = some (ty0 k)) (hnm : ∀ a, a < N → ∀ b, b < N → a ≠ b → (T a).2.1 ≠ (T b).2.1) (hc : vwCl[ci]? = some (C, T, N)) (k : Nat) (hk : k < N) {index : Nat} (hlink : (Cond.fieldLink own index (T k).1 (T k).2.1 (T k).2.2.1).before args s = true) (hfin : (T k).2.2.2 = false ∨ (meth.name = "<init>" ∧ (T k).1 = own)) {ty : FieldType} {v : Value} (hd : parseFieldDescriptor (T k).2.2.1 = some ty) (hn : narrow ty v = v) (hfit : fits ty v = true) (hl : k < fs.length) {S1 : PS} (hs : va_pl (PL S) (va_up (pF cy S) a (.inr (ci, fs.set k v))) = wl cy S1) (hdg : decode cc pc = .ok (.putfield index, 3))
    (kk : ∀ (H1 : Heap) (locs1 : List Loc), Hw D cy A H0 S1 n H1 locs1 → W p l e R s m args below meth c H1 locs1 cells slots Q (F0 m (pc + 3) ls rest)) : W p l e R s m args below meth c H locs cells slots Q (F0 m pc ls (v :: .ref a :: rest)) := by
  obtain ⟨hexec, hb, -, hown, hts⟩ := F
  obtain ⟨hP, hD, hS0, hsz⟩ := hw
  obtain ⟨q0, hq0⟩ := wl_at (cy := cy) ha
  have hset := wl_put hD ha hq0 hs
  rw [he] at hq0
  have hap := va_apart (own := own) hts hin ty0 hty hnm hK.1 hc
  obtain ⟨r, h1, cell, q1, q2, q3, q4⟩ := hP q0 _ hq0
  have hr : r = (C, T, N) := Option.some.inj (h1.symm.trans hc)
  subst hr
  obtain ⟨hS, hfc, kC, hkC, hkind⟩ := hK.1.1 ci _ hc
  obtain ⟨cf, kf, fi, f, hi, hsl⟩ := hS k hk
  have go : ∀ (H' : Heap), H'[a]? = some (cell.setSlot f.slot v) → H'.size = H.size → (∀ q : Nat, q ≠ a → H'[q]? = H[q]?) → W p l e R s m args below meth c H' (locs ++ [⟨a, f.slot⟩]) cells slots Q (F0 m (pc + 3) ls rest) := by
    intro H' e1 e2 e3
    rw [hsl] at e1 ⊢
    refine kk H' _ ⟨hset ▸ hP.set hD hq0 ⟨_, hc, t_OB.to (V := updV (vp_V fs) k v) ⟨_, e1, q2, q3, t_set q4 hap hk v⟩ (fun j _ => vp_updV_set hl v j)⟩ e3, hset ▸ hD.set hq0, hS0.put e2 e3 (hD.2 q0 _ hq0), e2.trans hsz⟩
  rcases hfin with hfin | ⟨hin2, hdecl⟩
  · have hlay := hts _ (hin _ (u_in_lay hk))
    unfold u_lay at hlay
    rw [if_neg (by rw [hfin]; decide)] at hlay
    have hst := (u_facts hfc hkC (u_lays hts hin hk) hi).1
    have h6 := u_store hfc hkC hkind hlay hi hd hn hfit
    exact W.putK hexec hb (f := f) ⟨hown, hlink, ⟨_, _, _, hi⟩, hst⟩ (by rw [q2]; exact h6) q1 q3 (by rw [hsl]; exact k2_hasslot (q4 k hk)) rfl rfl hdg go
  · have hlay := hts _ (hin _ (u_in_lay hk))
    have hst := (u_facts hfc hkC (u_lays hts hin hk) hi).1
    by_cases hff : (T k).2.2.2 = true
    · unfold u_lay at hlay
      rw [if_pos hff] at hlay
      have hcf : m.cls = cf := by
        obtain ⟨_, _, c', _, _, _, -, -, hf', -, -, -, hown2, -⟩ := Cond.laysFinal_spec hlay
        have e1 : c' = cf := by have := hi.symm.trans hf'; simp at this; exact this.1.symm
        rw [hdecl] at hown2
        rw [← e1]; exact Option.some.inj (hown.symm.trans hown2)
      have h6 := u_fits hfc hkC hkind (Or.inr hlay) hi hd hn hfit
      exact W.putFinK hexec hb hown hlink hi hst hcf hin2 (by rw [q2]; exact h6) q1 q3 (by rw [hsl]; exact k2_hasslot (q4 k hk)) rfl rfl hdg go
    · unfold u_lay at hlay
      rw [if_neg hff] at hlay
      have h6 := u_store hfc hkC hkind hlay hi hd hn hfit
      exact W.putK hexec hb (f := f) ⟨hown, hlink, ⟨_, _, _, hi⟩, hst⟩ (by rw [q2]; exact h6) q1 q3 (by rw [hsl]; exact k2_hasslot (q4 k hk)) rfl rfl hdg go
theorem q_putN (F : CallFix p m c cc nL s args Ts own) (hK : KN D cy s) (hw : Hw D cy A H0 S n H locs) (ha : a ∈ PL S) {ci : Nat} {fs : List Value} (he : pF cy S a = .inr (ci, fs)) {C : String} {T : u_T} {N : Nat} (hin : ∀ w ∈ u_ws C T N, w ∈ Ts) (ty0 : Nat → FieldType) (hty : ∀ k, k < N → parseFieldDescriptor (T k).2.2.1 = some (ty0 k)) (hnm : ∀ a, a < N → ∀ b, b < N → a ≠ b → (T a).2.1 ≠ (T b).2.1) (hc : vwCl[ci]? = some (C, T, N)) (k : Nat) (hk : k < N) {index : Nat} {host : String} (hlink : va_Nw (.fieldLinkNest own index (T k).1 (T k).2.1 (T k).2.2.1 host) s) (hfin : (T k).2.2.2 = false) {ty : FieldType} {v : Value} (hd : parseFieldDescriptor (T k).2.2.1 = some ty) (hn : narrow ty v = v) (hfit : fits ty v = true) (hl : k < fs.length) {S1 : PS} (hs : va_pl (PL S) (va_up (pF cy S) a (.inr (ci, fs.set k v))) = wl cy S1) (hdg : decode cc pc = .ok (.putfield index, 3))
    (kk : ∀ (H1 : Heap) (locs1 : List Loc), Hw D cy A H0 S1 n H1 locs1 → W p l e R s m args below meth c H1 locs1 cells slots Q (F0 m (pc + 3) ls rest)) : W p l e R s m args below meth c H locs cells slots Q (F0 m pc ls (v :: .ref a :: rest)) := by
  obtain ⟨hexec, hb, -, hown, hts⟩ := F
  obtain ⟨hP, hD, hS0, hsz⟩ := hw
  obtain ⟨q0, hq0⟩ := wl_at (cy := cy) ha
  have hset := wl_put hD ha hq0 hs
  rw [he] at hq0
  have hap := va_apart (own := own) hts hin ty0 hty hnm hK.1 hc
  obtain ⟨r, h1, cell, q1, q2, q3, q4⟩ := hP q0 _ hq0
  have hr : r = (C, T, N) := Option.some.inj (h1.symm.trans hc)
  subst hr
  obtain ⟨hS, hfc, kC, hkC, hkind⟩ := hK.1.1 ci _ hc
  obtain ⟨cf, kf, fi, f, hi, hsl⟩ := hS k hk
  have hlay := hts _ (hin _ (u_in_lay hk))
  unfold u_lay at hlay
  rw [if_neg (by rw [hfin]; decide)] at hlay
  have hst := (u_facts hfc hkC (u_lays hts hin hk) hi).1
  have h6 := u_store hfc hkC hkind hlay hi hd hn hfit
  refine va_WputK hexec hb (f := f) hown (va_Nw.use rfl hlink) hi hst (by rw [q2]; exact h6) q1 q3 (by rw [hsl]; exact k2_hasslot (q4 k hk)) rfl rfl hdg fun H' e1 e2 e3 => ?_
  rw [hsl] at e1 ⊢
  exact kk H' _ ⟨hset ▸ hP.set hD hq0 ⟨_, hc, t_OB.to (V := updV (vp_V fs) k v) ⟨_, e1, q2, q3, t_set q4 hap hk v⟩ (fun j _ => vp_updV_set hl v j)⟩ e3, hset ▸ hD.set hq0, hS0.put e2 e3 (hD.2 q0 _ hq0), e2.trans hsz⟩
theorem q_iald (F : CallFix p m c cc nL s args Ts own) (hK : KN D cy s) (hP : va_P D vwCl (wl cy S) H) (ha : vd S a 6) {i : Int32} (hin : vp_in i (aN S a)) (hdg : decode cc pc = .ok (.iaload, 1))
    (kk : W p l e R s m args below meth c H locs cells slots Q (F0 m (pc + 1) ls (.int (aI S a i.toNatClampNeg) :: rest))) : W p l e R s m args below meth c H locs cells slots Q (F0 m pc ls (.int i :: .ref a :: rest)) := by
  obtain ⟨k0, hk0⟩ := wl_at (cy := cy) ha.1
  rw [pF_6 ha.2] at hk0
  exact va_iald F.1 F.2.1 hK.1 hP k0 0 hk0 rfl hin hdg kk
theorem q_aald7 (F : CallFix p m c cc nL s args Ts own) (hK : KN D cy s) (hP : va_P D vwCl (wl cy S) H) (ha : vd S a 7) {i : Int32} (hin : vp_in i (aN S a)) (hdg : decode cc pc = .ok (.aaload, 1))
    (kk : W p l e R s m args below meth c H locs cells slots Q (F0 m (pc + 1) ls (va_rf (aR S a i.toNatClampNeg) :: rest))) : W p l e R s m args below meth c H locs cells slots Q (F0 m pc ls (.int i :: .ref a :: rest)) := by
  obtain ⟨k0, hk0⟩ := wl_at (cy := cy) ha.1
  rw [pF_7 ha.2] at hk0
  exact va_aldq F.1 F.2.1 hK.1 hP k0 1 hk0 rfl hin hdg kk
theorem q_aald8 (F : CallFix p m c cc nL s args Ts own) (hK : KN D cy s) (hP : va_P D vwCl (wl cy S) H) (ha : vd S a 8) {i : Int32} (hin : vp_in i (aN S a)) (hdg : decode cc pc = .ok (.aaload, 1))
    (kk : W p l e R s m args below meth c H locs cells slots Q (F0 m (pc + 1) ls (va_rf (aR S a i.toNatClampNeg) :: rest))) : W p l e R s m args below meth c H locs cells slots Q (F0 m pc ls (.int i :: .ref a :: rest)) := by
  obtain ⟨k0, hk0⟩ := wl_at (cy := cy) ha.1
  rw [pF_8 ha.2] at hk0
  exact va_aldq F.1 F.2.1 hK.1 hP k0 2 hk0 rfl hin hdg kk
theorem q_alen6 (F : CallFix p m c cc nL s args Ts own) (hK : KN D cy s) (hP : va_P D vwCl (wl cy S) H) (ha : vd S a 6) (hdg : decode cc pc = .ok (.arraylength, 1))
    (kk : W p l e R s m args below meth c H locs cells slots Q (F0 m (pc + 1) ls (.int (nI (aN S a)) :: rest))) : W p l e R s m args below meth c H locs cells slots Q (F0 m pc ls (.ref a :: rest)) := by
  obtain ⟨k0, hk0⟩ := wl_at (cy := cy) ha.1
  rw [pF_6 ha.2] at hk0
  exact va_alen F.1 F.2.1 hK.1 hP k0 0 hk0 rfl rfl hdg kk
theorem q_alen7 (F : CallFix p m c cc nL s args Ts own) (hK : KN D cy s) (hP : va_P D vwCl (wl cy S) H) (ha : vd S a 7) (hdg : decode cc pc = .ok (.arraylength, 1))
    (kk : W p l e R s m args below meth c H locs cells slots Q (F0 m (pc + 1) ls (.int (nI (aN S a)) :: rest))) : W p l e R s m args below meth c H locs cells slots Q (F0 m pc ls (.ref a :: rest)) := by
  obtain ⟨k0, hk0⟩ := wl_at (cy := cy) ha.1
  rw [pF_7 ha.2] at hk0
  exact va_alen F.1 F.2.1 hK.1 hP k0 1 hk0 rfl rfl hdg kk
theorem q_alen8 (F : CallFix p m c cc nL s args Ts own) (hK : KN D cy s) (hP : va_P D vwCl (wl cy S) H) (ha : vd S a 8) (hdg : decode cc pc = .ok (.arraylength, 1))
    (kk : W p l e R s m args below meth c H locs cells slots Q (F0 m (pc + 1) ls (.int (nI (aN S a)) :: rest))) : W p l e R s m args below meth c H locs cells slots Q (F0 m pc ls (.ref a :: rest)) := by
  obtain ⟨k0, hk0⟩ := wl_at (cy := cy) ha.1
  rw [pF_8 ha.2] at hk0
  exact va_alen F.1 F.2.1 hK.1 hP k0 2 hk0 rfl rfl hdg kk
theorem q_iast (F : CallFix p m c cc nL s args Ts own) (hK : KN D cy s) (hw : Hw D cy A H0 S n H locs) (ha : vd S a 6) {i x : Int32} (hin : vp_in i (aN S a)) (hdg : decode cc pc = .ok (.iastore, 1))
    (kk : ∀ (H1 : Heap) (locs1 : List Loc), Hw D cy A H0 (sA S a i x) n H1 locs1 → W p l e R s m args below meth c H1 locs1 cells slots Q (F0 m (pc + 1) ls rest)) : W p l e R s m args below meth c H locs cells slots Q (F0 m pc ls (.int x :: .int i :: .ref a :: rest)) := by
  obtain ⟨hP, hD, hS0, hsz⟩ := hw
  obtain ⟨q0, hq0⟩ := wl_at (cy := cy) ha.1
  have hset := wl_put hD ha.1 hq0 (st_row (cy := cy) ha.2 i x)
  rw [pF_6 ha.2] at hq0
  refine W.iast F.1 F.2.1 (hP q0 _ hq0) ((hK.1.2 0 _ rfl).1 _ (fun j => .int (aI S a j))) (fun q => by cases q) (by show ¬ (i < 0 ∨ (arrV _ _ _).slots.size ≤ _); rw [arrV_size]; exact hin) rfl rfl hdg fun H1 e z oq => ?_
  refine kk H1 _ ⟨hset ▸ hP.set hD hq0 ?_ oq, hset ▸ hD.set hq0, hS0.put z oq (hD.2 q0 _ hq0), z.trans hsz⟩
  show H1[a]? = some (vp_cell _ _)
  rw [e]
  rw [vp_cell_i, vp_cell_i, arrV_store]
  congr 2
  funext q
  by_cases hq : q = i.toNatClampNeg
  · subst hq
    simp [updV, upd]
  · simp [updV, upd, hq]
theorem q_aast7 (F : CallFix p m c cc nL s args Ts own) (hK : KN D cy s) (hw : Hw D cy A H0 S n H locs) (ha : vd S a 7) {b : Nat} (hb2 : vd S b 0) {i : Int32} (hin : vp_in i (aN S a)) (hdg : decode cc pc = .ok (.aastore, 1))
    (kk : ∀ (H1 : Heap) (locs1 : List Loc), Hw D cy A H0 (sQ S a i (some b)) n H1 locs1 → W p l e R s m args below meth c H1 locs1 cells slots Q (F0 m (pc + 1) ls rest)) : W p l e R s m args below meth c H locs cells slots Q (F0 m pc ls (.ref b :: .int i :: .ref a :: rest)) := by
  obtain ⟨hP, hD, hS0, hsz⟩ := hw
  obtain ⟨q0, hq0⟩ := wl_at (cy := cy) ha.1
  obtain ⟨qk, hv⟩ := wl_at (cy := cy) hb2.1
  rw [pF_0 hb2.2] at hv
  have hset := wl_put hD ha.1 hq0 (st_row7 (cy := cy) ha.2 i (some b))
  rw [pF_7 ha.2] at hq0
  have hlt : i.toNatClampNeg < aN S a := Nat.not_le.mp fun q => hin (Or.inr q)
  have h0 : ¬ i < 0 := fun q => hin (Or.inl q)
  obtain ⟨r', hr', cellV, g1, g2, g3, -⟩ := hP qk _ hv
  have hcls := (hK.1.1 0 (RX0, TX0, 5) rfl).2
  obtain ⟨kA, comp, k1, k2, k3, -⟩ := (hK.1.2 1 (cy.2.1, .object RX0) rfl).2
  have hcomp : comp = D.1 0 := Option.some.inj (k3.symm.trans hcls.1)
  subst hcomp
  obtain ⟨kC, hkC, -⟩ := hcls.2
  refine W.aast F.1 F.2.1 (hP q0 _ hq0) (fun q h => by cases h) (fun h => by cases h) k1 k2 rfl hkC ⟨h0, by show _ < (arrV _ _ _).slots.size; rw [arrV_size]; exact hlt⟩ g1 (fun q h => by rw [g3] at h; cases h) (by rw [g2]; exact hkC) (by rw [g2]; exact va_assign hcls) rfl rfl hdg fun H1 e z oq => ?_
  refine kk H1 _ ⟨hset ▸ hP.set hD hq0 ?_ oq, hset ▸ hD.set hq0, hS0.put z oq (hD.2 q0 _ hq0), z.trans hsz⟩
  show H1[a]? = some (vp_cell _ _)
  rw [e]
  rw [vp_cell_q, vp_cell_q, arrV_store]
  congr 2
  funext q
  by_cases hq : q = i.toNatClampNeg
  · subst hq
    simp [updV, va_up, va_rf]
  · simp [updV, va_up, hq]
theorem q_aast8 (F : CallFix p m c cc nL s args Ts own) (hK : KN D cy s) (hw : Hw D cy A H0 S n H locs) (ha : vd S a 8) {b : Nat} (hb2 : vd S b 3) {i : Int32} (hin : vp_in i (aN S a)) (hdg : decode cc pc = .ok (.aastore, 1))
    (kk : ∀ (H1 : Heap) (locs1 : List Loc), Hw D cy A H0 (sQ S a i (some b)) n H1 locs1 → W p l e R s m args below meth c H1 locs1 cells slots Q (F0 m (pc + 1) ls rest)) : W p l e R s m args below meth c H locs cells slots Q (F0 m pc ls (.ref b :: .int i :: .ref a :: rest)) := by
  obtain ⟨hP, hD, hS0, hsz⟩ := hw
  obtain ⟨q0, hq0⟩ := wl_at (cy := cy) ha.1
  obtain ⟨qk, hv⟩ := wl_at (cy := cy) hb2.1
  rw [pF_3 hb2.2] at hv
  have hset := wl_put hD ha.1 hq0 (st_row8 (cy := cy) ha.2 i (some b))
  rw [pF_8 ha.2] at hq0
  have hlt : i.toNatClampNeg < aN S a := Nat.not_le.mp fun q => hin (Or.inr q)
  have h0 : ¬ i < 0 := fun q => hin (Or.inl q)
  obtain ⟨r', hr', cellV, g1, g2, g3, -⟩ := hP qk _ hv
  have hcls := (hK.1.1 3 (RX3, TX3, 5) rfl).2
  obtain ⟨kA, comp, k1, k2, k3, -⟩ := (hK.1.2 2 (cy.2.2, .object RX3) rfl).2
  have hcomp : comp = D.1 3 := Option.some.inj (k3.symm.trans hcls.1)
  subst hcomp
  obtain ⟨kC, hkC, -⟩ := hcls.2
  refine W.aast F.1 F.2.1 (hP q0 _ hq0) (fun q h => by cases h) (fun h => by cases h) k1 k2 rfl hkC ⟨h0, by show _ < (arrV _ _ _).slots.size; rw [arrV_size]; exact hlt⟩ g1 (fun q h => by rw [g3] at h; cases h) (by rw [g2]; exact hkC) (by rw [g2]; exact va_assign hcls) rfl rfl hdg fun H1 e z oq => ?_
  refine kk H1 _ ⟨hset ▸ hP.set hD hq0 ?_ oq, hset ▸ hD.set hq0, hS0.put z oq (hD.2 q0 _ hq0), z.trans hsz⟩
  show H1[a]? = some (vp_cell _ _)
  rw [e]
  rw [vp_cell_q, vp_cell_q, arrV_store]
  congr 2
  funext q
  by_cases hq : q = i.toNatClampNeg
  · subst hq
    simp [updV, va_up, va_rf]
  · simp [updV, va_up, hq]
theorem q_new (F : CallFix p m c cc nL s args Ts own) (hK : KN D cy s) (hw : Hw D cy A s.heap S n H locs) (hA : ∀ q, s.heap.size ≤ q → A q) {C : String} {T : u_T} {N ci index : Nat} (hin : ∀ w ∈ u_ws C T N, w ∈ Ts) (ty : Nat → FieldType) (hty : ∀ k, k < N → parseFieldDescriptor (T k).2.2.1 = some (ty k)) (hcl : (Cond.classLink own index C).before args s = true) (hinst : (Cond.instantiable C N).before args s = true) (hini : (Cond.initialized C).before args s = true) (hc : vwCl[ci]? = some (C, T, N)) {fs : List Value} (hfs : ∀ j, j < N → defaultValue (ty j) = vp_V fs j) (hcells : cells + 1 ≤ R.cells) (hslots : slots + N ≤ R.slots) (hdg : decode cc pc = .ok (.new index, 3)) {S1 : PS} (hs : n ∉ PL S → wl cy S ++ [(n, .inr (ci, fs))] = wl cy S1)
    (kk : ∀ (H1 : Heap), Hw D cy A s.heap S1 (n + 1) H1 locs → W p l e R s m args below meth c H1 locs (cells + 1) (slots + N) Q (F0 m (pc + 3) ls (.ref n :: rest))) : W p l e R s m args below meth c H locs cells slots Q (F0 m pc ls rest) := by
  have hfr := hs hw.fresh
  obtain ⟨hP, hD, hS, hsz⟩ := hw
  subst hsz
  have hKn := hK.1.1 ci _ hc
  refine W.newcK F.1 F.2.1 F.2.2.2.1 hcl hinst hini rfl hdg hcells hslots hKn.2.1 rfl fun H1 kC hkC e1 z1 o1 => ?_
  have hk : ∀ (k : Nat) (x : Nat × va_E), (wl cy S)[k]? = some x → H1[x.1]? = H[x.1]? := fun k x hx => o1 x.1 ((hP k x hx).lt)
  refine kk H1 ⟨hfr ▸ ((hP.kept hk).app (fun k x hx => ?_)), hfr ▸ (hD.push hP rfl (hA _ hS.1)), ⟨Nat.le_trans hS.1 (by omega), fun x h1 h2 => (o1 x (Nat.lt_of_lt_of_le h1 hS.1)).trans (hS.2.1 x h1 h2), hS.2.2⟩, z1⟩
  have hz : k < 1 := (List.getElem?_eq_some_iff.mp hx).1
  rw [show k = 0 by omega] at hx
  cases hx
  exact ⟨_, hc, (u_born ty F.2.2.2.2 hin hKn hkC e1 hty).to hfs⟩
theorem q_newi (F : CallFix p m c cc nL s args Ts own) (hK : KN D cy s) (hw : Hw D cy A s.heap S n H locs) (hA : ∀ q, s.heap.size ≤ q → A q) (harr : (Cond.arrayClass .int).before args s = true) {z : Int32} {N' : Nat} (hn : ¬ z < 0) (hN : z.toNatClampNeg = N') (hbytes : N' * 4 ≤ 536870912) (hcells : cells + 1 ≤ R.cells) (hslots : slots + N' ≤ R.slots) (hdg : decode cc pc = .ok (.newarray .int, 2))
    (kk : ∀ (H1 : Heap), Hw D cy A s.heap (nA S n 6 N') (n + 1) H1 locs → W p l e R s m args below meth c H1 locs (cells + 1) (slots + N') Q (F0 m (pc + 2) ls (.ref n :: rest))) : W p l e R s m args below meth c H locs cells slots Q (F0 m pc ls (.int z :: rest)) := by
  have hfr := nw_6 (cy := cy) (n := N') hw.fresh
  obtain ⟨hP, hD, hS, hsz⟩ := hw
  subst hsz
  refine va_newaK F.1 F.2.1 (atype := .int) harr rfl hdg rfl hn hN hbytes hcells hslots rfl fun H1 cA e1 z1 o1 hAr hNm => ?_
  have hcA : cA = cy.1 := Option.some.inj (hNm.symm.trans (hK.1.2 0 (cy.1, .int) rfl).2)
  subst hcA
  have hk : ∀ (k : Nat) (x : Nat × va_E), (wl cy S)[k]? = some x → H1[x.1]? = H[x.1]? := fun k x hx => o1 x.1 ((hP k x hx).lt)
  refine kk H1 ⟨hfr ▸ ((hP.kept hk).app (fun k x hx => ?_)), hfr ▸ (hD.push hP rfl (hA _ hS.1)), ⟨Nat.le_trans hS.1 (by omega), fun x h1 h2 => (o1 x (Nat.lt_of_lt_of_le h1 hS.1)).trans (hS.2.1 x h1 h2), hS.2.2⟩, z1⟩
  have hz : k < 1 := (List.getElem?_eq_some_iff.mp hx).1
  rw [show k = 0 by omega] at hx
  cases hx
  show H1[H.size]? = some (vp_cell _ _)
  rw [vp_cell_i]
  exact e1
theorem q_newq (F : CallFix p m c cc nL s args Ts own) (hK : KN D cy s) (hw : Hw D cy A s.heap S n H locs) (hA : ∀ q, s.heap.size ≤ q → A q) {C : String} {index : Nat} (hclink : (Cond.classLink own index C).before args s = true) (hover : va_AO C s) {cq : ClassId} (hRA : va_RA s cq (.object C)) {z : Int32} {N' : Nat} (hn : ¬ z < 0) (hN : z.toNatClampNeg = N') (hbytes : N' * 4 ≤ 536870912) (hcells : cells + 1 ≤ R.cells) (hslots : slots + N' ≤ R.slots) (hdg : decode cc pc = .ok (.anewarray index, 3)) {S1 : PS} (hs : n ∉ PL S → wl cy S ++ [(n, .inl (cq, N', .inr (.inr (.inr (.inr (fun _ => none))))))] = wl cy S1)
    (kk : ∀ (H1 : Heap), Hw D cy A s.heap S1 (n + 1) H1 locs → W p l e R s m args below meth c H1 locs (cells + 1) (slots + N') Q (F0 m (pc + 3) ls (.ref n :: rest))) : W p l e R s m args below meth c H locs cells slots Q (F0 m pc ls (.int z :: rest)) := by
  have hfr := hs hw.fresh
  obtain ⟨hP, hD, hS, hsz⟩ := hw
  subst hsz
  subst hN
  refine W.anew F.1 F.2.1 F.2.2.2.1 hclink (va_AO.use hover) rfl hdg rfl hn hbytes hcells hslots fun cA kA comp f1 f2 f3 f4 => ?_
  obtain ⟨kA', comp', k1, k2, k3, k4⟩ := hRA
  have hcA : cA = cq := Option.some.inj (f1.symm.trans k4)
  subst hcA
  generalize hH1 : H.push ({ cls := cA, slots := Array.replicate z.toNatClampNeg .null, vm := .none } : Cell) = H1
  have z1 : H1.size = H.size + 1 := by rw [← hH1, Array.size_push]
  have e1 : H1[H.size]? = some (arrV cA z.toNatClampNeg (fun _ => .null)) := by rw [← hH1, Array.getElem?_push_size, ← arrV_new]
  have o1 : ∀ q : Nat, q < H.size → H1[q]? = H[q]? := fun q hq => by rw [← hH1, Array.getElem?_push, if_neg (Nat.ne_of_lt hq)]
  have hk : ∀ (k : Nat) (x : Nat × va_E), (wl cy S)[k]? = some x → H1[x.1]? = H[x.1]? := fun k x hx => o1 x.1 ((hP k x hx).lt)
  refine kk H1 ⟨hfr ▸ ((hP.kept hk).app (fun k x hx => ?_)), hfr ▸ (hD.push hP rfl (hA _ hS.1)), ⟨Nat.le_trans hS.1 (by omega), fun x h1 h2 => (o1 x (Nat.lt_of_lt_of_le h1 hS.1)).trans (hS.2.1 x h1 h2), hS.2.2⟩, z1⟩
  have hz : k < 1 := (List.getElem?_eq_some_iff.mp hx).1
  rw [show k = 0 by omega] at hx
  cases hx
  show H1[H.size]? = some (vp_cell _ _)
  rw [vp_cell_q]
  exact e1
theorem q_calli {mc ms : Nat} {aa : Array Value} {S1 : PS} {n1 : Nat} {v : Int32} (hr : va_Run p l e R s m args below meth c H locs cells slots mc ms (F0 m pc ls st0) rest (va_Qi (fun (r : Int32) (u : PS × Nat) => r = v ∧ u = (S1, n1)) (BW D cy S n) (AA cy S n) aa) (AA cy S n)) (hw : Hw D cy A s.heap S n H locs) (hA : ∀ q, s.heap.size ≤ q → A q)
    (kk : ∀ (H1 : Heap) (locs1 : List Loc), Hw D cy A s.heap S1 n1 H1 locs1 → EX S S1 → W p l e R s m args below meth c H1 locs1 (cells + mc) (slots + ms) Q (F0 m (pc + 3) ls (.int v :: rest))) : W p l e R s m args below meth c H locs cells slots Q (F0 m pc ls st0) := by
  refine va_calli hr hw.2.2.1 (fun q _ h => hw.free hA q h) (hw.free hA) (fun r u t H1 locs1 ht hvm hw2 hB hz hk hS2 => ?_)
  obtain ⟨rfl, rfl⟩ := hw2
  obtain ⟨b1, b2, b3, b4⟩ := hB
  rw [ht] at b1 b3
  exact kk H1 locs1 ⟨b1, b2.weaken (fun _ _ _ h => hw.free hA _ h), hS2, b3⟩ b4
theorem q_calll {mc ms : Nat} {aa : Array Value} {S1 : PS} {n1 : Nat} {v : Int64} (hr : va_Run p l e R s m args below meth c H locs cells slots mc ms (F0 m pc ls st0) rest (va_Ql (fun (r : Int64) (u : PS × Nat) => r = v ∧ u = (S1, n1)) (BW D cy S n) (AA cy S n) aa) (AA cy S n)) (hw : Hw D cy A s.heap S n H locs) (hA : ∀ q, s.heap.size ≤ q → A q)
    (kk : ∀ (H1 : Heap) (locs1 : List Loc), Hw D cy A s.heap S1 n1 H1 locs1 → EX S S1 → W p l e R s m args below meth c H1 locs1 (cells + mc) (slots + ms) Q (F0 m (pc + 3) ls (.long v :: rest))) : W p l e R s m args below meth c H locs cells slots Q (F0 m pc ls st0) := by
  refine va_calll hr hw.2.2.1 (fun q _ h => hw.free hA q h) (hw.free hA) (fun r u t H1 locs1 ht hvm hw2 hB hz hk hS2 => ?_)
  obtain ⟨rfl, rfl⟩ := hw2
  obtain ⟨b1, b2, b3, b4⟩ := hB
  rw [ht] at b1 b3
  exact kk H1 locs1 ⟨b1, b2.weaken (fun _ _ _ h => hw.free hA _ h), hS2, b3⟩ b4
theorem q_calld {mc ms : Nat} {aa : Array Value} {S1 : PS} {n1 : Nat} {v : UInt64} (hr : va_Run p l e R s m args below meth c H locs cells slots mc ms (F0 m pc ls st0) rest (va_Qd (fun (r : UInt64) (u : PS × Nat) => r = v ∧ u = (S1, n1)) (BW D cy S n) (AA cy S n) aa) (AA cy S n)) (hw : Hw D cy A s.heap S n H locs) (hA : ∀ q, s.heap.size ≤ q → A q)
    (kk : ∀ (H1 : Heap) (locs1 : List Loc), Hw D cy A s.heap S1 n1 H1 locs1 → EX S S1 → W p l e R s m args below meth c H1 locs1 (cells + mc) (slots + ms) Q (F0 m (pc + 3) ls (.double v :: rest))) : W p l e R s m args below meth c H locs cells slots Q (F0 m pc ls st0) := by
  refine va_calld hr hw.2.2.1 (fun q _ h => hw.free hA q h) (hw.free hA) (fun r u t H1 locs1 ht hvm hw2 hB hz hk hS2 => ?_)
  obtain ⟨rfl, rfl⟩ := hw2
  obtain ⟨b1, b2, b3, b4⟩ := hB
  rw [ht] at b1 b3
  exact kk H1 locs1 ⟨b1, b2.weaken (fun _ _ _ h => hw.free hA _ h), hS2, b3⟩ b4
theorem q_callv {mc ms : Nat} {aa : Array Value} {S1 : PS} {n1 : Nat} (hr : va_Run p l e R s m args below meth c H locs cells slots mc ms (F0 m pc ls st0) rest (va_Qv (fun (u : PS × Nat) => u = (S1, n1)) (BW D cy S n) (AA cy S n) aa) (AA cy S n)) (hw : Hw D cy A s.heap S n H locs) (hA : ∀ q, s.heap.size ≤ q → A q)
    (kk : ∀ (H1 : Heap) (locs1 : List Loc), Hw D cy A s.heap S1 n1 H1 locs1 → EX S S1 → W p l e R s m args below meth c H1 locs1 (cells + mc) (slots + ms) Q (F0 m (pc + 3) ls (rest))) : W p l e R s m args below meth c H locs cells slots Q (F0 m pc ls st0) := by
  refine va_callv hr hw.2.2.1 (fun q _ h => hw.free hA q h) (hw.free hA) (fun u t H1 locs1 ht hvm hw2 hB hz hk hS2 => ?_)
  obtain rfl := hw2
  obtain ⟨b1, b2, b3, b4⟩ := hB
  rw [ht] at b1 b3
  exact kk H1 locs1 ⟨b1, b2.weaken (fun _ _ _ h => hw.free hA _ h), hS2, b3⟩ b4
theorem q_callr {mc ms : Nat} {aa : Array Value} {S1 : PS} {n1 v k : Nat} (hr : va_Run p l e R s m args below meth c H locs cells slots mc ms (F0 m pc ls st0) rest (va_Qr (fun (u : PS × Nat) => u = (S1, n1)) (fun u b t => b = v ∧ vd u.1 b k ∧ BW D cy S n u t) (AA cy S n) aa) (AA cy S n)) (hw : Hw D cy A s.heap S n H locs) (hA : ∀ q, s.heap.size ≤ q → A q)
    (kk : ∀ (H1 : Heap) (locs1 : List Loc), Hw D cy A s.heap S1 n1 H1 locs1 → EX S S1 → vd S1 v k → W p l e R s m args below meth c H1 locs1 (cells + mc) (slots + ms) Q (F0 m (pc + 3) ls (.ref v :: rest))) : W p l e R s m args below meth c H locs cells slots Q (F0 m pc ls st0) := by
  refine va_callr hr hw.2.2.1 (fun q _ h => hw.free hA q h) (hw.free hA) (fun u ra t H1 locs1 ht hvm hw2 hB hz hk hS2 => ?_)
  obtain rfl := hw2
  obtain ⟨rfl, hv, b1, b2, b3, b4⟩ := hB
  rw [ht] at b1 b3
  exact kk H1 locs1 ⟨b1, b2.weaken (fun _ _ _ h => hw.free hA _ h), hS2, b3⟩ b4 hv
end QCR
/-- a contract that may throw, where it doesn't -/
theorem vx_toMet {l : Launch} {y : MethodName} {ws : List Cond} {rm : Room} {Pc : Array Value → State → Prop} {Qc : Array Value → State → Outcome → State → Prop} {XC : String → State → State → Prop} {mc ms : Nat} {free : Addr → Prop} (h : vx_Met l y ws rm Pc Qc XC mc ms free) (hx : ∀ E s t, ¬ XC E s t) : Met l y ws rm Pc Qc mc ms free := by
  intro p e ha hc hk s m args below hf happ hP hK
  obtain ⟨n, o, h1, h2, h3, h4⟩ := h p e ha hc hk s m args below hf happ hP hK
  rcases h4 with h4 | ⟨q, -, E, ce, L, hX, -⟩
  · exact ⟨n, o, h1, h2, h3, h4⟩
  · exact absurd hX (hx _ _ _)
/-- switches -/
theorem i32_ne {x : Int32} {n : Int} {y : Int32} (hy : y.toInt = n) (h : ¬ x = y) : x.toInt ≠ n := fun e => h (Int32.toInt_inj.mp (e.trans hy.symm))
end QC
def fx {α : Type} (F : α → α) (b : α) : Nat → α
  | 0 => b
  | n + 1 => F (fx F b n)
def FU : Nat := 3000
theorem nz {v : Int32} (h : v &&& 1 = v) : narrow .boolean (.int v) = .int v := by
  show Value.int (v &&& 1) = .int v
  rw [h]
theorem lq_lt (x y : Int64) : lg_cmp x y < 0 ↔ x < y := by
  unfold lg_cmp
  by_cases h1 : x > y
  · rw [if_pos h1]; exact ⟨fun h => absurd h (by decide), fun h => absurd (Int64.lt_trans h h1) (Int64.lt_irrefl)⟩
  · by_cases h2 : x = y
    · rw [if_neg h1, if_pos h2]; subst h2; exact ⟨fun h => absurd h (by decide), fun h => absurd h (Int64.lt_irrefl)⟩
    · rw [if_neg h1, if_neg h2]; exact ⟨fun _ => Int64.lt_of_le_of_ne (Int64.not_lt.mp h1) h2, fun _ => by decide⟩
theorem lq_gt (x y : Int64) : 0 < lg_cmp x y ↔ y < x := by
  unfold lg_cmp
  by_cases h1 : x > y
  · rw [if_pos h1]; exact ⟨fun _ => h1, fun _ => by decide⟩
  · by_cases h2 : x = y
    · rw [if_neg h1, if_pos h2]; exact ⟨fun h => absurd h (by decide), fun h => absurd h h1⟩
    · rw [if_neg h1, if_neg h2]; exact ⟨fun h => absurd h (by decide), fun h => absurd h h1⟩
theorem lq_eq (x y : Int64) : lg_cmp x y = 0 ↔ x = y := by
  unfold lg_cmp
  by_cases h1 : x > y
  · rw [if_pos h1]; exact ⟨fun h => absurd h (by decide), fun h => by subst h; exact absurd h1 Int64.lt_irrefl⟩
  · by_cases h2 : x = y
    · rw [if_neg h1, if_pos h2]; exact ⟨fun _ => h2, fun _ => rfl⟩
    · rw [if_neg h1, if_neg h2]; exact ⟨fun h => absurd h (by decide), fun h => absurd h h2⟩
theorem lq_ge (x y : Int64) : 0 ≤ lg_cmp x y ↔ y ≤ x := by
  rw [← Int32.not_lt, lq_lt, Int64.not_lt]
theorem lq_le (x y : Int64) : lg_cmp x y ≤ 0 ↔ x ≤ y := by
  rw [← Int32.not_lt, lq_gt, Int64.not_lt]
theorem po1 {u : PS} {n : Nat} {res : PS} (h : some u = some res) : (u, n) = (res, n) := by cases h; rfl
theorem po1n {u : PS} {n : Nat} {res : PS × Nat} (h : some (u, n) = some res) : (u, n) = res := Option.some.inj h
theorem po2 {α : Type} {v : α} {u : PS} {n : Nat} {res : α × PS} (h : some (v, u) = some res) : v = res.1 ∧ (u, n) = (res.2, n) := by cases h; exact ⟨rfl, rfl⟩
theorem po3 {α : Type} {v : α} {u : PS} {n : Nat} {res : α × PS × Nat} (h : some (v, u, n) = some res) : v = res.1 ∧ (u, n) = res.2 := by cases h; exact ⟨rfl, rfl⟩
theorem po2t {α : Type} {v : α} {u : PS} {n : Nat} {res : (α ⊕ Nat) × PS} (h : some (Sum.inl v, u) = some res) : Sum.inl v = res.1 ∧ (u, n) = (res.2, n) := by cases h; exact ⟨rfl, rfl⟩
theorem po3t {α : Type} {v : α} {u : PS} {n : Nat} {res : (α ⊕ Nat) × PS × Nat} (h : some (Sum.inl v, u, n) = some res) : Sum.inl v = res.1 ∧ (u, n) = res.2 := by cases h; exact ⟨rfl, rfl⟩
theorem po2x {α : Type} {k : Nat} {u : PS} {res : (α ⊕ Nat) × PS} (h : some ((Sum.inr k : α ⊕ Nat), u) = some res) : res.1 = Sum.inr k ∧ u = res.2 := by cases h; exact ⟨rfl, rfl⟩
theorem po3x {α : Type} {k : Nat} {u : PS} {n : Nat} {res : (α ⊕ Nat) × PS × Nat} (h : some ((Sum.inr k : α ⊕ Nat), u, n) = some res) : res.1 = Sum.inr k ∧ u = res.2.1 := by cases h; exact ⟨rfl, rfl⟩
def en (k : Nat) : String := if k = 0 then "java/lang/IllegalArgumentException" else if k = 1 then "java/lang/IllegalStateException" else "java/lang/IndexOutOfBoundsException"
/-- behind a throw -/
def XO (D : va_G) (cy : cyT) (S : PS) (n : Nat) (S1 : PS) (E : String) (k : Nat) (t : State) : Prop := E = en k ∧ va_P D vwCl (wl cy S1) t.heap ∧ va_D (AA cy S n) (wl cy S1) ∧ EX S S1
theorem xo_of {α : Type} {D : va_G} {cy : cyT} {S S1 S2 : PS} {n n1 k : Nat} {s t : State} {H : Heap} {locs : List Loc} {E : String} {r : α ⊕ Nat} (hw : Hw D cy (AA cy S n) s.heap S1 n1 H locs) (hE : EX S S1) (hz : H.size ≤ t.heap.size) (hk : ∀ q : Nat, q < H.size → t.heap[q]? = H[q]?) (he : E = en k) (hr : r = Sum.inr k) (h2 : S1 = S2) : vx_X (fun k : Nat => r = .inr k) (fun E k t => XO D cy S n S2 E k t) (AA cy S n) E s t := by
  subst h2
  exact ⟨k, hr, ⟨he, hw.1.kept (fun j q hq => hk _ ((hw.1 j q hq).lt)), hw.2.1, hE⟩, Nat.le_trans hw.2.2.1.1 hz, fun q h1 h2 => (hk q (Nat.lt_of_lt_of_le h1 hw.2.2.1.1)).trans (hw.2.2.1.2.1 q h1 h2)⟩
theorem tm_i {l : Launch} {y : MethodName} {ws : List Cond} {rm : Room} {Pc : Array Value → State → Prop} {XC : String → State → State → Prop} {mc ms : Nat} {free : Addr → Prop} {v : Int32} {w : PS × Nat} {B : PS × Nat → State → Prop} {A : Nat → Prop} (h : vx_Met l y ws rm Pc (va_Qi (fun (r : Int32) (u : PS × Nat) => Sum.inl r = (Sum.inl v : Int32 ⊕ Nat) ∧ u = w) B A) XC mc ms free) (hx : ∀ E s t, ¬ XC E s t) : Met l y ws rm Pc (va_Qi (fun (r : Int32) (u : PS × Nat) => r = v ∧ u = w) B A) mc ms free := by
  refine MetFree.mono (vx_toMet h hx) (fun _ _ q => q) (fun _ _ _ _ _ q => q) (fun a s o t _ q => ?_)
  obtain ⟨⟨⟨r, u, e1, ⟨e2, e3⟩, e4⟩, e5⟩, e6⟩ := q
  cases e2
  exact ⟨⟨⟨_, u, e1, ⟨rfl, e3⟩, e4⟩, e5⟩, e6⟩
theorem tm_l {l : Launch} {y : MethodName} {ws : List Cond} {rm : Room} {Pc : Array Value → State → Prop} {XC : String → State → State → Prop} {mc ms : Nat} {free : Addr → Prop} {v : Int64} {w : PS × Nat} {B : PS × Nat → State → Prop} {A : Nat → Prop} (h : vx_Met l y ws rm Pc (va_Ql (fun (r : Int64) (u : PS × Nat) => Sum.inl r = (Sum.inl v : Int64 ⊕ Nat) ∧ u = w) B A) XC mc ms free) (hx : ∀ E s t, ¬ XC E s t) : Met l y ws rm Pc (va_Ql (fun (r : Int64) (u : PS × Nat) => r = v ∧ u = w) B A) mc ms free := by
  refine MetFree.mono (vx_toMet h hx) (fun _ _ q => q) (fun _ _ _ _ _ q => q) (fun a s o t _ q => ?_)
  obtain ⟨⟨⟨r, u, e1, ⟨e2, e3⟩, e4⟩, e5⟩, e6⟩ := q
  cases e2
  exact ⟨⟨⟨_, u, e1, ⟨rfl, e3⟩, e4⟩, e5⟩, e6⟩
def xb_63 : List Cond := [Cond.castable "java/lang/IllegalArgumentException" "java/lang/IllegalArgumentException", .declares (Bundle.initS "java/lang/RuntimeException"), .declares (Bundle.initS "java/lang/Exception"), .declares (Bundle.initS "java/lang/Throwable")]
theorem xk_63 {args : Array Value} {s : State} (h : XW s) : ∀ w ∈ xb_63, w.before args s = true := vx_c (va_Nw.use rfl h.1) (vx_c (va_Nw.use rfl h.2.2.2.1) (vx_c (va_Nw.use rfl h.2.2.2.2.1) (vx_c (va_Nw.use rfl h.2.2.2.2.2) vx_n)))
theorem xn_63 : ∀ w ∈ (vx_atS RX4 63 "java/lang/IllegalArgumentException" ["java/lang/RuntimeException", "java/lang/Exception"]).filter (fun w => !goodWord w), w ∈ xb_63 := by decide +kernel
theorem xg_63 : ∀ w ∈ Cond.classLink RX4 59 "java/lang/IllegalArgumentException" :: Cond.initialized "java/lang/IllegalArgumentException" :: vx_atS RX4 63 "java/lang/IllegalArgumentException" ["java/lang/RuntimeException", "java/lang/Exception"], vx_ot w = true := by decide +kernel
def xb_74 : List Cond := [Cond.castable "java/lang/IllegalStateException" "java/lang/IllegalStateException", .declares (Bundle.initS "java/lang/RuntimeException"), .declares (Bundle.initS "java/lang/Exception"), .declares (Bundle.initS "java/lang/Throwable")]
theorem xk_74 {args : Array Value} {s : State} (h : XW s) : ∀ w ∈ xb_74, w.before args s = true := vx_c (va_Nw.use rfl h.2.1) (vx_c (va_Nw.use rfl h.2.2.2.1) (vx_c (va_Nw.use rfl h.2.2.2.2.1) (vx_c (va_Nw.use rfl h.2.2.2.2.2) vx_n)))
theorem xn_74 : ∀ w ∈ (vx_atS RX4 74 "java/lang/IllegalStateException" ["java/lang/RuntimeException", "java/lang/Exception"]).filter (fun w => !goodWord w), w ∈ xb_74 := by decide +kernel
theorem xg_74 : ∀ w ∈ Cond.classLink RX4 70 "java/lang/IllegalStateException" :: Cond.initialized "java/lang/IllegalStateException" :: vx_atS RX4 74 "java/lang/IllegalStateException" ["java/lang/RuntimeException", "java/lang/Exception"], vx_ot w = true := by decide +kernel
def xb_90 : List Cond := [Cond.castable "java/lang/IndexOutOfBoundsException" "java/lang/IndexOutOfBoundsException", .declares (Bundle.initS "java/lang/RuntimeException"), .declares (Bundle.initS "java/lang/Exception"), .declares (Bundle.initS "java/lang/Throwable")]
theorem xk_90 {args : Array Value} {s : State} (h : XW s) : ∀ w ∈ xb_90, w.before args s = true := vx_c (va_Nw.use rfl h.2.2.1) (vx_c (va_Nw.use rfl h.2.2.2.1) (vx_c (va_Nw.use rfl h.2.2.2.2.1) (vx_c (va_Nw.use rfl h.2.2.2.2.2) vx_n)))
theorem xn_90 : ∀ w ∈ (vx_atS RX4 90 "java/lang/IndexOutOfBoundsException" ["java/lang/RuntimeException", "java/lang/Exception"]).filter (fun w => !goodWord w), w ∈ xb_90 := by decide +kernel
theorem xg_90 : ∀ w ∈ Cond.classLink RX4 86 "java/lang/IndexOutOfBoundsException" :: Cond.initialized "java/lang/IndexOutOfBoundsException" :: vx_atS RX4 90 "java/lang/IndexOutOfBoundsException" ["java/lang/RuntimeException", "java/lang/Exception"], vx_ot w = true := by decide +kernel
theorem ph_X0_init : yX0_init.cls ≠ "java/lang/invoke/MethodHandle" ∧ yX0_init.cls ≠ "java/lang/invoke/VarHandle" := by decide +kernel
theorem pd_X0_init : (parseMethodDescriptor yX0_init.desc).map (fun d => d.parameters.length) = some 3 := by decide +kernel
theorem ph_X0_isVoid : yX0_isVoid.cls ≠ "java/lang/invoke/MethodHandle" ∧ yX0_isVoid.cls ≠ "java/lang/invoke/VarHandle" := by decide +kernel
theorem pd_X0_isVoid : (parseMethodDescriptor yX0_isVoid.desc).map (fun d => d.parameters.length) = some 0 := by decide +kernel
theorem ph_X0_isPartnerOf : yX0_isPartnerOf.cls ≠ "java/lang/invoke/MethodHandle" ∧ yX0_isPartnerOf.cls ≠ "java/lang/invoke/VarHandle" := by decide +kernel
theorem pd_X0_isPartnerOf : (parseMethodDescriptor yX0_isPartnerOf.desc).map (fun d => d.parameters.length) = some 1 := by decide +kernel
theorem ph_X0_isFulfilledBy : yX0_isFulfilledBy.cls ≠ "java/lang/invoke/MethodHandle" ∧ yX0_isFulfilledBy.cls ≠ "java/lang/invoke/VarHandle" := by decide +kernel
theorem pd_X0_isFulfilledBy : (parseMethodDescriptor yX0_isFulfilledBy.desc).map (fun d => d.parameters.length) = some 1 := by decide +kernel
theorem ph_X1_init : yX1_init.cls ≠ "java/lang/invoke/MethodHandle" ∧ yX1_init.cls ≠ "java/lang/invoke/VarHandle" := by decide +kernel
theorem pd_X1_init : (parseMethodDescriptor yX1_init.desc).map (fun d => d.parameters.length) = some 0 := by decide +kernel
theorem ph_X1_clear : yX1_clear.cls ≠ "java/lang/invoke/MethodHandle" ∧ yX1_clear.cls ≠ "java/lang/invoke/VarHandle" := by decide +kernel
theorem pd_X1_clear : (parseMethodDescriptor yX1_clear.desc).map (fun d => d.parameters.length) = some 0 := by decide +kernel
theorem ph_X1_take : yX1_take.cls ≠ "java/lang/invoke/MethodHandle" ∧ yX1_take.cls ≠ "java/lang/invoke/VarHandle" := by decide +kernel
theorem pd_X1_take : (parseMethodDescriptor yX1_take.desc).map (fun d => d.parameters.length) = some 1 := by decide +kernel
theorem ph_X1_tells : yX1_tells.cls ≠ "java/lang/invoke/MethodHandle" ∧ yX1_tells.cls ≠ "java/lang/invoke/VarHandle" := by decide +kernel
theorem pd_X1_tells : (parseMethodDescriptor yX1_tells.desc).map (fun d => d.parameters.length) = some 1 := by decide +kernel
theorem ph_X1_leastFrom : yX1_leastFrom.cls ≠ "java/lang/invoke/MethodHandle" ∧ yX1_leastFrom.cls ≠ "java/lang/invoke/VarHandle" := by decide +kernel
theorem pd_X1_leastFrom : (parseMethodDescriptor yX1_leastFrom.desc).map (fun d => d.parameters.length) = some 1 := by decide +kernel
theorem ph_X1_answersUpTo : yX1_answersUpTo.cls ≠ "java/lang/invoke/MethodHandle" ∧ yX1_answersUpTo.cls ≠ "java/lang/invoke/VarHandle" := by decide +kernel
theorem pd_X1_answersUpTo : (parseMethodDescriptor yX1_answersUpTo.desc).map (fun d => d.parameters.length) = some 1 := by decide +kernel
theorem ph_X2_init : yX2_init.cls ≠ "java/lang/invoke/MethodHandle" ∧ yX2_init.cls ≠ "java/lang/invoke/VarHandle" := by decide +kernel
theorem pd_X2_init : (parseMethodDescriptor yX2_init.desc).map (fun d => d.parameters.length) = some 0 := by decide +kernel
theorem ph_X2_start : yX2_start.cls ≠ "java/lang/invoke/MethodHandle" ∧ yX2_start.cls ≠ "java/lang/invoke/VarHandle" := by decide +kernel
theorem pd_X2_start : (parseMethodDescriptor yX2_start.desc).map (fun d => d.parameters.length) = some 0 := by decide +kernel
theorem ph_X2_isComplete : yX2_isComplete.cls ≠ "java/lang/invoke/MethodHandle" ∧ yX2_isComplete.cls ≠ "java/lang/invoke/VarHandle" := by decide +kernel
theorem pd_X2_isComplete : (parseMethodDescriptor yX2_isComplete.desc).map (fun d => d.parameters.length) = some 0 := by decide +kernel
theorem ph_X2_takes : yX2_takes.cls ≠ "java/lang/invoke/MethodHandle" ∧ yX2_takes.cls ≠ "java/lang/invoke/VarHandle" := by decide +kernel
theorem pd_X2_takes : (parseMethodDescriptor yX2_takes.desc).map (fun d => d.parameters.length) = some 1 := by decide +kernel
theorem ph_X2_takesDigit : yX2_takesDigit.cls ≠ "java/lang/invoke/MethodHandle" ∧ yX2_takesDigit.cls ≠ "java/lang/invoke/VarHandle" := by decide +kernel
theorem pd_X2_takesDigit : (parseMethodDescriptor yX2_takesDigit.desc).map (fun d => d.parameters.length) = some 1 := by decide +kernel
theorem ph_X2_begins : yX2_begins.cls ≠ "java/lang/invoke/MethodHandle" ∧ yX2_begins.cls ≠ "java/lang/invoke/VarHandle" := by decide +kernel
theorem pd_X2_begins : (parseMethodDescriptor yX2_begins.desc).map (fun d => d.parameters.length) = some 3 := by decide +kernel
theorem ph_X2_continues : yX2_continues.cls ≠ "java/lang/invoke/MethodHandle" ∧ yX2_continues.cls ≠ "java/lang/invoke/VarHandle" := by decide +kernel
theorem pd_X2_continues : (parseMethodDescriptor yX2_continues.desc).map (fun d => d.parameters.length) = some 1 := by decide +kernel
theorem ph_X2_takesSign : yX2_takesSign.cls ≠ "java/lang/invoke/MethodHandle" ∧ yX2_takesSign.cls ≠ "java/lang/invoke/VarHandle" := by decide +kernel
theorem pd_X2_takesSign : (parseMethodDescriptor yX2_takesSign.desc).map (fun d => d.parameters.length) = some 1 := by decide +kernel
theorem ph_X3_init : yX3_init.cls ≠ "java/lang/invoke/MethodHandle" ∧ yX3_init.cls ≠ "java/lang/invoke/VarHandle" := by decide +kernel
theorem pd_X3_init : (parseMethodDescriptor yX3_init.desc).map (fun d => d.parameters.length) = some 1 := by decide +kernel
theorem ph_X3_copyFrom : yX3_copyFrom.cls ≠ "java/lang/invoke/MethodHandle" ∧ yX3_copyFrom.cls ≠ "java/lang/invoke/VarHandle" := by decide +kernel
theorem pd_X3_copyFrom : (parseMethodDescriptor yX3_copyFrom.desc).map (fun d => d.parameters.length) = some 1 := by decide +kernel
theorem ph_X3_has : yX3_has.cls ≠ "java/lang/invoke/MethodHandle" ∧ yX3_has.cls ≠ "java/lang/invoke/VarHandle" := by decide +kernel
theorem pd_X3_has : (parseMethodDescriptor yX3_has.desc).map (fun d => d.parameters.length) = some 1 := by decide +kernel
theorem ph_X3_isOn : yX3_isOn.cls ≠ "java/lang/invoke/MethodHandle" ∧ yX3_isOn.cls ≠ "java/lang/invoke/VarHandle" := by decide +kernel
theorem pd_X3_isOn : (parseMethodDescriptor yX3_isOn.desc).map (fun d => d.parameters.length) = some 1 := by decide +kernel
theorem ph_X3_at : yX3_at.cls ≠ "java/lang/invoke/MethodHandle" ∧ yX3_at.cls ≠ "java/lang/invoke/VarHandle" := by decide +kernel
theorem pd_X3_at : (parseMethodDescriptor yX3_at.desc).map (fun d => d.parameters.length) = some 1 := by decide +kernel
theorem ph_X3_partnersAt : yX3_partnersAt.cls ≠ "java/lang/invoke/MethodHandle" ∧ yX3_partnersAt.cls ≠ "java/lang/invoke/VarHandle" := by decide +kernel
theorem pd_X3_partnersAt : (parseMethodDescriptor yX3_partnersAt.desc).map (fun d => d.parameters.length) = some 1 := by decide +kernel
theorem ph_X3_partnersOf : yX3_partnersOf.cls ≠ "java/lang/invoke/MethodHandle" ∧ yX3_partnersOf.cls ≠ "java/lang/invoke/VarHandle" := by decide +kernel
theorem pd_X3_partnersOf : (parseMethodDescriptor yX3_partnersOf.desc).map (fun d => d.parameters.length) = some 1 := by decide +kernel
theorem ph_X3_put : yX3_put.cls ≠ "java/lang/invoke/MethodHandle" ∧ yX3_put.cls ≠ "java/lang/invoke/VarHandle" := by decide +kernel
theorem pd_X3_put : (parseMethodDescriptor yX3_put.desc).map (fun d => d.parameters.length) = some 1 := by decide +kernel
theorem ph_X3_replace : yX3_replace.cls ≠ "java/lang/invoke/MethodHandle" ∧ yX3_replace.cls ≠ "java/lang/invoke/VarHandle" := by decide +kernel
theorem pd_X3_replace : (parseMethodDescriptor yX3_replace.desc).map (fun d => d.parameters.length) = some 2 := by decide +kernel
theorem ph_X3_drop : yX3_drop.cls ≠ "java/lang/invoke/MethodHandle" ∧ yX3_drop.cls ≠ "java/lang/invoke/VarHandle" := by decide +kernel
theorem pd_X3_drop : (parseMethodDescriptor yX3_drop.desc).map (fun d => d.parameters.length) = some 1 := by decide +kernel
theorem ph_X3_findPartners : yX3_findPartners.cls ≠ "java/lang/invoke/MethodHandle" ∧ yX3_findPartners.cls ≠ "java/lang/invoke/VarHandle" := by decide +kernel
theorem pd_X3_findPartners : (parseMethodDescriptor yX3_findPartners.desc).map (fun d => d.parameters.length) = some 0 := by decide +kernel
theorem ph_X3_voidOnes : yX3_voidOnes.cls ≠ "java/lang/invoke/MethodHandle" ∧ yX3_voidOnes.cls ≠ "java/lang/invoke/VarHandle" := by decide +kernel
theorem pd_X3_voidOnes : (parseMethodDescriptor yX3_voidOnes.desc).map (fun d => d.parameters.length) = some 0 := by decide +kernel
theorem ph_X3_arePossible : yX3_arePossible.cls ≠ "java/lang/invoke/MethodHandle" ∧ yX3_arePossible.cls ≠ "java/lang/invoke/VarHandle" := by decide +kernel
theorem pd_X3_arePossible : (parseMethodDescriptor yX3_arePossible.desc).map (fun d => d.parameters.length) = some 1 := by decide +kernel
theorem ph_X3_contradictions : yX3_contradictions.cls ≠ "java/lang/invoke/MethodHandle" ∧ yX3_contradictions.cls ≠ "java/lang/invoke/VarHandle" := by decide +kernel
theorem pd_X3_contradictions : (parseMethodDescriptor yX3_contradictions.desc).map (fun d => d.parameters.length) = some 1 := by decide +kernel
theorem ph_X3_span : yX3_span.cls ≠ "java/lang/invoke/MethodHandle" ∧ yX3_span.cls ≠ "java/lang/invoke/VarHandle" := by decide +kernel
theorem pd_X3_span : (parseMethodDescriptor yX3_span.desc).map (fun d => d.parameters.length) = some 1 := by decide +kernel
theorem ph_X4_init : yX4_init.cls ≠ "java/lang/invoke/MethodHandle" ∧ yX4_init.cls ≠ "java/lang/invoke/VarHandle" := by decide +kernel
theorem pd_X4_init : (parseMethodDescriptor yX4_init.desc).map (fun d => d.parameters.length) = some 0 := by decide +kernel
theorem ph_X4_add : yX4_add.cls ≠ "java/lang/invoke/MethodHandle" ∧ yX4_add.cls ≠ "java/lang/invoke/VarHandle" := by decide +kernel
theorem pd_X4_add : (parseMethodDescriptor yX4_add.desc).map (fun d => d.parameters.length) = some 3 := by decide +kernel
theorem ph_X4_remove : yX4_remove.cls ≠ "java/lang/invoke/MethodHandle" ∧ yX4_remove.cls ≠ "java/lang/invoke/VarHandle" := by decide +kernel
theorem pd_X4_remove : (parseMethodDescriptor yX4_remove.desc).map (fun d => d.parameters.length) = some 1 := by decide +kernel
theorem ph_X4_toggle : yX4_toggle.cls ≠ "java/lang/invoke/MethodHandle" ∧ yX4_toggle.cls ≠ "java/lang/invoke/VarHandle" := by decide +kernel
theorem pd_X4_toggle : (parseMethodDescriptor yX4_toggle.desc).map (fun d => d.parameters.length) = some 1 := by decide +kernel
theorem ph_X4_bare : yX4_bare.cls ≠ "java/lang/invoke/MethodHandle" ∧ yX4_bare.cls ≠ "java/lang/invoke/VarHandle" := by decide +kernel
theorem pd_X4_bare : (parseMethodDescriptor yX4_bare.desc).map (fun d => d.parameters.length) = some 1 := by decide +kernel
theorem ph_X4_thin : yX4_thin.cls ≠ "java/lang/invoke/MethodHandle" ∧ yX4_thin.cls ≠ "java/lang/invoke/VarHandle" := by decide +kernel
theorem pd_X4_thin : (parseMethodDescriptor yX4_thin.desc).map (fun d => d.parameters.length) = some 0 := by decide +kernel
theorem ph_X4_agree : yX4_agree.cls ≠ "java/lang/invoke/MethodHandle" ∧ yX4_agree.cls ≠ "java/lang/invoke/VarHandle" := by decide +kernel
theorem pd_X4_agree : (parseMethodDescriptor yX4_agree.desc).map (fun d => d.parameters.length) = some 0 := by decide +kernel
theorem ph_X4_append : yX4_append.cls ≠ "java/lang/invoke/MethodHandle" ∧ yX4_append.cls ≠ "java/lang/invoke/VarHandle" := by decide +kernel
theorem pd_X4_append : (parseMethodDescriptor yX4_append.desc).map (fun d => d.parameters.length) = some 1 := by decide +kernel
theorem ph_X4_clearBuffer : yX4_clearBuffer.cls ≠ "java/lang/invoke/MethodHandle" ∧ yX4_clearBuffer.cls ≠ "java/lang/invoke/VarHandle" := by decide +kernel
theorem pd_X4_clearBuffer : (parseMethodDescriptor yX4_clearBuffer.desc).map (fun d => d.parameters.length) = some 0 := by decide +kernel
theorem ph_X4_firstError : yX4_firstError.cls ≠ "java/lang/invoke/MethodHandle" ∧ yX4_firstError.cls ≠ "java/lang/invoke/VarHandle" := by decide +kernel
theorem pd_X4_firstError : (parseMethodDescriptor yX4_firstError.desc).map (fun d => d.parameters.length) = some 0 := by decide +kernel
theorem ph_X4_read : yX4_read.cls ≠ "java/lang/invoke/MethodHandle" ∧ yX4_read.cls ≠ "java/lang/invoke/VarHandle" := by decide +kernel
theorem pd_X4_read : (parseMethodDescriptor yX4_read.desc).map (fun d => d.parameters.length) = some 0 := by decide +kernel
theorem ph_X4_undo : yX4_undo.cls ≠ "java/lang/invoke/MethodHandle" ∧ yX4_undo.cls ≠ "java/lang/invoke/VarHandle" := by decide +kernel
theorem pd_X4_undo : (parseMethodDescriptor yX4_undo.desc).map (fun d => d.parameters.length) = some 0 := by decide +kernel
theorem ph_X4_condition : yX4_condition.cls ≠ "java/lang/invoke/MethodHandle" ∧ yX4_condition.cls ≠ "java/lang/invoke/VarHandle" := by decide +kernel
theorem pd_X4_condition : (parseMethodDescriptor yX4_condition.desc).map (fun d => d.parameters.length) = some 2 := by decide +kernel
theorem ph_X4_agrees : yX4_agrees.cls ≠ "java/lang/invoke/MethodHandle" ∧ yX4_agrees.cls ≠ "java/lang/invoke/VarHandle" := by decide +kernel
theorem pd_X4_agrees : (parseMethodDescriptor yX4_agrees.desc).map (fun d => d.parameters.length) = some 2 := by decide +kernel
theorem ph_X4_joined : yX4_joined.cls ≠ "java/lang/invoke/MethodHandle" ∧ yX4_joined.cls ≠ "java/lang/invoke/VarHandle" := by decide +kernel
theorem pd_X4_joined : (parseMethodDescriptor yX4_joined.desc).map (fun d => d.parameters.length) = some 1 := by decide +kernel
theorem ph_X4_count : yX4_count.cls ≠ "java/lang/invoke/MethodHandle" ∧ yX4_count.cls ≠ "java/lang/invoke/VarHandle" := by decide +kernel
theorem pd_X4_count : (parseMethodDescriptor yX4_count.desc).map (fun d => d.parameters.length) = some 1 := by decide +kernel
theorem ph_X4_prime : yX4_prime.cls ≠ "java/lang/invoke/MethodHandle" ∧ yX4_prime.cls ≠ "java/lang/invoke/VarHandle" := by decide +kernel
theorem pd_X4_prime : (parseMethodDescriptor yX4_prime.desc).map (fun d => d.parameters.length) = some 2 := by decide +kernel
theorem ph_X4_answer : yX4_answer.cls ≠ "java/lang/invoke/MethodHandle" ∧ yX4_answer.cls ≠ "java/lang/invoke/VarHandle" := by decide +kernel
theorem pd_X4_answer : (parseMethodDescriptor yX4_answer.desc).map (fun d => d.parameters.length) = some 2 := by decide +kernel
theorem ph_X4_nearest : yX4_nearest.cls ≠ "java/lang/invoke/MethodHandle" ∧ yX4_nearest.cls ≠ "java/lang/invoke/VarHandle" := by decide +kernel
theorem pd_X4_nearest : (parseMethodDescriptor yX4_nearest.desc).map (fun d => d.parameters.length) = some 1 := by decide +kernel
theorem ph_X4_between : yX4_between.cls ≠ "java/lang/invoke/MethodHandle" ∧ yX4_between.cls ≠ "java/lang/invoke/VarHandle" := by decide +kernel
theorem pd_X4_between : (parseMethodDescriptor yX4_between.desc).map (fun d => d.parameters.length) = some 2 := by decide +kernel
theorem ph_X4_misses : yX4_misses.cls ≠ "java/lang/invoke/MethodHandle" ∧ yX4_misses.cls ≠ "java/lang/invoke/VarHandle" := by decide +kernel
theorem pd_X4_misses : (parseMethodDescriptor yX4_misses.desc).map (fun d => d.parameters.length) = some 1 := by decide +kernel
theorem ph_X4_ifAdded : yX4_ifAdded.cls ≠ "java/lang/invoke/MethodHandle" ∧ yX4_ifAdded.cls ≠ "java/lang/invoke/VarHandle" := by decide +kernel
theorem pd_X4_ifAdded : (parseMethodDescriptor yX4_ifAdded.desc).map (fun d => d.parameters.length) = some 4 := by decide +kernel
theorem ph_X4_without : yX4_without.cls ≠ "java/lang/invoke/MethodHandle" ∧ yX4_without.cls ≠ "java/lang/invoke/VarHandle" := by decide +kernel
theorem pd_X4_without : (parseMethodDescriptor yX4_without.desc).map (fun d => d.parameters.length) = some 2 := by decide +kernel
theorem ph_X4_most : yX4_most.cls ≠ "java/lang/invoke/MethodHandle" ∧ yX4_most.cls ≠ "java/lang/invoke/VarHandle" := by decide +kernel
theorem pd_X4_most : (parseMethodDescriptor yX4_most.desc).map (fun d => d.parameters.length) = some 0 := by decide +kernel
theorem ph_X4_blame : yX4_blame.cls ≠ "java/lang/invoke/MethodHandle" ∧ yX4_blame.cls ≠ "java/lang/invoke/VarHandle" := by decide +kernel
theorem pd_X4_blame : (parseMethodDescriptor yX4_blame.desc).map (fun d => d.parameters.length) = some 0 := by decide +kernel
theorem ph_X4_density : yX4_density.cls ≠ "java/lang/invoke/MethodHandle" ∧ yX4_density.cls ≠ "java/lang/invoke/VarHandle" := by decide +kernel
theorem pd_X4_density : (parseMethodDescriptor yX4_density.desc).map (fun d => d.parameters.length) = some 0 := by decide +kernel
theorem ph_X4_digest : yX4_digest.cls ≠ "java/lang/invoke/MethodHandle" ∧ yX4_digest.cls ≠ "java/lang/invoke/VarHandle" := by decide +kernel
theorem pd_X4_digest : (parseMethodDescriptor yX4_digest.desc).map (fun d => d.parameters.length) = some 0 := by decide +kernel
theorem ph_X4_bit : yX4_bit.cls ≠ "java/lang/invoke/MethodHandle" ∧ yX4_bit.cls ≠ "java/lang/invoke/VarHandle" := by decide +kernel
theorem pd_X4_bit : (parseMethodDescriptor yX4_bit.desc).map (fun d => d.parameters.length) = some 1 := by decide +kernel
theorem ph_X4_areParts : yX4_areParts.cls ≠ "java/lang/invoke/MethodHandle" ∧ yX4_areParts.cls ≠ "java/lang/invoke/VarHandle" := by decide +kernel
theorem pd_X4_areParts : (parseMethodDescriptor yX4_areParts.desc).map (fun d => d.parameters.length) = some 3 := by decide +kernel
theorem ph_X4_isNumber : yX4_isNumber.cls ≠ "java/lang/invoke/MethodHandle" ∧ yX4_isNumber.cls ≠ "java/lang/invoke/VarHandle" := by decide +kernel
theorem pd_X4_isNumber : (parseMethodDescriptor yX4_isNumber.desc).map (fun d => d.parameters.length) = some 1 := by decide +kernel
theorem ph_X4_isPrime : yX4_isPrime.cls ≠ "java/lang/invoke/MethodHandle" ∧ yX4_isPrime.cls ≠ "java/lang/invoke/VarHandle" := by decide +kernel
theorem pd_X4_isPrime : (parseMethodDescriptor yX4_isPrime.desc).map (fun d => d.parameters.length) = some 1 := by decide +kernel
theorem ph_X4_isRefused : yX4_isRefused.cls ≠ "java/lang/invoke/MethodHandle" ∧ yX4_isRefused.cls ≠ "java/lang/invoke/VarHandle" := by decide +kernel
theorem pd_X4_isRefused : (parseMethodDescriptor yX4_isRefused.desc).map (fun d => d.parameters.length) = some 1 := by decide +kernel
theorem ph_X4_save : yX4_save.cls ≠ "java/lang/invoke/MethodHandle" ∧ yX4_save.cls ≠ "java/lang/invoke/VarHandle" := by decide +kernel
theorem pd_X4_save : (parseMethodDescriptor yX4_save.desc).map (fun d => d.parameters.length) = some 0 := by decide +kernel
theorem ph_X4_savedAt : yX4_savedAt.cls ≠ "java/lang/invoke/MethodHandle" ∧ yX4_savedAt.cls ≠ "java/lang/invoke/VarHandle" := by decide +kernel
theorem pd_X4_savedAt : (parseMethodDescriptor yX4_savedAt.desc).map (fun d => d.parameters.length) = some 1 := by decide +kernel
theorem ph_X4_codeAt : yX4_codeAt.cls ≠ "java/lang/invoke/MethodHandle" ∧ yX4_codeAt.cls ≠ "java/lang/invoke/VarHandle" := by decide +kernel
theorem pd_X4_codeAt : (parseMethodDescriptor yX4_codeAt.desc).map (fun d => d.parameters.length) = some 1 := by decide +kernel
theorem ph_X4_readConditions : yX4_readConditions.cls ≠ "java/lang/invoke/MethodHandle" ∧ yX4_readConditions.cls ≠ "java/lang/invoke/VarHandle" := by decide +kernel
theorem pd_X4_readConditions : (parseMethodDescriptor yX4_readConditions.desc).map (fun d => d.parameters.length) = some 0 := by decide +kernel
theorem ph_X4_join : yX4_join.cls ≠ "java/lang/invoke/MethodHandle" ∧ yX4_join.cls ≠ "java/lang/invoke/VarHandle" := by decide +kernel
theorem pd_X4_join : (parseMethodDescriptor yX4_join.desc).map (fun d => d.parameters.length) = some 1 := by decide +kernel
theorem ph_X4_joinedOf : yX4_joinedOf.cls ≠ "java/lang/invoke/MethodHandle" ∧ yX4_joinedOf.cls ≠ "java/lang/invoke/VarHandle" := by decide +kernel
theorem pd_X4_joinedOf : (parseMethodDescriptor yX4_joinedOf.desc).map (fun d => d.parameters.length) = some 2 := by decide +kernel
theorem ph_X4_isTold : yX4_isTold.cls ≠ "java/lang/invoke/MethodHandle" ∧ yX4_isTold.cls ≠ "java/lang/invoke/VarHandle" := by decide +kernel
theorem pd_X4_isTold : (parseMethodDescriptor yX4_isTold.desc).map (fun d => d.parameters.length) = some 1 := by decide +kernel
theorem ph_X4_toldOnes : yX4_toldOnes.cls ≠ "java/lang/invoke/MethodHandle" ∧ yX4_toldOnes.cls ≠ "java/lang/invoke/VarHandle" := by decide +kernel
theorem pd_X4_toldOnes : (parseMethodDescriptor yX4_toldOnes.desc).map (fun d => d.parameters.length) = some 0 := by decide +kernel
theorem ph_X4_strongestFor : yX4_strongestFor.cls ≠ "java/lang/invoke/MethodHandle" ∧ yX4_strongestFor.cls ≠ "java/lang/invoke/VarHandle" := by decide +kernel
theorem pd_X4_strongestFor : (parseMethodDescriptor yX4_strongestFor.desc).map (fun d => d.parameters.length) = some 1 := by decide +kernel
theorem ph_X4_contradictionsByPrime : yX4_contradictionsByPrime.cls ≠ "java/lang/invoke/MethodHandle" ∧ yX4_contradictionsByPrime.cls ≠ "java/lang/invoke/VarHandle" := by decide +kernel
theorem pd_X4_contradictionsByPrime : (parseMethodDescriptor yX4_contradictionsByPrime.desc).map (fun d => d.parameters.length) = some 2 := by decide +kernel
theorem ph_X4_mixed : yX4_mixed.cls ≠ "java/lang/invoke/MethodHandle" ∧ yX4_mixed.cls ≠ "java/lang/invoke/VarHandle" := by decide +kernel
theorem pd_X4_mixed : (parseMethodDescriptor yX4_mixed.desc).map (fun d => d.parameters.length) = some 2 := by decide +kernel
theorem ph_X4_withCondition : yX4_withCondition.cls ≠ "java/lang/invoke/MethodHandle" ∧ yX4_withCondition.cls ≠ "java/lang/invoke/VarHandle" := by decide +kernel
theorem pd_X4_withCondition : (parseMethodDescriptor yX4_withCondition.desc).map (fun d => d.parameters.length) = some 2 := by decide +kernel
theorem ph_X4_withPrime : yX4_withPrime.cls ≠ "java/lang/invoke/MethodHandle" ∧ yX4_withPrime.cls ≠ "java/lang/invoke/VarHandle" := by decide +kernel
theorem pd_X4_withPrime : (parseMethodDescriptor yX4_withPrime.desc).map (fun d => d.parameters.length) = some 2 := by decide +kernel
theorem ph_X4_withAnswers : yX4_withAnswers.cls ≠ "java/lang/invoke/MethodHandle" ∧ yX4_withAnswers.cls ≠ "java/lang/invoke/VarHandle" := by decide +kernel
theorem pd_X4_withAnswers : (parseMethodDescriptor yX4_withAnswers.desc).map (fun d => d.parameters.length) = some 1 := by decide +kernel
theorem ph_X4_bitsOf : yX4_bitsOf.cls ≠ "java/lang/invoke/MethodHandle" ∧ yX4_bitsOf.cls ≠ "java/lang/invoke/VarHandle" := by decide +kernel
theorem pd_X4_bitsOf : (parseMethodDescriptor yX4_bitsOf.desc).map (fun d => d.parameters.length) = some 1 := by decide +kernel
theorem ph_X4_rest : yX4_rest.cls ≠ "java/lang/invoke/MethodHandle" ∧ yX4_rest.cls ≠ "java/lang/invoke/VarHandle" := by decide +kernel
theorem pd_X4_rest : (parseMethodDescriptor yX4_rest.desc).map (fun d => d.parameters.length) = some 2 := by decide +kernel
theorem ph_X4_share : yX4_share.cls ≠ "java/lang/invoke/MethodHandle" ∧ yX4_share.cls ≠ "java/lang/invoke/VarHandle" := by decide +kernel
theorem pd_X4_share : (parseMethodDescriptor yX4_share.desc).map (fun d => d.parameters.length) = some 2 := by decide +kernel
theorem ph_X4_commonDivisor : yX4_commonDivisor.cls ≠ "java/lang/invoke/MethodHandle" ∧ yX4_commonDivisor.cls ≠ "java/lang/invoke/VarHandle" := by decide +kernel
theorem pd_X4_commonDivisor : (parseMethodDescriptor yX4_commonDivisor.desc).map (fun d => d.parameters.length) = some 2 := by decide +kernel
theorem ph_X4_inverse : yX4_inverse.cls ≠ "java/lang/invoke/MethodHandle" ∧ yX4_inverse.cls ≠ "java/lang/invoke/VarHandle" := by decide +kernel
theorem pd_X4_inverse : (parseMethodDescriptor yX4_inverse.desc).map (fun d => d.parameters.length) = some 2 := by decide +kernel
theorem ph_X4_powerIn : yX4_powerIn.cls ≠ "java/lang/invoke/MethodHandle" ∧ yX4_powerIn.cls ≠ "java/lang/invoke/VarHandle" := by decide +kernel
theorem pd_X4_powerIn : (parseMethodDescriptor yX4_powerIn.desc).map (fun d => d.parameters.length) = some 2 := by decide +kernel
theorem ph_X4_widened : yX4_widened.cls ≠ "java/lang/invoke/MethodHandle" ∧ yX4_widened.cls ≠ "java/lang/invoke/VarHandle" := by decide +kernel
theorem pd_X4_widened : (parseMethodDescriptor yX4_widened.desc).map (fun d => d.parameters.length) = some 2 := by decide +kernel
theorem ph_X5_init : yX5_init.cls ≠ "java/lang/invoke/MethodHandle" ∧ yX5_init.cls ≠ "java/lang/invoke/VarHandle" := by decide +kernel
theorem pd_X5_init : (parseMethodDescriptor yX5_init.desc).map (fun d => d.parameters.length) = some 0 := by decide +kernel
theorem ph_X5_thrown : yX5_thrown.cls ≠ "java/lang/invoke/MethodHandle" ∧ yX5_thrown.cls ≠ "java/lang/invoke/VarHandle" := by decide +kernel
theorem pd_X5_thrown : (parseMethodDescriptor yX5_thrown.desc).map (fun d => d.parameters.length) = some 0 := by decide +kernel
theorem ph_X5_in : yX5_in.cls ≠ "java/lang/invoke/MethodHandle" ∧ yX5_in.cls ≠ "java/lang/invoke/VarHandle" := by decide +kernel
theorem pd_X5_in : (parseMethodDescriptor yX5_in.desc).map (fun d => d.parameters.length) = some 3 := by decide +kernel
theorem ph_X5_isThere : yX5_isThere.cls ≠ "java/lang/invoke/MethodHandle" ∧ yX5_isThere.cls ≠ "java/lang/invoke/VarHandle" := by decide +kernel
theorem pd_X5_isThere : (parseMethodDescriptor yX5_isThere.desc).map (fun d => d.parameters.length) = some 1 := by decide +kernel
theorem ph_X5_of : yX5_of.cls ≠ "java/lang/invoke/MethodHandle" ∧ yX5_of.cls ≠ "java/lang/invoke/VarHandle" := by decide +kernel
theorem pd_X5_of : (parseMethodDescriptor yX5_of.desc).map (fun d => d.parameters.length) = some 2 := by decide +kernel
theorem ph_X5_isOn : yX5_isOn.cls ≠ "java/lang/invoke/MethodHandle" ∧ yX5_isOn.cls ≠ "java/lang/invoke/VarHandle" := by decide +kernel
theorem pd_X5_isOn : (parseMethodDescriptor yX5_isOn.desc).map (fun d => d.parameters.length) = some 1 := by decide +kernel
theorem ph_X5_isNumber : yX5_isNumber.cls ≠ "java/lang/invoke/MethodHandle" ∧ yX5_isNumber.cls ≠ "java/lang/invoke/VarHandle" := by decide +kernel
theorem pd_X5_isNumber : (parseMethodDescriptor yX5_isNumber.desc).map (fun d => d.parameters.length) = some 1 := by decide +kernel
theorem ph_X5_save : yX5_save.cls ≠ "java/lang/invoke/MethodHandle" ∧ yX5_save.cls ≠ "java/lang/invoke/VarHandle" := by decide +kernel
theorem pd_X5_save : (parseMethodDescriptor yX5_save.desc).map (fun d => d.parameters.length) = some 0 := by decide +kernel
theorem ph_X5_undo : yX5_undo.cls ≠ "java/lang/invoke/MethodHandle" ∧ yX5_undo.cls ≠ "java/lang/invoke/VarHandle" := by decide +kernel
theorem pd_X5_undo : (parseMethodDescriptor yX5_undo.desc).map (fun d => d.parameters.length) = some 0 := by decide +kernel
theorem ph_X5_common : yX5_common.cls ≠ "java/lang/invoke/MethodHandle" ∧ yX5_common.cls ≠ "java/lang/invoke/VarHandle" := by decide +kernel
theorem pd_X5_common : (parseMethodDescriptor yX5_common.desc).map (fun d => d.parameters.length) = some 2 := by decide +kernel
theorem ph_X5_commonOf : yX5_commonOf.cls ≠ "java/lang/invoke/MethodHandle" ∧ yX5_commonOf.cls ≠ "java/lang/invoke/VarHandle" := by decide +kernel
theorem pd_X5_commonOf : (parseMethodDescriptor yX5_commonOf.desc).map (fun d => d.parameters.length) = some 2 := by decide +kernel
theorem ph_X5_isVoid : yX5_isVoid.cls ≠ "java/lang/invoke/MethodHandle" ∧ yX5_isVoid.cls ≠ "java/lang/invoke/VarHandle" := by decide +kernel
theorem pd_X5_isVoid : (parseMethodDescriptor yX5_isVoid.desc).map (fun d => d.parameters.length) = some 1 := by decide +kernel
theorem ph_X5_modulus : yX5_modulus.cls ≠ "java/lang/invoke/MethodHandle" ∧ yX5_modulus.cls ≠ "java/lang/invoke/VarHandle" := by decide +kernel
theorem pd_X5_modulus : (parseMethodDescriptor yX5_modulus.desc).map (fun d => d.parameters.length) = some 1 := by decide +kernel
theorem ph_X5_rest : yX5_rest.cls ≠ "java/lang/invoke/MethodHandle" ∧ yX5_rest.cls ≠ "java/lang/invoke/VarHandle" := by decide +kernel
theorem pd_X5_rest : (parseMethodDescriptor yX5_rest.desc).map (fun d => d.parameters.length) = some 1 := by decide +kernel
theorem ph_X5_goTogether : yX5_goTogether.cls ≠ "java/lang/invoke/MethodHandle" ∧ yX5_goTogether.cls ≠ "java/lang/invoke/VarHandle" := by decide +kernel
theorem pd_X5_goTogether : (parseMethodDescriptor yX5_goTogether.desc).map (fun d => d.parameters.length) = some 2 := by decide +kernel
theorem ph_X5_against : yX5_against.cls ≠ "java/lang/invoke/MethodHandle" ∧ yX5_against.cls ≠ "java/lang/invoke/VarHandle" := by decide +kernel
theorem pd_X5_against : (parseMethodDescriptor yX5_against.desc).map (fun d => d.parameters.length) = some 1 := by decide +kernel
theorem ph_X5_onSet : yX5_onSet.cls ≠ "java/lang/invoke/MethodHandle" ∧ yX5_onSet.cls ≠ "java/lang/invoke/VarHandle" := by decide +kernel
theorem pd_X5_onSet : (parseMethodDescriptor yX5_onSet.desc).map (fun d => d.parameters.length) = some 0 := by decide +kernel
theorem ph_X5_isPossible : yX5_isPossible.cls ≠ "java/lang/invoke/MethodHandle" ∧ yX5_isPossible.cls ≠ "java/lang/invoke/VarHandle" := by decide +kernel
theorem pd_X5_isPossible : (parseMethodDescriptor yX5_isPossible.desc).map (fun d => d.parameters.length) = some 1 := by decide +kernel
theorem ph_X5_joinOne : yX5_joinOne.cls ≠ "java/lang/invoke/MethodHandle" ∧ yX5_joinOne.cls ≠ "java/lang/invoke/VarHandle" := by decide +kernel
theorem pd_X5_joinOne : (parseMethodDescriptor yX5_joinOne.desc).map (fun d => d.parameters.length) = some 1 := by decide +kernel
theorem ph_X5_join : yX5_join.cls ≠ "java/lang/invoke/MethodHandle" ∧ yX5_join.cls ≠ "java/lang/invoke/VarHandle" := by decide +kernel
theorem pd_X5_join : (parseMethodDescriptor yX5_join.desc).map (fun d => d.parameters.length) = some 1 := by decide +kernel
theorem ph_X5_isTooGreat : yX5_isTooGreat.cls ≠ "java/lang/invoke/MethodHandle" ∧ yX5_isTooGreat.cls ≠ "java/lang/invoke/VarHandle" := by decide +kernel
theorem pd_X5_isTooGreat : (parseMethodDescriptor yX5_isTooGreat.desc).map (fun d => d.parameters.length) = some 1 := by decide +kernel
theorem ph_X5_tells : yX5_tells.cls ≠ "java/lang/invoke/MethodHandle" ∧ yX5_tells.cls ≠ "java/lang/invoke/VarHandle" := by decide +kernel
theorem pd_X5_tells : (parseMethodDescriptor yX5_tells.desc).map (fun d => d.parameters.length) = some 2 := by decide +kernel
theorem ph_X5_isTold : yX5_isTold.cls ≠ "java/lang/invoke/MethodHandle" ∧ yX5_isTold.cls ≠ "java/lang/invoke/VarHandle" := by decide +kernel
theorem pd_X5_isTold : (parseMethodDescriptor yX5_isTold.desc).map (fun d => d.parameters.length) = some 1 := by decide +kernel
theorem ph_X5_layNext : yX5_layNext.cls ≠ "java/lang/invoke/MethodHandle" ∧ yX5_layNext.cls ≠ "java/lang/invoke/VarHandle" := by decide +kernel
theorem pd_X5_layNext : (parseMethodDescriptor yX5_layNext.desc).map (fun d => d.parameters.length) = some 3 := by decide +kernel
theorem ph_X5_clearNext : yX5_clearNext.cls ≠ "java/lang/invoke/MethodHandle" ∧ yX5_clearNext.cls ≠ "java/lang/invoke/VarHandle" := by decide +kernel
theorem pd_X5_clearNext : (parseMethodDescriptor yX5_clearNext.desc).map (fun d => d.parameters.length) = some 0 := by decide +kernel
theorem ph_X5_areGood : yX5_areGood.cls ≠ "java/lang/invoke/MethodHandle" ∧ yX5_areGood.cls ≠ "java/lang/invoke/VarHandle" := by decide +kernel
theorem pd_X5_areGood : (parseMethodDescriptor yX5_areGood.desc).map (fun d => d.parameters.length) = some 3 := by decide +kernel
theorem ph_X5_canAdd : yX5_canAdd.cls ≠ "java/lang/invoke/MethodHandle" ∧ yX5_canAdd.cls ≠ "java/lang/invoke/VarHandle" := by decide +kernel
theorem pd_X5_canAdd : (parseMethodDescriptor yX5_canAdd.desc).map (fun d => d.parameters.length) = some 3 := by decide +kernel
theorem ph_X5_add : yX5_add.cls ≠ "java/lang/invoke/MethodHandle" ∧ yX5_add.cls ≠ "java/lang/invoke/VarHandle" := by decide +kernel
theorem pd_X5_add : (parseMethodDescriptor yX5_add.desc).map (fun d => d.parameters.length) = some 3 := by decide +kernel
theorem ph_X5_remove : yX5_remove.cls ≠ "java/lang/invoke/MethodHandle" ∧ yX5_remove.cls ≠ "java/lang/invoke/VarHandle" := by decide +kernel
theorem pd_X5_remove : (parseMethodDescriptor yX5_remove.desc).map (fun d => d.parameters.length) = some 1 := by decide +kernel
theorem ph_X5_toggle : yX5_toggle.cls ≠ "java/lang/invoke/MethodHandle" ∧ yX5_toggle.cls ≠ "java/lang/invoke/VarHandle" := by decide +kernel
theorem pd_X5_toggle : (parseMethodDescriptor yX5_toggle.desc).map (fun d => d.parameters.length) = some 1 := by decide +kernel
theorem ph_X5_bare : yX5_bare.cls ≠ "java/lang/invoke/MethodHandle" ∧ yX5_bare.cls ≠ "java/lang/invoke/VarHandle" := by decide +kernel
theorem pd_X5_bare : (parseMethodDescriptor yX5_bare.desc).map (fun d => d.parameters.length) = some 1 := by decide +kernel
theorem ph_X5_thin : yX5_thin.cls ≠ "java/lang/invoke/MethodHandle" ∧ yX5_thin.cls ≠ "java/lang/invoke/VarHandle" := by decide +kernel
theorem pd_X5_thin : (parseMethodDescriptor yX5_thin.desc).map (fun d => d.parameters.length) = some 0 := by decide +kernel
theorem ph_X5_bits : yX5_bits.cls ≠ "java/lang/invoke/MethodHandle" ∧ yX5_bits.cls ≠ "java/lang/invoke/VarHandle" := by decide +kernel
theorem pd_X5_bits : (parseMethodDescriptor yX5_bits.desc).map (fun d => d.parameters.length) = some 1 := by decide +kernel
theorem ph_X5_mostTogether : yX5_mostTogether.cls ≠ "java/lang/invoke/MethodHandle" ∧ yX5_mostTogether.cls ≠ "java/lang/invoke/VarHandle" := by decide +kernel
theorem pd_X5_mostTogether : (parseMethodDescriptor yX5_mostTogether.desc).map (fun d => d.parameters.length) = some 0 := by decide +kernel
theorem ph_X5_agree : yX5_agree.cls ≠ "java/lang/invoke/MethodHandle" ∧ yX5_agree.cls ≠ "java/lang/invoke/VarHandle" := by decide +kernel
theorem pd_X5_agree : (parseMethodDescriptor yX5_agree.desc).map (fun d => d.parameters.length) = some 0 := by decide +kernel
theorem ph_X5_append : yX5_append.cls ≠ "java/lang/invoke/MethodHandle" ∧ yX5_append.cls ≠ "java/lang/invoke/VarHandle" := by decide +kernel
theorem pd_X5_append : (parseMethodDescriptor yX5_append.desc).map (fun d => d.parameters.length) = some 1 := by decide +kernel
theorem ph_X5_clearBuffer : yX5_clearBuffer.cls ≠ "java/lang/invoke/MethodHandle" ∧ yX5_clearBuffer.cls ≠ "java/lang/invoke/VarHandle" := by decide +kernel
theorem pd_X5_clearBuffer : (parseMethodDescriptor yX5_clearBuffer.desc).map (fun d => d.parameters.length) = some 0 := by decide +kernel
theorem ph_X5_letter : yX5_letter.cls ≠ "java/lang/invoke/MethodHandle" ∧ yX5_letter.cls ≠ "java/lang/invoke/VarHandle" := by decide +kernel
theorem pd_X5_letter : (parseMethodDescriptor yX5_letter.desc).map (fun d => d.parameters.length) = some 0 := by decide +kernel
theorem ph_X5_wants : yX5_wants.cls ≠ "java/lang/invoke/MethodHandle" ∧ yX5_wants.cls ≠ "java/lang/invoke/VarHandle" := by decide +kernel
theorem pd_X5_wants : (parseMethodDescriptor yX5_wants.desc).map (fun d => d.parameters.length) = some 1 := by decide +kernel
theorem ph_X5_number : yX5_number.cls ≠ "java/lang/invoke/MethodHandle" ∧ yX5_number.cls ≠ "java/lang/invoke/VarHandle" := by decide +kernel
theorem pd_X5_number : (parseMethodDescriptor yX5_number.desc).map (fun d => d.parameters.length) = some 1 := by decide +kernel
theorem ph_X5_readOne : yX5_readOne.cls ≠ "java/lang/invoke/MethodHandle" ∧ yX5_readOne.cls ≠ "java/lang/invoke/VarHandle" := by decide +kernel
theorem pd_X5_readOne : (parseMethodDescriptor yX5_readOne.desc).map (fun d => d.parameters.length) = some 0 := by decide +kernel
theorem ph_X5_readBuffer : yX5_readBuffer.cls ≠ "java/lang/invoke/MethodHandle" ∧ yX5_readBuffer.cls ≠ "java/lang/invoke/VarHandle" := by decide +kernel
theorem pd_X5_readBuffer : (parseMethodDescriptor yX5_readBuffer.desc).map (fun d => d.parameters.length) = some 0 := by decide +kernel
theorem ph_X5_firstError : yX5_firstError.cls ≠ "java/lang/invoke/MethodHandle" ∧ yX5_firstError.cls ≠ "java/lang/invoke/VarHandle" := by decide +kernel
theorem pd_X5_firstError : (parseMethodDescriptor yX5_firstError.desc).map (fun d => d.parameters.length) = some 0 := by decide +kernel
theorem ph_X5_read : yX5_read.cls ≠ "java/lang/invoke/MethodHandle" ∧ yX5_read.cls ≠ "java/lang/invoke/VarHandle" := by decide +kernel
theorem pd_X5_read : (parseMethodDescriptor yX5_read.desc).map (fun d => d.parameters.length) = some 0 := by decide +kernel
theorem ph_X5_told : yX5_told.cls ≠ "java/lang/invoke/MethodHandle" ∧ yX5_told.cls ≠ "java/lang/invoke/VarHandle" := by decide +kernel
theorem pd_X5_told : (parseMethodDescriptor yX5_told.desc).map (fun d => d.parameters.length) = some 2 := by decide +kernel
theorem ph_X5_condition : yX5_condition.cls ≠ "java/lang/invoke/MethodHandle" ∧ yX5_condition.cls ≠ "java/lang/invoke/VarHandle" := by decide +kernel
theorem pd_X5_condition : (parseMethodDescriptor yX5_condition.desc).map (fun d => d.parameters.length) = some 2 := by decide +kernel
theorem ph_X5_agrees : yX5_agrees.cls ≠ "java/lang/invoke/MethodHandle" ∧ yX5_agrees.cls ≠ "java/lang/invoke/VarHandle" := by decide +kernel
theorem pd_X5_agrees : (parseMethodDescriptor yX5_agrees.desc).map (fun d => d.parameters.length) = some 2 := by decide +kernel
theorem ph_X5_joinedBy : yX5_joinedBy.cls ≠ "java/lang/invoke/MethodHandle" ∧ yX5_joinedBy.cls ≠ "java/lang/invoke/VarHandle" := by decide +kernel
theorem pd_X5_joinedBy : (parseMethodDescriptor yX5_joinedBy.desc).map (fun d => d.parameters.length) = some 2 := by decide +kernel
theorem ph_X5_joined : yX5_joined.cls ≠ "java/lang/invoke/MethodHandle" ∧ yX5_joined.cls ≠ "java/lang/invoke/VarHandle" := by decide +kernel
theorem pd_X5_joined : (parseMethodDescriptor yX5_joined.desc).map (fun d => d.parameters.length) = some 1 := by decide +kernel
theorem ph_X5_voids : yX5_voids.cls ≠ "java/lang/invoke/MethodHandle" ∧ yX5_voids.cls ≠ "java/lang/invoke/VarHandle" := by decide +kernel
theorem pd_X5_voids : (parseMethodDescriptor yX5_voids.desc).map (fun d => d.parameters.length) = some 0 := by decide +kernel
theorem ph_X5_quarrels : yX5_quarrels.cls ≠ "java/lang/invoke/MethodHandle" ∧ yX5_quarrels.cls ≠ "java/lang/invoke/VarHandle" := by decide +kernel
theorem pd_X5_quarrels : (parseMethodDescriptor yX5_quarrels.desc).map (fun d => d.parameters.length) = some 0 := by decide +kernel
theorem ph_X5_toldMany : yX5_toldMany.cls ≠ "java/lang/invoke/MethodHandle" ∧ yX5_toldMany.cls ≠ "java/lang/invoke/VarHandle" := by decide +kernel
theorem pd_X5_toldMany : (parseMethodDescriptor yX5_toldMany.desc).map (fun d => d.parameters.length) = some 0 := by decide +kernel
theorem ph_X5_counted : yX5_counted.cls ≠ "java/lang/invoke/MethodHandle" ∧ yX5_counted.cls ≠ "java/lang/invoke/VarHandle" := by decide +kernel
theorem pd_X5_counted : (parseMethodDescriptor yX5_counted.desc).map (fun d => d.parameters.length) = some 1 := by decide +kernel
theorem ph_X5_count : yX5_count.cls ≠ "java/lang/invoke/MethodHandle" ∧ yX5_count.cls ≠ "java/lang/invoke/VarHandle" := by decide +kernel
theorem pd_X5_count : (parseMethodDescriptor yX5_count.desc).map (fun d => d.parameters.length) = some 1 := by decide +kernel
theorem ph_X5_isPrime : yX5_isPrime.cls ≠ "java/lang/invoke/MethodHandle" ∧ yX5_isPrime.cls ≠ "java/lang/invoke/VarHandle" := by decide +kernel
theorem pd_X5_isPrime : (parseMethodDescriptor yX5_isPrime.desc).map (fun d => d.parameters.length) = some 1 := by decide +kernel
theorem ph_X5_powerIn : yX5_powerIn.cls ≠ "java/lang/invoke/MethodHandle" ∧ yX5_powerIn.cls ≠ "java/lang/invoke/VarHandle" := by decide +kernel
theorem pd_X5_powerIn : (parseMethodDescriptor yX5_powerIn.desc).map (fun d => d.parameters.length) = some 2 := by decide +kernel
theorem ph_X5_strongest : yX5_strongest.cls ≠ "java/lang/invoke/MethodHandle" ∧ yX5_strongest.cls ≠ "java/lang/invoke/VarHandle" := by decide +kernel
theorem pd_X5_strongest : (parseMethodDescriptor yX5_strongest.desc).map (fun d => d.parameters.length) = some 1 := by decide +kernel
theorem ph_X5_toldPrime : yX5_toldPrime.cls ≠ "java/lang/invoke/MethodHandle" ∧ yX5_toldPrime.cls ≠ "java/lang/invoke/VarHandle" := by decide +kernel
theorem pd_X5_toldPrime : (parseMethodDescriptor yX5_toldPrime.desc).map (fun d => d.parameters.length) = some 2 := by decide +kernel
theorem ph_X5_prime : yX5_prime.cls ≠ "java/lang/invoke/MethodHandle" ∧ yX5_prime.cls ≠ "java/lang/invoke/VarHandle" := by decide +kernel
theorem pd_X5_prime : (parseMethodDescriptor yX5_prime.desc).map (fun d => d.parameters.length) = some 2 := by decide +kernel
theorem ph_X5_answerFrom : yX5_answerFrom.cls ≠ "java/lang/invoke/MethodHandle" ∧ yX5_answerFrom.cls ≠ "java/lang/invoke/VarHandle" := by decide +kernel
theorem pd_X5_answerFrom : (parseMethodDescriptor yX5_answerFrom.desc).map (fun d => d.parameters.length) = some 1 := by decide +kernel
theorem ph_X5_answered : yX5_answered.cls ≠ "java/lang/invoke/MethodHandle" ∧ yX5_answered.cls ≠ "java/lang/invoke/VarHandle" := by decide +kernel
theorem pd_X5_answered : (parseMethodDescriptor yX5_answered.desc).map (fun d => d.parameters.length) = some 2 := by decide +kernel
theorem ph_X5_answer : yX5_answer.cls ≠ "java/lang/invoke/MethodHandle" ∧ yX5_answer.cls ≠ "java/lang/invoke/VarHandle" := by decide +kernel
theorem pd_X5_answer : (parseMethodDescriptor yX5_answer.desc).map (fun d => d.parameters.length) = some 2 := by decide +kernel
theorem ph_X5_nearestTo : yX5_nearestTo.cls ≠ "java/lang/invoke/MethodHandle" ∧ yX5_nearestTo.cls ≠ "java/lang/invoke/VarHandle" := by decide +kernel
theorem pd_X5_nearestTo : (parseMethodDescriptor yX5_nearestTo.desc).map (fun d => d.parameters.length) = some 1 := by decide +kernel
theorem ph_X5_nearest : yX5_nearest.cls ≠ "java/lang/invoke/MethodHandle" ∧ yX5_nearest.cls ≠ "java/lang/invoke/VarHandle" := by decide +kernel
theorem pd_X5_nearest : (parseMethodDescriptor yX5_nearest.desc).map (fun d => d.parameters.length) = some 1 := by decide +kernel
theorem ph_X5_manyBetween : yX5_manyBetween.cls ≠ "java/lang/invoke/MethodHandle" ∧ yX5_manyBetween.cls ≠ "java/lang/invoke/VarHandle" := by decide +kernel
theorem pd_X5_manyBetween : (parseMethodDescriptor yX5_manyBetween.desc).map (fun d => d.parameters.length) = some 2 := by decide +kernel
theorem ph_X5_between : yX5_between.cls ≠ "java/lang/invoke/MethodHandle" ∧ yX5_between.cls ≠ "java/lang/invoke/VarHandle" := by decide +kernel
theorem pd_X5_between : (parseMethodDescriptor yX5_between.desc).map (fun d => d.parameters.length) = some 2 := by decide +kernel
theorem ph_X5_missed : yX5_missed.cls ≠ "java/lang/invoke/MethodHandle" ∧ yX5_missed.cls ≠ "java/lang/invoke/VarHandle" := by decide +kernel
theorem pd_X5_missed : (parseMethodDescriptor yX5_missed.desc).map (fun d => d.parameters.length) = some 1 := by decide +kernel
theorem ph_X5_misses : yX5_misses.cls ≠ "java/lang/invoke/MethodHandle" ∧ yX5_misses.cls ≠ "java/lang/invoke/VarHandle" := by decide +kernel
theorem pd_X5_misses : (parseMethodDescriptor yX5_misses.desc).map (fun d => d.parameters.length) = some 1 := by decide +kernel
theorem ph_X5_wouldAdd : yX5_wouldAdd.cls ≠ "java/lang/invoke/MethodHandle" ∧ yX5_wouldAdd.cls ≠ "java/lang/invoke/VarHandle" := by decide +kernel
theorem pd_X5_wouldAdd : (parseMethodDescriptor yX5_wouldAdd.desc).map (fun d => d.parameters.length) = some 4 := by decide +kernel
theorem ph_X5_ifAdded : yX5_ifAdded.cls ≠ "java/lang/invoke/MethodHandle" ∧ yX5_ifAdded.cls ≠ "java/lang/invoke/VarHandle" := by decide +kernel
theorem pd_X5_ifAdded : (parseMethodDescriptor yX5_ifAdded.desc).map (fun d => d.parameters.length) = some 4 := by decide +kernel
theorem ph_X5_without : yX5_without.cls ≠ "java/lang/invoke/MethodHandle" ∧ yX5_without.cls ≠ "java/lang/invoke/VarHandle" := by decide +kernel
theorem pd_X5_without : (parseMethodDescriptor yX5_without.desc).map (fun d => d.parameters.length) = some 2 := by decide +kernel
theorem ph_X5_most : yX5_most.cls ≠ "java/lang/invoke/MethodHandle" ∧ yX5_most.cls ≠ "java/lang/invoke/VarHandle" := by decide +kernel
theorem pd_X5_most : (parseMethodDescriptor yX5_most.desc).map (fun d => d.parameters.length) = some 0 := by decide +kernel
theorem ph_X5_blamed : yX5_blamed.cls ≠ "java/lang/invoke/MethodHandle" ∧ yX5_blamed.cls ≠ "java/lang/invoke/VarHandle" := by decide +kernel
theorem pd_X5_blamed : (parseMethodDescriptor yX5_blamed.desc).map (fun d => d.parameters.length) = some 0 := by decide +kernel
theorem ph_X5_blame : yX5_blame.cls ≠ "java/lang/invoke/MethodHandle" ∧ yX5_blame.cls ≠ "java/lang/invoke/VarHandle" := by decide +kernel
theorem pd_X5_blame : (parseMethodDescriptor yX5_blame.desc).map (fun d => d.parameters.length) = some 0 := by decide +kernel
theorem ph_X5_share : yX5_share.cls ≠ "java/lang/invoke/MethodHandle" ∧ yX5_share.cls ≠ "java/lang/invoke/VarHandle" := by decide +kernel
theorem pd_X5_share : (parseMethodDescriptor yX5_share.desc).map (fun d => d.parameters.length) = some 0 := by decide +kernel
theorem ph_X5_density : yX5_density.cls ≠ "java/lang/invoke/MethodHandle" ∧ yX5_density.cls ≠ "java/lang/invoke/VarHandle" := by decide +kernel
theorem pd_X5_density : (parseMethodDescriptor yX5_density.desc).map (fun d => d.parameters.length) = some 0 := by decide +kernel
theorem ph_X5_bitsOf : yX5_bitsOf.cls ≠ "java/lang/invoke/MethodHandle" ∧ yX5_bitsOf.cls ≠ "java/lang/invoke/VarHandle" := by decide +kernel
theorem pd_X5_bitsOf : (parseMethodDescriptor yX5_bitsOf.desc).map (fun d => d.parameters.length) = some 1 := by decide +kernel
theorem ph_X5_mix : yX5_mix.cls ≠ "java/lang/invoke/MethodHandle" ∧ yX5_mix.cls ≠ "java/lang/invoke/VarHandle" := by decide +kernel
theorem pd_X5_mix : (parseMethodDescriptor yX5_mix.desc).map (fun d => d.parameters.length) = some 1 := by decide +kernel
theorem ph_X5_mixCondition : yX5_mixCondition.cls ≠ "java/lang/invoke/MethodHandle" ∧ yX5_mixCondition.cls ≠ "java/lang/invoke/VarHandle" := by decide +kernel
theorem pd_X5_mixCondition : (parseMethodDescriptor yX5_mixCondition.desc).map (fun d => d.parameters.length) = some 1 := by decide +kernel
theorem ph_X5_mixPrimes : yX5_mixPrimes.cls ≠ "java/lang/invoke/MethodHandle" ∧ yX5_mixPrimes.cls ≠ "java/lang/invoke/VarHandle" := by decide +kernel
theorem pd_X5_mixPrimes : (parseMethodDescriptor yX5_mixPrimes.desc).map (fun d => d.parameters.length) = some 0 := by decide +kernel
theorem ph_X5_digest : yX5_digest.cls ≠ "java/lang/invoke/MethodHandle" ∧ yX5_digest.cls ≠ "java/lang/invoke/VarHandle" := by decide +kernel
theorem pd_X5_digest : (parseMethodDescriptor yX5_digest.desc).map (fun d => d.parameters.length) = some 0 := by decide +kernel
theorem ph_J6_bitCount_0f7a4 : yJ6_bitCount_0f7a4.cls ≠ "java/lang/invoke/MethodHandle" ∧ yJ6_bitCount_0f7a4.cls ≠ "java/lang/invoke/VarHandle" := by decide +kernel
theorem pd_J6_bitCount_0f7a4 : (parseMethodDescriptor yJ6_bitCount_0f7a4.desc).map (fun d => d.parameters.length) = some 1 := by decide +kernel
theorem ph_J9_floorMod_7cf53 : yJ9_floorMod_7cf53.cls ≠ "java/lang/invoke/MethodHandle" ∧ yJ9_floorMod_7cf53.cls ≠ "java/lang/invoke/VarHandle" := by decide +kernel
theorem pd_J9_floorMod_7cf53 : (parseMethodDescriptor yJ9_floorMod_7cf53.desc).map (fun d => d.parameters.length) = some 2 := by decide +kernel
theorem ph_J9_min_f86c9 : yJ9_min_f86c9.cls ≠ "java/lang/invoke/MethodHandle" ∧ yJ9_min_f86c9.cls ≠ "java/lang/invoke/VarHandle" := by decide +kernel
theorem pd_J9_min_f86c9 : (parseMethodDescriptor yJ9_min_f86c9.desc).map (fun d => d.parameters.length) = some 2 := by decide +kernel
theorem ph_L_add : yL_add.cls ≠ "java/lang/invoke/MethodHandle" ∧ yL_add.cls ≠ "java/lang/invoke/VarHandle" := by decide +kernel
theorem pd_L_add : (parseMethodDescriptor yL_add.desc).map (fun d => d.parameters.length) = some 5 := by decide +kernel
theorem ph_L_remove : yL_remove.cls ≠ "java/lang/invoke/MethodHandle" ∧ yL_remove.cls ≠ "java/lang/invoke/VarHandle" := by decide +kernel
theorem pd_L_remove : (parseMethodDescriptor yL_remove.desc).map (fun d => d.parameters.length) = some 3 := by decide +kernel
theorem ph_L_toggle : yL_toggle.cls ≠ "java/lang/invoke/MethodHandle" ∧ yL_toggle.cls ≠ "java/lang/invoke/VarHandle" := by decide +kernel
theorem pd_L_toggle : (parseMethodDescriptor yL_toggle.desc).map (fun d => d.parameters.length) = some 3 := by decide +kernel
theorem ph_L_bare : yL_bare.cls ≠ "java/lang/invoke/MethodHandle" ∧ yL_bare.cls ≠ "java/lang/invoke/VarHandle" := by decide +kernel
theorem pd_L_bare : (parseMethodDescriptor yL_bare.desc).map (fun d => d.parameters.length) = some 3 := by decide +kernel
theorem ph_L_thin : yL_thin.cls ≠ "java/lang/invoke/MethodHandle" ∧ yL_thin.cls ≠ "java/lang/invoke/VarHandle" := by decide +kernel
theorem pd_L_thin : (parseMethodDescriptor yL_thin.desc).map (fun d => d.parameters.length) = some 2 := by decide +kernel
theorem ph_L_agree : yL_agree.cls ≠ "java/lang/invoke/MethodHandle" ∧ yL_agree.cls ≠ "java/lang/invoke/VarHandle" := by decide +kernel
theorem pd_L_agree : (parseMethodDescriptor yL_agree.desc).map (fun d => d.parameters.length) = some 2 := by decide +kernel
theorem ph_L_append : yL_append.cls ≠ "java/lang/invoke/MethodHandle" ∧ yL_append.cls ≠ "java/lang/invoke/VarHandle" := by decide +kernel
theorem pd_L_append : (parseMethodDescriptor yL_append.desc).map (fun d => d.parameters.length) = some 3 := by decide +kernel
theorem ph_L_read : yL_read.cls ≠ "java/lang/invoke/MethodHandle" ∧ yL_read.cls ≠ "java/lang/invoke/VarHandle" := by decide +kernel
theorem pd_L_read : (parseMethodDescriptor yL_read.desc).map (fun d => d.parameters.length) = some 2 := by decide +kernel
theorem ph_L_undo : yL_undo.cls ≠ "java/lang/invoke/MethodHandle" ∧ yL_undo.cls ≠ "java/lang/invoke/VarHandle" := by decide +kernel
theorem pd_L_undo : (parseMethodDescriptor yL_undo.desc).map (fun d => d.parameters.length) = some 2 := by decide +kernel
theorem ph_L_condition : yL_condition.cls ≠ "java/lang/invoke/MethodHandle" ∧ yL_condition.cls ≠ "java/lang/invoke/VarHandle" := by decide +kernel
theorem pd_L_condition : (parseMethodDescriptor yL_condition.desc).map (fun d => d.parameters.length) = some 4 := by decide +kernel
theorem ph_L_agrees : yL_agrees.cls ≠ "java/lang/invoke/MethodHandle" ∧ yL_agrees.cls ≠ "java/lang/invoke/VarHandle" := by decide +kernel
theorem pd_L_agrees : (parseMethodDescriptor yL_agrees.desc).map (fun d => d.parameters.length) = some 4 := by decide +kernel
theorem ph_L_joined : yL_joined.cls ≠ "java/lang/invoke/MethodHandle" ∧ yL_joined.cls ≠ "java/lang/invoke/VarHandle" := by decide +kernel
theorem pd_L_joined : (parseMethodDescriptor yL_joined.desc).map (fun d => d.parameters.length) = some 3 := by decide +kernel
theorem ph_L_count : yL_count.cls ≠ "java/lang/invoke/MethodHandle" ∧ yL_count.cls ≠ "java/lang/invoke/VarHandle" := by decide +kernel
theorem pd_L_count : (parseMethodDescriptor yL_count.desc).map (fun d => d.parameters.length) = some 3 := by decide +kernel
theorem ph_L_prime : yL_prime.cls ≠ "java/lang/invoke/MethodHandle" ∧ yL_prime.cls ≠ "java/lang/invoke/VarHandle" := by decide +kernel
theorem pd_L_prime : (parseMethodDescriptor yL_prime.desc).map (fun d => d.parameters.length) = some 4 := by decide +kernel
theorem ph_L_answer : yL_answer.cls ≠ "java/lang/invoke/MethodHandle" ∧ yL_answer.cls ≠ "java/lang/invoke/VarHandle" := by decide +kernel
theorem pd_L_answer : (parseMethodDescriptor yL_answer.desc).map (fun d => d.parameters.length) = some 4 := by decide +kernel
theorem ph_L_nearest : yL_nearest.cls ≠ "java/lang/invoke/MethodHandle" ∧ yL_nearest.cls ≠ "java/lang/invoke/VarHandle" := by decide +kernel
theorem pd_L_nearest : (parseMethodDescriptor yL_nearest.desc).map (fun d => d.parameters.length) = some 3 := by decide +kernel
theorem ph_L_between : yL_between.cls ≠ "java/lang/invoke/MethodHandle" ∧ yL_between.cls ≠ "java/lang/invoke/VarHandle" := by decide +kernel
theorem pd_L_between : (parseMethodDescriptor yL_between.desc).map (fun d => d.parameters.length) = some 4 := by decide +kernel
theorem ph_L_misses : yL_misses.cls ≠ "java/lang/invoke/MethodHandle" ∧ yL_misses.cls ≠ "java/lang/invoke/VarHandle" := by decide +kernel
theorem pd_L_misses : (parseMethodDescriptor yL_misses.desc).map (fun d => d.parameters.length) = some 3 := by decide +kernel
theorem ph_L_ifAdded : yL_ifAdded.cls ≠ "java/lang/invoke/MethodHandle" ∧ yL_ifAdded.cls ≠ "java/lang/invoke/VarHandle" := by decide +kernel
theorem pd_L_ifAdded : (parseMethodDescriptor yL_ifAdded.desc).map (fun d => d.parameters.length) = some 6 := by decide +kernel
theorem ph_L_without : yL_without.cls ≠ "java/lang/invoke/MethodHandle" ∧ yL_without.cls ≠ "java/lang/invoke/VarHandle" := by decide +kernel
theorem pd_L_without : (parseMethodDescriptor yL_without.desc).map (fun d => d.parameters.length) = some 4 := by decide +kernel
theorem ph_L_law : yL_law.cls ≠ "java/lang/invoke/MethodHandle" ∧ yL_law.cls ≠ "java/lang/invoke/VarHandle" := by decide +kernel
theorem pd_L_law : (parseMethodDescriptor yL_law.desc).map (fun d => d.parameters.length) = some 1 := by decide +kernel

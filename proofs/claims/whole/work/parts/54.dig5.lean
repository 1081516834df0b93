/-! ===== density; the digest: the reference ===== -/
def dnv (f : Nat → CT) (sz : Nat) : UInt64 := if ps (onm f sz) f = true then dn (NN (onm f sz) f 11) else FP.dconst0
def dbt (f : Nat → CT) (sz : Nat) : Int64 := if ps (onm f sz) f = true then bt (NN (onm f sz) f 11) else 0
theorem m_share {S : PS} {h hz sz k : Nat} {f : Nat → CT} (H : MV S h hz sz k f) (h10 : sz ≤ 10) (ho : ok f sz) : ∃ S1, f_X5_share S h = some (dnv f sz, S1) ∧ scr S S1 := by
  obtain ⟨S1, e, cs, v⟩ := m_joinOn H h10 ho
  refine ⟨S1, ?_, cs⟩
  unfold f_X5_share f_X5_share_B22 dnv
  rw [m_onSet H, bd_s, e, bd_s]
  cases hp : ps (onm f sz) f
  · rw [b2_f, if_pos rfl, if_neg (by decide)]
  · obtain ⟨v1, v2, v3, v4⟩ := v hp
    obtain ⟨C, s, d⟩ := dn_dz (N := NN (onm f sz) f 11) (by omega) v4
    rw [b2_t, if_neg n10, if_pos rfl, v1]
    exact ck_t d.nn
def q_density (o : OS) : Nat × UInt64 × OS := (0, dnv o.1.2 o.1.1, o)
theorem m_density {S : PS} {h z s b r : Nat} {o : OS} (H : MM S h z s b r o) (ho : OKs o) : MG S h z s b r (f_X5_density S h) (q_density o) := by
  have hv : MV (sI S 80 h 0) h z o.1.1 o.1.1 o.1.2 := (H.mv ho).sr sr.I
  obtain ⟨S1, e, cs⟩ := m_share hv ho.1.1 ho.1.2.2
  unfold f_X5_density q_density
  rw [e, bd_s]
  exact MG.yes H cs
theorem dnv_bits {f : Nat → CT} {sz : Nat} (h : ps (onm f sz) f = true → 0 < NN (onm f sz) f 11 ∧ NN (onm f sz) f 11 ≤ LIM) : f_X5_bitsOf (dnv f sz) = some (dbt f sz) ∧ f_X4_bitsOf (dnv f sz) = some (dbt f sz) ∧ FP.dcmp (dnv f sz) (dnv f sz) = some .eq := by
  unfold dnv dbt
  cases hp : ps (onm f sz) f
  · rw [if_neg (by decide), if_neg (by decide)]
    exact ⟨m_bitsZ, x_bitsZ, z_self⟩
  · obtain ⟨h0, h1⟩ := h hp
    obtain ⟨C, s, d⟩ := dn_dz h0 h1
    rw [if_pos rfl, if_pos rfl, bt_e d]
    exact ⟨m_bitsOf d, x_bitsOf d, d.self⟩
theorem on_N {o : OS} (ho : OKs o) (hp : ps (onm o.1.2 o.1.1) o.1.2 = true) : 0 < NN (onm o.1.2 o.1.1) o.1.2 11 ∧ NN (onm o.1.2 o.1.1) o.1.2 11 ≤ LIM := ⟨by have := RR_lt ho.1.2.1 (onm_lt o.1.2 o.1.1) hp; omega, tg_N ho.1.2.2 hp⟩
/-! the hash -/
def mx (h v : Int64) : Int64 := (31 : Int64) * h + v
def fd (g : Nat → Int64) : Nat → Int64 → Int64
  | 0, h => h
  | n + 1, h => mx (fd g n h) (g n)
def dco (f : Nat → CT) (sz c : Nat) (h : Int64) : Int64 := mx (mx (fd (fun d => (b2 (ag (f c) (f d))).toInt64) sz (fd (fun j => (tlw f sz c j).toInt64) 9 h)) (jb (an (onm f sz) (2 ^ c)) f 0)) (jb (an (onm f sz) (2 ^ c)) f 1)
def dcs (f : Nat → CT) (sz : Nat) : Nat → Int64 → Int64
  | 0, h => h
  | n + 1, h => dco f sz n (dcs f sz n h)
def dpr (f : Nat → CT) (sz p : Nat) (h : Int64) : Int64 := fd (fun w => (tp f sz p (nI w)).toInt64) 4 h
def dpx (f : Nat → CT) (sz p : Nat) (h : Int64) : Int64 := if prI (nI p) = true then dpr f sz p h else h
def dps (f : Nat → CT) (sz : Nat) : Nat → Int64 → Int64
  | 0, h => h
  | n + 1, h => dpx f sz (n + 2) (dps f sz n h)
def dan (f : Nat → CT) (sz : Nat) (h : Int64) : Int64 := mx (mx (mx (mx (mx (fd (fun i => aw f sz 0 i) 3 h) (aw f sz 1000 0)) (nw f sz 500)) (lN (bw f sz 0 9999))) (nI (msd f sz 0)).toInt64) (nI (msd f sz 100)).toInt64
def dgs (o : OS) : Int64 := fd (fun j => (nI (o.2.2.2.2 j)).toInt64) o.2.2.2.1 (mx (mx (mx (mx (fd (fun w => waw o.1.2 o.1.1 (3, 1, 10, true) w) 4 (dan o.1.2 o.1.1 (dps o.1.2 o.1.1 12 (dcs o.1.2 o.1.1 o.1.1 (mx (mx (fd (fun k => (cow o.1.2 o.1.1 o.2.1 k).toInt64) 7 2791) (jb (onm o.1.2 o.1.1) o.1.2 0)) (jb (onm o.1.2 o.1.1) o.1.2 1)))))) (nI (mo o)).toInt64) (bst (blw o.1.2 o.1.1) 0 o.1.1).1.toInt64) (dbt o.1.2 o.1.1)) (nI o.2.2.2.1).toInt64)
theorem lp_inv {σ ρ : Type} {L : Nat → σ → Nat → ρ} {K : σ → ρ} {e : Nat} {P : Nat → σ → Prop} (hx : ∀ n S, P e S → L (n + 1) S e = K S) (hs : ∀ n c S, c < e → P c S → ∃ S1, L (n + 1) S c = L n S1 (c + 1) ∧ P (c + 1) S1) : ∀ n c S, c ≤ e → e - c < n → P c S → ∃ S1, L n S c = K S1 ∧ P e S1 := by
  intro n
  induction n with
  | zero => intro c S h1 h2; omega
  | succ n ih =>
    intro c S h1 h2 h3
    rcases Nat.eq_or_lt_of_le h1 with q | q
    · subst q; exact ⟨S, hx n S h3, h3⟩
    · obtain ⟨S1, e1, e2⟩ := hs n c S q h3
      obtain ⟨S2, f1, f2⟩ := ih (c + 1) S1 q (by omega) e2
      exact ⟨S2, e1.trans f1, f2⟩
/-- the reference with its hash -/
def DM (h z s b r : Nat) (o : OS) (S0 S : PS) (hs : Int64) : Prop := mfr h z s b r S0 S ∧ MM S h z s b r o ∧ fL S 92 h = hs ∧ fI S 80 h = nI 0
theorem DM.mix {h z s b r : Nat} {o : OS} {S0 S : PS} {hs : Int64} (D : DM h z s b r o S0 S hs) (v : Int64) : ∃ S1, f_X5_mix S h v = some S1 ∧ DM h z s b r o S0 S1 (mx hs v) := by
  obtain ⟨d1, d2, d3, d4⟩ := D
  unfold f_X5_mix
  rw [d3]
  exact ⟨_, rfl, d1.tr mfr.L, d2.q mfr.L rfl rfl (fun _ _ => rfl) rfl rfl, fL_s, d4⟩
theorem DM.sc {h z s b r : Nat} {o : OS} {S0 S S1 : PS} {hs : Int64} (D : DM h z s b r o S0 S hs) (c : scr S S1) : DM h z s b r o S0 S1 hs := ⟨D.1.tr c.m, D.2.1.scr c, (fL_92 c).trans D.2.2.1, by rw [c.2.2.1]; exact D.2.2.2⟩
theorem l7le {c : Nat} (e : Nat) (he : e < 2 ^ 31) (h : c ≤ e) : ¬ nI e < nI c := nlt h he
theorem g_told {h z s b r : Nat} {o : OS} (ho : OKs o) {S0 S : PS} {hs : Int64} (D : DM h z s b r o S0 S hs) {c : Nat} (hc : c < o.1.1) : ∃ S1, f_X5_mixCondition S h (nI c) = some S1 ∧ DM h z s b r o S0 S1 (dco o.1.2 o.1.1 c hs) := by
  have h10 := ho.1.1
  unfold f_X5_mixCondition
  obtain ⟨S1, e1, D1⟩ := lp_inv (L := fun n S d => f_X5_mixCondition_L2 f_X5_mixCondition_B25 n S h (nI c) (nI d)) (K := fun S => f_X5_mixCondition_B25 S h (nI c)) (e := 9) (P := fun d S => DM h z s b r o S0 S (fd (fun j => (tlw o.1.2 o.1.1 c j).toInt64) d hs)) (fun n S P => by
    show f_X5_mixCondition_L2s (f_X5_mixCondition_L2 f_X5_mixCondition_B25 n) f_X5_mixCondition_B25 S h (nI c) (nI 9) = _
    unfold f_X5_mixCondition_L2s
    rw [if_pos (show (8 : Int32) < nI 9 by decide)]) (fun n d S hd P => by
    show ∃ S1, f_X5_mixCondition_L2s (f_X5_mixCondition_L2 f_X5_mixCondition_B25 n) f_X5_mixCondition_B25 S h (nI c) (nI d) = f_X5_mixCondition_L2 f_X5_mixCondition_B25 n S1 h (nI c) (nI (d + 1)) ∧ _
    unfold f_X5_mixCondition_L2s
    obtain ⟨S1, e, cs⟩ := m_told (P.2.1.mv ho) h10 ho.1.2.2 hc d (by omega)
    obtain ⟨S2, e2, P2⟩ := (P.sc cs).mix (tlw o.1.2 o.1.1 c d).toInt64
    rw [if_neg (show ¬ (8 : Int32) < nI d from nlt (a := 8) (by omega) (by decide)), e, bd_s, e2, bd_s, nI_1]
    exact ⟨S2, rfl, P2⟩) FU 0 S (by omega) (by unfold FU; omega) D
  rw [show f_X5_mixCondition_L2 f_X5_mixCondition_B25 FU S h (nI c) 0 = _ from e1]
  unfold f_X5_mixCondition_B25
  obtain ⟨S2, e2, D2⟩ := lp_inv (L := fun n S d => f_X5_mixCondition_L27 f_X5_mixCondition_B61 n S h (nI c) (nI d)) (K := fun S => f_X5_mixCondition_B61 S h (nI c)) (e := o.1.1) (P := fun d S => DM h z s b r o S0 S (fd (fun d => (b2 (ag (o.1.2 c) (o.1.2 d))).toInt64) d (fd (fun j => (tlw o.1.2 o.1.1 c j).toInt64) 9 hs))) (fun n S P => by
    show f_X5_mixCondition_L27s (f_X5_mixCondition_L27 f_X5_mixCondition_B61 n) f_X5_mixCondition_B61 S h (nI c) (nI o.1.1) = _
    unfold f_X5_mixCondition_L27s
    have V := P.2.1.mv ho
    rw [m_z0 V, ck_t (m_in0 V), m_sz V, if_pos (Int32.le_refl _)]) (fun n d S hd P => by
    show ∃ S1, f_X5_mixCondition_L27s (f_X5_mixCondition_L27 f_X5_mixCondition_B61 n) f_X5_mixCondition_B61 S h (nI c) (nI d) = f_X5_mixCondition_L27 f_X5_mixCondition_B61 n S1 h (nI c) (nI (d + 1)) ∧ _
    unfold f_X5_mixCondition_L27s f_X5_mixCondition_B52
    have V := P.2.1.mv ho
    obtain ⟨S2, e2, P2⟩ := P.mix (b2 (ag (o.1.2 c) (o.1.2 d))).toInt64
    rw [m_z0 V, ck_t (m_in0 V), m_sz V, if_neg (nle hd (by omega)), m_go V hc hd, bd_s, nI_1]
    cases ha : ag (o.1.2 c) (o.1.2 d)
    · rw [ha] at e2 P2
      rw [b2_f, if_pos rfl, show (0 : Int64) = (b2 false).toInt64 from rfl, e2, bd_s]
      refine ⟨S2, rfl, ?_⟩
      show DM h z s b r o S0 S2 (mx _ (b2 (ag (o.1.2 c) (o.1.2 d))).toInt64)
      rw [ha]; exact P2
    · rw [ha] at e2 P2
      rw [b2_t, if_neg n10, show (1 : Int64) = (b2 true).toInt64 from rfl, e2, bd_s]
      refine ⟨S2, rfl, ?_⟩
      show DM h z s b r o S0 S2 (mx _ (b2 (ag (o.1.2 c) (o.1.2 d))).toInt64)
      rw [ha]; exact P2) FU 0 S1 (by omega) (by unfold FU; omega) D1
  rw [show f_X5_mixCondition_L27 f_X5_mixCondition_B61 FU S1 h (nI c) 0 = _ from e2]
  unfold f_X5_mixCondition_B61
  have V2 := D2.2.1.mv ho
  have l1 := wo_lt o.1.2 o.1.1 c
  have l2 : an (onm o.1.2 o.1.1) (2 ^ c) < 2 ^ (o.1.1 + 1) := Nat.lt_of_lt_of_le l1 (pw (by omega))
  obtain ⟨S3, e3, c3⟩ := m_joinedBy V2 l1 l2 h10 (wo_N ho.1 c) 0
  obtain ⟨S4, e4, D4⟩ := (D2.sc c3).mix (jb (an (onm o.1.2 o.1.1) (2 ^ c)) o.1.2 0)
  have V4 := D4.2.1.mv ho
  obtain ⟨S5, e5, c5⟩ := m_joinedBy V4 l1 l2 h10 (wo_N ho.1 c) 1
  obtain ⟨S6, e6, D6⟩ := (D4.sc c5).mix (jb (an (onm o.1.2 o.1.1) (2 ^ c)) o.1.2 1)
  rw [m_onSet V2, bd_s, n_shl (by omega), n_an, e3, bd_s, e4, bd_s, m_onSet V4, bd_s, n_an, e5, bd_s, e6, bd_s]
  exact ⟨S6, rfl, D6⟩
theorem g_prime {h z s b r : Nat} {o : OS} (ho : OKs o) {S0 S : PS} {hs : Int64} (D : DM h z s b r o S0 S hs) : ∃ S1, f_X5_mixPrimes S h = some S1 ∧ DM h z s b r o S0 S1 (dps o.1.2 o.1.1 12 hs) := by
  unfold f_X5_mixPrimes
  obtain ⟨S1, e1, D1⟩ := lp_inv (L := fun n S d => f_X5_mixPrimes_L2 f_X5_mixPrimes_B45 n S h (nI (d + 2))) (K := fun S => f_X5_mixPrimes_B45 S) (e := 12) (P := fun d S => DM h z s b r o S0 S (dps o.1.2 o.1.1 d hs)) (fun n S P => by
    show f_X5_mixPrimes_L2s (f_X5_mixPrimes_L2 f_X5_mixPrimes_B45 n) f_X5_mixPrimes_B45 S h (nI 14) = _
    unfold f_X5_mixPrimes_L2s
    rw [if_pos (show (13 : Int32) < nI 14 by decide)]) (fun n d S hd P => by
    show ∃ S1, f_X5_mixPrimes_L2s (f_X5_mixPrimes_L2 f_X5_mixPrimes_B45 n) f_X5_mixPrimes_B45 S h (nI (d + 2)) = f_X5_mixPrimes_L2 f_X5_mixPrimes_B45 n S1 h (nI (d + 3)) ∧ DM h z s b r o S0 S1 (dpx o.1.2 o.1.1 (d + 2) (dps o.1.2 o.1.1 d hs))
    unfold f_X5_mixPrimes_L2s
    rw [if_neg (show ¬ (13 : Int32) < nI (d + 2) from nlt (a := 13) (by omega) (by decide))]
    unfold dpx
    cases hp : prI (nI (d + 2))
    · rw [if_neg (by decide)]
      refine ⟨S, ?_, P⟩
      show f_X5_mixPrimes_L10s (f_X5_mixPrimes_L10 (f_X5_mixPrimes_B39 (f_X5_mixPrimes_L2 f_X5_mixPrimes_B45 n) f_X5_mixPrimes_B45) 2999) (f_X5_mixPrimes_B39 (f_X5_mixPrimes_L2 f_X5_mixPrimes_B45 n) f_X5_mixPrimes_B45) S h (nI (d + 2)) 0 = _
      unfold f_X5_mixPrimes_L10s f_X5_mixPrimes_B39
      rw [if_neg (by decide), m_isPrime, hp, bd_s, b2_f, if_pos rfl, nI_1]
    · rw [if_pos rfl]
      obtain ⟨S1, e1, D1⟩ := lp_inv (L := fun m S w => f_X5_mixPrimes_L10 (f_X5_mixPrimes_B39 (f_X5_mixPrimes_L2 f_X5_mixPrimes_B45 n) f_X5_mixPrimes_B45) m S h (nI (d + 2)) (nI w)) (K := fun S => f_X5_mixPrimes_B39 (f_X5_mixPrimes_L2 f_X5_mixPrimes_B45 n) f_X5_mixPrimes_B45 S h (nI (d + 2))) (e := 4) (P := fun w S => DM h z s b r o S0 S (fd (fun w => (tp o.1.2 o.1.1 (d + 2) (nI w)).toInt64) w (dps o.1.2 o.1.1 d hs))) (fun m S P => by
        show f_X5_mixPrimes_L10s (f_X5_mixPrimes_L10 (f_X5_mixPrimes_B39 (f_X5_mixPrimes_L2 f_X5_mixPrimes_B45 n) f_X5_mixPrimes_B45) m) (f_X5_mixPrimes_B39 (f_X5_mixPrimes_L2 f_X5_mixPrimes_B45 n) f_X5_mixPrimes_B45) S h (nI (d + 2)) (nI 4) = _
        unfold f_X5_mixPrimes_L10s
        rw [if_pos (show (3 : Int32) < nI 4 by decide)]) (fun m w S hw P => by
        show ∃ S1, f_X5_mixPrimes_L10s (f_X5_mixPrimes_L10 (f_X5_mixPrimes_B39 (f_X5_mixPrimes_L2 f_X5_mixPrimes_B45 n) f_X5_mixPrimes_B45) m) (f_X5_mixPrimes_B39 (f_X5_mixPrimes_L2 f_X5_mixPrimes_B45 n) f_X5_mixPrimes_B45) S h (nI (d + 2)) (nI w) = f_X5_mixPrimes_L10 (f_X5_mixPrimes_B39 (f_X5_mixPrimes_L2 f_X5_mixPrimes_B45 n) f_X5_mixPrimes_B45) m S1 h (nI (d + 2)) (nI (w + 1)) ∧ _
        unfold f_X5_mixPrimes_L10s
        obtain ⟨S2, e2, P2⟩ := P.mix (tp o.1.2 o.1.1 (d + 2) (nI w)).toInt64
        rw [if_neg (show ¬ (3 : Int32) < nI w from nlt (a := 3) (by omega) (by decide)), m_isPrime, hp, bd_s, b2_t, if_neg n10, m_toldPrime (P.2.1.mv ho) (by omega) (by omega) (nI w), bd_s, e2, bd_s, nI_1]
        exact ⟨S2, rfl, P2⟩) FU 0 S (by omega) (by unfold FU; omega) P
      refine ⟨S1, ?_, D1⟩
      rw [show f_X5_mixPrimes_L10 (f_X5_mixPrimes_B39 (f_X5_mixPrimes_L2 f_X5_mixPrimes_B45 n) f_X5_mixPrimes_B45) FU S h (nI (d + 2)) 0 = _ from e1]
      unfold f_X5_mixPrimes_B39
      rw [nI_1]) FU 0 S (by omega) (by unfold FU; omega) D
  rw [show f_X5_mixPrimes_L2 f_X5_mixPrimes_B45 FU S h 2 = _ from e1]
  exact ⟨S1, rfl, D1⟩
def o_digest (o : OS) : Nat × Int64 × OS := (0, dgs o, o)
theorem m_digest {S : PS} {h z s b r : Nat} {o : OS} (H : MM S h z s b r o) (ho : OKs o) : MG S h z s b r (f_X5_digest S h) (o_digest o) := by
  have h10 := ho.1.1
  have h60 := ho.2.2.2.1
  have D0 : DM h z s b r o S (sL (sI S 80 h 0) 92 h 2791) 2791 := ⟨(mfr.I).tr mfr.L, (H.t).q mfr.L rfl rfl (fun _ _ => rfl) rfl rfl, fL_s, fI_s⟩
  unfold f_X5_digest
  obtain ⟨S1, e1, D1⟩ := lp_inv (L := fun n S d => f_X5_digest_L14 f_X5_digest_B36 n S h (nI d)) (K := fun S => f_X5_digest_B36 S h) (e := 7) (P := fun d S' => DM h z s b r o S S' (fd (fun k => (cow o.1.2 o.1.1 o.2.1 k).toInt64) d 2791)) (fun n S P => by
    show f_X5_digest_L14s (f_X5_digest_L14 f_X5_digest_B36 n) f_X5_digest_B36 S h (nI 7) = _
    unfold f_X5_digest_L14s
    rw [if_pos (show (6 : Int32) < nI 7 by decide)]) (fun n d S' hd P => by
    show ∃ S1, f_X5_digest_L14s (f_X5_digest_L14 f_X5_digest_B36 n) f_X5_digest_B36 S' h (nI d) = f_X5_digest_L14 f_X5_digest_B36 n S1 h (nI (d + 1)) ∧ _
    unfold f_X5_digest_L14s
    obtain ⟨S1, e, cs⟩ := m_counted (P.2.1.mv ho) h10 ho.1.2.2 P.2.1.2.2.1 d (by omega)
    obtain ⟨S2, e2, P2⟩ := (P.sc cs).mix (cow o.1.2 o.1.1 o.2.1 d).toInt64
    rw [if_neg (show ¬ (6 : Int32) < nI d from nlt (a := 6) (by omega) (by decide)), e, bd_s, e2, bd_s, nI_1]
    exact ⟨S2, rfl, P2⟩) FU 0 _ (by omega) (by unfold FU; omega) D0
  rw [show f_X5_digest_L14 f_X5_digest_B36 FU (sL (sI S 80 h 0) 92 h 2791) h 0 = _ from e1]
  unfold f_X5_digest_B36
  have ol := onm_lt o.1.2 o.1.1
  have ol2 : onm o.1.2 o.1.1 < 2 ^ (o.1.1 + 1) := onm_k (by omega)
  have V1 := D1.2.1.mv ho
  obtain ⟨S2, e2, c2⟩ := m_joinedBy V1 ol ol2 h10 (tg_N ho.1.2.2) 0
  obtain ⟨S3, e3, D3⟩ := (D1.sc c2).mix (jb (onm o.1.2 o.1.1) o.1.2 0)
  have V3 := D3.2.1.mv ho
  obtain ⟨S4, e4, c4⟩ := m_joinedBy V3 ol ol2 h10 (tg_N ho.1.2.2) 1
  obtain ⟨S5, e5, D5⟩ := (D3.sc c4).mix (jb (onm o.1.2 o.1.1) o.1.2 1)
  rw [m_onSet V1, bd_s, e2, bd_s, e3, bd_s, m_onSet V3, bd_s, e4, bd_s, e5, bd_s]
  obtain ⟨S6, e6, D6⟩ := lp_inv (L := fun n S d => f_X5_digest_L64 f_X5_digest_B85 n S h (nI d)) (K := fun S => f_X5_digest_B85 S h) (e := o.1.1) (P := fun d S' => DM h z s b r o S S' (dcs o.1.2 o.1.1 d (mx (mx (fd (fun k => (cow o.1.2 o.1.1 o.2.1 k).toInt64) 7 2791) (jb (onm o.1.2 o.1.1) o.1.2 0)) (jb (onm o.1.2 o.1.1) o.1.2 1)))) (fun n S P => by
    show f_X5_digest_L64s (f_X5_digest_L64 f_X5_digest_B85 n) f_X5_digest_B85 S h (nI o.1.1) = _
    unfold f_X5_digest_L64s
    have V := P.2.1.mv ho
    rw [m_z0 V, ck_t (m_in0 V), m_sz V, if_pos (Int32.le_refl _)]) (fun n d S' hd P => by
    show ∃ S1, f_X5_digest_L64s (f_X5_digest_L64 f_X5_digest_B85 n) f_X5_digest_B85 S' h (nI d) = f_X5_digest_L64 f_X5_digest_B85 n S1 h (nI (d + 1)) ∧ _
    unfold f_X5_digest_L64s
    have V := P.2.1.mv ho
    obtain ⟨S2, e2, P2⟩ := g_told ho P hd
    rw [m_z0 V, ck_t (m_in0 V), m_sz V, if_neg (nle hd (by omega)), e2, bd_s, nI_1]
    exact ⟨S2, rfl, P2⟩) FU 0 S5 (by omega) (by unfold FU; omega) D5
  rw [show f_X5_digest_L64 f_X5_digest_B85 FU S5 h 0 = _ from e6]
  unfold f_X5_digest_B85
  obtain ⟨S7, e7, D7⟩ := g_prime ho D6
  rw [e7, bd_s]
  generalize hh7 : dps o.1.2 o.1.1 12 (dcs o.1.2 o.1.1 o.1.1 (mx (mx (fd (fun k => (cow o.1.2 o.1.1 o.2.1 k).toInt64) 7 2791) (jb (onm o.1.2 o.1.1) o.1.2 0)) (jb (onm o.1.2 o.1.1) o.1.2 1))) = h7 at D7
  obtain ⟨S8, e8, D8⟩ := lp_inv (L := fun n S d => f_X5_digest_L91 f_X5_digest_B112 n S h (nI d)) (K := fun S => f_X5_digest_B112 S h) (e := 3) (P := fun d S' => DM h z s b r o S S' (fd (fun i => aw o.1.2 o.1.1 0 i) d h7)) (fun n S P => by
    show f_X5_digest_L91s (f_X5_digest_L91 f_X5_digest_B112 n) f_X5_digest_B112 S h (nI 3) = _
    unfold f_X5_digest_L91s
    rw [if_pos (show (2 : Int32) < nI 3 by decide)]) (fun n d S' hd P => by
    show ∃ S1, f_X5_digest_L91s (f_X5_digest_L91 f_X5_digest_B112 n) f_X5_digest_B112 S' h (nI d) = f_X5_digest_L91 f_X5_digest_B112 n S1 h (nI (d + 1)) ∧ _
    unfold f_X5_digest_L91s
    obtain ⟨S1, e, cs⟩ := m_answered (P.2.1.mv ho) h10 ho.1.2.2 (y := 0) (i := d) (Nat.zero_le _) (by omega)
    obtain ⟨S2, e2, P2⟩ := (P.sc cs).mix (aw o.1.2 o.1.1 0 d)
    rw [if_neg (show ¬ (2 : Int32) < nI d from nlt (a := 2) (by omega) (by decide)), l0, e, bd_s, e2, bd_s, nI_1]
    exact ⟨S2, rfl, P2⟩) FU 0 S7 (by omega) (by unfold FU; omega) D7
  rw [show f_X5_digest_L91 f_X5_digest_B112 FU S7 h 0 = _ from e8]
  unfold f_X5_digest_B112
  obtain ⟨S9, e9, c9⟩ := m_answered (D8.2.1.mv ho) h10 ho.1.2.2 (y := 1000) (i := 0) (by unfold LIM; decide) (by decide)
  obtain ⟨S10, e10, D10⟩ := (D8.sc c9).mix (aw o.1.2 o.1.1 1000 0)
  obtain ⟨S11, e11, c11⟩ := m_nearest (D10.2.1.mv ho) h10 ho.1.2.2 (y := 500) (by unfold LIM; decide)
  obtain ⟨S12, e12, D12⟩ := (D10.sc c11).mix (nw o.1.2 o.1.1 500)
  obtain ⟨S13, e13, c13⟩ := m_between (D12.2.1.mv ho) h10 ho.1.2.2 (y := 0) (z := 9999) (Nat.zero_le _) (by unfold LIM; decide)
  obtain ⟨S14, e14, D14⟩ := (D12.sc c13).mix (lN (bw o.1.2 o.1.1 0 9999))
  have e15 := m_missed (D14.2.1.mv ho) (y := 0) (Nat.zero_le _)
  obtain ⟨S16, e16, D16⟩ := D14.mix (nI (msd o.1.2 o.1.1 0)).toInt64
  have e17 := m_missed (D16.2.1.mv ho) (y := 100) (by unfold LIM; decide)
  obtain ⟨S18, e18, D18⟩ := D16.mix (nI (msd o.1.2 o.1.1 100)).toInt64
  have e9 : f_X5_answered S8 h 1000 0 = some (aw o.1.2 o.1.1 1000 0, S9) := e9
  have e11 : f_X5_nearestTo S10 h 500 = some (nw o.1.2 o.1.1 500, S11) := e11
  have e13 : f_X5_manyBetween S12 h 0 9999 = some (lN (bw o.1.2 o.1.1 0 9999), S13) := e13
  have e15 : f_X5_missed S14 h 0 = some (nI (msd o.1.2 o.1.1 0)) := e15
  have e17 : f_X5_missed S16 h 100 = some (nI (msd o.1.2 o.1.1 100)) := e17
  rw [e9, bd_s, e10, bd_s, e11, bd_s, e12, bd_s, e13, bd_s, e14, bd_s, e15, bd_s, e16, bd_s, e17, bd_s, e18, bd_s]
  have g3 : gd (3, 1, 10, true) := ⟨by decide, by decide, by decide, by decide, by decide⟩
  have D18' : DM h z s b r o S S18 (dan o.1.2 o.1.1 h7) := D18
  generalize hh18 : dan o.1.2 o.1.1 h7 = h18 at D18'
  obtain ⟨S19, e19, D19⟩ := lp_inv (L := fun n S d => f_X5_digest_L171 f_X5_digest_B195 n S h (nI d)) (K := fun S => f_X5_digest_B195 S h) (e := 4) (P := fun d S' => DM h z s b r o S S' (fd (fun w => waw o.1.2 o.1.1 (3, 1, 10, true) w) d h18)) (fun n S P => by
    show f_X5_digest_L171s (f_X5_digest_L171 f_X5_digest_B195 n) f_X5_digest_B195 S h (nI 4) = _
    unfold f_X5_digest_L171s
    rw [if_pos (show (3 : Int32) < nI 4 by decide)]) (fun n d S' hd P => by
    show ∃ S1, f_X5_digest_L171s (f_X5_digest_L171 f_X5_digest_B195 n) f_X5_digest_B195 S' h (nI d) = f_X5_digest_L171 f_X5_digest_B195 n S1 h (nI (d + 1)) ∧ _
    unfold f_X5_digest_L171s
    obtain ⟨p1, p2, p3, p4⟩ := P
    obtain ⟨S1, e, w1, w2, w3, w4⟩ := m_wouldAdd p2 ho g3 (w := d) (by omega)
    have e : f_X5_wouldAdd S' h 3 1 10 (nI d) = some (waw o.1.2 o.1.1 (3, 1, 10, true) d, S1) := e
    have P1 : DM h z s b r o S S1 (fd (fun w => waw o.1.2 o.1.1 (3, 1, 10, true) w) d h18) := ⟨p1.tr w1, w2, w4.trans p3, w3.trans p4⟩
    obtain ⟨S2, e2, P2⟩ := P1.mix (waw o.1.2 o.1.1 (3, 1, 10, true) d)
    rw [if_neg (show ¬ (3 : Int32) < nI d from nlt (a := 3) (by omega) (by decide)), e, bd_s, e2, bd_s, nI_1]
    exact ⟨S2, rfl, P2⟩) FU 0 S18 (by omega) (by unfold FU; omega) D18'
  rw [show f_X5_digest_L171 f_X5_digest_B195 FU S18 h 0 = _ from e19]
  unfold f_X5_digest_B195
  have e20 : f_X5_mostTogether S19 h = some (nI (mo o)) := m_most (D19.2.1.mv ho) h10
  obtain ⟨S21, e21, D21⟩ := D19.mix (nI (mo o)).toInt64
  have e22 := m_blamed (D21.2.1.mv ho)
  obtain ⟨S23, e23, D23⟩ := D21.mix (bst (blw o.1.2 o.1.1) 0 o.1.1).1.toInt64
  obtain ⟨S24, e24, c24⟩ := m_share (D23.2.1.mv ho) h10 ho.1.2.2
  have e25 := (dnv_bits (f := o.1.2) (sz := o.1.1) (on_N ho)).1
  obtain ⟨S26, e26, D26⟩ := (D23.sc c24).mix (dbt o.1.2 o.1.1)
  obtain ⟨S27, e27, D27⟩ := D26.mix (nI o.2.2.2.1).toInt64
  rw [e20, bd_s, e21, bd_s, e22, bd_s, e23, bd_s, e24, bd_s, e25, bd_s, e26, bd_s, D26.2.1.2.2.2.2.1, e27, bd_s]
  generalize hh27 : mx (mx (mx (mx (fd (fun w => waw o.1.2 o.1.1 (3, 1, 10, true) w) 4 h18) (nI (mo o)).toInt64) (bst (blw o.1.2 o.1.1) 0 o.1.1).1.toInt64) (dbt o.1.2 o.1.1)) (nI o.2.2.2.1).toInt64 = h27 at D27
  obtain ⟨S28, e28, D28⟩ := lp_inv (L := fun n S d => f_X5_digest_L235 f_X5_digest_B260 n S h (nI d)) (K := fun S => f_X5_digest_B260 S h) (e := o.2.2.2.1) (P := fun d S' => DM h z s b r o S S' (fd (fun j => (nI (o.2.2.2.2 j)).toInt64) d h27)) (fun n S P => by
    show f_X5_digest_L235s (f_X5_digest_L235 f_X5_digest_B260 n) f_X5_digest_B260 S h (nI o.2.2.2.1) = _
    unfold f_X5_digest_L235s
    rw [P.2.1.2.2.2.2.1, if_pos (Int32.le_refl _)]) (fun n d S' hd P => by
    show ∃ S1, f_X5_digest_L235s (f_X5_digest_L235 f_X5_digest_B260 n) f_X5_digest_B260 S' h (nI d) = f_X5_digest_L235 f_X5_digest_B260 n S1 h (nI (d + 1)) ∧ _
    unfold f_X5_digest_L235s
    obtain ⟨S2, e2, P2⟩ := P.mix (nI (o.2.2.2.2 d)).toInt64
    rw [P.2.1.2.2.2.2.1, if_neg (nle hd (by omega)), rb P.2.1.1, ck_t (jbf P.2.1.1 (by omega)), nI_clamp (by omega), P.2.1.2.2.2.2.2 d hd, e2, bd_s, nI_1]
    exact ⟨S2, rfl, P2⟩) FU 0 S27 (by omega) (by unfold FU; omega) D27
  rw [show f_X5_digest_L235 f_X5_digest_B260 FU S27 h 0 = _ from e28]
  unfold f_X5_digest_B260
  refine ⟨S28, _, rfl, D28.1, D28.2.2.2, fun _ => ?_, D28.2.1⟩
  rw [D28.2.2.1]
  show _ = dgs o
  rw [← hh27, ← hh18, ← hh7]
  rfl

/-! ===== loadMap: the law's case 1 ===== -/
section ML
variable {V : Nat → Nat} {g f0 : GH} {m b L : Nat} {z z0 : Nat → Int32} {A : Nat → Nat → Int32} {B : Nat → Int32} {σ : PS}
theorem M_start (hL : L ≤ 700) (hA : A 6 = B) : ∃ z1, p_X8_startText V g (mH V m b z A f0) m (nn L) = some (mH V m b z1 A f0) ∧ PR z1 z1 L (ps_0 B L) ∧ ∀ k, k ≠ 14 → k ≠ 15 → k ≠ 16 → k ≠ 17 → k ≠ 18 → k ≠ 19 → k ≠ 21 → z1 k = z k := by
  subst hA
  obtain ⟨z1, e1, e2, e3, e4, e5⟩ := M_scan (V := V) (g := g) (m := m) (b := b) (f0 := f0) (A := A) (z := upd (upd (upd (upd z 14 (nn L)) 15 0) 18 0) 21 0) hL (i := 0) (Nat.zero_le L) (by rw [upd_n _ _ (by decide), upd_n _ _ (by decide), upd_n _ _ (by decide), upd_s]) (by rw [upd_n _ _ (by decide), upd_n _ _ (by decide), upd_s]; rfl)
  have h14 : z1 14 = nn L := by rw [e5 14 (by decide) (by decide) (by decide) (by decide) (by decide), upd_n _ _ (by decide), upd_n _ _ (by decide), upd_n _ _ (by decide), upd_s]
  have h18 : z1 18 = 0 := by rw [e3, upd_n _ _ (by decide), upd_s]
  refine ⟨z1, ?_, ⟨h14, e2, h18, fun h => absurd rfl h, fun _ _ _ _ _ _ => rfl⟩, fun k a1 a2 a3 a4 a5 a6 a7 => ?_⟩
  · unfold p_X8_startText
    rw [m_me, m_pt (k := 14) (by decide), ob_s, m_pt (k := 15) (by decide), ob_s, m_pt (k := 18) (by decide), ob_s, m_pt (k := 21) (by decide), ob_s, e1, ob_s]
  · rw [e5 k a2 a3 a4 a5 a6, upd_n _ _ a7, upd_n _ _ a5, upd_n _ _ a2, upd_n _ _ a1]
theorem M_faulty (P : PR z0 z L σ) : ∃ z3, p_X8_isFaulty V g (mH V m b z A f0) m = some (bz (decide (pE σ ≠ 0)), mH V m b z3 A f0) ∧ z3 13 = 0 ∧ z3 8 = pE σ ∧ z3 20 = pO σ ∧ ∀ k, k ≠ 13 → k ≠ 20 → k ≠ 8 → z3 k = z k := by
  obtain ⟨p1, p2, p5, p6, p7⟩ := P
  refine ⟨upd (upd (upd z 13 0) 20 (pO σ)) 8 (pE σ), ?_, ?_, upd_s _ _ _, ?_, fun k a1 a2 a3 => ?_⟩
  · unfold p_X8_isFaulty p_X8_finish
    rw [m_me, m_me, m_pt (k := 13) (by decide), ob_s, m_gi (k := 18) (by decide), upd_n _ _ (by decide), p5, ob_s]
    unfold pO
    by_cases h : pE σ = 0
    · rw [if_pos h, m_pt (k := 20) (by decide), ob_s, m_gi (k := 18) (by decide), upd_n _ _ (by decide), upd_n _ _ (by decide), p5, ob_s, ob_s, m_pt (k := 8) (by decide), ob_s, m_gi (k := 8) (by decide), upd_s, ob_s, if_pos h, if_pos h, decide_eq_false (fun q => q h)]
      rfl
    · rw [if_neg h, m_gi (k := 19) (by decide), upd_n _ _ (by decide), p6 h, ob_s, m_pt (k := 20) (by decide), ob_s, m_gi (k := 18) (by decide), upd_n _ _ (by decide), upd_n _ _ (by decide), p5, ob_s, ob_s, m_pt (k := 8) (by decide), ob_s, m_gi (k := 8) (by decide), upd_s, ob_s, if_neg h, if_neg h, decide_eq_true h]
      rfl
  · rw [upd_n _ _ (by decide), upd_n _ _ (by decide), upd_s]
  · rw [upd_n _ _ (by decide), upd_s]
  · rw [upd_n _ _ a3, upd_n _ _ a2, upd_n _ _ a1]
theorem M_isLen {bl : Nat} (hb : bl ≤ 700) (hz : z 13 = nn bl) (a : Int32) : p_X8_isLength V g (mH V m b z A f0) m a = some (bz (inC (bl + 1) a)) := by
  unfold p_X8_isLength
  rw [m_me, m_gi (k := 13) (by decide), hz, ob_s, M_range, ob_s, hbz, ob_s, show decide (¬ a < 0 ∧ ¬ nn bl < a) = inC (bl + 1) a from s_inL (by omega) a]
end ML
section IL
variable {V : Nat → Nat} {g f f1 f2 : GH} {x m o d u p u1 p1 : Nat} {z z1 : Nat → Int32} {A A1 : Nat → Nat → Int32} {T T1 S S1 : TS} {H H1 : Nat → TS} {hs hs1 : Int32}
theorem IV.gen (F2 : FR V x m o d f2 z1 A1) (e2 : ∀ a, a < m ∨ d < a → f2 a = f1 a) (X1 : XoA f1 x hs1 (nn u1) (nn p1)) (C1 : ChA f1 (x + 1) T1) (P1 : PaA f1 x u1 p1 H1) (hS : hs1 = 1 → ChA f1 (x + 41) S1) (K1 : ∃ v a q r w k c, CmA f1 (x + 66) V v a q r w k c) (K : KR V f1 x d z1 A1) (r : RT (A1 0) T1 ∧ HsA A1 u1 H1 ∧ (hs1 = 1 → RT (A1 3) S1)) (t : TV T1 ∧ (∀ k, k < u1 → TV (H1 k)) ∧ (hs1 = 1 → TV S1) ∧ u1 ≤ 8 ∧ p1 < 8 ∧ (hs1 = 0 ∨ hs1 = 1)) (zz : z1 6 = nn u1 ∧ z1 9 = hs1) : IV V x m o d f2 z1 A1 T1 hs1 u1 p1 H1 S1 := by
  have hm := F2.2.2.2.1
  refine ⟨F2, r, t, zz, ⟨X1.fr (e2 x (by omega)), C1.frame (fun a h1 h2 => e2 a (by omega)), P1.frame (fun a h => e2 a (by omega)), fun h => (hS h).frame (fun a h1 h2 => e2 a (by omega))⟩, ?_, K.frame (fun a h => e2 a (by omega)) rfl rfl rfl rfl rfl rfl⟩
  obtain ⟨v, a, q, r, w, k, c, h⟩ := K1
  exact ⟨v, a, q, r, w, k, c, h.frame (fun b h1 h2 => e2 b (by omega))⟩
theorem P_reqText {bl : Nat} {len kd st nx : Int32} (X : XoA f x hs (nn u) (nn p)) (hb : bl ≤ 700) (t3 : f (x + 62) = some (.inr (8, [.ref (x + 63), .int (nn bl), .int len, .int kd, .int st, .int nx]))) (a : Int32) : p_X7_requireText V g f x a = some (if inC (bl + 1) a = true then .inr () else .inl 1) := by
  unfold p_X7_requireText
  rw [X.me, X.tk, ob_s, hgi_of t3 rfl, ob_s, P_within, show s_in 0 (nn bl) a = inC (bl + 1) a from s_inL (by omega) a]
  cases inC (bl + 1) a <;> rfl
/-- what a text's reading leaves of the tokens and the grammar -/
theorem TkR.done {L : Nat} {bs : Nat → Int32} {σ : PS} {it kg : Int32} (P : PG x 0 L bs σ it kg f) (h13 : z 13 = 0) : TkR f x z A :=
  ⟨0, nn L, nn (kD (pT σ)), nn (kS (pT σ)), nn (kN (pT σ)), bs, Nat.zero_le _, h13, P.1, P.2.1, fun i hi => absurd hi (Nat.not_lt_zero i)⟩
theorem GrR.done {bl L : Nat} {bs : Nat → Int32} {σ : PS} {it kg : Int32} (P : PG x bl L bs σ it kg f) (h8 : z 8 = pE σ) (h20 : z 20 = pO σ) (hkg : kg = 0 ∨ kg = 1) : GrR f x z :=
  ⟨it, kg, by rw [h8, h20]; exact P.2.2, hkg⟩
theorem PG.held {bl L : Nat} {bs : Nat → Int32} {σ : PS} {it kg : Int32} (P : PG x bl L bs σ it kg f) : ∃ f1, h_pt f (x + 62) 8 1 (.int (0 : Int32)) = some f1 ∧ PG x 0 L bs σ it kg f1 ∧ ∀ a, a ≠ x + 62 → f1 a = f a :=
  ⟨_, hpt_of P.1 (by decide : 1 < 6), ⟨h_up_s _ _ _, (h_up_n _ _ (by omega)).trans P.2.1, (h_up_n _ _ (by omega)).trans P.2.2⟩, fun _ ha => h_up_n f _ ha⟩
theorem C_startL (C : ChA f x T) : ∃ f1, p_X1_startLedgers V g f x = some f1 ∧ ChA f1 x (tN T, tK T, s_pts T, 0, 0, tC T) ∧ h_out x (x + 1) f f1 := by
  obtain ⟨f1, e1, C1, o1⟩ := C.sL (s_pts T)
  obtain ⟨f2, e2, C2, o2⟩ := C1.sA 0
  obtain ⟨f3, e3, C3, o3⟩ := C2.sR 0
  refine ⟨f3, ?_, C3, o1.tr (o2.tr o3)⟩
  unfold p_X1_startLedgers
  rw [C.me, C_pts C, ob_s, e1, ob_s, e2, ob_s, e3, ob_s]
theorem KR.txt (K : KR V f x d z A) (hc : ∃ T0, ChA f1 (x + 21) T0) (ht : TkR f1 x z1 A1) (hg : GrR f1 x z1) (hsc : ScR V f1 x) (e : ∀ a, (x + 41 ≤ a ∧ a < x + 61 ∨ x + 70 ≤ a ∧ a < x + 75 ∨ d < a) → f1 a = f a) (h11 : z1 11 = z 11) (a5 : A1 5 = A 5) : KR V f1 x d z1 A1 := by
  obtain ⟨_, ⟨T1, k2⟩, _, _, _, ⟨c, k3⟩, ⟨va, cap, ol, bb, ml, b1, b2, b3, b4, b5, b6, b7, b8, b9, b10⟩⟩ := K
  exact ⟨hc, ⟨T1, k2.frame (fun a h1 h2 => e a (by omega))⟩, ht, hg, hsc, ⟨c, k3.frame (fun a h1 h2 => e a (by omega))⟩, ⟨va, cap, ol, bb, ml, h11.trans b1, b2, b3, b4, b5, (e _ (by omega)).trans b6, (e _ (by omega)).trans b7, b8, b9, fun i hi => by rw [a5]; exact b10 i hi⟩⟩
theorem ScR.frame (h : ScR V f x) (e : ∀ a, (a = x + 65 ∨ x + 235 ≤ a ∧ a < x + 315) → f1 a = f a) : ScR V f1 x := by
  obtain ⟨⟨ra, s1, s2⟩, s3⟩ := h
  refine ⟨⟨ra, (e _ (Or.inl rfl)).trans s1, s2⟩, fun j hj => ?_⟩
  obtain ⟨v, a, q, r, w, k, c, hc⟩ := s3 j hj
  exact ⟨v, a, q, r, w, k, c, hc.frame (fun b h1 h2 => e b (Or.inr (by omega)))⟩
theorem MSV.whole {B : Nat → Int32} {L : Nat} : MSV (ps_whole B L).1 := MSV.map n6 mp_0 (ps_m3 B L) (by rw [n6_eq]; rfl) ⟨Nat.zero_le _, fun i hi => absurd hi (Nat.not_lt_zero i)⟩
/-- the map that was read, with its ledgers -/
def T_new (R : MS) (k : Int32) : TS := (R.1, k, s_pts (R.1, k, 0, 0, 0, R.2), 0, 0, R.2)
theorem T_new_v {R : MS} {k : Int32} (h : MSV R) (hk : k = 0 ∨ k = 1) : TV (T_new R k) := ⟨h.1, hk, fun i hi => (h.2 i hi).1⟩
theorem M_load {bl L : Nat} (S0 : StOK V g) (hb : bl ≤ 700) (hL : L ≤ bl) (b2 : z 13 = nn bl) (f0 : GH) : ∃ w z4 A4, p_X8_loadMap V g (mH V m 0 z A f0) m (nn L) = some (w, mH V m 0 z4 A4 f0) ∧ z4 7 = 0 ∧ z4 13 = 0 ∧ z4 8 = pE (ps_whole (A 6) L).2 ∧ z4 20 = pO (ps_whole (A 6) L).2 ∧ z4 11 = z 11 ∧ (∀ j, j ≠ 0 → j ≠ 1 → j ≠ 7 → A4 j = A j) ∧ (pE (ps_whole (A 6) L).2 = 0 → w = nn (ps_whole (A 6) L).1.1 ∧ RT (A4 0) (T_new (ps_whole (A 6) L).1 (ps_king (A 6) L)) ∧ z4 6 = 0 ∧ z4 9 = 0) ∧ (pE (ps_whole (A 6) L).2 ≠ 0 → w = -1 ∧ A4 0 = A 0 ∧ z4 6 = z 6 ∧ z4 9 = z 9) := by
  have hlen : inC (bl + 1) (nn L) = true := inC_nn (by omega) (by omega)
  have hMV : MSV (ps_whole (A 6) L).1 := MSV.whole
  have hkk : ps_king (A 6) L = 0 ∨ ps_king (A 6) L = 1 := bz_i01 _
  obtain ⟨z1, e1, P1, o1⟩ := M_start (V := V) (g := g) (m := m) (b := 0) (z := upd z 7 0) (f0 := f0) (by omega : L ≤ 700) (rfl : A 6 = A 6)
  obtain ⟨z2, A2, e2, P2, R2, o2⟩ := M_map (V := V) (g := g) (m := m) (f0 := f0) S0 (by omega : L ≤ 700) rfl P1
  generalize ps_whole (A 6) L = R at *
  generalize ps_king (A 6) L = kk at *
  obtain ⟨z3, e3, y1, y2, y3, y4⟩ := M_faulty (V := V) (g := g) (m := m) (b := 0) (A := upA A2 1 (upd (upd (upd (A2 1) 2 (s_pts (R.1.1, kk, 0, 0, 0, R.1.2))) 3 0) 4 0)) (f0 := f0) P2
  have hpts := M_pts (V := V) (g := g) (f0 := f0) (m := m) (z := z2) (by decide) R2 hMV.1
  have hre : p_X8_restartLedgers V g (mH V m 1 z2 A2 f0) m = some (mH V m 1 z2 (upA A2 1 (upd (upd (upd (A2 1) 2 (s_pts (R.1.1, kk, 0, 0, 0, R.1.2))) 3 0) 4 0)) f0) := by
    unfold p_X8_restartLedgers
    rw [m_me, m_row, ob_s, hpts, ob_s, m_s2 (by decide), ob_s, m_row, ob_s, m_s3 (by decide), ob_s, m_row, ob_s, m_s4 (by decide), ob_s, upA_up, upA_up, upA_s, upA_s]
    rfl
  have hT : RT (upd (upd (upd (A2 1) 2 (s_pts (R.1.1, kk, 0, 0, 0, R.1.2))) 3 0) 4 0) (T_new R.1 kk) := by
    obtain ⟨w0, w1, w2, w3, w4, w5⟩ := R2
    exact ⟨by rw [upd_n _ _ (by decide), upd_n _ _ (by decide), upd_n _ _ (by decide)]; exact w0, by rw [upd_n _ _ (by decide), upd_n _ _ (by decide), upd_n _ _ (by decide)]; exact w1, by rw [upd_n _ _ (by decide), upd_n _ _ (by decide), upd_s]; rfl, by rw [upd_n _ _ (by decide), upd_s]; rfl, upd_s _ _ _, fun i hi => (w5 i hi).frame (hMV.2 i hi).1.n2 (fun k h1 h2 => by rw [upd_n _ _ (by omega), upd_n _ _ (by omega), upd_n _ _ (by omega)])⟩
  have zk : ∀ k, k < 13 → k ≠ 8 → k ≠ 7 → z3 k = z k := fun k k13 k8 k7 => by
    rw [y4 k (by omega) (by omega) k8, P2.2.2.2.2 k (by omega) (by omega) (by omega) (by omega) (by omega), o1 k (by omega) (by omega) (by omega) (by omega) (by omega) (by omega) (by omega), upd_n _ _ k7]
  have z37 : z3 7 = 0 := by rw [y4 7 (by decide) (by decide) (by decide), P2.2.2.2.2 7 (by decide) (by decide) (by decide) (by decide) (by decide), o1 7 (by decide) (by decide) (by decide) (by decide) (by decide) (by decide) (by decide), upd_s]
  generalize hA3 : upA A2 1 (upd (upd (upd (A2 1) 2 (s_pts (R.1.1, kk, 0, 0, 0, R.1.2))) 3 0) 4 0) = A3 at e3 hre
  have hT3 : RT (A3 1) (T_new R.1 kk) := by rw [← hA3, upA_s]; exact hT
  have oA3 : ∀ j, j ≠ 1 → j ≠ 7 → A3 j = A j := fun j j1 j7 => by rw [← hA3, upA_n _ _ j1]; exact o2 j j1 j7
  have hun : p_X8_loadMap V g (mH V m 0 z A f0) m (nn L) = if bz (decide (pE R.2 ≠ 0)) = (0 : Int32) then (h_gr (mH V m 0 z3 A3 f0) m 10 1).bind fun v13 => (h_gr (mH V m 0 z3 A3 f0) m 10 0).bind fun v14 => (p_X8_copy V g (mH V m 0 z3 A3 f0) v13 (0 : Int32) v14 (0 : Int32)).bind fun v15 => (h_pt v15 m 10 6 (.int (0 : Int32))).bind fun f16 => (h_pt f16 m 10 9 (.int (0 : Int32))).bind fun f17 => (h_gr f17 m 10 5).bind fun v18 => (h_li f17 v18 0 (1 : Int32)).bind fun v19 => some (v19, f17) else some ((-1 : Int32), mH V m 0 z3 A3 f0) := by
    unfold p_X8_loadMap
    rw [m_me, M_isLen hb b2, hlen, ob_s, show bz true = (1 : Int32) from rfl, M_lacksT, ob_s, if_pos rfl, e1, ob_s, m_r1, ob_s, m_ptr, ob_s, e2, ob_s, hre, ob_s, m_r0, ob_s, m_ptr, ob_s, e3, ob_s]
  by_cases h0 : pE R.2 = 0
  · have hc := M_copyR (V := V) (g := g) (m := m) (b := 0) (z := z3) (A := A3) (f0 := f0) (i := 1) (j := 0) (k := 0) (l := 0) (by decide) (by decide) (by decide) (by decide)
    have hc' : p_X8_copy V g (mH V m 0 z3 A3 f0) (m + 1 + 1) (0 : Int32) (m + 1 + 0) (0 : Int32) = some (mH V m 0 z3 (upA A3 0 (va_cpy (A3 1) (A3 0) 0 0 1825)) f0) := hc
    have hT0 : RT (va_cpy (A3 1) (A3 0) 0 0 1825) (T_new R.1 kk) := hT3.cp (T_new_v hMV hkk)
    refine ⟨nn R.1.1, upd (upd z3 6 0) 9 0, upA A3 0 (va_cpy (A3 1) (A3 0) 0 0 1825), ?_, ?_, ?_, ?_, ?_, ?_, fun j j0 j1 j7 => (upA_n _ _ j0).trans (oA3 j j1 j7), fun _ => ⟨rfl, by rw [upA_s]; exact hT0, ?_, upd_s _ _ _⟩, fun h => absurd h0 h⟩
    · rw [hun, decide_eq_false (fun q => q h0), if_pos bz_f, m_r1, ob_s, m_r0, ob_s, hc', ob_s, m_pt (k := 6) (by decide), ob_s, m_pt (k := 9) (by decide), ob_s, m_row, ob_s, m_l1 (by decide), upA_s, hT0.2.1, ob_s]
      rfl
    · rw [upd_n _ _ (by decide), upd_n _ _ (by decide)]; exact z37
    · rw [upd_n _ _ (by decide), upd_n _ _ (by decide)]; exact y1
    · rw [upd_n _ _ (by decide), upd_n _ _ (by decide)]; exact y2
    · rw [upd_n _ _ (by decide), upd_n _ _ (by decide)]; exact y3
    · rw [upd_n _ _ (by decide), upd_n _ _ (by decide)]; exact zk 11 (by decide) (by decide) (by decide)
    · rw [upd_n _ _ (by decide), upd_s]
  · refine ⟨-1, z3, A3, ?_, z37, y1, y2, y3, zk 11 (by decide) (by decide) (by decide), fun j _ j1 j7 => oA3 j j1 j7, fun h => absurd h h0, fun _ => ⟨rfl, oA3 0 (by decide) (by decide), zk 6 (by decide) (by decide) (by decide), zk 9 (by decide) (by decide) (by decide)⟩⟩
    rw [hun, decide_eq_true h0, if_neg bz_tn]
theorem P_load {bl L : Nat} {bs B : Nat → Int32} {len kd st nx cc oo it kg : Int32} {T0 : TS} (S0 : StOK V g) (X : XoA f x hs (nn u) (nn p)) (C : ChA f (x + 1) T) (C0 : ChA f (x + 21) T0) (hb : bl ≤ 700) (hL : L ≤ bl) (b3 : f (x + 62) = some (.inr (8, [.ref (x + 63), .int (nn bl), .int len, .int kd, .int st, .int nx]))) (b4 : f (x + 63) = some (.inl (1, 700, .inl bs))) (g1 : f (x + 64) = some (.inr (7, [.ref (x + 62), .int cc, .int oo, .int it, .int kg]))) (hkg : kg = 0 ∨ kg = 1) (hB : ∀ i, i < L → BR (bs i) (B i)) :
    ∃ f9 it1 kg1, p_X7_loadMap V g f x (nn L) = some (.inr (if pE (ps_whole B L).2 = 0 then nn (ps_whole B L).1.1 else -1, f9)) ∧ PG x 0 L bs (ps_whole B L).2 it1 kg1 f9 ∧ (kg1 = 0 ∨ kg1 = 1) ∧ (∃ T0, ChA f9 (x + 21) T0) ∧ (∀ b, (b < x ∨ x + 41 ≤ b ∧ b < x + 62 ∨ x + 65 ≤ b) → f9 b = f b) ∧ (pE (ps_whole B L).2 = 0 → XoA f9 x 0 0 (nn p) ∧ ChA f9 (x + 1) (T_new (ps_whole B L).1 (ps_king B L))) ∧ (pE (ps_whole B L).2 ≠ 0 → XoA f9 x hs (nn u) (nn p) ∧ ChA f9 (x + 1) T) := by
  have hlen : inC (bl + 1) (nn L) = true := inC_nn (by omega) (by omega)
  have hMV : MSV (ps_whole B L).1 := MSV.whole
  have hkk : ps_king B L = 0 ∨ ps_king B L = 1 := bz_i01 _
  obtain ⟨f1, i1, kg1, c1, c2, c3, c4, c5, c6⟩ := C_map (V := V) (g := g) (x := x) (T := T0) S0 b3 b4 g1 (by omega : L ≤ 700) hB C0 hkg
  generalize ps_whole B L = R at *
  generalize ps_king B L = kk at *
  obtain ⟨f6, e6, P6, o6⟩ := c2.held
  have oo6 : ∀ b, (b < x + 21 ∨ x + 41 ≤ b ∧ b < x + 62 ∨ x + 65 ≤ b) → f6 b = f b := fun b hb => (o6 b (by omega)).trans (c6 b hb)
  have X1 : XoA f1 x hs (nn u) (nn p) := X.fr (c6 x (by omega))
  have X6 : XoA f6 x hs (nn u) (nn p) := X.fr (oo6 x (by omega))
  have C1 : ChA f6 (x + 1) T := C.frame (fun b h1 h2 => oo6 b (by omega))
  have hun : p_X7_loadMap V g f x (nn L) = if bz (decide (pE R.2 = 0)) = (0 : Int32) then some (.inr ((-1 : Int32), f6)) else (h_gr f6 x 9 1).bind fun v8 => (p_X1_startLedgers V g f6 v8).bind fun v9 => (h_gr v9 x 9 0).bind fun v10 => (h_gr v9 x 9 1).bind fun v11 => (p_X1_copyFrom V g v9 v10 v11).bind fun v12 => (h_pt v12 x 9 5 (.int (0 : Int32))).bind fun f13 => (h_pt f13 x 9 3 (.int (0 : Int32))).bind fun f14 => (h_gr f14 x 9 0).bind fun v15 => (h_gi f14 v15 4 1).bind fun v16 => some (.inr (v16, f14)) := by
    unfold p_X7_loadMap
    rw [X.me, P_reqText X hb b3, hlen, if_pos rfl, xb_r, X.gr, ob_s, X.ld, ob_s, c1, ob_s, X1.tk, ob_s, e6, ob_s]
  rw [hun]
  by_cases h0 : pE R.2 = 0
  · obtain ⟨l0, a0, r0, C6⟩ := c5 h0
    have C6' : ChA f6 (x + 21) (R.1.1, kk, l0, a0, r0, R.1.2) := C6.frame (fun b h1 h2 => o6 b (by omega))
    obtain ⟨f7, e7, C7, o7⟩ := C_startL (V := V) (g := g) C6'
    have C7' : ChA f7 (x + 21) (T_new R.1 kk) := C7
    have X7 : XoA f7 x hs (nn u) (nn p) := X6.fr (o7 x (by omega))
    obtain ⟨f8, e8, C8, o8⟩ := C_copyChart (V := V) (g := g) C7' (T_new_v hMV hkk) (C1.frame (fun b h1 h2 => o7 b (by omega)) : ChA f7 (x + 1) T) (by omega)
    have X8 : XoA f8 x hs (nn u) (nn p) := X7.fr (o8 x (by omega))
    obtain ⟨f9, e9, X9, o9⟩ := X8.sPC (0 : Int32)
    have e10 : h_pt f9 x 9 3 (.int (0 : Int32)) = some (h_up f9 x (.inr (9, [.ref (x + 1), .ref (x + 21), .ref (x + 41), .int 0, .ref (x + 61), .int 0, .int (nn p), .ref (x + 62), .ref (x + 64), .ref (x + 65), .ref (x + 66), .ref (x + 70), .ref (x + 73)]))) := hpt_of X9 (by decide : 3 < 13)
    have X10 : XoA (h_up f9 x (.inr (9, [.ref (x + 1), .ref (x + 21), .ref (x + 41), .int 0, .ref (x + 61), .int 0, .int (nn p), .ref (x + 62), .ref (x + 64), .ref (x + 65), .ref (x + 66), .ref (x + 70), .ref (x + 73)]))) x 0 0 (nn p) := h_up_s _ _ _
    have oo10 : ∀ b, b ≠ x → (b < x + 1 ∨ x + 22 ≤ b) → h_up f9 x (.inr (9, [.ref (x + 1), .ref (x + 21), .ref (x + 41), .int 0, .ref (x + 61), .int 0, .int (nn p), .ref (x + 62), .ref (x + 64), .ref (x + 65), .ref (x + 66), .ref (x + 70), .ref (x + 73)])) b = f6 b := fun b h1 h2 => (h_up_n f9 _ h1).trans ((o9 b h1).trans ((o8 b (by omega)).trans (o7 b (by omega))))
    have C10 : ChA (h_up f9 x (.inr (9, [.ref (x + 1), .ref (x + 21), .ref (x + 41), .int 0, .ref (x + 61), .int 0, .int (nn p), .ref (x + 62), .ref (x + 64), .ref (x + 65), .ref (x + 66), .ref (x + 70), .ref (x + 73)]))) (x + 1) (T_new R.1 kk) := C8.frame (fun b h1 h2 => (h_up_n f9 _ (by omega)).trans (o9 b (by omega)))
    have C21 : ChA (h_up f9 x (.inr (9, [.ref (x + 1), .ref (x + 21), .ref (x + 41), .int 0, .ref (x + 61), .int 0, .int (nn p), .ref (x + 62), .ref (x + 64), .ref (x + 65), .ref (x + 66), .ref (x + 70), .ref (x + 73)]))) (x + 21) (T_new R.1 kk) := C7'.frame (fun b h1 h2 => (h_up_n f9 _ (by omega)).trans ((o9 b (by omega)).trans (o8 b (by omega))))
    generalize h_up f9 x (.inr (9, [.ref (x + 1), .ref (x + 21), .ref (x + 41), .int 0, .ref (x + 61), .int 0, .int (nn p), .ref (x + 62), .ref (x + 64), .ref (x + 65), .ref (x + 66), .ref (x + 70), .ref (x + 73)])) = f10 at *
    rw [bz_e0 h0, if_neg (by decide), if_pos h0]
    refine ⟨f10, i1, kg1, ?_, P6.fr (fun b h1 h2 => oo10 b (by omega) (by omega)), c3, ⟨_, C21⟩, fun b hb => (oo10 b (by omega) (by omega)).trans (oo6 b (by omega)), fun _ => ⟨X10, C10⟩, fun h => absurd h0 h⟩
    rw [X6.ld, ob_s, e7, ob_s, X7.ch, ob_s, X7.ld, ob_s, e8, ob_s, e9, ob_s, e10, ob_s, X10.ch, ob_s, C10.n, ob_s]
    rfl
  · rw [bz_e1 h0, if_pos rfl, if_neg h0]
    obtain ⟨T9, C9⟩ := c4
    exact ⟨f6, i1, kg1, rfl, P6, c3, ⟨T9, C9.frame (fun b h1 h2 => o6 b (by omega))⟩, fun b hb => oo6 b (by omega), fun h => absurd h h0, fun _ => ⟨X6, C1⟩⟩
set_option maxHeartbeats 400000 in
theorem case_1 {n x0 : Nat} {x5 a : Int32} (S0 : StOK V g) (I : IV V x m o d f z A T hs u p H S) (h1 : h_li (gA g) x0 0 (x5 + (1 : Int32)) = some a) : ∃ f2, p_case_1 V g f n x0 x m o d x5 = some f2 ∧ ∃ z1 A1 T1 hs1 u1 p1 H1, IV V x m o d f2 z1 A1 T1 hs1 u1 p1 H1 S := by
  have I0 := I
  obtain ⟨F, ⟨r1, r2, r3⟩, ⟨t1, t2, t3, t4, t5, t6⟩, ⟨z6, z9⟩, ⟨x1, x2, x3, x4⟩, ⟨v, q1, q2, q3, q4, q5, cq, hK⟩, K⟩ := I
  have hm := F.2.2.2.1
  obtain ⟨⟨T0, k1⟩, k2, ⟨bl, len, kd, st, nx, bs, b1, b2, b3, b4, b5⟩, ⟨it, kg, g1, g2⟩, hsc, -⟩ := id K
  have hun : p_case_1 V g f n x0 x m o d x5 = caseI V g m o (p_L_loadMap V g f x a o) (fun f => p_X8_loadMap V g f m a) := by
    unfold p_case_1 caseI
    simp only [h1, ob_s]
  rw [hun]
  cases hlen : inC (bl + 1) a with
  | false =>
    have hp : p_X7_loadMap V g f x a = some (.inl (1, f)) := by
      unfold p_X7_loadMap
      rw [x1.me, P_reqText x1 b1 b3, hlen]
      rfl
    obtain ⟨f2, z1, A1, e1, e2, e3, e4⟩ := caseC_ok (V := V) (g := g) (x := x) (d := d) (code := 1) (v := 0) (L := p_L_loadMap V g f x a o) (Q := fun f => p_X8_loadMap V g f m a) (Pr := fun z1 A1 => CP z A T u H z1 A1) F (by
      unfold p_L_loadMap
      rw [hp]
      rfl) (fun f1 => by
      refine ⟨0, upd z 7 1, A, ?_, upd_s _ _ _, fun h => absurd h (by decide), ⟨(upd_n _ _ (by decide)).trans z6, fun k _ h => upd_n _ _ h, r1, r2, fun _ _ _ _ => rfl⟩⟩
      unfold p_X8_loadMap
      rw [m_me, M_isLen b1 b2, hlen, ob_s, show bz false = (0 : Int32) from rfl, M_lacksF, ob_s, if_neg (show ¬ (1 : Int32) = 0 by decide)])
    exact ⟨f2, e1, z1, A1, _, _, _, _, _, I0.chg e2 e3 x1 x2 x3 ⟨v, q1, q2, q3, q4, q5, cq, hK⟩ (fun _ _ => rfl) e4 t1 t2 t4 t5⟩
  | true =>
    obtain ⟨L, hLl, rfl⟩ := inC_ex (by omega) hlen
    have hMV : MSV (ps_whole (A 6) L).1 := MSV.whole
    have hkk : ps_king (A 6) L = 0 ∨ ps_king (A 6) L = 1 := bz_i01 _
    obtain ⟨f9, it1, kg1, c1, c2, c3, c4, c5, c6, c7⟩ := P_load (V := V) (g := g) (B := A 6) S0 x1 x2 k1 b1 (show L ≤ bl by omega) b3 b4 g1 g2 (fun i hi => b5 i (by omega))
    have hM := M_load (V := V) (g := g) (m := m) (z := z) (A := A) S0 b1 (show L ≤ bl by omega) b2
    generalize ps_whole (A 6) L = R at *
    generalize ps_king (A 6) L = kk at *
    have F9 : FR V x m o d f9 z A := F.up (fun b h1 h2 => c5 b (by omega))
    obtain ⟨f2, z1, A1, e1, e2, e3, y7, y13, y8, y20, y11, yA, y0, yN⟩ := caseC_ok (V := V) (g := g) (x := x) (d := d) (code := 0) (v := if pE R.2 = 0 then nn R.1.1 else -1) (L := p_L_loadMap V g f x (nn L) o) (Q := fun f => p_X8_loadMap V g f m (nn L)) (Pr := fun z4 A4 => z4 7 = 0 ∧ z4 13 = 0 ∧ z4 8 = pE R.2 ∧ z4 20 = pO R.2 ∧ z4 11 = z 11 ∧ (∀ j, j ≠ 0 → j ≠ 1 → j ≠ 7 → A4 j = A j) ∧ (pE R.2 = 0 → RT (A4 0) (T_new R.1 kk) ∧ z4 6 = 0 ∧ z4 9 = 0) ∧ (pE R.2 ≠ 0 → A4 0 = A 0 ∧ z4 6 = z 6 ∧ z4 9 = z 9)) F9 (by
      unfold p_L_loadMap
      rw [c1]
      rfl) (fun f1 => by
      obtain ⟨w, z4, A4, w1, w2, w3, w4, w5, w6, w7, w8, w9⟩ := hM f1
      refine ⟨w, z4, A4, w1, w2, fun _ => ?_, w2, w3, w4, w5, w6, w7, fun h => (w8 h).2, fun h => (w9 h).2⟩
      by_cases h0 : pE R.2 = 0
      · rw [if_pos h0]; exact (w8 h0).1
      · rw [if_neg h0]; exact (w9 h0).1)
    have hod := F.2.2.2.2
    have hKR : KR V f9 x d z1 A1 := K.txt c4 (TkR.done c2 y13) (GrR.done c2 y8 y20 c3) (hsc.frame (fun a ha => c5 a (by omega))) (fun a ha => c5 a (by omega)) y11 (yA 5 (by decide) (by decide) (by decide))
    have hS : hs = 1 → ChA f9 (x + 41) S := fun h => (x4 h).frame (fun a h1 h2 => c5 a (by omega))
    have hP : PaA f9 x u p H := x3.frame (fun a ha => c5 a (by omega))
    have hCm : ∃ v a q r w k c, CmA f9 (x + 66) V v a q r w k c := ⟨v, q1, q2, q3, q4, q5, cq, hK.frame (fun b h1 h2 => c5 b (by omega))⟩
    have hA3 : A1 3 = A 3 := yA 3 (by decide) (by decide) (by decide)
    have hA4 : A1 4 = A 4 := yA 4 (by decide) (by decide) (by decide)
    refine ⟨f2, e1, ?_⟩
    by_cases h0 : pE R.2 = 0
    · obtain ⟨X9, C9⟩ := c6 h0
      obtain ⟨w1, w2, w3⟩ := y0 h0
      exact ⟨z1, A1, _, 0, 0, p, H, IV.gen (u1 := 0) e2 e3 X9 C9 ⟨hP.1, hP.2.1, fun k hk => absurd hk (Nat.not_lt_zero k)⟩ (fun h => absurd h (by decide)) hCm hKR ⟨w1, fun k hk => absurd hk (Nat.not_lt_zero k), fun h => absurd h (by decide)⟩ ⟨T_new_v hMV hkk, fun k hk => absurd hk (Nat.not_lt_zero k), fun h => absurd h (by decide), Nat.zero_le _, t5, Or.inl rfl⟩ ⟨w2, w3⟩⟩
    · obtain ⟨X9, C9⟩ := c7 h0
      obtain ⟨w1, w2, w3⟩ := yN h0
      exact ⟨z1, A1, T, hs, u, p, H, IV.gen e2 e3 X9 C9 hP hS hCm hKR ⟨by rw [w1]; exact r1, fun k hk => by rw [hA4]; exact r2 k hk, fun h => by rw [hA3]; exact r3 h⟩ ⟨t1, t2, t3, t4, t5, t6⟩ ⟨w2.trans z6, w3.trans z9⟩⟩
end IL

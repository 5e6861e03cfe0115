/-! ===== runScript: the law's case 52 ===== -/
def K_0 : Nat → CMD := fun _ => (0, 0, 0, 0, 0, 0, c_new 0)
noncomputable def ps_script (B : Nat → Int32) (L : Nat) : (Nat × (Nat → CMD)) × PS := ps_scr B L n20 0 K_0 (ps_0 B L)
section RS
variable {V : Nat → Nat} {g f f1 f2 : GH} {x m o d u p u1 p1 : Nat} {z z1 : Nat → Int32} {A A1 : Nat → Nat → Int32} {T T1 S S1 : TS} {H H1 : Nat → TS} {hs hs1 : Int32}
theorem M_script {bl L : Nat} (S0 : StOK V g) (hb : bl ≤ 700) (hL : L ≤ bl) (b2 : z 13 = nn bl) (R0 : RT (A 0) T) (hv : TV T) (hz : z 6 = nn u) (hu : u ≤ 8) (hH : HsA A u H) (hHv : ∀ k, k < u → TV (H k)) (f0 : GH) : ∃ w z4 A4, p_X8_runScript V g (mH V m 0 z A f0) m (nn L) = some (w, mH V m 0 z4 A4 f0) ∧ z4 7 = 0 ∧ z4 13 = 0 ∧ z4 8 = pE (ps_script (A 6) L).2 ∧ z4 20 = pO (ps_script (A 6) L).2 ∧ z4 9 = z 9 ∧ z4 11 = z 11 ∧ (∀ j, j ≠ 0 → j ≠ 2 → j ≠ 4 → j ≠ 7 → j ≠ 8 → A4 j = A j) ∧ (pE (ps_script (A 6) L).2 = 0 → w = nn (ts_run (ps_script (A 6) L).1.2 (ps_script (A 6) L).1.1 0 T).1 ∧ RT (A4 0) (ts_run (ps_script (A 6) L).1.2 (ps_script (A 6) L).1.1 0 T).2 ∧ z4 6 = nn (h_pu u) ∧ HsA A4 (h_pu u) (h_pH u H T)) ∧ (pE (ps_script (A 6) L).2 ≠ 0 → w = -1 ∧ A4 0 = A 0 ∧ z4 6 = z 6 ∧ A4 4 = A 4) := by
  have hlen : inC (bl + 1) (nn L) = true := inC_nn (by omega) (by omega)
  obtain ⟨z1, e1, P1, o1⟩ := M_start (V := V) (g := g) (m := m) (b := 0) (z := upd (upd z 7 0) 25 0) (f0 := f0) (by omega : L ≤ 700) (rfl : A 6 = A 6)
  obtain ⟨z2, A2, e2, P2, o2, a2, r2⟩ := M_scr_l (V := V) (g := g) (m := m) (f0 := f0) S0 (by omega : L ≤ 700) (fun x0 f => (p_X8_isFaulty V g f x0).bind fun v11 => (if v11.1 = (0 : Int32) then (p_X8_keep V g v11.2 x0).bind fun v13 => (p_X8_record V g v13 x0).bind fun v14 => p_X8_runScript_l64 V g (fun x2 f => some (x2, f)) FU x0 (0 : Int32) v14 else some ((-1 : Int32), v11.2))) n20 FU 0 K_0 (ps_0 (A 6) L) z1 A (by rw [n20_eq]) (by rw [n20_eq]; unfold FU; omega) rfl P1 PV.p0 (by rw [o1 25 (by decide) (by decide) (by decide) (by decide) (by decide) (by decide) (by decide), upd_s]; rfl) (fun j hj => absurd hj (Nat.not_lt_zero j))
  have hsv := scr_V (B := A 6) (L := L) n20 0 K_0 (ps_0 (A 6) L) (fun j hj => absurd hj (Nat.not_lt_zero j))
  rw [n20_eq] at hsv
  rw [← n20_eq] at hsv
  have hs0 : ps_scr (A 6) L n20 0 K_0 (ps_0 (A 6) L) = ps_script (A 6) L := rfl
  rw [hs0] at P2 r2 hsv
  generalize ps_script (A 6) L = R at *
  obtain ⟨hsv1, hsv2⟩ := hsv
  rw [n20_eq] at hsv2
  obtain ⟨z3, e3, y1, y2, y3, y4⟩ := M_faulty (V := V) (g := g) (m := m) (b := 0) (A := A2) (f0 := f0) P2
  have zk : ∀ k, k < 13 → k ≠ 8 → k ≠ 7 → z3 k = z k := fun k k13 k8 k7 => by
    rw [y4 k (by omega) (by omega) k8, o2 k (by omega) (by omega) (by omega) (by omega) (by omega) (by omega), o1 k (by omega) (by omega) (by omega) (by omega) (by omega) (by omega) (by omega), upd_n _ _ (by omega), upd_n _ _ k7]
  have z37 : z3 7 = 0 := by rw [y4 7 (by decide) (by decide) (by decide), o2 7 (by decide) (by decide) (by decide) (by decide) (by decide) (by decide), o1 7 (by decide) (by decide) (by decide) (by decide) (by decide) (by decide) (by decide), upd_n _ _ (by decide), upd_s]
  have hun : p_X8_runScript V g (mH V m 0 z A f0) m (nn L) = if bz (decide (pE R.2 ≠ 0)) = (0 : Int32) then (p_X8_keep V g (mH V m 0 z3 A2 f0) m).bind fun v13 => (p_X8_record V g v13 m).bind fun v14 => p_X8_runScript_l64 V g (fun x2 f => some (x2, f)) FU m (0 : Int32) v14 else some ((-1 : Int32), mH V m 0 z3 A2 f0) := by
    unfold p_X8_runScript
    rw [m_me, M_isLen hb b2, hlen, ob_s, show bz true = (1 : Int32) from rfl, M_lacksT, ob_s, if_pos rfl, m_pt (k := 25) (by decide), ob_s, e1, ob_s, e2, e3, ob_s]
  by_cases h0 : pE R.2 = 0
  · obtain ⟨r3, r4⟩ := r2 h0
    have h3 : z3 25 = nn R.1.1 := (y4 25 (by decide) (by decide) (by decide)).trans r3
    have ha0 : A2 0 = A 0 := a2 0 (by decide) (by decide)
    have ha4 : A2 4 = A 4 := a2 4 (by decide) (by decide)
    have hk := M_keep (V := V) (g := g) (m := m) (b := 0) (z := z3) (A := A2) (f0 := f0)
    have R2 : RT (upA A2 2 (va_cpy (A2 0) (A2 2) 0 0 1825) 2) T := by rw [upA_s]; exact (show RT (A2 0) T by rw [ha0]; exact R0).cp hv
    obtain ⟨r, e5, h5⟩ := M_record (V := V) (g := g) (m := m) (b := 0) (z := z3) (A := upA A2 2 (va_cpy (A2 0) (A2 2) 0 0 1825)) (f0 := f0) R2 hv ((zk 6 (by decide) (by decide) (by decide)).trans hz) hu (H := H) (fun k hk => by rw [upA_n _ _ (by decide), ha4]; exact hH k hk) hHv
    obtain ⟨A6, e6, R6, a6⟩ := M_run_l (V := V) (g := g) (m := m) (f0 := f0) (z := upd z3 6 (nn (h_pu u))) (K := R.1.2) (cnt := R.1.1) (by omega) R.1.1 FU 0 T (upA (upA A2 2 (va_cpy (A2 0) (A2 2) 0 0 1825)) 4 r) (by omega) (by unfold FU; omega) (by rw [upA_n _ _ (by decide), upA_n _ _ (by decide), ha0]; exact R0) hv ((upd_n _ _ (by decide)).trans h3) (fun j hj => ⟨by rw [upA_n _ _ (by decide), upA_n _ _ (by decide)]; exact r4 j hj, hsv1 j hj⟩)
    refine ⟨nn (ts_run R.1.2 R.1.1 0 T).1, upd z3 6 (nn (h_pu u)), A6, ?_, ?_, ?_, ?_, ?_, ?_, ?_, fun j j0 j2 j4 j7 j8 => (a6 j j0 j7).trans ((upA_n _ _ j4).trans ((upA_n _ _ j2).trans (a2 j j7 j8))), fun _ => ⟨rfl, R6, upd_s _ _ _, fun k hk => ?_⟩, fun h => absurd h0 h⟩
    · rw [hun, decide_eq_false (fun q => q h0), if_pos bz_f, hk, ob_s, e5, ob_s]
      exact e6
    · rw [upd_n _ _ (by decide)]; exact z37
    · rw [upd_n _ _ (by decide)]; exact y1
    · rw [upd_n _ _ (by decide)]; exact y2
    · rw [upd_n _ _ (by decide)]; exact y3
    · rw [upd_n _ _ (by decide)]; exact zk 9 (by decide) (by decide) (by decide)
    · rw [upd_n _ _ (by decide)]; exact zk 11 (by decide) (by decide) (by decide)
    · rw [a6 4 (by decide) (by decide)]; exact h5 k hk
  · refine ⟨-1, z3, A2, ?_, z37, y1, y2, y3, zk 9 (by decide) (by decide) (by decide), zk 11 (by decide) (by decide) (by decide), fun j _ _ _ j7 j8 => a2 j j7 j8, fun h => absurd h h0, fun _ => ⟨rfl, a2 0 (by decide) (by decide), zk 6 (by decide) (by decide) (by decide), a2 4 (by decide) (by decide)⟩⟩
    rw [hun, decide_eq_true h0, if_neg bz_tn]
theorem P_script {bl L : Nat} {bs B : Nat → Int32} {len kd st nx cc oo it kg : Int32} (S0 : StOK V g) (X : XoA f x hs (nn u) (nn p)) (C : ChA f (x + 1) T) (hv : TV T) (PA : PaA f x u p H) (hu : u ≤ 8) (hp : p < 8) (hs0 : ScR V f x) (hb : bl ≤ 700) (hL : L ≤ bl) (b3 : f (x + 62) = some (.inr (8, [.ref (x + 63), .int (nn bl), .int len, .int kd, .int st, .int nx]))) (b4 : f (x + 63) = some (.inl (1, 700, .inl bs))) (g1 : f (x + 64) = some (.inr (7, [.ref (x + 62), .int cc, .int oo, .int it, .int kg]))) (hkg : kg = 0 ∨ kg = 1) (hB : ∀ i, i < L → BR (bs i) (B i)) :
    ∃ f9 it1 kg1, p_X7_runScript V g f x (nn L) = some (.inr (if pE (ps_script B L).2 = 0 then nn (ts_run (ps_script B L).1.2 (ps_script B L).1.1 0 T).1 else -1, f9)) ∧ PG x 0 L bs (ps_script B L).2 it1 kg1 f9 ∧ (kg1 = 0 ∨ kg1 = 1) ∧ ScR V f9 x ∧ (∀ b, (b < x ∨ x + 21 ≤ b ∧ b < x + 62 ∨ x + 65 ≤ b) → (b < x + 75 ∨ x + 315 ≤ b) → f9 b = f b) ∧ (pE (ps_script B L).2 = 0 → XoA f9 x hs (nn (h_pu u)) (nn (h_pp p)) ∧ ChA f9 (x + 1) (ts_run (ps_script B L).1.2 (ps_script B L).1.1 0 T).2 ∧ PaA f9 x (h_pu u) (h_pp p) (h_pH u H T)) ∧ (pE (ps_script B L).2 ≠ 0 → XoA f9 x hs (nn u) (nn p) ∧ ChA f9 (x + 1) T ∧ PaA f9 x u p H) := by
  have hlen : inC (bl + 1) (nn L) = true := inC_nn (by omega) (by omega)
  obtain ⟨f1, e1, P1, o1⟩ := G_begin (V := V) (g := g) (L := L) b3 b4 g1 (by omega) hB
  obtain ⟨f4, i4, kg4, e4, P4, g4, S4, r4, o4⟩ := C_scr_l (V := V) (g := g) (L := L) (B := B) (bs := bs) (x := x) (bl := bl) S0 (by omega) hB n20 FU 0 K_0 (ps_0 B L) f1 it kg (by rw [n20_eq]) (by rw [n20_eq]; unfold FU; omega) P1 PV.p0 rfl hkg (hs0.frame (fun a ha => o1 a (by omega))) (fun j hj => absurd hj (Nat.not_lt_zero j))
  have hsv := scr_V (B := B) (L := L) n20 0 K_0 (ps_0 B L) (fun j hj => absurd hj (Nat.not_lt_zero j))
  have hse : ps_scr B L n20 0 K_0 (ps_0 B L) = ps_script B L := rfl
  rw [hse] at e4 P4 r4 hsv
  generalize ps_script B L = R at *
  obtain ⟨hsv1, hsv2⟩ := hsv
  rw [n20_eq] at hsv2
  obtain ⟨f6, e6, P6, o6⟩ := P4.held
  have oo6 : ∀ b, (b < x + 62 ∨ x + 65 ≤ b) → (b < x + 235 ∨ x + 315 ≤ b) → f6 b = f b := fun b h1 h2 => (o6 b (by omega)).trans ((o4 b h1 h2).trans (o1 b (by omega)))
  have X4 : XoA f4 x hs (nn u) (nn p) := X.fr ((o4 x (by omega) (by omega)).trans (o1 x (by omega)))
  have X6 : XoA f6 x hs (nn u) (nn p) := X.fr (oo6 x (by omega) (by omega))
  have C6 : ChA f6 (x + 1) T := C.frame (fun b h1 h2 => oo6 b (by omega) (by omega))
  have PA6 : PaA f6 x u p H := PA.frame (fun b hb => oo6 b (by omega) (by omega))
  have S6 : ScR V f6 x := S4.frame (fun b hb => o6 b (by omega))
  have hrd : p_X4_readScript V g f (x + 64) (nn L) (x + 65) = some (if pE R.2 = 0 then nn R.1.1 else -1, f4) := by
    unfold p_X4_readScript
    rw [hme_of g1, e1, ob_s]
    exact e4
  have hun : p_X7_runScript V g f x (nn L) = if (0 : Int32) ≤ (if pE R.2 = 0 then nn R.1.1 else -1) then (p_X7_rememberChart V g f6 x).bind fun v8 => p_X7_runScript_l38 V g (fun x3 f => some (.inr (x3, f))) (fun x2 f => some (.inr (x2, f))) FU x (if pE R.2 = 0 then nn R.1.1 else -1) (0 : Int32) v8 else some (.inr ((-1 : Int32), f6)) := by
    unfold p_X7_runScript
    rw [X.me, P_reqText X hb b3, hlen, if_pos rfl, xb_r, X.gr, ob_s, X.sc, ob_s, hrd, ob_s, X4.tk, ob_s, e6, ob_s]
  rw [hun]
  by_cases h0 : pE R.2 = 0
  · obtain ⟨f7, e7, X7, C7, PA7, o7⟩ := P_remember (V := V) (g := g) X6 C6 hv PA6 hu hp
    have S7 : ScR V f7 x := S6.frame (fun b hb => o7 b (by omega) (by omega))
    obtain ⟨f8, e8, C8, o8⟩ := C_script_l (V := V) (g := g) (K := R.1.2) (cnt := R.1.1) S0 (by omega) R.1.1 FU 0 T f7 (by omega) (by unfold FU; omega) X7 C7 hv S7 (fun j hj => ⟨(r4 h0 j hj).frame (fun b q1 q2 => (o7 b (by omega) (by omega)).trans (o6 b (by omega))), hsv1 j hj⟩)
    rw [if_pos h0, if_pos (by rw [n_0, nn_le (by omega) (by omega)]; omega), e7, ob_s, if_pos h0]
    refine ⟨f8, i4, kg4, e8, P6.fr (fun b h1 h2 => (o8 b (by omega)).trans (o7 b (by omega) (by omega))), g4, S7.frame (fun b hb => o8 b (by omega)), fun b h1 h2 => (o8 b (by omega)).trans ((o7 b (by omega) (by omega)).trans (oo6 b (by omega) (by omega))), fun _ => ⟨X7.fr (o8 x (by omega)), C8, PA7.frame (fun b hb => o8 b (by omega))⟩, fun h => absurd h0 h⟩
  · rw [if_neg h0, if_neg (by decide), if_neg h0]
    exact ⟨f6, i4, kg4, rfl, P6, g4, S6, fun b h1 h2 => oo6 b (by omega) (by omega), fun h => absurd h h0, fun _ => ⟨X6, C6, PA6⟩⟩
set_option maxHeartbeats 400000 in
theorem case_52 {n x0 : Nat} {x5 a : Int32} (S0 : StOK V g) (I : IV V x m o d f z A T hs u p H S) (h1 : h_li (gA g) x0 0 (x5 + (1 : Int32)) = some a) : ∃ f2, p_case_52 V g f n x0 x m o d x5 = some f2 ∧ ∃ z1 A1 T1 u1 p1 H1, IV V x m o d f2 z1 A1 T1 hs u1 p1 H1 S := by
  have I0 := I
  obtain ⟨F, ⟨r1, r2, r3⟩, ⟨t1, t2, t3, t4, t5, t6⟩, ⟨z6, z9⟩, ⟨x1, x2, x3, x4⟩, ⟨v, q1, q2, q3, q4, q5, cq, hK⟩, K⟩ := I
  have hm := F.2.2.2.1
  have hod := F.2.2.2.2
  obtain ⟨⟨T0, k1⟩, k2, ⟨bl, len, kd, st, nx, bs, b1, b2, b3, b4, b5⟩, ⟨it, kg, g1, g2⟩, hsc, -⟩ := id K
  have hun : p_case_52 V g f n x0 x m o d x5 = caseI V g m o (p_L_runScript V g f x a o) (fun f => p_X8_runScript V g f m a) := by
    unfold p_case_52 caseI
    simp only [h1, ob_s]
  rw [hun]
  cases hlen : inC (bl + 1) a with
  | false =>
    have hp : p_X7_runScript V g f x a = some (.inl (1, f)) := by
      unfold p_X7_runScript
      rw [x1.me, P_reqText x1 b1 b3, hlen]
      rfl
    obtain ⟨f2, z1, A1, e1, e2, e3, e4⟩ := caseC_ok (V := V) (g := g) (x := x) (d := d) (code := 1) (v := 0) (L := p_L_runScript V g f x a o) (Q := fun f => p_X8_runScript V g f m a) (Pr := fun z1 A1 => CP z A T u H z1 A1) F (by
      unfold p_L_runScript
      rw [hp]
      rfl) (fun f1 => by
      refine ⟨0, upd z 7 1, A, ?_, upd_s _ _ _, fun h => absurd h (by decide), ⟨(upd_n _ _ (by decide)).trans z6, fun k _ h => upd_n _ _ h, r1, r2, fun _ _ _ _ => rfl⟩⟩
      unfold p_X8_runScript
      rw [m_me, M_isLen b1 b2, hlen, ob_s, show bz false = (0 : Int32) from rfl, M_lacksF, ob_s, if_neg (show ¬ (1 : Int32) = 0 by decide)])
    exact ⟨f2, e1, z1, A1, _, _, _, _, I0.chg e2 e3 x1 x2 x3 ⟨v, q1, q2, q3, q4, q5, cq, hK⟩ (fun _ _ => rfl) e4 t1 t2 t4 t5⟩
  | true =>
    obtain ⟨L, hLl, rfl⟩ := inC_ex (by omega) hlen
    obtain ⟨f9, it1, kg1, c1, c2, c3, c4, c5, c6, c7⟩ := P_script (V := V) (g := g) (B := A 6) S0 x1 x2 t1 x3 t4 t5 hsc b1 (show L ≤ bl by omega) b3 b4 g1 g2 (fun i hi => b5 i (by omega))
    have hM := M_script (V := V) (g := g) (m := m) (z := z) (A := A) S0 b1 (show L ≤ bl by omega) b2 r1 t1 z6 t4 r2 t2
    have hsv := scr_V (B := A 6) (L := L) n20 0 K_0 (ps_0 (A 6) L) (fun j hj => absurd hj (Nat.not_lt_zero j))
    have hse : ps_scr (A 6) L n20 0 K_0 (ps_0 (A 6) L) = ps_script (A 6) L := rfl
    rw [hse] at hsv
    generalize ps_script (A 6) L = R at *
    have hTV : TV (ts_run R.1.2 R.1.1 0 T).2 := run_V R.1.1 0 T (fun j hj => hsv.1 j (by omega)) t1
    generalize ts_run R.1.2 R.1.1 0 T = Q at *
    have F9 : FR V x m o d f9 z A := F.up (fun b h1 h2 => c5 b (by omega) (by omega))
    obtain ⟨f2, z1, A1, e1, e2, e3, y7, y13, y8, y20, y9, y11, yA, y0, yN⟩ := caseC_ok (V := V) (g := g) (x := x) (d := d) (code := 0) (v := if pE R.2 = 0 then nn Q.1 else -1) (L := p_L_runScript V g f x (nn L) o) (Q := fun f => p_X8_runScript V g f m (nn L)) (Pr := fun z4 A4 => z4 7 = 0 ∧ z4 13 = 0 ∧ z4 8 = pE R.2 ∧ z4 20 = pO R.2 ∧ z4 9 = z 9 ∧ z4 11 = z 11 ∧ (∀ j, j ≠ 0 → j ≠ 2 → j ≠ 4 → j ≠ 7 → j ≠ 8 → A4 j = A j) ∧ (pE R.2 = 0 → RT (A4 0) Q.2 ∧ z4 6 = nn (h_pu u) ∧ HsA A4 (h_pu u) (h_pH u H T)) ∧ (pE R.2 ≠ 0 → A4 0 = A 0 ∧ z4 6 = z 6 ∧ A4 4 = A 4)) F9 (by
      unfold p_L_runScript
      rw [c1]
      rfl) (fun f1 => by
      obtain ⟨w, z4, A4, w1, w2, w3, w4, w5, w6, w7, w8, w9, w10⟩ := hM f1
      refine ⟨w, z4, A4, w1, w2, fun _ => ?_, w2, w3, w4, w5, w6, w7, w8, fun h => (w9 h).2, fun h => (w10 h).2⟩
      by_cases h0 : pE R.2 = 0
      · rw [if_pos h0]; exact (w9 h0).1
      · rw [if_neg h0]; exact (w10 h0).1)
    have hKR : KR V f9 x d z1 A1 := K.txt ⟨T0, k1.frame (fun b h1 h2 => c5 b (by omega) (by omega))⟩ (TkR.done c2 y13) (GrR.done c2 y8 y20 c3) c4 (fun b hb => c5 b (by omega) (by omega)) y11 (yA 5 (by decide) (by decide) (by decide) (by decide) (by decide))
    have hS : hs = 1 → ChA f9 (x + 41) S := fun h => (x4 h).frame (fun b h1 h2 => c5 b (by omega) (by omega))
    have hCm : ∃ v a q r w k c, CmA f9 (x + 66) V v a q r w k c := ⟨v, q1, q2, q3, q4, q5, cq, hK.frame (fun b h1 h2 => c5 b (by omega) (by omega))⟩
    have hA3 : A1 3 = A 3 := yA 3 (by decide) (by decide) (by decide) (by decide) (by decide)
    refine ⟨f2, e1, ?_⟩
    by_cases h0 : pE R.2 = 0
    · obtain ⟨X9, C9, P9⟩ := c6 h0
      obtain ⟨w1, w2, w3⟩ := y0 h0
      exact ⟨z1, A1, _, _, _, _, IV.gen e2 e3 X9 C9 P9 hS hCm hKR ⟨w1, w3, fun h => by rw [hA3]; exact r3 h⟩ ⟨hTV, h_pH_v t1 t2, t3, by unfold h_pu; split <;> omega, by unfold h_pp; split <;> omega, t6⟩ ⟨w2, y9.trans z9⟩⟩
    · obtain ⟨X9, C9, P9⟩ := c7 h0
      obtain ⟨w1, w2, w3⟩ := yN h0
      exact ⟨z1, A1, T, u, p, H, IV.gen e2 e3 X9 C9 P9 hS hCm hKR ⟨by rw [w1]; exact r1, fun k hk => by rw [w3]; exact r2 k hk, fun h => by rw [hA3]; exact r3 h⟩ ⟨t1, t2, t3, t4, t5, t6⟩ ⟨w2.trans z6, y9.trans z9⟩⟩
end RS

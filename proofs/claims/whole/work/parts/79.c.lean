/-! ===== the metric, the history, the snapshot, the error: the law's cases ===== -/
section CI2
variable {V : Nat → Nat} {g f f1 f2 : GH} {x m o d u p u1 p1 : Nat} {z z1 : Nat → Int32} {A A1 : Nat → Nat → Int32} {T T1 S S1 : TS} {H H1 : Nat → TS} {hs hs1 : Int32}
theorem IV.told (I : IV V x m o d f z A T hs u p H S) (k : Int32) : ∃ z1 A1, IV V x m o d (mH V m 0 (upd z 7 k) A f) z1 A1 T hs u p H S := I.rd (I.bs.told k)
theorem case_2 {n x0 : Nat} {x5 : Int32} (I : IV V x m o d f z A T hs u p H S) : ∃ f2, p_case_2 V g f n x0 x m o d x5 = some f2 ∧ ∃ z1 A1, IV V x m o d f2 z1 A1 T hs u p H S := by
  refine ⟨_, ?_, I.told 0⟩
  obtain ⟨⟨i1, _⟩, _, _, _, ⟨x1, _⟩, _, ⟨_, _, _, ⟨it, kg, g1, g2⟩, _⟩⟩ := I
  have q : p_X7_errorCode V g f x = some (z 8) := by
    unfold p_X7_errorCode
    rw [x1.me, x1.gr, ob_s, hgi_of g1 rfl, ob_s]
  have r : p_X8_errorCode V g (mH V m 0 z A f) m = some (z 8, mH V m 0 (upd z 7 0) A f) := by
    unfold p_X8_errorCode
    rw [m_me, m_told, ob_s, m_gi (k := 8) (by decide), upd_n _ _ (by decide), ob_s]
  unfold p_case_2
  rw [q, ob_s, show p_X8_errorCode V g f m = _ from (congrArg (fun q => p_X8_errorCode V g q m) i1).trans r, ob_s, if_pos rfl]
theorem case_3 {n x0 : Nat} {x5 : Int32} (I : IV V x m o d f z A T hs u p H S) : ∃ f2, p_case_3 V g f n x0 x m o d x5 = some f2 ∧ ∃ z1 A1, IV V x m o d f2 z1 A1 T hs u p H S := by
  refine ⟨_, ?_, I.told 0⟩
  obtain ⟨⟨i1, _⟩, _, _, _, ⟨x1, _⟩, _, ⟨_, _, _, ⟨it, kg, g1, g2⟩, _⟩⟩ := I
  have q : p_X7_errorOffset V g f x = some (z 20) := by
    unfold p_X7_errorOffset
    rw [x1.me, x1.gr, ob_s, hgi_of g1 rfl, ob_s]
  have r : p_X8_errorOffset V g (mH V m 0 z A f) m = some (z 20, mH V m 0 (upd z 7 0) A f) := by
    unfold p_X8_errorOffset
    rw [m_me, m_told, ob_s, m_gi (k := 20) (by decide), upd_n _ _ (by decide), ob_s]
  unfold p_case_3
  rw [q, ob_s, show p_X8_errorOffset V g f m = _ from (congrArg (fun q => p_X8_errorOffset V g q m) i1).trans r, ob_s, if_pos rfl]
theorem case_55 {n x0 : Nat} {x5 : Int32} (I : IV V x m o d f z A T hs u p H S) : ∃ f2, p_case_55 V g f n x0 x m o d x5 = some f2 ∧ ∃ z1 A1, IV V x m o d f2 z1 A1 T hs u p H S := by
  refine ⟨_, ?_, I.told 0⟩
  obtain ⟨⟨i1, _⟩, _, _, ⟨z6, _⟩, ⟨x1, _⟩, _⟩ := I
  have q : p_X7_undoableCount V g f x = some (nn u) := by
    unfold p_X7_undoableCount
    rw [x1.me, x1.pC, ob_s]
  have r : p_X8_undoableCount V g (mH V m 0 z A f) m = some (nn u, mH V m 0 (upd z 7 0) A f) := by
    unfold p_X8_undoableCount
    rw [m_me, m_told, ob_s, m_gi (k := 6) (by decide), upd_n _ _ (by decide), ob_s, z6]
  unfold p_case_55
  rw [q, ob_s, show p_X8_undoableCount V g f m = _ from (congrArg (fun q => p_X8_undoableCount V g q m) i1).trans r, ob_s, if_pos rfl]
theorem case_56 {n x0 : Nat} {x5 : Int32} (I : IV V x m o d f z A T hs u p H S) : ∃ f2, p_case_56 V g f n x0 x m o d x5 = some f2 ∧ ∃ z1 A1 T1 u1 p1 H1, IV V x m o d f2 z1 A1 T1 hs u1 p1 H1 S := by
  have I0 := I
  obtain ⟨F, ⟨r1, r2, r3⟩, ⟨t1, t2, t3, t4, t5, t6⟩, ⟨z6, z9⟩, ⟨x1, x2, x3, x4⟩, c0, K⟩ := I
  by_cases h0 : u = 0
  · have hp : p_X7_undo V g f x = some (.inl (2, f)) := by
      unfold p_X7_undo
      rw [x1.me, x1.pC, ob_s, if_pos (by rw [h0]; rfl)]
    obtain ⟨f2, z1, A1, e1, e2, e3, e4⟩ := caseC_ok (V := V) (g := g) (x := x) (d := d) (code := 1) (v := 0) (L := p_L_undo V g f x o) (Q := fun f => p_X8_undo V g f m) (Pr := fun z1 A1 => CP z A T u H z1 A1) F (by
      unfold p_L_undo
      rw [hp]
      rfl) (fun f1 => by
      have h := M_undo (V := V) (g := g) (m := m) (b := 0) (z := z) (A := A) (f0 := f1) z6 t4
      rw [if_pos h0] at h
      exact ⟨_, _, _, h, upd_s _ _ _, fun h => absurd h (by decide), ⟨(upd_n _ _ (by decide)).trans z6, fun k _ h => upd_n _ _ h, r1, r2, fun _ _ _ _ => rfl⟩⟩)
    refine ⟨f2, ?_, z1, A1, _, _, _, _, I0.chg e2 e3 x1 x2 x3 c0 (fun _ _ => rfl) e4 t1 t2 t4 t5⟩
    rw [← e1]
    unfold p_case_56 caseI
    rfl
  · obtain ⟨f3, g1, g2, g3, g4, g5⟩ := P_undo (V := V) (g := g) x1 x2 x3 t2 t4 t5 h0
    obtain ⟨f2, z1, A1, e1, e2, e3, e4⟩ := caseC_ok (V := V) (g := g) (x := x) (d := d) (code := 0) (v := nn (u - 1)) (L := p_L_undo V g f x o) (Q := fun f => p_X8_undo V g f m) (Pr := fun z1 A1 => CP z A (H (u - 1)) (u - 1) H z1 A1) (F.up (fun a h1 h2 => g5 a (by have := F.2.2.2.1; omega))) (by
      unfold p_L_undo
      rw [g1]
      rfl) (fun f1 => by
      have h := M_undo (V := V) (g := g) (m := m) (b := 0) (z := z) (A := A) (f0 := f1) z6 t4
      rw [if_neg h0] at h
      refine ⟨_, _, _, h, ?_, fun _ => rfl, ⟨upd_s _ _ _, fun k h6 h7 => (upd_n _ _ h6).trans (upd_n _ _ h7), ?_, fun k hk => ?_, fun j j0 _ _ => upA_n A _ j0⟩⟩
      · rw [upd_n _ _ (by decide), upd_s]
      · rw [upA_s]
        exact (r2 (u - 1) (by omega)).cg (t2 _ (by omega)) (fun k hk => by rw [cpy_in (by omega) (by omega), Nat.sub_zero])
      · rw [upA_n _ _ (by decide)]
        exact r2 k (by omega))
    refine ⟨f2, ?_, z1, A1, _, _, _, _, I0.chg e2 e3 g2 g3 g4 ?_ (fun a ha => g5 a (by omega)) e4 (t2 _ (by omega)) (fun k hk => t2 k (by omega)) (by omega) (Nat.mod_lt _ (by decide))⟩
    · rw [← e1]
      unfold p_case_56 caseI
      rfl
    · obtain ⟨v, a, q, r, w, k, c, h⟩ := c0
      exact ⟨v, a, q, r, w, k, c, h.frame (fun b h1 h2 => g5 b (by omega))⟩
theorem case_57 {n x0 : Nat} {x5 : Int32} (I : IV V x m o d f z A T hs u p H S) : ∃ f2, p_case_57 V g f n x0 x m o d x5 = some f2 ∧ ∃ z1 A1, IV V x m o d f2 z1 A1 T 1 u p H T := by
  obtain ⟨F, ⟨r1, r2, r3⟩, ⟨t1, t2, t3, t4, t5, t6⟩, ⟨z6, z9⟩, ⟨x1, x2, x3, x4⟩, c0, K⟩ := I
  obtain ⟨T0, S0⟩ := K.2.1
  obtain ⟨f1, e1, X1, C1, o1⟩ := P_saveSnapshot (V := V) (g := g) x1 x2 t1 S0
  have F1 : FR V x m o d f1 z A := F.up (fun a h1 h2 => o1 a (by have := F.2.2.2.1; omega) (by have := F.2.2.2.1; omega))
  have hQ := Q_saveSnapshot (V := V) (g := g) (m := m) (b := 0) (z := z) (A := A) (f0 := f1)
  have oo : ∀ a, a < m ∨ d < a → mH V m 0 (upd (upd z 7 0) 9 1) (upA A 3 (va_cpy (A 0) (A 3) 0 0 1825)) f1 a = f1 a := fun a ha => mH_out a (by have := F.2.2.2.2; omega)
  obtain ⟨i1, i2, i3, i4, i5, i6⟩ := F1
  refine ⟨_, ?_, upd (upd z 7 0) 9 1, upA A 3 (va_cpy (A 0) (A 3) 0 0 1825), ⟨MR.mk, ?_, ?_, i4, i5, i6⟩, ⟨?_, fun k hk => ?_, fun _ => ?_⟩, ⟨t1, t2, fun _ => t1, t4, t5, Or.inr rfl⟩, ⟨?_, upd_s _ _ _⟩, ⟨X1.fr (oo x (by omega)), x2.frame (fun a h1 h2 => (oo a (by omega)).trans (o1 a (by omega) (by omega))), x3.frame (fun a h => (oo a (by omega)).trans (o1 a (by omega) (by omega))), fun _ => C1.frame (fun a h1 h2 => oo a (by omega))⟩, ?_, ?_⟩
  · unfold p_case_57
    rw [e1, ob_s, show p_X8_saveSnapshot V g f1 m = _ from (congrArg (fun q => p_X8_saveSnapshot V g q m) i1).trans hQ, ob_s]
  · obtain ⟨r, hr⟩ := i2
    exact ⟨r, by rw [mH_out o (by omega)]; exact hr⟩
  · obtain ⟨r, hr⟩ := i3
    exact ⟨r, by rw [mH_out d (by omega)]; exact hr⟩
  · rw [upA_n _ _ (by decide)]; exact r1
  · rw [upA_n _ _ (by decide)]; exact r2 k hk
  · rw [upA_s]; exact r1.cp t1
  · rw [upd_n _ _ (by decide), upd_n _ _ (by decide)]; exact z6
  · obtain ⟨v, a, q, r, w, k, c, h⟩ := c0
    exact ⟨v, a, q, r, w, k, c, h.frame (fun b h1 h2 => (oo b (by omega)).trans (o1 b (by omega) (by omega)))⟩
  · obtain ⟨⟨T2, k1⟩, k2, ⟨bl, len, kd, st, nx, bs, b1, b2, b3, b4, b5⟩, ⟨it, kg, g1, g2⟩, ⟨⟨ra, s1, s2⟩, s3⟩, ⟨c, k3⟩, ⟨va, cap, ol, bb, ml, y1, y2, y3, y4, y5, y6, y7, y8, y9, y10⟩⟩ := K
    have e : ∀ a, a ≠ x → (a < x + 41 ∨ x + 61 ≤ a) → (a < m ∨ d < a) → mH V m 0 (upd (upd z 7 0) 9 1) (upA A 3 (va_cpy (A 0) (A 3) 0 0 1825)) f1 a = f a := fun a h1 h2 h3 => (oo a h3).trans (o1 a h1 h2)
    have zz : ∀ k, k ≠ 7 → k ≠ 9 → upd (upd z 7 0) 9 1 k = z k := fun k h7 h9 => (upd_n _ _ h9).trans (upd_n _ _ h7)
    refine ⟨⟨T2, k1.frame (fun a h1 h2 => e a (by omega) (by omega) (by omega))⟩, ⟨T, C1.frame (fun a h1 h2 => oo a (by omega))⟩, ⟨bl, len, kd, st, nx, bs, b1, (zz 13 (by decide) (by decide)).trans b2, (e _ (by omega) (by omega) (by omega)).trans b3, (e _ (by omega) (by omega) (by omega)).trans b4, fun i hi => by rw [upA_n _ _ (by decide)]; exact b5 i hi⟩, ⟨it, kg, by rw [zz 8 (by decide) (by decide), zz 20 (by decide) (by decide)]; exact (e _ (by omega) (by omega) (by omega)).trans g1, g2⟩, ⟨⟨ra, (e _ (by omega) (by omega) (by omega)).trans s1, s2⟩, fun j hj => ?_⟩, ⟨c, k3.frame (fun a h1 h2 => e a (by omega) (by omega) (by omega))⟩, ⟨va, cap, ol, bb, ml, (zz 11 (by decide) (by decide)).trans y1, y2, y3, y4, y5, (e _ (by omega) (by omega) (by omega)).trans y6, (e _ (by omega) (by omega) (by omega)).trans y7, y8, y9, fun i hi => by rw [upA_n _ _ (by decide)]; exact y10 i hi⟩⟩
    obtain ⟨v, a, q, r, w, k, c, hc⟩ := s3 j hj
    exact ⟨v, a, q, r, w, k, c, hc.frame (fun b h1 h2 => e b (by omega) (by omega) (by omega))⟩
theorem case_58 {n x0 : Nat} {x5 : Int32} (I : IV V x m o d f z A T hs u p H S) : ∃ f2, p_case_58 V g f n x0 x m o d x5 = some f2 ∧ ∃ z1 A1 T1 u1 p1 H1, IV V x m o d f2 z1 A1 T1 hs u1 p1 H1 S := by
  have I0 := I
  obtain ⟨F, ⟨r1, r2, r3⟩, ⟨t1, t2, t3, t4, t5, t6⟩, ⟨z6, z9⟩, ⟨x1, x2, x3, x4⟩, c0, K⟩ := I
  rcases t6 with h0 | h1
  · have hp : p_X7_restoreSnapshot V g f x = some (.inl (2, f)) := by
      unfold p_X7_restoreSnapshot
      rw [x1.me, x1.hS, ob_s, if_pos h0]
    obtain ⟨f2, z1, A1, e1, e2, e3, e4⟩ := caseC_ok (V := V) (g := g) (x := x) (d := d) (code := 1) (v := 0) (L := p_L_restoreSnapshot V g f x o) (Q := fun f => p_X8_restoreSnapshot V g f m) (Pr := fun z1 A1 => CP z A T u H z1 A1) F (by
      unfold p_L_restoreSnapshot
      rw [hp]
      rfl) (fun f1 => by
      refine ⟨0, upd z 7 1, A, ?_, upd_s _ _ _, fun h => absurd h (by decide), ⟨(upd_n _ _ (by decide)).trans z6, fun k _ h => upd_n _ _ h, r1, r2, fun _ _ _ _ => rfl⟩⟩
      unfold p_X8_restoreSnapshot
      rw [m_me, m_gi (k := 9) (by decide), ob_s, z9, h0, M_lacksF, ob_s, if_neg (show ¬ (1 : Int32) = 0 by decide)])
    refine ⟨f2, ?_, z1, A1, _, _, _, _, I0.chg e2 e3 x1 x2 x3 c0 (fun _ _ => rfl) e4 t1 t2 t4 t5⟩
    rw [← e1]
    unfold p_case_58 caseI
    rfl
  · obtain ⟨f3, g1, g2, g3⟩ := C_copyChart (V := V) (g := g) (x4 h1) (t3 h1) x2 (by omega)
    have X3 : XoA f3 x hs (nn u) (nn p) := x1.fr (g3 x (by omega))
    obtain ⟨f4, b1, b2, b3⟩ := X3.sPC (0 : Int32)
    have C4 : ChA f4 (x + 1) S := g2.frame (fun a h1 h2 => b3 a (by omega))
    have hp : p_X7_restoreSnapshot V g f x = some (.inr (nn (tN S), f4)) := by
      unfold p_X7_restoreSnapshot
      rw [x1.me, x1.hS, ob_s, if_neg (by rw [h1]; decide), x1.ch, ob_s, x1.sn, ob_s, g1, ob_s, b1, ob_s, b2.ch, ob_s, C4.n, ob_s]
    have oo : ∀ a, (a < x ∨ x + 21 ≤ a) → f4 a = f a := fun a ha => (b3 a (by omega)).trans (g3 a (by omega))
    obtain ⟨f2, z1, A1, e1, e2, e3, e4⟩ := caseC_ok (V := V) (g := g) (x := x) (d := d) (code := 0) (v := nn (tN S)) (L := p_L_restoreSnapshot V g f x o) (Q := fun f => p_X8_restoreSnapshot V g f m) (Pr := fun z1 A1 => CP z A S 0 H z1 A1) (F.up (fun a h1 h2 => oo a (by have := F.2.2.2.1; omega))) (by
      unfold p_L_restoreSnapshot
      rw [hp]
      rfl) (fun f1 => by
      have hc := M_copy (V := V) (g := g) (m := m) (b := 0) (z := upd z 7 0) (A := A) (f0 := f1) (i := 3) (j := 0) (by decide) (by decide) (by decide) (by decide)
      have R3 : RT (va_cpy (A 3) (A 0) 0 0 1825) S := (r3 h1).cp (t3 h1)
      refine ⟨nn (tN S), upd (upd z 7 0) 6 0, upA A 0 (va_cpy (A 3) (A 0) 0 0 1825), ?_, ?_, fun _ => rfl, ⟨upd_s _ _ _, fun k h6 h7 => (upd_n _ _ h6).trans (upd_n _ _ h7), ?_, fun k hk => absurd hk (by omega), fun j j0 _ _ => upA_n A _ j0⟩⟩
      · unfold p_X8_restoreSnapshot
        rw [m_me, m_gi (k := 9) (by decide), ob_s, z9, h1, M_lacksT, ob_s, if_pos rfl, m_r3, ob_s, m_r0, ob_s, hc, ob_s, m_pt (k := 6) (by decide), ob_s, m_row, ob_s, m_l1 (by decide), upA_s, R3.2.1, ob_s]
      · rw [upd_n _ _ (by decide), upd_s]
      · rw [upA_s]; exact R3)
    have P4 : PaA f4 x 0 p H := by
      refine ⟨?_, fun j hj => ?_, fun k hk => absurd hk (by omega)⟩
      · obtain ⟨ra, p1, p2⟩ := x3.1
        exact ⟨ra, by rw [oo _ (by omega)]; exact p1, p2⟩
      · obtain ⟨T1, q1⟩ := x3.2.1 j hj
        exact ⟨T1, q1.frame (fun a h1 h2 => oo a (by omega))⟩
    refine ⟨f2, ?_, z1, A1, _, _, _, _, I0.chg (u1 := 0) e2 e3 b2 C4 P4 ?_ (fun a ha => oo a (by omega)) e4 (t3 h1) (fun k hk => absurd hk (by omega)) (by omega) t5⟩
    · rw [← e1]
      unfold p_case_58 caseI
      rfl
    · obtain ⟨v, a, q, r, w, k, c, h⟩ := c0
      exact ⟨v, a, q, r, w, k, c, h.frame (fun b h1 h2 => oo b (by omega))⟩
theorem metric_ok {k : Int32} (S0 : StOK V g) (I : IV V x m o d f z A T hs u p H S) (h01 : k = 0 ∨ k = 1) : ∃ f2 f1, p_X7_setKingMetric V g f x k = some (.inr (tK T, f1)) ∧ p_X8_setKingMetric V g f1 m k = some (tK T, f2) ∧ ∃ z1 A1 T1 u1 p1 H1, IV V x m o d f2 z1 A1 T1 hs u1 p1 H1 S := by
  have I0 := I
  obtain ⟨F, ⟨r1, r2, r3⟩, ⟨t1, t2, t3, t4, t5, t6⟩, ⟨z6, z9⟩, ⟨x1, x2, x3, x4⟩, ⟨v0, a0, q0, w0, w1, k0, c0, hK⟩, K⟩ := I
  obtain ⟨f3, e3, K3, o3⟩ := P_set (V := V) (g := g) (v := 11) (a := 0) (b := 0) (r := 0) (w := 0) hK
  have K4 : CmA (h_up f3 (x + 66) (.inr (6, [.ref (V 11), .int 0, .int 0, .int 0, .int 0, .int k, .ref (x + 66 + 1)]))) (x + 66) V 11 0 0 0 0 k c0 := ⟨h_up_s _ _ _, K3.2.frame (fun y h1 h2 => h_up_n f3 _ (by omega))⟩
  have e4 : h_pt f3 (x + 66) 6 5 (.int k) = some (h_up f3 (x + 66) (.inr (6, [.ref (V 11), .int 0, .int 0, .int 0, .int 0, .int k, .ref (x + 66 + 1)]))) := hpt_of K3.1 (by decide : 5 < 7)
  have o4 : ∀ a, a ≠ x + 66 → h_up f3 (x + 66) (.inr (6, [.ref (V 11), .int 0, .int 0, .int 0, .int 0, .int k, .ref (x + 66 + 1)])) a = f a := fun a ha => (h_up_n f3 _ ha).trans (o3 a ha)
  generalize h_up f3 (x + 66) (.inr (6, [.ref (V 11), .int 0, .int 0, .int 0, .int 0, .int k, .ref (x + 66 + 1)])) = f4 at K4 e4 o4
  have X3 : XoA f3 x hs (nn u) (nn p) := x1.fr (o3 x (by omega))
  have X4 : XoA f4 x hs (nn u) (nn p) := x1.fr (o4 x (by omega))
  obtain ⟨c1, -⟩ := P_change S0 X4 (x2.frame (fun b h1 h2 => o4 b (by omega))) t1 (x3.frame (fun b h => o4 b (by omega))) t4 t5 K4 (by decide) (by decide) (fun _ => h01) (fun h => absurd h (by decide))
  obtain ⟨f5, g1, g2, g3, g4, g5⟩ := c1 rfl
  have oo : ∀ a, (a < x ∨ x + 21 ≤ a ∧ a < x + 75 ∨ x + 235 ≤ a) → a ≠ x + 66 → f5 a = f a := fun a ha hb => (g5 a ha).trans (o4 a hb)
  have hp : p_X7_setKingMetric V g f x k = some (.inr (tK T, f5)) := by
    unfold p_X7_setKingMetric
    rw [x1.me, x1.sg, ob_s, e3, ob_s, X3.sg, ob_s, hbz01 h01, ob_s, e4, ob_s, g1]
    show (if (tK T) = (1 : Int32) then _ else _) = _
    rcases t1.2.1 with e | e
    · rw [e, if_neg (by decide)]
    · rw [e, if_pos rfl]
  have F5 : FR V x m o d f5 z A := F.up (fun a h1 h2 => oo a (by have := F.2.2.2.1; omega) (by have := F.2.2.2.1; omega))
  obtain ⟨w, z1, A1, q1, q2, q3, q4⟩ := Q_setKingMetric (V := V) (g := g) (f0 := f5) (m := m) r1 t1 z6 t4 r2 t2 h01
  obtain ⟨q5, q6⟩ := q3 rfl
  obtain ⟨i1, i2, i3, i4, i5, i6⟩ := F5
  refine ⟨mH V m 0 z1 A1 f5, f5, hp, ?_, z1, A1, _, _, _, _, I0.chg (f2 := mH V m 0 z1 A1 f5) ⟨MR.mk, ?_, ?_, i4, i5, i6⟩ (fun a ha => mH_out a (by omega)) g2 g3 g4 ⟨11, 0, 0, 0, 0, k, c0, K4.frame (fun b h1 h2 => g5 b (by omega))⟩ (fun a ha => oo a (by omega) (by omega)) q6 (TV_do (v := 11) t1 (by decide) (by decide) rfl (fun _ => h01) (fun h => absurd h (by decide))) (h_pH_v t1 t2) (by unfold h_pu; split <;> omega) (by unfold h_pp; split <;> omega)⟩
  · rw [show p_X8_setKingMetric V g f5 m k = _ from (congrArg (fun q => p_X8_setKingMetric V g q m k) i1).trans q1, q5]
  · obtain ⟨r, hr⟩ := i2
    exact ⟨r, by rw [mH_out o (by omega)]; exact hr⟩
  · obtain ⟨r, hr⟩ := i3
    exact ⟨r, by rw [mH_out d (by omega)]; exact hr⟩
theorem xr_r {α β : Type} (v : α) (k : α → Option β) : x_r (some (.inr v)) k = k v := rfl
theorem case_51 {n x0 : Nat} {x5 a : Int32} (S0 : StOK V g) (I : IV V x m o d f z A T hs u p H S) (h1 : h_li (gA g) x0 0 (x5 + (1 : Int32)) = some a) : ∃ f2, p_case_51 V g f n x0 x m o d x5 = some f2 ∧ ∃ z1 A1 T1 u1 p1 H1, IV V x m o d f2 z1 A1 T1 hs u1 p1 H1 S := by
  unfold p_case_51
  rw [h1, ob_s]
  by_cases h0 : a = 0
  · obtain ⟨f2, f1, e1, e2, e3⟩ := metric_ok (k := 0) S0 I (Or.inl rfl)
    refine ⟨f2, ?_, e3⟩
    rw [if_pos h0, e1, xr_r, ob_s, if_pos h0, e2, ob_s, if_pos rfl]
  · obtain ⟨f2, f1, e1, e2, e3⟩ := metric_ok (k := 1) S0 I (Or.inr rfl)
    refine ⟨f2, ?_, e3⟩
    rw [if_neg h0, e1, xr_r, ob_s, if_neg h0, e2, ob_s, if_pos rfl]
end CI2

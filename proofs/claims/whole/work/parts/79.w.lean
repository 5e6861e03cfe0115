/-! ===== the law's cases 53 and 54 ===== -/
section CW
variable {V : Nat → Nat} {g f f1 f2 : GH} {x m o d u p u1 p1 : Nat} {z z1 : Nat → Int32} {A A1 : Nat → Nat → Int32} {T T1 S S1 : TS} {H H1 : Nat → TS} {hs hs1 : Int32}
theorem KR.out (K : KR V f x d z A) (e : ∀ a, (x + 21 ≤ a ∧ a < x + 61 ∨ x + 62 ≤ a ∧ a < x + 66 ∨ x + 70 ≤ a ∧ a < x + 73 ∨ x + 235 ≤ a ∧ a < x + 315) → f1 a = f a) (h8 : z1 8 = z 8) (h13 : z1 13 = z 13) (h20 : z1 20 = z 20) (a6 : A1 6 = A 6) (sb : SbR f1 x d z1 A1) : KR V f1 x d z1 A1 := by
  obtain ⟨⟨T0, k1⟩, ⟨T1, k2⟩, ⟨bl, len, kd, st, nx, bs, t1, t2, t3, t4, t5⟩, ⟨it, kg, g1, g2⟩, ⟨⟨ra, s1, s2⟩, s3⟩, ⟨c, k3⟩, _⟩ := K
  refine ⟨⟨T0, k1.frame (fun a h1 h2 => e a (by omega))⟩, ⟨T1, k2.frame (fun a h1 h2 => e a (by omega))⟩, ⟨bl, len, kd, st, nx, bs, t1, h13.trans t2, (e _ (by omega)).trans t3, (e _ (by omega)).trans t4, fun i hi => by rw [a6]; exact t5 i hi⟩, ⟨it, kg, by rw [h8, h20]; exact (e _ (by omega)).trans g1, g2⟩, ⟨⟨ra, (e _ (by omega)).trans s1, s2⟩, fun j hj => ?_⟩, ⟨c, k3.frame (fun a h1 h2 => e a (by omega))⟩, sb⟩
  obtain ⟨v, a, q, r, w, k, c, hc⟩ := s3 j hj
  exact ⟨v, a, q, r, w, k, c, hc.frame (fun b h1 h2 => e b (by omega))⟩
theorem case_53 {n x0 : Nat} {x5 a : Int32} (S0 : StOK V g) (I : IV V x m o d f z A T hs u p H S) (hn : ∀ a e, f a = some e → a < n) (h1 : h_li (gA g) x0 0 (x5 + (1 : Int32)) = some a) : ∃ f2, p_case_53 V g f n x0 x m o d x5 = some f2 ∧ ∃ z1 A1, IV V x m o d f2 z1 A1 T hs u p H S := by
  have I0 := I
  obtain ⟨F, ⟨r1, r2, r3⟩, ⟨t1, t2, t3, t4, t5, t6⟩, ⟨z6, z9⟩, ⟨x1, x2, x3, x4⟩, ⟨v, q1, q2, q3, q4, q5, cq, hK⟩, K⟩ := I
  have hm := F.2.2.2.1
  have hod := F.2.2.2.2
  have h6 := t1.1
  have hun : p_case_53 V g f n x0 x m o d x5 = caseI V g m o (p_L_writeLengths V g f n x a o) (fun f => p_X8_writeLengths V g f m a) := by
    unfold p_case_53 caseI
    simp only [h1, ob_s]
  rw [hun]
  cases hin : inC (tN T) a with
  | false =>
    have hp : p_X7_writeLengths V g f n x a = some (.inl (0, f)) := by
      unfold p_X7_writeLengths
      rw [x1.me, P_atN (V := V) (g := g) x1 x2 hin]
      rfl
    obtain ⟨f2, z1, A1, e1, e2, e3, e4⟩ := caseC_ok (V := V) (g := g) (x := x) (d := d) (code := 1) (v := 0) (L := p_L_writeLengths V g f n x a o) (Q := fun f => p_X8_writeLengths V g f m a) (Pr := fun z1 A1 => CP z A T u H z1 A1) F (by
      unfold p_L_writeLengths
      rw [hp]
      rfl) (fun f1 => by
      refine ⟨0, upd z 7 1, A, ?_, upd_s _ _ _, fun h => absurd h (by decide), ⟨(upd_n _ _ (by decide)).trans z6, fun k _ h => upd_n _ _ h, r1, r2, fun _ _ _ _ => rfl⟩⟩
      unfold p_X8_writeLengths
      rw [m_me, M_isCoast (by decide) r1 h6, ob_s, hin, show bz false = (0 : Int32) from rfl, M_lacksF, ob_s, if_neg (show ¬ (1 : Int32) = 0 by decide)])
    exact ⟨f2, e1, z1, A1, I0.chg e2 e3 x1 x2 x3 ⟨v, q1, q2, q3, q4, q5, cq, hK⟩ (fun _ _ => rfl) e4 t1 t2 t4 t5⟩
  | true =>
    obtain ⟨i, hi, rfl⟩ := inC_ex (by omega) hin
    obtain ⟨_, _, _, _, _, _, ⟨va, cap, ol, bs, ml, b1, b2, b3, b4, b5, b6, b7, b8, b9, b10⟩⟩ := id K
    have hd : d < n := by
      obtain ⟨r, hr⟩ := F.2.2.1
      exact hn _ _ hr
    have B : SBC f x d n ol va cap ml bs := ⟨b2, b3, b4, b6, b7, b8, hn _ _ b7, by omega, hd, b9⟩
    obtain ⟨f9, n9, c1, ⟨⟨va9, cap9, ml9, bs9, B9, k9⟩, o9⟩⟩ := C_wl (V := V) (g := g) S0 x1 x2 t1 hi B
    have hM := fun f0 => M_wl (V := V) (g := g) (m := m) (z := z) (A := A) (f0 := f0) hi r1 t1
    obtain ⟨oo1, oo2⟩ := o_all_ok (k := tK T) (c := tC T i)
    generalize o_all (tK T) (tC T i) = s at *
    have F9 : FR V x m o d f9 z A := F.up (fun b h1 h2 => o9 b (by omega) (by omega) (by omega))
    obtain ⟨f2, z1, A1, e1, e2, e3, y1, y2, y3, y4⟩ := caseC_ok (V := V) (g := g) (x := x) (d := d) (code := 0) (v := nn s.1) (L := p_L_writeLengths V g f n x (nn i) o) (Q := fun f => p_X8_writeLengths V g f m (nn i)) (Pr := fun z1 A1 => MO (upd z 7 0) z1 A A1 s) F9 (by
      unfold p_L_writeLengths
      rw [c1]
      rfl) (fun f1 => by
      obtain ⟨z4, A4, w1, w2⟩ := hM f1
      exact ⟨_, z4, A4, w1, (w2.2.2.1 7 (by decide)).trans (upd_s _ _ _), fun _ => rfl, w2⟩)
    have zz : ∀ k, k ≠ 7 → k ≠ 11 → z1 k = z k := fun k k7 k11 => (y3 k k11).trans (upd_n _ _ k7)
    obtain ⟨g1, g2, g3, g4, g5, g6, g7, g8, g9, g10⟩ := B9
    have ee : ∀ b, b < m → b ≠ x + 73 → b ≠ x + 74 → f2 b = f b := fun b hb h1 h2 => (e3 b (Or.inl hb)).trans (o9 b (by omega) h1 h2)
    have sb : SbR f2 x d z1 A1 := ⟨va9, cap9, s.1, bs9, ml9, y1, g1, g2, g3, by omega, (e3 _ (by omega)).trans g4, (e3 _ (by omega)).trans g5, g6, g10, fun j hj => by rw [y2 j hj, k9 j hj]; exact ⟨rfl, oo1 j hj⟩⟩
    refine ⟨f2, e1, z1, A1, e2, ⟨by rw [y4 0 (by decide)]; exact r1, fun k hk => by rw [y4 4 (by decide)]; exact r2 k hk, fun h => by rw [y4 3 (by decide)]; exact r3 h⟩, ⟨t1, t2, t3, t4, t5, t6⟩, ⟨(zz 6 (by decide) (by decide)).trans z6, (zz 9 (by decide) (by decide)).trans z9⟩, ⟨x1.fr (ee x (by omega) (by omega) (by omega)), x2.frame (fun b h1 h2 => ee b (by omega) (by omega) (by omega)), x3.frame (fun b hb => ee b (by omega) (by omega) (by omega)), fun h => (x4 h).frame (fun b h1 h2 => ee b (by omega) (by omega) (by omega))⟩, ⟨v, q1, q2, q3, q4, q5, cq, hK.frame (fun b h1 h2 => ee b (by omega) (by omega) (by omega))⟩, K.out (fun b hb => ee b (by omega) (by omega) (by omega)) (zz 8 (by decide) (by decide)) (zz 13 (by decide) (by decide)) (zz 20 (by decide) (by decide)) (y4 6 (by decide)) sb⟩
theorem by_8 : ∀ k, k < 128 → ((nn k &&& (255 : Int32)).toUInt32 % 65536).toInt32 = nn k := by decide
theorem by_9 : ∀ k, k < 128 → ((nn k).toUInt32 % 65536).toInt32 = nn k := by decide
theorem ou_in {k : Nat} (hk : k ≤ 200) (a : Int32) : decide (¬ a < (0 : Int32) ∧ ¬ nn k - (1 : Int32) < a) = inC k a := by
  have e : (nn k - (1 : Int32)).toInt = (k : Int) - 1 := by
    rw [i_sub (by rw [nn_i (by omega)]; show _ ≤ (k : Int) - 1; omega) (by rw [nn_i (by omega)]; show (k : Int) - 1 < _; omega), nn_i (by omega)]
    rfl
  unfold inC
  apply decide_eq_decide.mpr
  rw [i_lt, i_lt, e, i_lt, nn_i (by omega)]
  show (¬ a.toInt < 0 ∧ ¬ (k : Int) - 1 < a.toInt) ↔ (¬ a.toInt < 0 ∧ a.toInt < (k : Int))
  omega
theorem case_54 {n x0 : Nat} {x5 a : Int32} (I : IV V x m o d f z A T hs u p H S) (h1 : h_li (gA g) x0 0 (x5 + (1 : Int32)) = some a) : ∃ f2, p_case_54 V g f n x0 x m o d x5 = some f2 ∧ ∃ z1 A1, IV V x m o d f2 z1 A1 T hs u p H S := by
  have I0 := I
  obtain ⟨F, ⟨r1, r2, r3⟩, ⟨t1, t2, t3, t4, t5, t6⟩, ⟨z6, z9⟩, ⟨x1, x2, x3, x4⟩, ⟨v, q1, q2, q3, q4, q5, cq, hK⟩, K⟩ := I
  have hun : p_case_54 V g f n x0 x m o d x5 = caseI V g m o (p_L_outputByte V g f x a o) (fun f => p_X8_outputByte V g f m a) := by
    unfold p_case_54 caseI
    simp only [h1, ob_s]
  rw [hun]
  obtain ⟨_, _, _, _, _, _, ⟨va, cap, ol, bs, ml, b1, b2, b3, b4, b5, b6, b7, b8, b9, b10⟩⟩ := id K
  have hlen : p_J4_length_8abf5 V g f (x + 73) = some (nn ol) := by
    unfold p_J4_length_8abf5 p_J5_length_8abf5
    rw [hme_of b6, hme_of b6, hgi_of b6 rfl, ob_s, ob_s]
  have hQ : ∀ f0, p_X8_outputByte V g (mH V m 0 z A f0) m a = (p_X8_lacks V g (mH V m 0 z A f0) m (bz (inC ol a))).bind fun v3 => (if v3.1 = (0 : Int32) then (h_gr v3.2 m 10 10).bind fun v5 => (h_li v3.2 v5 0 a).bind fun v6 => some (v6, v3.2) else some ((0 : Int32), v3.2)) := by
    intro f0
    unfold p_X8_outputByte
    rw [m_me, m_gi (k := 11) (by decide), b1, ob_s, M_range, ob_s, ou_in (by omega) a]
  cases hin : inC ol a with
  | false =>
    have hp : p_X7_outputByte V g f x a = some (.inl 0) := by
      unfold p_X7_outputByte
      rw [x1.me]
      by_cases hz : a < (0 : Int32)
      · rw [if_pos hz]
      · have : ¬ a < nn ol := fun h => by
          unfold inC at hin
          exact absurd (show ¬ a < (0 : Int32) ∧ a < nn ol from ⟨hz, h⟩) (of_decide_eq_false hin)
        rw [if_neg hz, x1.ou, ob_s, hlen, ob_s, if_neg this]
    obtain ⟨f2, z1, A1, e1, e2, e3, e4⟩ := caseC_ok (V := V) (g := g) (x := x) (d := d) (code := 1) (v := 0) (L := p_L_outputByte V g f x a o) (Q := fun f => p_X8_outputByte V g f m a) (Pr := fun z1 A1 => CP z A T u H z1 A1) F (by
      unfold p_L_outputByte
      rw [hp]
      rfl) (fun f1 => by
      refine ⟨0, upd z 7 1, A, ?_, upd_s _ _ _, fun h => absurd h (by decide), ⟨(upd_n _ _ (by decide)).trans z6, fun k _ h => upd_n _ _ h, r1, r2, fun _ _ _ _ => rfl⟩⟩
      rw [hQ, hin, show bz false = (0 : Int32) from rfl, M_lacksF, ob_s, if_neg (show ¬ (1 : Int32) = 0 by decide)])
    exact ⟨f2, e1, z1, A1, I0.chg e2 e3 x1 x2 x3 ⟨v, q1, q2, q3, q4, q5, cq, hK⟩ (fun _ _ => rfl) e4 t1 t2 t4 t5⟩
  | true =>
    obtain ⟨j, hj, rfl⟩ := inC_ex (by omega) hin
    obtain ⟨w1, w2, w3⟩ := b10 j hj
    obtain ⟨y, hy, ey⟩ : ∃ y, y < 128 ∧ A 5 j = nn y := by
      have hy : A 5 j = nn (A 5 j).toNatClampNeg := nn_of (by rw [i_le]; exact w2)
      have hc : (A 5 j).toNatClampNeg < 2147483648 := Int32.toNatClampNeg_lt _
      refine ⟨_, ?_, hy⟩
      rw [hy, nn_i hc] at w3
      omega
    have hch : p_J4_charAt_5068e V g f (x + 73) (nn j) = some (A 5 j) := by
      unfold p_J4_charAt_5068e p_J5_charAt_5068e
      rw [hme_of b6, hme_of b6, hgi_of b6 rfl, ob_s, hgr_of b6 rfl, ob_s, hgi_of b6 rfl, ob_s, hal_of b7, ob_s]
      dsimp only
      rw [sr0 (by omega)]
      unfold p_J9_min_7cf53
      rw [if_neg (by rw [nn_lt (by omega) (by omega)]; omega), ob_s]
      unfold p_J0_checkIndex_df160 p_J3_checkIndex_8e157
      rw [if_neg (nn_nl j (by omega)), if_pos (by rw [nn_lt (by omega) (by omega)]; exact hj), ob_s, ob_s, if_pos rfl, hli_of b7 (by omega) (by omega), ob_s, w1, ey, by_8 y hy]
      unfold h_cz
      rw [by_9 y hy, if_pos rfl, ob_s, ob_s, by_9 y hy, if_pos rfl, ob_s]
    have hp : p_X7_outputByte V g f x (nn j) = some (.inr (A 5 j)) := by
      unfold p_X7_outputByte
      rw [x1.me, if_neg (nn_nl j (by omega)), x1.ou, ob_s, hlen, ob_s, if_pos (by rw [nn_lt (by omega) (by omega)]; exact hj), ob_s, hch, ob_s]
    obtain ⟨f2, z1, A1, e1, e2, e3, e4⟩ := caseC_ok (V := V) (g := g) (x := x) (d := d) (code := 0) (v := A 5 j) (L := p_L_outputByte V g f x (nn j) o) (Q := fun f => p_X8_outputByte V g f m (nn j)) (Pr := fun z1 A1 => CP z A T u H z1 A1) F (by
      unfold p_L_outputByte
      rw [hp]
      rfl) (fun f1 => by
      refine ⟨A 5 j, upd z 7 0, A, ?_, upd_s _ _ _, fun _ => rfl, ⟨(upd_n _ _ (by decide)).trans z6, fun k _ h => upd_n _ _ h, r1, r2, fun _ _ _ _ => rfl⟩⟩
      rw [hQ, hin, show bz true = (1 : Int32) from rfl, M_lacksT, ob_s, if_pos rfl, m_r10, ob_s, m_li (by decide) (show j < mL 5 by show j < 100; omega), ob_s])
    exact ⟨f2, e1, z1, A1, I0.chg e2 e3 x1 x2 x3 ⟨v, q1, q2, q3, q4, q5, cq, hK⟩ (fun _ _ => rfl) e4 t1 t2 t4 t5⟩
end CW

/-! ===== changes, the reference's side: a coastline less, a coastline more, the metric ===== -/
/-- a coastline as it is told: in a row of its own from place o on -/
def RQ (s : Nat → Int32) (o : Nat) (c : CS) : Prop := s o = cI c ∧ s (o + 1) = nn (cN c) ∧ ∀ k, k < cN c → s (o + 2 + 2 * k) = cX c k ∧ s (o + 3 + 2 * k) = cY c k
theorem RQ.frame {r r1 : Nat → Int32} {o o1 : Nat} {c : CS} (h : RQ r o c) (hn : cN c ≤ 33) (e : ∀ k, k < 68 → r1 (o1 + k) = r (o + k)) : RQ r1 o1 c := by
  refine ⟨?_, ?_, fun k hk => ?_⟩
  · exact (e 0 (by omega)).trans h.1
  · exact (e 1 (by omega)).trans h.2.1
  · rw [show o1 + 2 + 2 * k = o1 + (2 + 2 * k) by omega, show o1 + 3 + 2 * k = o1 + (3 + 2 * k) by omega, e _ (by omega), e _ (by omega), show o + (2 + 2 * k) = o + 2 + 2 * k by omega, show o + (3 + 2 * k) = o + 3 + 2 * k by omega]
    exact h.2.2 k hk
section ME
variable {V : Nat → Nat} {g f0 : GH} {m b : Nat} {z : Nat → Int32} {A : Nat → Nat → Int32} {T : TS} {i : Nat} {c : CS}
theorem M_rem_l (hb : b < 2) {n : Nat} (h6 : n ≤ 6) (hi : i < n) (C : Nat → CS) (hC : ∀ j, j < n → cN (C j) ≤ 129) (r0 : Nat → Int32) (h1 : r0 1 = nn n) (K : Nat → GH → Option (Int32 × GH)) :
    ∀ (d N t : Nat) (r : Nat → Int32), t + d = n → d < N → i + 1 ≤ t → (∀ k, k < 5 + 260 * i → r k = r0 k) → (∀ j, i ≤ j → j + 1 < t → RC r j (C (j + 1))) → (∀ j, t ≤ j → j < n → RC r j (C j)) →
      ∃ r1, p_X8_doRemove_l28 V g K N m (nn t) (mH V m b z (upA A b r) f0) = K m (mH V m b z (upA A b r1) f0) ∧ (∀ k, k < 5 + 260 * i → r1 k = r0 k) ∧ ∀ j, i ≤ j → j + 1 < n → RC r1 j (C (j + 1)) := by
  intro d
  induction d with
  | zero =>
    intro N t r he hN hit e1 e2 e3
    obtain ⟨N, rfl⟩ : ∃ M, N = M + 1 := ⟨N - 1, by omega⟩
    refine ⟨r, ?_, e1, fun j q1 q2 => e2 j q1 (by omega)⟩
    rw [p_X8_doRemove_l28, m_row, ob_s, m_l1 hb, upA_s, ob_s, e1 1 (by omega), h1, if_pos (by rw [nn_le (by omega) (by omega)]; omega)]
  | succ d ih =>
    intro N t r he hN hit e1 e2 e3
    obtain ⟨N, rfl⟩ : ∃ M, N = M + 1 := ⟨N - 1, by omega⟩
    have hcc := M_copyCoast (V := V) (g := g) (m := m) (z := z) (A := upA A b r) (f0 := f0) hb (show t ≤ 6 by omega) (show t - 1 ≤ 6 by omega)
    rw [upA_up, upA_s] at hcc
    obtain ⟨r1, g1, g2, g3⟩ := ih N (t + 1) (va_cpy r r (5 + 260 * t) (5 + 260 * (t - 1)) 260) (by omega) (by omega) (by omega) (fun k hk => by rw [cpy_out (by omega)]; exact e1 k hk) (fun j q1 q2 => by
      by_cases e : j = t - 1
      · have := RC_cpy (j := t - 1) (e3 t (Nat.le_refl _) (by omega)) (hC t (by omega))
        rw [e, show t - 1 + 1 = t by omega]
        exact this
      · exact (e2 j q1 (by omega)).frame (hC _ (by omega)) (fun k q3 q4 => cpy_out (by omega))) (fun j q1 q2 => (e3 j (by omega) q2).frame (hC _ q2) (fun k q3 q4 => cpy_out (by omega)))
    refine ⟨r1, ?_, g2, g3⟩
    rw [p_X8_doRemove_l28, m_row, ob_s, m_l1 hb, upA_s, ob_s, e1 1 (by omega), h1, if_neg (by rw [nn_le (by omega) (by omega)]; omega), nn_p (by omega), hcc, ob_s, nn_s]
    exact g1
theorem M_doRemove (hb : b < 2) (R : RT (A b) T) (hv : TV T) (hi : i < tN T) : ∃ A1, RB b A A1 ∧ p_X8_doRemove V g (mH V m b z A f0) m (nn i) = some (0, mH V m b z A1 f0) ∧ RT (A1 b) (ts_rem T i) := by
  have h6 := hv.1
  have rc := R.2.2.2.2.2
  have n2 := fun j hj => (hv.2.2 j hj).n2
  have r4 : ∀ j, j < tN T → RC (upd (A b) 4 (tR T + nn (cN (tC T i)))) j (tC T j) := fun j hj => (rc j hj).frame (n2 j hj) (fun k q1 q2 => upd_n _ _ (by omega))
  obtain ⟨r1, e1, e2, e3⟩ := M_rem_l (V := V) (g := g) (m := m) (z := z) (A := A) (f0 := f0) hb h6 hi (tC T) n2 (upd (A b) 4 (tR T + nn (cN (tC T i)))) (by rw [upd_n _ _ (by decide)]; exact R.2.1) (fun x0 f =>
      (h_gr f x0 10 5).bind fun v11 =>
      (h_li f v11 0 (1 : Int32)).bind fun v12 =>
      (h_si f v11 0 (1 : Int32) (v12 - (1 : Int32))).bind fun f13 =>
      some ((0 : Int32), f13)) (tN T - (i + 1)) FU (i + 1) (upd (A b) 4 (tR T + nn (cN (tC T i)))) (by omega) (by unfold FU; omega) (Nat.le_refl _) (fun _ _ => rfl) (fun j q1 q2 => by omega) (fun j q1 q2 => r4 j q2)
  refine ⟨upA A b (upd r1 1 (nn (tN T - 1))), (RB.rf b A).up _, ?_, ?_⟩
  · unfold p_X8_doRemove
    rw [m_me, M_isCoast hb R h6, ob_s, inC_nn (by omega) hi, if_neg bz_tn, m_row, ob_s, m_l4 hb, ob_s, M_count hb (by omega) (rc i hi), ob_s, m_s4 hb, ob_s, R.2.2.2.2.1, nn_s]
    refine e1.trans ?_
    show ((h_gr (mH V m b z (upA A b r1) f0) m 10 5).bind _) = _
    rw [m_row, ob_s, m_l1 hb, upA_s, ob_s, e2 1 (by omega), upd_n _ _ (by decide), R.2.1, nn_p (by omega), m_s1 hb, ob_s, upA_up, upA_s]
  · rw [upA_s]
    have oo : ∀ k, k < 5 → k ≠ 1 → k ≠ 4 → upd r1 1 (nn (tN T - 1)) k = A b k := fun k hk k1 k4 => by rw [upd_n _ _ k1, e2 k (by omega), upd_n _ _ k4]
    refine ⟨(oo 0 (by omega) (by omega) (by omega)).trans R.1, upd_s _ _ _, (oo 2 (by omega) (by omega) (by omega)).trans R.2.2.1, (oo 3 (by omega) (by omega) (by omega)).trans R.2.2.2.1, ?_, fun j hj => ?_⟩
    · rw [upd_n _ _ (by decide), e2 4 (by omega), upd_s]
      rfl
    · have hj : j < tN T - 1 := hj
      show RC _ j (if j < i then tC T j else tC T (j + 1))
      by_cases e : j < i
      · rw [if_pos e]
        exact (rc j (by omega)).frame (n2 j (by omega)) (fun k q1 q2 => by rw [upd_n _ _ (by omega), e2 k (by omega), upd_n _ _ (by omega)])
      · rw [if_neg e]
        exact (e3 j (by omega) (by omega)).frame (n2 _ (by omega)) (fun k q1 q2 => upd_n _ _ (by omega))
theorem M_layTold (hb : b < 2) (h1 : A b 1 = nn i) (hi : i < 7) : p_X8_layTold V g (mH V m b z A f0) m = some (mH V m b z (upA A b (upd (va_cpy (A 7) (A b) 0 (5 + 260 * i) 68) 1 (nn (i + 1)))) f0) := by
  have hc := m_cp (V := V) (m := m) (b := b) (z := z) (A := A) (f0 := f0) (i := 7) (j := b) (sp := 0) (dp := 5 + 260 * i) (n := 68) (by decide) (by omega) (by decide) (by rw [mL_row hb]; omega)
  unfold p_X8_layTold
  rw [m_me, m_r22, ob_s, m_row, ob_s, ob_s, m_l1 hb, ob_s, h1, p_at, ob_s, ob_s, m_al (j := 7) (by decide), ob_s]
  show ((h_cp (mH V m b z A f0) 0 (m + 1 + 7) (nn 0) (m + 1 + b) (nn (5 + 260 * i)) (nn 68)).bind _) = _
  rw [hc, ob_s, m_row, ob_s, m_l1 hb, upA_s, ob_s, cpy_out (by omega), h1, nn_s, m_s1 hb, ob_s, upA_up, upA_s]
theorem RT.told {r r1 : Nat → Int32} {A' : Int32} (R : RT r T) (hv : TV T) (h6 : tN T < 6) (hn : cN c ≤ 33) {s : Nat → Int32} (q : RQ s 0 c) (h0 : r1 0 = r 0) (h1 : r1 1 = nn (tN T + 1)) (h2 : r1 2 = r 2) (h3 : r1 3 = A') (h4 : r1 4 = r 4) (hc : ∀ k, k < 68 → r1 (5 + 260 * tN T + k) = s k) (ho : ∀ k, 5 ≤ k → k < 5 + 260 * tN T → r1 k = r k) : RT r1 (tN T + 1, tK T, tL T, A', tR T, fun j => if j = tN T then c else tC T j) := by
  refine ⟨h0.trans R.1, h1, h2.trans R.2.2.1, h3, h4.trans R.2.2.2.2.1, fun j hj => ?_⟩
  have hj : j < tN T + 1 := hj
  show RC r1 j (if j = tN T then c else tC T j)
  by_cases e : j = tN T
  · rw [if_pos e, e]
    refine ⟨(hc 0 (by omega)).trans q.1, ?_, fun k hk => ?_⟩
    · rw [show 6 + 260 * tN T = 5 + 260 * tN T + 1 by omega, hc 1 (by omega)]; exact q.2.1
    · rw [show 7 + 260 * tN T + 2 * k = 5 + 260 * tN T + (2 + 2 * k) by omega, show 8 + 260 * tN T + 2 * k = 5 + 260 * tN T + (3 + 2 * k) by omega, hc _ (by omega), hc _ (by omega)]
      have := q.2.2 k hk
      rw [show 0 + 2 + 2 * k = 2 + 2 * k by omega, show 0 + 3 + 2 * k = 3 + 2 * k by omega] at this
      exact this
  · rw [if_neg e]
    exact (R.2.2.2.2.2 j (by omega)).frame (hv.2.2 j (by omega)).n2 (fun k q1 q2 => ho k (by omega) (by omega))
theorem M_doAdd (hb : b < 2) (R : RT (A b) T) (hv : TV T) (q : RQ (A 7) 0 c) (hn : cN c ≤ 33) : if tN T < 6 then (∃ A1, RB b A A1 ∧ p_X8_doAdd V g (mH V m b z A f0) m = some (0, mH V m b z A1 f0) ∧ RT (A1 b) (ts_add T c)) else p_X8_doAdd V g (mH V m b z A f0) m = some (2, mH V m b z A f0) := by
  have h6 := hv.1
  split
  · rename_i hc
    have hl := M_layTold (V := V) (g := g) (m := m) (z := z) (A := upA A b (upd (A b) 3 (A b 3 + nn (cN c)))) (f0 := f0) hb (i := tN T) (by rw [upA_s, upd_n _ _ (by decide)]; exact R.2.1) (by omega)
    rw [upA_up, upA_s, upA_n _ _ (show 7 ≠ b by omega)] at hl
    have e71 : h_li (mH V m b z A f0) (m + 1 + 7) 0 (1 : Int32) = some (nn (cN c)) := (m_li (j := 7) (k := 1) (by decide) (by decide)).trans (congrArg some q.2.1)
    refine ⟨_, (RB.rf b A).up (upd (va_cpy (A 7) (upd (A b) 3 (A b 3 + nn (cN c))) 0 (5 + 260 * tN T) 68) 1 (nn (tN T + 1))), ?_, ?_⟩
    · unfold p_X8_doAdd
      rw [m_me, m_row, ob_s, m_l1 hb, ob_s, R.2.1, if_neg (fun e => by rw [n_6, nn_eq (by omega) (by omega)] at e; omega), ob_s, m_l3 hb, ob_s, m_r22, ob_s, e71, ob_s, m_s3 hb, ob_s, hl, ob_s]
    · rw [upA_s]
      have oo : ∀ k, (k < 5 + 260 * tN T) → k ≠ 1 → k ≠ 3 → upd (va_cpy (A 7) (upd (A b) 3 (A b 3 + nn (cN c))) 0 (5 + 260 * tN T) 68) 1 (nn (tN T + 1)) k = A b k := fun k hk k1 k3 => by
        rw [upd_n _ _ k1, cpy_out (by omega), upd_n _ _ k3]
      exact R.told hv hc hn q (oo 0 (by omega) (by omega) (by omega)) (upd_s _ _ _) (oo 2 (by omega) (by omega) (by omega)) (by rw [upd_n _ _ (by decide), cpy_out (by omega), upd_s, R.2.2.2.1]) (oo 4 (by omega) (by omega) (by omega)) (fun k hk => by rw [upd_n _ _ (by omega), cpy_in (by omega) (by omega)]; congr 1; omega) (fun k q1 q2 => oo k q2 (by omega) (by omega))
  · rename_i hc
    unfold p_X8_doAdd
    rw [m_me, m_row, ob_s, m_l1 hb, ob_s, R.2.1, if_pos (by rw [show tN T = 6 by omega]; rfl)]
theorem M_setMetric (hb : b < 2) {k : Int32} (h01 : k = 0 ∨ k = 1) : p_X8_setMetric V g (mH V m b z A f0) m k = some (mH V m b z (upA A b (upd (A b) 0 k)) f0) := by
  unfold p_X8_setMetric
  rw [m_me, m_row, ob_s]
  rcases h01 with e | e
  · rw [if_pos e, m_s0 hb, ob_s, e]
  · rw [if_neg (by rw [e]; decide), m_s0 hb, ob_s, e]
theorem RT.met (R : RT (A b) T) (hv : TV T) (k : Int32) : RT (upd (A b) 0 k) (ts_met T k) :=
  ⟨upd_s _ _ _, (upd_n _ _ (by decide)).trans R.2.1, (upd_n _ _ (by decide)).trans R.2.2.1, (upd_n _ _ (by decide)).trans R.2.2.2.1, (upd_n _ _ (by decide)).trans R.2.2.2.2.1, fun j hj => (R.2.2.2.2.2 j hj).frame (hv.2.2 j hj).n2 (fun q q1 q2 => upd_n _ _ (by omega))⟩
end ME

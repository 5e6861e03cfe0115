/-! ===== changes: the reference's side ===== -/
/-- nothing but row b changed -/
def RB (b : Nat) (A A1 : Nat → Nat → Int32) : Prop := ∀ r, r ≠ b → A1 r = A r
theorem RB.rf (b : Nat) (A : Nat → Nat → Int32) : RB b A A := fun _ _ => rfl
theorem RB.tr {b : Nat} {A A1 A2 : Nat → Nat → Int32} (h : RB b A A1) (k : RB b A1 A2) : RB b A A2 := fun r hr => (k r hr).trans (h r hr)
theorem RB.up {b : Nat} {A A1 : Nat → Nat → Int32} (h : RB b A A1) (r : Nat → Int32) : RB b A (upA A1 b r) := fun j hj => (upA_n A1 r hj).trans (h j hj)
theorem SC.rb {b : Nat} {A A1 : Nat → Nat → Int32} (h : SC b A A1) : RB b A A1 := fun r hr => funext (fun k => h r k (Or.inl hr))
theorem RT.set {r r1 : Nat → Int32} {T : TS} {i : Nat} {c : CS} {A' R' : Int32} (R : RT r T) (hv : TV T) (h0 : r1 0 = r 0) (h1 : r1 1 = r 1) (h2 : r1 2 = r 2) (h3 : r1 3 = A') (h4 : r1 4 = R') (hc : RC r1 i c) (ho : ∀ k, 5 ≤ k → k < 1565 → (k < 5 + 260 * i ∨ 265 + 260 * i ≤ k) → r1 k = r k) : RT r1 (tN T, tK T, tL T, A', R', fun j => if j = i then c else tC T j) := by
  obtain ⟨q0, q1, q2, q3, q4, q5⟩ := R
  refine ⟨h0.trans q0, h1.trans q1, h2.trans q2, h3, h4, fun j hj => ?_⟩
  have hj : j < tN T := hj
  have h6 := hv.1
  show RC r1 j (if j = i then c else tC T j)
  by_cases e : j = i
  · rw [if_pos e, e]; exact hc
  · rw [if_neg e]
    exact (q5 j hj).frame (hv.2.2 j hj).n2 (fun k k1 k2 => ho k (by omega) (by omega) (by omega))
section MD
variable {V : Nat → Nat} {g f0 : GH} {m b : Nat} {z : Nat → Int32} {A : Nat → Nat → Int32} {T : TS} {i : Nat} {c : CS}
theorem m_lr (hb : b < 2) {k : Nat} (hk : k < 1825) : h_li (mH V m b z A f0) (m + 1 + b) 0 (nn k) = some (A b k) := m_li (by omega) (by rw [mL_row hb]; exact hk)
theorem m_sr (hb : b < 2) {k : Nat} (hk : k < 1825) (v : Int32) : h_si (mH V m b z A f0) (m + 1 + b) 0 (nn k) v = some (mH V m b z (upA A b (upd (A b) k v)) f0) := m_si (by omega) (by rw [mL_row hb]; exact hk)
theorem m_l0 (hb : b < 2) : h_li (mH V m b z A f0) (m + 1 + b) 0 (0 : Int32) = some (A b 0) := m_lr hb (k := 0) (by decide)
theorem m_l1 (hb : b < 2) : h_li (mH V m b z A f0) (m + 1 + b) 0 (1 : Int32) = some (A b 1) := m_lr hb (k := 1) (by decide)
theorem m_l2 (hb : b < 2) : h_li (mH V m b z A f0) (m + 1 + b) 0 (2 : Int32) = some (A b 2) := m_lr hb (k := 2) (by decide)
theorem m_l3 (hb : b < 2) : h_li (mH V m b z A f0) (m + 1 + b) 0 (3 : Int32) = some (A b 3) := m_lr hb (k := 3) (by decide)
theorem m_l4 (hb : b < 2) : h_li (mH V m b z A f0) (m + 1 + b) 0 (4 : Int32) = some (A b 4) := m_lr hb (k := 4) (by decide)
theorem m_s0 (hb : b < 2) (v : Int32) : h_si (mH V m b z A f0) (m + 1 + b) 0 (0 : Int32) v = some (mH V m b z (upA A b (upd (A b) 0 v)) f0) := m_sr hb (k := 0) (by decide) v
theorem m_s1 (hb : b < 2) (v : Int32) : h_si (mH V m b z A f0) (m + 1 + b) 0 (1 : Int32) v = some (mH V m b z (upA A b (upd (A b) 1 v)) f0) := m_sr hb (k := 1) (by decide) v
theorem m_s2 (hb : b < 2) (v : Int32) : h_si (mH V m b z A f0) (m + 1 + b) 0 (2 : Int32) v = some (mH V m b z (upA A b (upd (A b) 2 v)) f0) := m_sr hb (k := 2) (by decide) v
theorem m_s3 (hb : b < 2) (v : Int32) : h_si (mH V m b z A f0) (m + 1 + b) 0 (3 : Int32) v = some (mH V m b z (upA A b (upd (A b) 3 v)) f0) := m_sr hb (k := 3) (by decide) v
theorem m_s4 (hb : b < 2) (v : Int32) : h_si (mH V m b z A f0) (m + 1 + b) 0 (4 : Int32) v = some (mH V m b z (upA A b (upd (A b) 4 v)) f0) := m_sr hb (k := 4) (by decide) v
theorem at_1 (i : Nat) : nn (5 + 260 * i) + (1 : Int32) = nn (6 + 260 * i) := by rw [nn_s]; congr 1; omega
theorem RC.pts {r : Nat → Int32} (h : RC r i c) : Pts r i 0 (cN c) (cX c) (cY c) := fun k _ hk => h.2.2 k hk
theorem M_doFold (hb : b < 2) (R : RT (A b) T) (hv : TV T) (hi : i < tN T) (w : Int32) : ∃ A1, RB b A A1 ∧ (s_why (tC T i) w = 0 → p_X8_doFold V g (mH V m b z A f0) m (nn i) w = some (0, mH V m b z A1 f0) ∧ RT (A1 b) (ts_set T i (s_fold (tC T i) w))) ∧ (s_why (tC T i) w ≠ 0 → p_X8_doFold V g (mH V m b z A f0) m (nn i) w = some (3, mH V m b z A1 f0) ∧ SC b A A1) := by
  have h6 := hv.1
  have cv := hv.2.2 i hi
  have n2 := cv.n2
  have hsl := s_seg_le (tC T i)
  obtain ⟨A1, e1, s1, k1⟩ := M_layFolded (V := V) (g := g) (m := m) (z := z) (f0 := f0) hb (show i < 6 by omega) (R.2.2.2.2.2 i hi) cv w
  have R1 := s1.rt R hv
  by_cases hw : s_why (tC T i) w = 0
  · have hn : cN (tC T i) + s_seg (tC T i) ≤ 129 := by
      unfold s_why at hw
      split at hw
      · exact absurd hw (by decide)
      · omega
    have k6 := k1 hw
    have e6 := M_count (V := V) (g := g) (f0 := f0) (m := m) (z := z) hb (show 6 ≤ 6 by decide) k6
    rw [← n_6] at e6
    have hc := M_copyCoast (V := V) (g := g) (f0 := f0) (m := m) (z := z) (A := upA A1 b (upd (A1 b) 3 (A1 b 3 + nn (s_seg (tC T i))))) hb (show 6 ≤ 6 by decide) (show i ≤ 6 by omega)
    rw [← n_6, upA_s, upA_up] at hc
    have hkk : (nn (cN (s_fold (tC T i) w)) - nn (cN (tC T i))) = nn (s_seg (tC T i)) := by
      show nn (cN (tC T i) + s_seg (tC T i)) - nn (cN (tC T i)) = _
      rw [nn_sub (by omega)]
      congr 1
      omega
    refine ⟨_, s1.rb.up (va_cpy (upd (A1 b) 3 (A1 b 3 + nn (s_seg (tC T i)))) (upd (A1 b) 3 (A1 b 3 + nn (s_seg (tC T i)))) (5 + 260 * 6) (5 + 260 * i) 260), fun _ => ⟨?_, ?_⟩, fun hne => absurd hw hne⟩
    · unfold p_X8_doFold
      rw [m_me, M_isCoast hb R h6, ob_s, inC_nn (by omega) hi, if_neg bz_tn, e1, ob_s, if_pos hw, m_row, ob_s, m_l3 hb, ob_s, e6, ob_s, M_count hb (by omega) (R1.2.2.2.2.2 i hi), ob_s, hkk, m_s3 hb, ob_s, hc, ob_s]
    · rw [upA_s]
      have e3 : A1 b 3 = tA T := R1.2.2.2.1
      have hcp : ∀ k, (k < 5 + 260 * i ∨ 265 + 260 * i ≤ k) → k ≠ 3 → va_cpy (upd (A1 b) 3 (A1 b 3 + nn (s_seg (tC T i)))) (upd (A1 b) 3 (A1 b 3 + nn (s_seg (tC T i)))) (5 + 260 * 6) (5 + 260 * i) 260 k = A1 b k := fun k hk h3 => by
        rw [cpy_out (by omega), upd_n _ _ h3]
      have hR := R1.set (i := i) (c := s_fold (tC T i) w) (A' := tA T + nn (s_seg (tC T i))) (R' := tR T) (r1 := va_cpy (upd (A1 b) 3 (A1 b 3 + nn (s_seg (tC T i)))) (upd (A1 b) 3 (A1 b 3 + nn (s_seg (tC T i)))) (5 + 260 * 6) (5 + 260 * i) 260) hv (hcp 0 (by omega) (by omega)) (hcp 1 (by omega) (by omega)) (hcp 2 (by omega) (by omega)) (by rw [cpy_out (by omega), upd_s, e3]) (by rw [hcp 4 (by omega) (by omega)]; exact R1.2.2.2.2.1) (RC_cpy (k6.frame (show cN (s_fold (tC T i) w) ≤ 129 from hn) (fun k q1 q2 => upd_n _ _ (by omega))) (show cN (s_fold (tC T i) w) ≤ 129 from hn)) (fun k q1 q2 q3 => hcp k q3 (by omega))
      unfold ts_set
      have a1 : cN (s_fold (tC T i) w) - cN (tC T i) = s_seg (tC T i) := by show cN (tC T i) + s_seg (tC T i) - cN (tC T i) = _; omega
      have a2 : cN (tC T i) - cN (s_fold (tC T i) w) = 0 := by show cN (tC T i) - (cN (tC T i) + s_seg (tC T i)) = 0; omega
      rw [a1, a2, i_a0]
      exact hR
  · refine ⟨A1, s1.rb, fun h => absurd h hw, fun _ => ⟨?_, s1⟩⟩
    unfold p_X8_doFold
    rw [m_me, M_isCoast hb R h6, ob_s, inC_nn (by omega) hi, if_neg bz_tn, e1, ob_s, if_neg hw]
theorem M_doUnfold (hb : b < 2) (R : RT (A b) T) (hv : TV T) (hi : i < tN T) : if s_need (tC T i) ≤ (cN (tC T i) + 1) / 2 then (∃ A1, RB b A A1 ∧ p_X8_doUnfold V g (mH V m b z A f0) m (nn i) = some (0, mH V m b z A1 f0) ∧ RT (A1 b) (ts_set T i (s_unf (tC T i)))) else p_X8_doUnfold V g (mH V m b z A f0) m (nn i) = some (2, mH V m b z A f0) := by
  have h6 := hv.1
  have cv := hv.2.2 i hi
  have n1 := cv.n1
  have n2 := cv.n2
  have hnl := s_need_lt (tC T i)
  have rc := R.2.2.2.2.2 i hi
  have hdv : (nn (cN (tC T i)) + (1 : Int32)) / (2 : Int32) = nn ((cN (tC T i) + 1) / 2) := by rw [nn_s, n_2, nn_div (by omega) (by omega)]
  have hfw : p_X8_fewest V g (mH V m b z A f0) m (nn i) = some (nn (s_need (tC T i))) := M_fewest hb (by omega) rc cv.i01
  split
  · rename_i hc
    obtain ⟨r1, e1, p1, o1⟩ := M_unf_l (V := V) (g := g) (m := m) (z := z) (f0 := f0) hb (show i ≤ 6 by omega) n2 (upd (A b) 4 (A b 4 + (nn (cN (tC T i)) - nn ((cN (tC T i) + 1) / 2)))) (cX (tC T i)) (cY (tC T i)) ((cN (tC T i) + 1) / 2) (by omega) (fun x0 x1 x2 f => (h_gr f x0 10 5).bind fun v14 => (p_X8_at V g f x1).bind fun v15 => (h_si f v14 0 (v15 + (1 : Int32)) x2).bind fun f16 => some ((0 : Int32), f16)) ((cN (tC T i) + 1) / 2) FU 0 (upA A b (upd (A b) 4 (A b 4 + (nn (cN (tC T i)) - nn ((cN (tC T i) + 1) / 2))))) (by omega) (by unfold FU; omega) (fun k q1 q2 => by omega) (by
      rw [upA_s]
      exact (rc.frame n2 (fun k q1 q2 => upd_n _ _ (by omega))).pts) (by rw [upA_s]; exact Oth.rf _ _)
    rw [upA_up] at e1
    refine ⟨upA A b (upd r1 (6 + 260 * i) (nn ((cN (tC T i) + 1) / 2))), (RB.rf b A).up _, ?_, ?_⟩
    · unfold p_X8_doUnfold
      rw [m_me, M_isCoast hb R h6, ob_s, inC_nn (by omega) hi, if_neg bz_tn, M_count hb (by omega) rc, ob_s, hfw, ob_s, hdv, if_pos (by rw [nn_le (by omega) (by omega)]; exact hc), m_row, ob_s, m_l4 hb, ob_s, ob_s, m_s4 hb, ob_s]
      refine e1.trans ?_
      show ((h_gr (mH V m b z (upA A b r1) f0) m 10 5).bind _) = _
      rw [m_row, ob_s, p_at, ob_s, at_1, m_sr hb (by omega), ob_s, upA_up, upA_s]
    · rw [upA_s]
      have oo : ∀ k, (k < 5 + 260 * i ∨ 265 + 260 * i ≤ k) → k ≠ 4 → upd r1 (6 + 260 * i) (nn ((cN (tC T i) + 1) / 2)) k = A b k := fun k hk h4 => by
        rw [upd_n _ _ (by omega), o1 k (by omega), upd_n _ _ h4]
      have hrc : RC (upd r1 (6 + 260 * i) (nn ((cN (tC T i) + 1) / 2))) i (s_unf (tC T i)) := by
        refine ⟨?_, upd_s _ _ _, fun k hk => ?_⟩
        · rw [upd_n _ _ (by omega), o1 _ (by omega), upd_n _ _ (by omega)]
          exact rc.1
        · rw [upd_n _ _ (by omega), upd_n _ _ (by omega)]
          exact p1 k (by omega) hk
      have e4 : A b 4 = tR T := R.2.2.2.2.1
      have hR := R.set (i := i) (A' := tA T) (R' := tR T + (nn (cN (tC T i)) - nn ((cN (tC T i) + 1) / 2))) hv (oo 0 (by omega) (by omega)) (oo 1 (by omega) (by omega)) (oo 2 (by omega) (by omega)) ((oo 3 (by omega) (by omega)).trans R.2.2.2.1) (by rw [upd_n _ _ (by omega), o1 4 (by omega), upd_s, e4]) hrc (fun k q1 q2 q3 => oo k q3 (by omega))
      unfold ts_set
      have a1 : cN (s_unf (tC T i)) - cN (tC T i) = 0 := by show (cN (tC T i) + 1) / 2 - cN (tC T i) = 0; omega
      have a2 : nn (cN (tC T i)) - nn ((cN (tC T i) + 1) / 2) = nn (cN (tC T i) - cN (s_unf (tC T i))) := by
        show _ = nn (cN (tC T i) - (cN (tC T i) + 1) / 2)
        rw [nn_sub (by omega)]
      rw [a1, i_a0, ← a2]
      exact hR
  · rename_i hc
    unfold p_X8_doUnfold
    rw [m_me, M_isCoast hb R h6, ob_s, inC_nn (by omega) hi, if_neg bz_tn, M_count hb (by omega) rc, ob_s, hfw, ob_s, hdv, if_neg (by rw [nn_le (by omega) (by omega)]; exact hc)]
theorem lay_out (r : Nat → Int32) {i k j : Nat} (hk : k < 129) (x y : Int32) (hj : j < 7 + 260 * i ∨ 265 + 260 * i ≤ j) : lay r i k x y j = r j := lay_n r i k x y (by omega) (by omega)
theorem M_doMove (hb : b < 2) (R : RT (A b) T) (hv : TV T) (hi : i < tN T) {k : Nat} (hk : k < cN (tC T i)) (u w : Int32) : ∃ A1, RB b A A1 ∧ p_X8_doMove V g (mH V m b z A f0) m (nn i) (nn k) u w = some (0, mH V m b z A1 f0) ∧ RT (A1 b) (ts_set T i (s_put (tC T i) k u w)) := by
  have h6 := hv.1
  have cv := hv.2.2 i hi
  have n2 := cv.n2
  have rc := R.2.2.2.2.2 i hi
  refine ⟨_, (RB.rf b A).up (lay (A b) i k u w), ?_, ?_⟩
  · unfold p_X8_doMove
    rw [m_me, M_isPoint hb R hv, ob_s, inC_nn (by omega) hi, ix_nn (by omega), inC_nn (by omega) hk, show (true && true) = true from rfl, if_neg bz_tn, M_lay hb (by omega) (by omega), ob_s]
  · rw [upA_s]
    have hrc : RC (lay (A b) i k u w) i (s_put (tC T i) k u w) := by
      refine ⟨by rw [lay_out _ (by omega) _ _ (by omega)]; exact rc.1, by rw [lay_out _ (by omega) _ _ (by omega)]; exact rc.2.1, fun j hj => ?_⟩
      show _ = upd (cX (tC T i)) k u j ∧ _ = upd (cY (tC T i)) k w j
      by_cases e : j = k
      · rw [e, lay_x, lay_y, upd_s, upd_s]
        exact ⟨rfl, rfl⟩
      · rw [lay_n _ _ _ _ _ (by omega) (by omega), lay_n _ _ _ _ _ (by omega) (by omega), upd_n _ _ e, upd_n _ _ e]
        exact rc.2.2 j hj
    have oo : ∀ j, (j < 7 + 260 * i ∨ 265 + 260 * i ≤ j) → lay (A b) i k u w j = A b j := fun j hj => lay_out _ (by omega) _ _ hj
    have hR := R.set (i := i) (A' := tA T) (R' := tR T) hv (oo 0 (by omega)) (oo 1 (by omega)) (oo 2 (by omega)) ((oo 3 (by omega)).trans R.2.2.2.1) ((oo 4 (by omega)).trans R.2.2.2.2.1) hrc (fun k q1 q2 q3 => oo k (by omega))
    unfold ts_set
    show RT _ (tN T, tK T, tL T, tA T + nn (cN (tC T i) - cN (tC T i)), tR T + nn (cN (tC T i) - cN (tC T i)), _)
    rw [Nat.sub_self, i_a0, i_a0]
    exact hR
theorem M_doInsert (hb : b < 2) (R : RT (A b) T) (hv : TV T) (hi : i < tN T) {k : Nat} (hk : k ≤ cN (tC T i)) (u w : Int32) : if cN (tC T i) < 129 then (∃ A1, RB b A A1 ∧ p_X8_doInsert V g (mH V m b z A f0) m (nn i) (nn k) u w = some (0, mH V m b z A1 f0) ∧ RT (A1 b) (ts_set T i (s_ins (tC T i) k u w))) else p_X8_doInsert V g (mH V m b z A f0) m (nn i) (nn k) u w = some (3, mH V m b z A f0) := by
  have h6 := hv.1
  have cv := hv.2.2 i hi
  have n2 := cv.n2
  have rc := R.2.2.2.2.2 i hi
  have hin : decide (¬ nn k < (0 : Int32) ∧ ¬ nn (cN (tC T i)) < nn k) = true := by
    rw [decide_eq_true_iff, nn_lt (by omega) (by omega)]
    exact ⟨nn_nl k (by omega), by omega⟩
  split
  · rename_i hc
    obtain ⟨r1, e1, p1, p2, o1⟩ := M_insL (V := V) (g := g) (m := m) (z := z) (f0 := f0) hb (show i ≤ 6 by omega) (show cN (tC T i) ≤ 128 by omega) (A b) (cX (tC T i)) (cY (tC T i)) k u w (fun x0 x1 x2 x3 x4 f =>
          (p_X8_layPoint V g f x0 x1 x2 x3 x4).bind fun v13 =>
          (h_gr v13 x0 10 5).bind fun v14 =>
          (p_X8_at V g v13 x1).bind fun v15 =>
          (h_li v13 v14 0 (v15 + (1 : Int32))).bind fun v16 =>
          (h_si v13 v14 0 (v15 + (1 : Int32)) (v16 + (1 : Int32))).bind fun f17 =>
          (h_gr f17 x0 10 5).bind fun v18 =>
          (h_li f17 v18 0 (3 : Int32)).bind fun v19 =>
          (h_si f17 v18 0 (3 : Int32) (v19 + (1 : Int32))).bind fun f20 =>
          some ((0 : Int32), f20)) (cN (tC T i) - k) FU (cN (tC T i)) A (by omega) (by unfold FU; omega) (Nat.le_refl _) (fun j q1 q2 => by omega) (by rw [if_pos rfl]; exact rc.pts) (Oth.rf _ _)
    have hol : ∀ j, (j < 7 + 260 * i ∨ 265 + 260 * i ≤ j) → lay r1 i k u w j = A b j := fun j hj => (lay_out _ (by omega) _ _ hj).trans (o1 j hj)
    refine ⟨upA A b (upd (upd (lay r1 i k u w) (6 + 260 * i) (nn (cN (tC T i) + 1))) 3 (tA T + 1)), (RB.rf b A).up _, ?_, ?_⟩
    · unfold p_X8_doInsert
      rw [m_me, M_isCoast hb R h6, ob_s, inC_nn (by omega) hi, if_neg bz_tn, M_count hb (by omega) rc, ob_s, M_range, ob_s, hin, if_neg bz_tn, ob_s, if_neg (fun e => by rw [show (129 : Int32) = nn 129 from rfl, nn_eq (by omega) (by omega)] at e; omega), ob_s]
      refine e1.trans ?_
      show ((p_X8_layPoint V g (mH V m b z (upA A b r1) f0) m (nn i) (nn k) u w).bind _) = _
      rw [M_lay hb (by omega) (by omega), ob_s, upA_up, upA_s, m_row, ob_s, p_at, ob_s, at_1, m_lr hb (by omega), upA_s, ob_s, hol _ (by omega), rc.2.1, nn_s, m_sr hb (by omega), ob_s, upA_up, upA_s, m_row, ob_s, m_l3 hb, upA_s, ob_s, m_s3 hb, ob_s, upA_up, upA_s, upd_n _ _ (show 3 ≠ 6 + 260 * i by omega), hol 3 (by omega), R.2.2.2.1]
    · rw [upA_s]
      have oo : ∀ j, (j < 5 + 260 * i ∨ 265 + 260 * i ≤ j) → j ≠ 3 → upd (upd (lay r1 i k u w) (6 + 260 * i) (nn (cN (tC T i) + 1))) 3 (tA T + 1) j = A b j := fun j hj h3 => by
        rw [upd_n _ _ h3, upd_n _ _ (by omega)]
        exact hol j (by omega)
      have hrc : RC (upd (upd (lay r1 i k u w) (6 + 260 * i) (nn (cN (tC T i) + 1))) 3 (tA T + 1)) i (s_ins (tC T i) k u w) := by
        refine ⟨?_, ?_, fun j hj => ?_⟩
        · rw [upd_n _ _ (by omega), upd_n _ _ (by omega), hol _ (by omega)]
          exact rc.1
        · rw [upd_n _ _ (by omega), upd_s]
          rfl
        · have hj : j < cN (tC T i) + 1 := hj
          rw [upd_n _ _ (by omega), upd_n _ _ (by omega), upd_n _ _ (by omega), upd_n _ _ (by omega)]
          show _ = (if j < k then cX (tC T i) j else if j = k then u else cX (tC T i) (j - 1)) ∧ _ = (if j < k then cY (tC T i) j else if j = k then w else cY (tC T i) (j - 1))
          by_cases e : j = k
          · rw [e, lay_x, lay_y, if_neg (Nat.lt_irrefl k), if_pos rfl, if_neg (Nat.lt_irrefl k), if_pos rfl]
            exact ⟨rfl, rfl⟩
          · rw [lay_n _ _ _ _ _ (by omega) (by omega), lay_n _ _ _ _ _ (by omega) (by omega)]
            by_cases e2 : j < k
            · rw [if_pos e2, if_pos e2]; exact p2 j (by omega) e2
            · rw [if_neg e2, if_neg e2, if_neg e, if_neg e]; exact p1 j (by omega) (by omega)
      have hR := R.set (i := i) (A' := tA T + 1) (R' := tR T) hv (oo 0 (by omega) (by omega)) (oo 1 (by omega) (by omega)) (oo 2 (by omega) (by omega)) (upd_s _ _ _) ((oo 4 (by omega) (by omega)).trans R.2.2.2.2.1) hrc (fun k q1 q2 q3 => oo k q3 (by omega))
      unfold ts_set
      have a1 : cN (s_ins (tC T i) k u w) - cN (tC T i) = 1 := by show cN (tC T i) + 1 - cN (tC T i) = 1; omega
      have a2 : cN (tC T i) - cN (s_ins (tC T i) k u w) = 0 := by show cN (tC T i) - (cN (tC T i) + 1) = 0; omega
      rw [a1, a2, i_a0]
      exact hR
  · rename_i hc
    unfold p_X8_doInsert
    rw [m_me, M_isCoast hb R h6, ob_s, inC_nn (by omega) hi, if_neg bz_tn, M_count hb (by omega) rc, ob_s, M_range, ob_s, hin, if_neg bz_tn, ob_s, if_pos (show nn (cN (tC T i)) = (129 : Int32) by rw [show cN (tC T i) = 129 by omega]; rfl)]
theorem M_doCut (hb : b < 2) (R : RT (A b) T) (hv : TV T) (hi : i < tN T) {k : Nat} (hk : k < cN (tC T i)) : if s_need (tC T i) < cN (tC T i) then (∃ A1, RB b A A1 ∧ p_X8_doCut V g (mH V m b z A f0) m (nn i) (nn k) = some (0, mH V m b z A1 f0) ∧ RT (A1 b) (ts_set T i (s_cut (tC T i) k))) else p_X8_doCut V g (mH V m b z A f0) m (nn i) (nn k) = some (2, mH V m b z A f0) := by
  have h6 := hv.1
  have cv := hv.2.2 i hi
  have n1 := cv.n1
  have n2 := cv.n2
  have hne := cv.need
  have hnl := s_need_lt (tC T i)
  have rc := R.2.2.2.2.2 i hi
  have hfw : p_X8_fewest V g (mH V m b z A f0) m (nn i) = some (nn (s_need (tC T i))) := M_fewest hb (by omega) rc cv.i01
  split
  · rename_i hc
    obtain ⟨r1, e1, k1, o1⟩ := M_cut (V := V) (g := g) (m := m) (z := z) (f0 := f0) hb (show i ≤ 6 by omega) rc (by omega) n2 hk
    refine ⟨upA A b (upd r1 4 (tR T + 1)), (RB.rf b A).up _, ?_, ?_⟩
    · unfold p_X8_doCut
      rw [m_me, M_isPoint hb R hv, ob_s, inC_nn (by omega) hi, ix_nn (by omega), inC_nn (by omega) hk, show (true && true) = true from rfl, if_neg bz_tn, M_count hb (by omega) rc, ob_s, hfw, ob_s, if_neg (fun e => by rw [nn_eq (by omega) (by omega)] at e; omega), e1, ob_s, m_row, ob_s, m_l4 hb, upA_s, ob_s, m_s4 hb, ob_s, upA_up, upA_s, o1 4 (by omega), R.2.2.2.2.1]
    · rw [upA_s]
      have oo : ∀ j, (j < 5 + 260 * i ∨ 265 + 260 * i ≤ j) → j ≠ 4 → upd r1 4 (tR T + 1) j = A b j := fun j hj h4 => by
        rw [upd_n _ _ h4]
        exact o1 j hj
      have hR := R.set (i := i) (A' := tA T) (R' := tR T + 1) hv (oo 0 (by omega) (by omega)) (oo 1 (by omega) (by omega)) (oo 2 (by omega) (by omega)) ((oo 3 (by omega) (by omega)).trans R.2.2.2.1) (upd_s _ _ _) (k1.frame (show cN (tC T i) - 1 ≤ 129 by omega) (fun k q1 q2 => upd_n _ _ (by omega))) (fun k q1 q2 q3 => oo k q3 (by omega))
      unfold ts_set
      have a1 : cN (s_cut (tC T i) k) - cN (tC T i) = 0 := by show cN (tC T i) - 1 - cN (tC T i) = 0; omega
      have a2 : cN (tC T i) - cN (s_cut (tC T i) k) = 1 := by show cN (tC T i) - (cN (tC T i) - 1) = 1; omega
      rw [a1, a2, i_a0]
      exact hR
  · rename_i hc
    unfold p_X8_doCut
    rw [m_me, M_isPoint hb R hv, ob_s, inC_nn (by omega) hi, ix_nn (by omega), inC_nn (by omega) hk, show (true && true) = true from rfl, if_neg bz_tn, M_count hb (by omega) rc, ob_s, hfw, ob_s, if_pos (by rw [show cN (tC T i) = s_need (tC T i) by omega])]
theorem M_doShift (hb : b < 2) (R : RT (A b) T) (hv : TV T) (hi : i < tN T) (u w : Int32) : if s_may (tC T i) u w (cN (tC T i)) 0 = true then (∃ A1, RB b A A1 ∧ p_X8_doShift V g (mH V m b z A f0) m (nn i) u w = some (0, mH V m b z A1 f0) ∧ RT (A1 b) (ts_set T i (s_mv (tC T i) u w))) else p_X8_doShift V g (mH V m b z A f0) m (nn i) u w = some (3, mH V m b z A f0) := by
  have h6 := hv.1
  have cv := hv.2.2 i hi
  have n2 := cv.n2
  have rc := R.2.2.2.2.2 i hi
  have e1 := M_may_l (V := V) (g := g) (m := m) (z := z) (f0 := f0) hb (show i ≤ 6 by omega) rc n2 u w (fun f => some ((3 : Int32), f)) (fun x0 x1 x2 x3 f => p_X8_doShift_l58 V g (fun f => some ((0 : Int32), f)) FU x0 x1 x2 x3 (0 : Int32) f) (cN (tC T i)) FU 0 (by omega) (by unfold FU; omega)
  have e0 : p_X8_doShift V g (mH V m b z A f0) m (nn i) u w = p_X8_doShift_l13 V g (fun f => some ((3 : Int32), f)) (fun x0 x1 x2 x3 f => p_X8_doShift_l58 V g (fun f => some ((0 : Int32), f)) FU x0 x1 x2 x3 (0 : Int32) f) FU m (nn i) u w (0 : Int32) (mH V m b z A f0) := by
    unfold p_X8_doShift
    rw [m_me, M_isCoast hb R h6, ob_s, inC_nn (by omega) hi, if_neg bz_tn]
  rw [e0]
  split
  · rename_i hc
    obtain ⟨r1, e2, p1, o1⟩ := M_mv_l (V := V) (g := g) (m := m) (z := z) (f0 := f0) hb (show i ≤ 6 by omega) n2 (A b) (cX (tC T i)) (cY (tC T i)) rc.2.1 u w (fun f => some ((0 : Int32), f)) (cN (tC T i)) FU 0 A (by omega) (by unfold FU; omega) (fun k q1 q2 => by omega) rc.pts (Oth.rf _ _)
    refine ⟨_, (RB.rf b A).up r1, e1.trans ((if_pos hc).trans e2), ?_⟩
    rw [upA_s]
    have hrc : RC r1 i (s_mv (tC T i) u w) := ⟨(o1 _ (by omega)).trans rc.1, (o1 _ (by omega)).trans rc.2.1, fun k hk => p1 k (by omega) hk⟩
    have hR := R.set (i := i) (A' := tA T) (R' := tR T) hv (o1 0 (by omega)) (o1 1 (by omega)) (o1 2 (by omega)) ((o1 3 (by omega)).trans R.2.2.2.1) ((o1 4 (by omega)).trans R.2.2.2.2.1) hrc (fun k q1 q2 q3 => o1 k (by omega))
    unfold ts_set
    show RT _ (tN T, tK T, tL T, tA T + nn (cN (tC T i) - cN (tC T i)), tR T + nn (cN (tC T i) - cN (tC T i)), _)
    rw [Nat.sub_self, i_a0, i_a0]
    exact hR
  · rename_i hc
    refine e1.trans ?_
    rw [if_neg hc]
theorem M_doReverse (hb : b < 2) (R : RT (A b) T) (hv : TV T) (hi : i < tN T) : ∃ A1, RB b A A1 ∧ p_X8_doReverse V g (mH V m b z A f0) m (nn i) = some (0, mH V m b z A1 f0) ∧ RT (A1 b) (ts_set T i (s_rev (tC T i))) := by
  have h6 := hv.1
  have cv := hv.2.2 i hi
  have n2 := cv.n2
  have rc := R.2.2.2.2.2 i hi
  have hcc := M_copyCoast (V := V) (g := g) (m := m) (z := z) (A := A) (f0 := f0) hb (show i ≤ 6 by omega) (show 6 ≤ 6 by decide)
  rw [← n_6] at hcc
  have rc6 := RC_cpy (j := 6) rc n2
  have oc : ∀ k, k < 1565 → va_cpy (A b) (A b) (5 + 260 * i) (5 + 260 * 6) 260 k = A b k := fun k hk => cpy_out (by omega)
  obtain ⟨r1, e2, p1, o1⟩ := M_rev_l (V := V) (g := g) (m := m) (z := z) (f0 := f0) hb (show i < 6 by omega) n2 (va_cpy (A b) (A b) (5 + 260 * i) (5 + 260 * 6) 260) (cX (tC T i)) (cY (tC T i)) ((oc _ (by omega)).trans rc.2.1) rc6.pts (fun f => some ((0 : Int32), f)) (cN (tC T i)) FU 0 (upA A b (va_cpy (A b) (A b) (5 + 260 * i) (5 + 260 * 6) 260)) (by omega) (by unfold FU; omega) (fun k q1 q2 => by omega) (by rw [upA_s]; exact Oth.rf _ _)
  rw [upA_up] at e2
  refine ⟨_, (RB.rf b A).up r1, ?_, ?_⟩
  · unfold p_X8_doReverse
    rw [m_me, M_isCoast hb R h6, ob_s, inC_nn (by omega) hi, if_neg bz_tn, hcc, ob_s]
    exact e2
  · rw [upA_s]
    have oo : ∀ k, k < 1565 → (k < 7 + 260 * i ∨ 265 + 260 * i ≤ k) → r1 k = A b k := fun k hk h => (o1 k h).trans (oc k hk)
    have hrc : RC r1 i (s_rev (tC T i)) := ⟨(oo _ (by omega) (by omega)).trans rc.1, (oo _ (by omega) (by omega)).trans rc.2.1, fun k hk => p1 k (by omega) hk⟩
    have hR := R.set (i := i) (A' := tA T) (R' := tR T) hv (oo 0 (by omega) (by omega)) (oo 1 (by omega) (by omega)) (oo 2 (by omega) (by omega)) ((oo 3 (by omega) (by omega)).trans R.2.2.2.1) ((oo 4 (by omega) (by omega)).trans R.2.2.2.2.1) hrc (fun k q1 q2 q3 => oo k q2 (by omega))
    unfold ts_set
    show RT _ (tN T, tK T, tL T, tA T + nn (cN (tC T i) - cN (tC T i)), tR T + nn (cN (tC T i) - cN (tC T i)), _)
    rw [Nat.sub_self, i_a0, i_a0]
    exact hR
end MD

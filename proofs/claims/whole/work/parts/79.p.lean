/-! ===== a script's command is read and done: the reference's side ===== -/
def OrR (r : Nat → Int32) (o : Nat) (K : CMD) : Prop :=
  if qV K ≤ 2 then r o = 0 ∧ RQ r (o + 5) (qC K) else if qV K = 11 then r o = 9 ∧ r (o + 1) = qK K
  else r o = nn (qV K - 2) ∧ r (o + 1) = qA K ∧ (s_hp (qV K) = true → r (o + 2) = qP K) ∧ (qV K = 3 → r (o + 2) = qU K) ∧ (kBoth (qV K) = true → r (o + 3) = qU K ∧ r (o + 4) = qW K)
theorem OrR.frame {r r1 : Nat → Int32} {o : Nat} {K : CMD} (h : OrR r o K) (hv : CmV K) (e : ∀ k, o ≤ k → k < o + 73 → r1 k = r k) : OrR r1 o K := by
  unfold OrR at h ⊢
  by_cases c1 : qV K ≤ 2
  · rw [if_pos c1] at h ⊢
    exact ⟨(e o (by omega) (by omega)).trans h.1, h.2.frame (hv.2.2.1 c1).2 (fun k hk => e _ (by omega) (by omega))⟩
  · rw [if_neg c1] at h ⊢
    by_cases c2 : qV K = 11
    · rw [if_pos c2] at h ⊢
      exact ⟨(e o (by omega) (by omega)).trans h.1, (e _ (by omega) (by omega)).trans h.2⟩
    · rw [if_neg c2] at h ⊢
      obtain ⟨h1, h2, h3, h4, h5⟩ := h
      exact ⟨(e o (by omega) (by omega)).trans h1, (e _ (by omega) (by omega)).trans h2, fun q => (e _ (by omega) (by omega)).trans (h3 q), fun q => (e _ (by omega) (by omega)).trans (h4 q), fun q => ⟨(e _ (by omega) (by omega)).trans (h5 q).1, (e _ (by omega) (by omega)).trans (h5 q).2⟩⟩
def wk (k : Nat) : Nat := if k = 0 then 3 else if k = 10 then 4 else 4 + k
theorem wk_inj : ∀ j, j < 11 → ∀ k, k < 11 → wk j = wk k → j = k := by decide
theorem wk_b : ∀ j, j < 11 → 3 ≤ wk j ∧ wk j < 14 := by decide
theorem mW_wk (V : Nat → Nat) : ∀ j, j < 11 → mW V j = some (V (st_wi.getD (wk j) 0)) := by
  intro j hj
  have : j = 0 ∨ j = 1 ∨ j = 2 ∨ j = 3 ∨ j = 4 ∨ j = 5 ∨ j = 6 ∨ j = 7 ∨ j = 8 ∨ j = 9 ∨ j = 10 := by omega
  rcases this with rfl | rfl | rfl | rfl | rfl | rfl | rfl | rfl | rfl | rfl | rfl <;> rfl
theorem s_vb_none {B : Nat → Int32} {t : TK} : ∀ (d i : Nat), s_vb B t d i = none → ∀ j, i ≤ j → j < i + d → s_word B t (3 + j) = false := by
  intro d
  induction d with
  | zero => intro i _ j h1 h2; omega
  | succ d ih =>
    intro i h j h1 h2
    rw [s_vb] at h
    by_cases q : s_word B t (3 + i) = true
    · rw [if_pos q] at h; cases h
    · rw [if_neg q] at h
      by_cases e : j = i
      · rw [e]; simpa using q
      · exact ih (i + 1) h j (by omega) (by omega)
def kOf (v : Option Nat) : Int32 := match v with
  | none => -1
  | some i => if i < 2 then 0 else nn (i - 1)
section MQ
variable {V : Nat → Nat} {g f0 : GH} {m L n : Nat} {z z0 : Nat → Int32} {A : Nat → Nat → Int32} {B : Nat → Int32} {σ : PS}
theorem M_ord (S : StOK V g) (hL : L ≤ 700) (P : PR z0 z L σ) (hv : PV (A 6) L σ) (h0 : pE σ = 0) : p_X8_orderHere V g (mH V m 0 z A f0) m = some (kOf (s_vb (A 6) (pT σ) 11 0)) := by
  have hw : ∀ i, i < 14 → p_X8_isWord V g (mH V m 0 z A f0) m (V (st_wi.getD i 0)) = some (bz (s_word (A 6) (pT σ) i)) := fun i hi => by
    rw [M_isWord S hi hL P.2.1 hv, P.2.2.1, decide_eq_true h0, Bool.true_and]
  have hl : ∀ (d N k : Nat), k + d ≤ 11 → d < N → (∀ j, k ≤ j → j < k + d → s_word (A 6) (pT σ) (wk j) = false) → p_X8_orderHere_l2 V g (mH V m 0 z A f0) (fun x1 => if x1 ≤ (9 : Int32) then some x1 else some (0 : Int32)) (some (-1 : Int32)) N m (nn k) = p_X8_orderHere_l2 V g (mH V m 0 z A f0) (fun x1 => if x1 ≤ (9 : Int32) then some x1 else some (0 : Int32)) (some (-1 : Int32)) (N - d) m (nn (k + d)) := by
    intro d
    induction d with
    | zero => intro N k _ _ _; rfl
    | succ d ih =>
      intro N k hk hN h
      obtain ⟨N, rfl⟩ : ∃ M, N = M + 1 := ⟨N - 1, by omega⟩
      rw [p_X8_orderHere_l2, m_r24, ob_s, hal_of mH_w, ob_s, if_neg (by show ¬ nn 11 ≤ nn k; rw [nn_le (by omega) (by omega)]; omega), ob_s, hlq_of mH_w (show k < 11 by omega) (by omega) (mW_wk V k (by omega)), ob_s, hw _ (wk_b k (by omega)).2, ob_s, h k (Nat.le_refl _) (by omega), if_pos bz_f, nn_s, ih N (k + 1) (by omega) (by omega) (fun j h1 h2 => h j (by omega) (by omega)), show N - d = N + 1 - (d + 1) by omega, show k + 1 + d = k + (d + 1) by omega]
  have hhit : ∀ k0 N, k0 < 11 → 0 < N → s_word (A 6) (pT σ) (wk k0) = true → p_X8_orderHere_l2 V g (mH V m 0 z A f0) (fun x1 => if x1 ≤ (9 : Int32) then some x1 else some (0 : Int32)) (some (-1 : Int32)) N m (nn k0) = (if nn k0 ≤ (9 : Int32) then some (nn k0) else some (0 : Int32)) := by
    intro k0 N hk hN h
    obtain ⟨N, rfl⟩ : ∃ M, N = M + 1 := ⟨N - 1, by omega⟩
    rw [p_X8_orderHere_l2, m_r24, ob_s, hal_of mH_w, ob_s, if_neg (by show ¬ nn 11 ≤ nn k0; rw [nn_le (by omega) (by omega)]; omega), ob_s, hlq_of mH_w hk (by omega) (mW_wk V k0 hk), ob_s, hw _ (wk_b k0 hk).2, ob_s, h, if_neg bz_tn]
  unfold p_X8_orderHere
  rw [m_me]
  cases hvb : s_vb (A 6) (pT σ) 11 0 with
  | none =>
    have h := s_vb_none 11 0 hvb
    refine (hl 11 FU 0 (by omega) (by unfold FU; omega) (fun j _ hj => by
      obtain ⟨a1, a2⟩ := wk_b j (by omega)
      have := h (wk j - 3) (by omega) (by omega)
      rwa [show 3 + (wk j - 3) = wk j by omega] at this)).trans ?_
    rw [show FU - 11 = (FU - 12) + 1 from rfl, p_X8_orderHere_l2, m_r24, ob_s, hal_of mH_w, ob_s, if_pos (by show nn 11 ≤ nn 11; rw [nn_le (by omega) (by omega)]; omega)]
    rfl
  | some i =>
    obtain ⟨-, hi, hwi⟩ := s_vb_ge _ _ _ hvb
    have hk : ∃ k0, k0 < 11 ∧ wk k0 = 3 + i ∧ (if nn k0 ≤ (9 : Int32) then some (nn k0) else some (0 : Int32)) = some (kOf (some i)) := by
      have : ∀ i, i < 11 → ∃ k0, k0 < 11 ∧ wk k0 = 3 + i ∧ (if nn k0 ≤ (9 : Int32) then some (nn k0) else some (0 : Int32)) = some (kOf (some i)) := by
        intro i hi
        by_cases e0 : i = 0
        · exact ⟨0, by decide, by rw [e0]; rfl, by rw [e0]; rfl⟩
        · by_cases e1 : i = 1
          · exact ⟨10, by decide, by rw [e1]; rfl, by rw [e1]; rfl⟩
          · refine ⟨i - 1, by omega, ?_, ?_⟩
            · unfold wk
              rw [if_neg (by omega), if_neg (by omega)]
              omega
            · rw [if_pos (by rw [show (9 : Int32) = nn 9 from rfl, nn_le (by omega) (by omega)]; omega)]
              show some (nn (i - 1)) = some (if i < 2 then 0 else nn (i - 1))
              rw [if_neg (by omega)]
      exact this i (by omega)
    obtain ⟨k0, k1, k2, k3⟩ := hk
    have hh := hl k0 FU 0 (by omega) (by unfold FU; omega) (fun j _ hj => by
      cases e : s_word (A 6) (pT σ) (wk j) with
      | false => rfl
      | true =>
        have h1 := s_word_ne (wk_b j (by omega)).2 (show 3 + i < 14 by omega) e hwi
        have h2 := wk_inj j (by omega) k0 k1 (h1.trans k2.symm)
        omega)
    rw [Nat.zero_add] at hh
    refine hh.trans ((hhit k0 _ k1 (by unfold FU; omega) (by rw [k2]; exact hwi)).trans k3)
theorem n_73 (k : Nat) : (73 : Int32) * nn k = nn (73 * k) := by rw [show (73 : Int32) = nn 73 from rfl, nn_mul]
theorem PR.self (P : PR z0 z L σ) : PR z z L σ := ⟨P.1, P.2.1, P.2.2.1, P.2.2.2.1, fun _ _ _ _ _ _ => rfl⟩
/-- the end of a command: its semicolon -/
theorem M_j139 (hL : L ≤ 700) (hA : A 6 = B) (P : PR z0 z L σ) (hv : PV B L σ) (h25 : z0 25 = nn n) : ∃ z1, p_X8_readOrder_j139 V g m (mH V m 0 z A f0) = some (mH V m 0 z1 A f0) ∧ PR z1 z1 L (ps_exp B L 3 σ) ∧ z1 25 = nn (n + 1) ∧ ∀ k, k ≠ 15 → k ≠ 16 → k ≠ 17 → k ≠ 18 → k ≠ 19 → k ≠ 25 → z1 k = z0 k := by
  obtain ⟨z1, e1, P1⟩ := M_exp (V := V) (g := g) (m := m) (b := 0) (f0 := f0) hL hA P hv sy3
  obtain ⟨q1, ⟨q2, q3, q4⟩, q5, q6, q7⟩ := P1
  refine ⟨upd z1 25 (nn (n + 1)), ?_, ⟨(upd_n _ _ (by decide)).trans q1, ⟨(upd_n _ _ (by decide)).trans q2, (upd_n _ _ (by decide)).trans q3, (upd_n _ _ (by decide)).trans q4⟩, (upd_n _ _ (by decide)).trans q5, fun h => (upd_n _ _ (by decide)).trans (q6 h), fun _ _ _ _ _ _ => rfl⟩, upd_s _ _ _, fun k a1 a2 a3 a4 a5 a6 => (upd_n _ _ a6).trans (q7 k a1 a2 a3 a4 a5)⟩
  unfold p_X8_readOrder_j139
  rw [e1, ob_s, m_gi (k := 25) (by decide), q7 25 (by decide) (by decide) (by decide) (by decide) (by decide), h25, ob_s, nn_s, m_pt (k := 25) (by decide), ob_s]
theorem M_readOrder (S : StOK V g) (hL : L ≤ 700) (hA : A 6 = B) (P : PR z z L σ) (hv : PV B L σ) (h0 : pE σ = 0) (h25 : z 25 = nn n) (hn : n < 20) : ∃ z1 A1, p_X8_readOrder V g (mH V m 0 z A f0) m = some (mH V m 0 z1 A1 f0) ∧ PR z1 z1 L (ps_exp B L 3 (ps_cmd B L σ).2) ∧ (∀ k, k ≠ 15 → k ≠ 16 → k ≠ 17 → k ≠ 18 → k ≠ 19 → k ≠ 25 → z1 k = z k) ∧ (∀ j, j ≠ 7 → j ≠ 8 → A1 j = A j) ∧ (∀ k, k < 73 * n → A1 8 k = A 8 k) ∧ (pE (ps_exp B L 3 (ps_cmd B L σ).2) = 0 → z1 25 = nn (n + 1) ∧ OrR (A1 8) (73 * n) (ps_cmd B L σ).1) := by
  subst hA
  have hord := M_ord (V := V) (m := m) (f0 := f0) S hL P hv h0
  unfold p_X8_readOrder
  rw [m_me, hord, ob_s]
  cases hvb : s_vb (A 6) (pT σ) 11 0 with
  | none =>
    have hE : ps_cmd (A 6) L σ = ((0, 0, 0, 0, 0, 0, c_new 0), ps_chk false 1 σ) := by unfold ps_cmd; rw [hvb]
    have hne := chk_ne h0 (k := 1) (by decide)
    obtain ⟨z1, e1, P1⟩ := M_chk (V := V) (g := g) (m := m) (b := 0) (A := A) (f0 := f0) P false (c := 1) (by decide)
    obtain ⟨z2, e2, P2⟩ := M_chk (V := V) (g := g) (m := m) (b := 0) (A := A) (f0 := f0) P1 true (c := 3) (by decide)
    rw [ps_chk_t] at P2
    rw [hE]
    dsimp only
    rw [ps_exp_e hne]
    refine ⟨z2, A, ?_, P2.self, fun k a1 a2 a3 a4 a5 _ => P2.2.2.2.2 k a1 a2 a3 a4 a5, fun _ _ _ => rfl, fun _ _ => rfl, fun h => absurd h hne⟩
    show (if (-1 : Int32) = (-1 : Int32) then p_X8_readOrder_j16 V g m (-1) (bz false) m (mH V m 0 z A f0) else _) = _
    rw [if_pos rfl]
    unfold p_X8_readOrder_j16
    rw [e1, ob_s, m_gi (k := 18) (by decide), P1.2.2.1, ob_s, if_neg hne]
    show p_X8_readOrder_j42 V g m (-1) (bz true) m (mH V m 0 z1 A f0) = _
    unfold p_X8_readOrder_j42
    rw [e2, ob_s, m_gi (k := 18) (by decide), P2.2.2.1, ob_s, if_neg hne]
  | some i =>
    obtain ⟨-, hi, -⟩ := s_vb_ge _ _ _ hvb
    have hk1 : kOf (some i) ≠ -1 := by
      have : ∀ i, i < 11 → kOf (some i) ≠ -1 := by decide
      exact this i (by omega)
    obtain ⟨z1, e1, P1⟩ := M_chk (V := V) (g := g) (m := m) (b := 0) (A := A) (f0 := f0) P true (c := 1) (by decide)
    rw [ps_chk_t] at P1
    obtain ⟨z2, e2, P2⟩ := M_chk (V := V) (g := g) (m := m) (b := 0) (A := A) (f0 := f0) P1 true (c := 3) (by decide)
    rw [ps_chk_t] at P2
    have zz : ∀ k, k ≠ 15 → k ≠ 16 → k ≠ 17 → k ≠ 18 → k ≠ 19 → z2 k = z k := fun k a1 a2 a3 a4 a5 => P2.2.2.2.2 k a1 a2 a3 a4 a5
    have z25 : z2 25 = nn n := (zz 25 (by decide) (by decide) (by decide) (by decide) (by decide)).trans h25
    have P2s := P2.self
    generalize hAA : upA A 8 (upd (A 8) (73 * n) (kOf (some i))) = A2
    have hA28 : A2 8 = upd (A 8) (73 * n) (kOf (some i)) := by rw [← hAA, upA_s]
    have oA2 : ∀ j, j ≠ 8 → A2 j = A j := fun j hj => by rw [← hAA, upA_n _ _ hj]
    have hA26 : A2 6 = A 6 := oA2 6 (by decide)
    have hso : h_si (mH V m 0 z2 A f0) (m + 1 + 8) 0 (nn (73 * n)) (kOf (some i)) = some (mH V m 0 z2 A2 f0) := by rw [m_so (by omega), hAA]
    have hun : (if kOf (some i) = (-1 : Int32) then p_X8_readOrder_j16 V g m (kOf (some i)) (0 : Int32) m (mH V m 0 z A f0) else p_X8_readOrder_j16 V g m (kOf (some i)) (1 : Int32) m (mH V m 0 z A f0)) = (if kOf (some i) = (0 : Int32) then
        (p_X8_readCoast V g (mH V m 0 z2 A2 f0) m).bind fun v22 =>
        (h_gr v22 m 10 22).bind fun v23 =>
        (h_gr v22 m 10 23).bind fun v24 =>
        (h_gr v22 m 10 22).bind fun v25 =>
        (h_al v22 v25 0).bind fun v26 =>
        (h_cp v22 0 v23 (0 : Int32) v24 (nn (73 * n) + (5 : Int32)) v26).bind fun f27 =>
        p_X8_readOrder_j139 V g m f27
      else
        (p_X8_advance V g (mH V m 0 z2 A2 f0) m).bind fun v14 =>
        (if kOf (some i) = (9 : Int32) then
          (h_gr v14 m 10 23).bind fun v17 =>
          (p_X8_readMetric V g v14 m).bind fun v18 =>
          (if v18.1 = (0 : Int32) then
            (h_si v18.2 v17 0 (nn (73 * n) + (1 : Int32)) (0 : Int32)).bind fun f20 =>
            p_X8_readOrder_j139 V g m f20
          else
            (h_si v18.2 v17 0 (nn (73 * n) + (1 : Int32)) (1 : Int32)).bind fun f21 =>
            p_X8_readOrder_j139 V g m f21)
        else
          (p_X8_readNumbers V g v14 m (nn (73 * n)) (kOf (some i))).bind fun v16 =>
          p_X8_readOrder_j139 V g m v16)) := by
      rw [if_neg hk1]
      have e1' : p_X8_check V g (mH V m 0 z A f0) m (1 : Int32) (1 : Int32) = some (mH V m 0 z1 A f0) := e1
      unfold p_X8_readOrder_j16
      rw [e1', ob_s, m_gi (k := 18) (by decide), P1.2.2.1, ob_s, if_pos h0, m_gi (k := 25) (by decide), show z1 25 = nn n from (P1.2.2.2.2 25 (by decide) (by decide) (by decide) (by decide) (by decide)).trans h25, ob_s, if_neg (by rw [show (20 : Int32) = nn 20 from rfl, nn_le (by omega) (by omega)]; omega)]
      show p_X8_readOrder_j42 V g m (kOf (some i)) (bz true) m (mH V m 0 z1 A f0) = _
      unfold p_X8_readOrder_j42
      rw [e2, ob_s, m_gi (k := 18) (by decide), P2.2.2.1, ob_s, if_pos h0, m_gi (k := 25) (by decide), z25, ob_s, m_r23, ob_s, n_73, hso, ob_s]
    show ∃ z1 A1, (if kOf (some i) = (-1 : Int32) then p_X8_readOrder_j16 V g m (kOf (some i)) (0 : Int32) m (mH V m 0 z A f0) else p_X8_readOrder_j16 V g m (kOf (some i)) (1 : Int32) m (mH V m 0 z A f0)) = _ ∧ _
    rw [hun]
    by_cases h2 : i < 2
    · have hE : ps_cmd (A 6) L σ = ((1 + i, 0, 0, 0, 0, 0, (ps_coast (A 6) L σ).1), (ps_coast (A 6) L σ).2) := by unfold ps_cmd; rw [hvb]; exact if_pos h2
      have hk0 : kOf (some i) = 0 := if_pos h2
      obtain ⟨z3, A3, e3, P3, q3, o3⟩ := M_coast (V := V) (g := g) (m := m) (b := 0) (f0 := f0) S hL hA26 P2s hv
      have hc := m_cp (V := V) (m := m) (b := 0) (z := z3) (A := A3) (f0 := f0) (i := 7) (j := 8) (sp := 0) (dp := 73 * n + 5) (n := 68) (by decide) (by decide) (by decide) (by show _ ≤ 1460; omega)
      have hA4 : upA A3 8 (va_cpy (A3 7) (A3 8) 0 (73 * n + 5) 68) 6 = A 6 := (upA_n _ _ (by decide)).trans ((o3 6 (by decide)).trans hA26)
      obtain ⟨z4, e4, P4, c25, o4⟩ := M_j139 (V := V) (g := g) (m := m) (f0 := f0) (n := n) hL hA4 P3 hv.coast z25
      have hA38 : A3 8 = upd (A 8) (73 * n) 0 := by rw [o3 8 (by decide), hA28, hk0]
      rw [hE]
      dsimp only
      refine ⟨z4, upA A3 8 (va_cpy (A3 7) (A3 8) 0 (73 * n + 5) 68), ?_, P4, fun k a1 a2 a3 a4 a5 a6 => (o4 k a1 a2 a3 a4 a5 a6).trans (zz k a1 a2 a3 a4 a5), fun j j7 j8 => (upA_n _ _ j8).trans ((o3 j j7).trans (oA2 j j8)), fun k hk => ?_, fun h => ⟨c25, ?_⟩⟩
      · rw [if_pos hk0, e3, ob_s, m_r22, ob_s, m_r23, ob_s, ob_s, m_al (j := 7) (by decide), ob_s, nn_a5]
        show ((h_cp (mH V m 0 z3 A3 f0) 0 (m + 1 + 7) (nn 0) (m + 1 + 8) (nn (73 * n + 5)) (nn 68)).bind _) = _
        rw [hc, ob_s]
        exact e4
      · rw [upA_s, cpy_out (by omega), hA38, upd_n _ _ (by omega)]
      · have hc0 := (chk_0 (by decide) (adv_0 h)).1
        unfold OrR
        rw [if_pos (show qV (1 + i, 0, 0, 0, 0, 0, (ps_coast (A 6) L σ).1) ≤ 2 by show 1 + i ≤ 2; omega), upA_s]
        refine ⟨by rw [cpy_out (by omega), hA38, upd_s], ?_⟩
        exact (q3 hc0).frame (CoV.coast hc0).2 (fun k hk => by rw [cpy_in (by omega) (by omega)]; congr 1; omega)
    · have hk0 : kOf (some i) = nn (i - 1) := if_neg h2
      obtain ⟨z3, e3, P3⟩ := M_advP (V := V) (g := g) (m := m) (b := 0) (A := A2) (f0 := f0) hL P2s (by rw [hA26]; exact hv)
      rw [hA26] at P3
      rw [if_neg (by rw [hk0, n_0, nn_eq (by omega) (by omega)]; omega), e3, ob_s]
      by_cases h10 : i = 10
      · have hE : ps_cmd (A 6) L σ = ((11, 0, 0, 0, 0, ps_kg (A 6) (ps_adv (A 6) L σ), c_new 0), ps_met (A 6) L (ps_adv (A 6) L σ)) := by unfold ps_cmd; rw [hvb]; exact (if_neg h2).trans (if_pos h10)
        obtain ⟨z4, e4, P4⟩ := M_met (V := V) (g := g) (m := m) (b := 0) (f0 := f0) S hL hA26 P3 hv.adv
        have hkg : ps_kg (A 6) (ps_adv (A 6) L σ) = 0 ∨ ps_kg (A 6) (ps_adv (A 6) L σ) = 1 := bz_i01 _
        have hA4 : upA A2 8 (upd (A2 8) (73 * n + 1) (ps_kg (A 6) (ps_adv (A 6) L σ))) 6 = A 6 := (upA_n _ _ (by decide)).trans hA26
        obtain ⟨z5, e5, P5, c25, o5⟩ := M_j139 (V := V) (g := g) (m := m) (f0 := f0) (n := n) hL hA4 P4 (PV.met hv.adv) z25
        rw [hE]
        dsimp only
        refine ⟨z5, upA A2 8 (upd (A2 8) (73 * n + 1) (ps_kg (A 6) (ps_adv (A 6) L σ))), ?_, P5, fun k a1 a2 a3 a4 a5 a6 => (o5 k a1 a2 a3 a4 a5 a6).trans (zz k a1 a2 a3 a4 a5), fun j j7 j8 => (upA_n _ _ j8).trans (oA2 j j8), fun k hk => ?_, fun h => ⟨c25, ?_⟩⟩
        · rw [if_pos (by rw [hk0, h10]; rfl), m_r23, ob_s, e4, ob_s]
          show (if ps_kg (A 6) (ps_adv (A 6) L σ) = (0 : Int32) then _ else _) = _
          rcases hkg with q | q
          · rw [if_pos q, nn_s, m_so (by omega), ob_s]
            rw [q] at e5
            rw [q]
            exact e5
          · rw [if_neg (by rw [q]; decide), nn_s, m_so (by omega), ob_s]
            rw [q] at e5
            rw [q]
            exact e5
        · rw [upA_s, upd_n _ _ (by omega), hA28, upd_n _ _ (by omega)]
        · unfold OrR
          rw [if_neg (show ¬ qV (11, 0, 0, 0, 0, ps_kg (A 6) (ps_adv (A 6) L σ), c_new 0) ≤ 2 by show ¬ 11 ≤ 2; decide), if_pos (show qV (11, 0, 0, 0, 0, ps_kg (A 6) (ps_adv (A 6) L σ), c_new 0) = 11 from rfl), upA_s]
          exact ⟨by rw [upd_n _ _ (by omega), hA28, upd_s, hk0, h10]; rfl, upd_s _ _ _⟩
      · have hE : ps_cmd (A 6) L σ = ((1 + i, nn (ps_a1 (A 6) L (ps_adv (A 6) L σ)).1, nn (ps_a2 (A 6) L (1 + i) (ps_adv (A 6) L σ)).1, (ps_a3 (A 6) L (1 + i) (ps_adv (A 6) L σ)).1, (ps_a4 (A 6) L (1 + i) (ps_adv (A 6) L σ)).1, 0, c_new 0), (ps_a4 (A 6) L (1 + i) (ps_adv (A 6) L σ)).2) := by unfold ps_cmd; rw [hvb]; exact (if_neg h2).trans (if_neg h10)
        obtain ⟨z4, r4, e4, P4, b1, b2, b3, b4, b5⟩ := M_args (V := V) (g := g) (m := m) (f0 := f0) hL hn hA26 P3 hv.adv (v := 1 + i) (by omega) (by omega)
        rw [show 1 + i - 2 = i - 1 by omega] at e4
        rw [hA28] at b1
        have hA4 : upA A2 8 r4 6 = A 6 := (upA_n _ _ (by decide)).trans hA26
        obtain ⟨z5, e5, P5, c25, o5⟩ := M_j139 (V := V) (g := g) (m := m) (f0 := f0) (n := n) hL hA4 P4 (PV.a4 hv.adv) z25
        rw [hE]
        dsimp only
        refine ⟨z5, upA A2 8 r4, ?_, P5, fun k a1 a2 a3 a4 a5 a6 => (o5 k a1 a2 a3 a4 a5 a6).trans (zz k a1 a2 a3 a4 a5), fun j j7 j8 => (upA_n _ _ j8).trans (oA2 j j8), fun k hk => ?_, fun h => ⟨c25, ?_⟩⟩
        · rw [if_neg (by rw [hk0, show (9 : Int32) = nn 9 from rfl, nn_eq (by omega) (by omega)]; omega), hk0, e4, ob_s]
          exact e5
        · rw [upA_s, b1 k (by omega), upd_n _ _ (by omega)]
        · unfold OrR
          rw [if_neg (show ¬ qV (1 + i, nn (ps_a1 (A 6) L (ps_adv (A 6) L σ)).1, nn (ps_a2 (A 6) L (1 + i) (ps_adv (A 6) L σ)).1, (ps_a3 (A 6) L (1 + i) (ps_adv (A 6) L σ)).1, (ps_a4 (A 6) L (1 + i) (ps_adv (A 6) L σ)).1, 0, c_new 0) ≤ 2 by show ¬ 1 + i ≤ 2; omega), if_neg (show ¬ qV (1 + i, nn (ps_a1 (A 6) L (ps_adv (A 6) L σ)).1, nn (ps_a2 (A 6) L (1 + i) (ps_adv (A 6) L σ)).1, (ps_a3 (A 6) L (1 + i) (ps_adv (A 6) L σ)).1, (ps_a4 (A 6) L (1 + i) (ps_adv (A 6) L σ)).1, 0, c_new 0) = 11 by show ¬ 1 + i = 11; omega), upA_s]
          refine ⟨?_, b2, b3, b4, b5⟩
          rw [b1 _ (by omega), upd_s, hk0]
          show nn (i - 1) = nn (1 + i - 2)
          rw [show 1 + i - 2 = i - 1 by omega]
theorem M_readOrder20 (S : StOK V g) (hL : L ≤ 700) (hA : A 6 = B) (P : PR z z L σ) (hv : PV B L σ) (h0 : pE σ = 0) (h25 : z 25 = nn 20) : ∃ z1, p_X8_readOrder V g (mH V m 0 z A f0) m = some (mH V m 0 z1 A f0) ∧ PR z z1 L (ps_chk false 3 (ps_chk (s_vb B (pT σ) 11 0).isSome 1 σ)) := by
  subst hA
  have hord := M_ord (V := V) (m := m) (f0 := f0) S hL P hv h0
  unfold p_X8_readOrder
  rw [m_me, hord, ob_s]
  cases hvb : s_vb (A 6) (pT σ) 11 0 with
  | none =>
    have hne := chk_ne h0 (k := 1) (by decide)
    obtain ⟨z1, e1, P1⟩ := M_chk (V := V) (g := g) (m := m) (b := 0) (A := A) (f0 := f0) P false (c := 1) (by decide)
    obtain ⟨z2, e2, P2⟩ := M_chk (V := V) (g := g) (m := m) (b := 0) (A := A) (f0 := f0) P1 true (c := 3) (by decide)
    rw [ps_chk_t] at P2
    refine ⟨z2, ?_, by show PR z z2 L (ps_chk false 3 (ps_chk false 1 σ)); rw [ps_chk_e hne]; exact P2⟩
    show (if (-1 : Int32) = (-1 : Int32) then p_X8_readOrder_j16 V g m (-1) (bz false) m (mH V m 0 z A f0) else _) = _
    rw [if_pos rfl]
    unfold p_X8_readOrder_j16
    rw [e1, ob_s, m_gi (k := 18) (by decide), P1.2.2.1, ob_s, if_neg hne]
    show p_X8_readOrder_j42 V g m (-1) (bz true) m (mH V m 0 z1 A f0) = _
    unfold p_X8_readOrder_j42
    rw [e2, ob_s, m_gi (k := 18) (by decide), P2.2.2.1, ob_s, if_neg hne]
  | some i =>
    obtain ⟨-, hi, -⟩ := s_vb_ge _ _ _ hvb
    have hk1 : kOf (some i) ≠ -1 := by
      have : ∀ i, i < 11 → kOf (some i) ≠ -1 := by decide
      exact this i (by omega)
    obtain ⟨z1, e1, P1⟩ := M_chk (V := V) (g := g) (m := m) (b := 0) (A := A) (f0 := f0) P true (c := 1) (by decide)
    obtain ⟨z2, e2, P2⟩ := M_chk (V := V) (g := g) (m := m) (b := 0) (A := A) (f0 := f0) P1 false (c := 3) (by decide)
    rw [ps_chk_t] at P1 P2
    refine ⟨z2, ?_, by show PR z z2 L (ps_chk false 3 (ps_chk true 1 σ)); rw [ps_chk_t]; exact P2⟩
    show (if kOf (some i) = (-1 : Int32) then p_X8_readOrder_j16 V g m (kOf (some i)) (0 : Int32) m (mH V m 0 z A f0) else p_X8_readOrder_j16 V g m (kOf (some i)) (bz true) m (mH V m 0 z A f0)) = _
    rw [if_neg hk1]
    unfold p_X8_readOrder_j16
    rw [e1, ob_s, m_gi (k := 18) (by decide), P1.2.2.1, ob_s, if_pos h0, m_gi (k := 25) (by decide), show z1 25 = nn 20 from (P1.2.2.2.2 25 (by decide) (by decide) (by decide) (by decide) (by decide)).trans h25, ob_s, if_pos (by decide)]
    show p_X8_readOrder_j42 V g m (kOf (some i)) (bz false) m (mH V m 0 z1 A f0) = _
    unfold p_X8_readOrder_j42
    rw [e2, ob_s, m_gi (k := 18) (by decide), P2.2.2.1, ob_s, if_neg (chk_ne h0 (by decide))]
end MQ

/-! ===== a change of the reference's: what is told, what is left ===== -/
/-- what a change may leave: row 0 holds T, the history H; the kept row and the scratch coastline may differ -/
def CP (z : Nat → Int32) (A : Nat → Nat → Int32) (T : TS) (u : Nat) (H : Nat → TS) (z1 : Nat → Int32) (A1 : Nat → Nat → Int32) : Prop := z1 6 = nn u ∧ (∀ k, k ≠ 6 → k ≠ 7 → z1 k = z k) ∧ RT (A1 0) T ∧ HsA A1 u H ∧ ∀ j, j ≠ 0 → j ≠ 2 → j ≠ 4 → A1 j = A j
def kA (A : Nat → Nat → Int32) : Nat → Nat → Int32 := upA A 2 (va_cpy (A 0) (A 2) 0 0 1825)
def QC (V : Nat → Nat) (m : Nat) (f0 : GH) (z : Nat → Int32) (A : Nat → Nat → Int32) (T : TS) (u : Nat) (H : Nat → TS) (code ans : Int32) (T1 : TS) (r : Option (Int32 × GH)) : Prop := ∃ v z1 A1, r = some (v, mH V m 0 z1 A1 f0) ∧ z1 7 = code ∧ (code = 0 → v = ans ∧ CP z A T1 (h_pu u) (h_pH u H T) z1 A1) ∧ (code ≠ 0 → CP z A T u H z1 A1)
section QQ
variable {V : Nat → Nat} {g f0 : GH} {m : Nat} {z z2 : Nat → Int32} {A A1 : Nat → Nat → Int32} {T T1 : TS} {u i : Nat} {H : Nat → TS} {code ans : Int32}
theorem kA_0 : kA A 0 = A 0 := upA_n A _ (by decide)
theorem kA_rt (R : RT (A 0) T) : RT (kA A 0) T := by rw [kA_0]; exact R
theorem M_keepK : p_X8_keep V g (mH V m 0 z A f0) m = some (mH V m 0 z (kA A) f0) := M_keep
theorem QC.lack (hc : code ≠ 0) (R : RT (A 0) T) (hz : z 6 = nn u) (hH : HsA A u H) {v : Int32} : QC V m f0 z A T u H code ans T1 (some (v, mH V m 0 (upd z 7 code) A f0)) :=
  ⟨v, _, _, rfl, upd_s _ _ _, fun e => absurd e hc, fun _ => ⟨(upd_n _ _ (by decide)).trans hz, fun k _ h => upd_n _ _ h, R, hH, fun _ _ _ _ => rfl⟩⟩
theorem QC.no (hc : code ≠ 0) (hv : TV T) (R : RT (A 0) T) (hz : z 6 = nn u) (hz2 : ∀ k, k ≠ 7 → z2 k = z k) (hH : HsA A u H) (s : SC 0 (kA A) A1) {v : Int32} : QC V m f0 z A T u H code ans T1 (some (v, mH V m 0 (upd z2 7 code) A1 f0)) := by
  refine ⟨v, _, _, rfl, upd_s _ _ _, fun e => absurd e hc, fun _ => ⟨(upd_n _ _ (by decide)).trans ((hz2 6 (by decide)).trans hz), fun k _ h => (upd_n _ _ h).trans (hz2 k h), s.rt (kA_rt R) hv, ?_, fun j h0 h2 _ => (s.rb j h0).trans (upA_n A _ h2)⟩⟩
  intro k hk
  rw [s.rb 4 (by decide), show kA A 4 = A 4 from upA_n A _ (by decide)]
  exact hH k hk
/-- the end of a change that is done -/
theorem QC.yes (hv : TV T) (R : RT (A 0) T) (hz : z 6 = nn u) (hz2 : ∀ k, k ≠ 7 → z2 k = z k) (hu : u ≤ 8) (hH : HsA A u H) (hHv : ∀ k, k < u → TV (H k)) (s : RB 0 (kA A) A1) (R1 : RT (A1 0) T1) {K : Int32 × GH → Option (Int32 × GH)} (hK : ∀ z3 A3, RT (A3 0) T1 → K (0, mH V m 0 z3 A3 f0) = some (ans, mH V m 0 z3 A3 f0)) : QC V m f0 z A T u H 0 ans T1 ((p_X8_fails V g (mH V m 0 z2 A1 f0) m (0 : Int32)).bind K) := by
  have hR2 : RT (A1 2) T := by
    rw [s 2 (by decide), show kA A 2 = _ from upA_s A 2 _]
    exact R.cp hv
  have hH1 : HsA A1 u H := fun k hk => by
    rw [s 4 (by decide), show kA A 4 = A 4 from upA_n A _ (by decide)]
    exact hH k hk
  obtain ⟨r, e1, e2⟩ := M_fails0 (V := V) (g := g) (m := m) (b := 0) (z := z2) (A := A1) (f0 := f0) hR2 hv ((hz2 6 (by decide)).trans hz) hu hH1 hHv
  rw [e1, ob_s]
  have R3 : RT (upA A1 4 r 0) T1 := by rw [upA_n _ _ (by decide)]; exact R1
  refine ⟨ans, _, _, hK _ _ R3, ?_, fun _ => ⟨rfl, upd_s _ _ _, fun k h6 h7 => (upd_n _ _ h6).trans ((upd_n _ _ h7).trans (hz2 k h7)), R3, e2, fun j h0 h2 h4 => ?_⟩, fun h => absurd rfl h⟩
  · rw [upd_n _ _ (by decide), upd_s]
  · rw [upA_n _ _ h4, s j h0]
    exact upA_n A _ h2
theorem upd_7 (k : Int32) : ∀ j, j ≠ 7 → upd z 7 k j = z j := fun _ h => upd_n _ _ h
theorem s_thr_t1 {b : Bool} : s_thr false b = 1 := rfl
/-- the counting end -/
def kC (V : Nat → Nat) (g : GH) (m : Nat) (a : Int32) : Int32 × GH → Option (Int32 × GH) := fun v7 => if v7.1 = (0 : Int32) then (p_X8_count V g v7.2 m a).bind fun v9 => some (v9, v7.2) else some ((0 : Int32), v7.2)
theorem hK_count (hi : i < 6) {c : CS} (hT : tC T1 i = c) (hn : i < tN T1) : ∀ (z3 : Nat → Int32) (A3 : Nat → Nat → Int32), RT (A3 0) T1 → kC V g m (nn i) (0, mH V m 0 z3 A3 f0) = some (nn (cN c), mH V m 0 z3 A3 f0) := by
  intro z3 A3 R3
  show (if (0 : Int32) = 0 then _ else _) = _
  rw [if_pos rfl]
  show ((p_X8_count V g (mH V m 0 z3 A3 f0) m (nn i)).bind _) = _
  rw [M_count (by decide) (by omega) (R3.2.2.2.2.2 i hn), ob_s, hT]
theorem ts_set_c (T : TS) (i : Nat) (c : CS) : tC (ts_set T i c) i = c := if_pos rfl
theorem s_ref_c {v : Nat} {a p x w : Int32} (h1 : ¬ v ≤ 2) (h2 : v ≠ 11) (ha : inC (tN T) a = true) : s_ref v T a p x w = s_refC v (tC T (ix a)) p x w := by
  unfold s_ref
  rw [if_neg h1, if_neg h2, if_pos ha]
theorem s_ref_1 {v : Nat} {a p x w : Int32} (h1 : ¬ v ≤ 2) (h2 : v ≠ 11) (ha : inC (tN T) a = false) : s_ref v T a p x w = 1 := by
  unfold s_ref
  rw [if_neg h1, if_neg h2, if_neg (by rw [ha]; decide)]
theorem in00 : s_in (-(0 : Int32)) 0 0 = true := by decide
theorem Q_fold (R : RT (A 0) T) (hv : TV T) (hz : z 6 = nn u) (hu : u ≤ 8) (hH : HsA A u H) (hHv : ∀ k, k < u → TV (H k)) (a w k : Int32) (c0 : CS) : QC V m f0 z A T u H (s_ref 3 T a 0 w 0) (s_ans 3 T a 0 w 0) (ts_do 3 T a 0 w 0 k c0) (p_X8_fold V g (mH V m 0 z A f0) m a w) := by
  have h6 := hv.1
  unfold p_X8_fold
  rw [m_me, M_isCoast (by decide) R h6, ob_s, M_height, ob_s, M_lacksBoth, ob_s]
  cases ha : inC (tN T) a with
  | false =>
    rw [s_ref_1 (by decide) (by decide) ha]
    exact QC.lack (code := 1) (by decide) R hz hH
  | true =>
    rw [s_ref_c (by decide) (by decide) ha]
    obtain ⟨i, hi, rfl⟩ := inC_ex (by omega) ha
    rw [ix_nn (by omega)]
    unfold s_refC
    rw [if_neg (fun h => absurd h.1 (by decide))]
    show QC V m f0 z A T u H (if s_in (-50) 50 w = true then _ else _) _ _ _
    cases hw : s_in (-50) 50 w with
    | false => exact QC.lack (code := 2) (by decide) R hz hH
    | true =>
      show QC V m f0 z A T u H (if s_in (-50) 50 0 = true then (if decide (s_why (tC T i) w = 0) = true then 0 else 3) else 2) _ _ ((p_X8_keep V g (mH V m 0 (upd z 7 0) A f0) m).bind _)
      rw [if_pos (by decide), M_keepK, ob_s]
      obtain ⟨A1, s1, d0, d1⟩ := M_doFold (V := V) (g := g) (m := m) (b := 0) (z := upd z 7 0) (f0 := f0) (by decide) (kA_rt R) hv hi w
      by_cases hw0 : s_why (tC T i) w = 0
      · rw [if_pos (by simpa using hw0), (d0 hw0).1, ob_s]
        have hh := QC.yes (V := V) (g := g) (m := m) (f0 := f0) hv R hz (upd_7 0) hu hH hHv s1 (d0 hw0).2 (K := kC V g m (nn i)) (hK_count (by omega) (ts_set_c _ _ _) hi)
        unfold s_ans ts_do
        rw [ix_nn (by omega)]
        exact hh
      · rw [if_neg (by simpa using hw0), (d1 hw0).1, ob_s, M_failsN (k := 3) (by decide), ob_s]
        exact QC.no (code := 3) (by decide) hv R hz (upd_7 0) hH (d1 hw0).2
theorem Q_unfold (R : RT (A 0) T) (hv : TV T) (hz : z 6 = nn u) (hu : u ≤ 8) (hH : HsA A u H) (hHv : ∀ k, k < u → TV (H k)) (a k : Int32) (c0 : CS) : QC V m f0 z A T u H (if s_ref 4 T a 0 0 0 = 3 then 2 else s_ref 4 T a 0 0 0) (s_ans 4 T a 0 0 0) (ts_do 4 T a 0 0 0 k c0) (p_X8_unfold V g (mH V m 0 z A f0) m a) := by
  have h6 := hv.1
  unfold p_X8_unfold
  rw [m_me, M_keepK, ob_s]
  cases ha : inC (tN T) a with
  | false =>
    rw [s_ref_1 (by decide) (by decide) ha]
    have e : p_X8_doUnfold V g (mH V m 0 z (kA A) f0) m a = some (1, mH V m 0 z (kA A) f0) := by
      unfold p_X8_doUnfold
      rw [m_me, M_isCoast (by decide) (kA_rt R) h6, ob_s, ha, if_pos bz_f]
    rw [e, ob_s, M_failsN (k := 1) (by decide), ob_s]
    exact QC.no (code := 1) (by decide) hv R hz (fun _ _ => rfl) hH (SC.rf _ _)
  | true =>
    rw [s_ref_c (by decide) (by decide) ha]
    obtain ⟨i, hi, rfl⟩ := inC_ex (by omega) ha
    rw [ix_nn (by omega)]
    have d := M_doUnfold (V := V) (g := g) (m := m) (b := 0) (z := z) (f0 := f0) (by decide) (kA_rt R) hv hi
    have hr : s_refC 4 (tC T i) 0 0 0 = if s_need (tC T i) ≤ (cN (tC T i) + 1) / 2 then 0 else 3 := by
      unfold s_refC
      rw [if_neg (fun h => absurd h.1 (by decide)), if_pos (by decide), if_pos (by decide)]
      show (if decide (_) = true then _ else _) = _
      simp only [decide_eq_true_eq]
    rw [hr]
    by_cases hc : s_need (tC T i) ≤ (cN (tC T i) + 1) / 2
    · rw [if_pos hc] at d ⊢
      obtain ⟨A1, s1, e1, R1⟩ := d
      rw [e1, ob_s]
      have hh := QC.yes (V := V) (g := g) (m := m) (f0 := f0) (z2 := z) hv R hz (fun _ _ => rfl) hu hH hHv s1 R1 (K := kC V g m (nn i)) (hK_count (by omega) (ts_set_c _ _ _) hi)
      unfold s_ans ts_do
      rw [ix_nn (by omega)]
      exact hh
    · rw [if_neg hc] at d ⊢
      rw [d, ob_s, M_failsN (k := 2) (by decide), ob_s]
      exact QC.no (code := 2) (by decide) hv R hz (fun _ _ => rfl) hH (SC.rf _ _)
theorem Q_reverse (R : RT (A 0) T) (hv : TV T) (hz : z 6 = nn u) (hu : u ≤ 8) (hH : HsA A u H) (hHv : ∀ k, k < u → TV (H k)) (a k : Int32) (c0 : CS) : QC V m f0 z A T u H (s_ref 9 T a 0 0 0) (s_ans 9 T a 0 0 0) (ts_do 9 T a 0 0 0 k c0) (p_X8_reverse V g (mH V m 0 z A f0) m a) := by
  have h6 := hv.1
  unfold p_X8_reverse
  rw [m_me, M_keepK, ob_s]
  cases ha : inC (tN T) a with
  | false =>
    rw [s_ref_1 (by decide) (by decide) ha]
    have e : p_X8_doReverse V g (mH V m 0 z (kA A) f0) m a = some (1, mH V m 0 z (kA A) f0) := by
      unfold p_X8_doReverse
      rw [m_me, M_isCoast (by decide) (kA_rt R) h6, ob_s, ha, if_pos bz_f]
    rw [e, ob_s, M_failsN (k := 1) (by decide), ob_s]
    exact QC.no (code := 1) (by decide) hv R hz (fun _ _ => rfl) hH (SC.rf _ _)
  | true =>
    rw [s_ref_c (by decide) (by decide) ha]
    obtain ⟨i, hi, rfl⟩ := inC_ex (by omega) ha
    rw [ix_nn (by omega)]
    obtain ⟨A1, s1, e1, R1⟩ := M_doReverse (V := V) (g := g) (m := m) (b := 0) (z := z) (f0 := f0) (by decide) (kA_rt R) hv hi
    have hr : s_refC 9 (tC T i) 0 0 0 = 0 := by
      unfold s_refC
      rw [if_neg (fun h => absurd h.1 (by decide)), if_pos (by decide), if_pos (by decide)]
      rfl
    rw [hr, e1, ob_s]
    have hh := QC.yes (V := V) (g := g) (m := m) (f0 := f0) (z2 := z) hv R hz (fun _ _ => rfl) hu hH hHv s1 R1 (K := kC V g m (nn i)) (hK_count (by omega) (ts_set_c _ _ _) hi)
    unfold s_ans ts_do
    rw [ix_nn (by omega)]
    exact hh
theorem Q_removeCoast (R : RT (A 0) T) (hv : TV T) (hz : z 6 = nn u) (hu : u ≤ 8) (hH : HsA A u H) (hHv : ∀ k, k < u → TV (H k)) (a k : Int32) (c0 : CS) : QC V m f0 z A T u H (s_ref 10 T a 0 0 0) (s_ans 10 T a 0 0 0) (ts_do 10 T a 0 0 0 k c0) (p_X8_removeCoast V g (mH V m 0 z A f0) m a) := by
  have h6 := hv.1
  unfold p_X8_removeCoast
  rw [m_me, M_keepK, ob_s, M_isCoast (by decide) (kA_rt R) h6, ob_s]
  cases ha : inC (tN T) a with
  | false =>
    rw [s_ref_1 (by decide) (by decide) ha, if_pos bz_f]
    have e : p_X8_doRemove V g (mH V m 0 z (kA A) f0) m a = some (1, mH V m 0 z (kA A) f0) := by
      unfold p_X8_doRemove
      rw [m_me, M_isCoast (by decide) (kA_rt R) h6, ob_s, ha, if_pos bz_f]
    unfold p_X8_removeCoast_j21
    rw [e, ob_s, M_failsN (k := 1) (by decide), ob_s]
    exact QC.no (code := 1) (by decide) hv R hz (fun _ _ => rfl) hH (SC.rf _ _)
  | true =>
    rw [s_ref_c (by decide) (by decide) ha]
    obtain ⟨i, hi, rfl⟩ := inC_ex (by omega) ha
    rw [ix_nn (by omega), if_neg bz_tn, M_count (by decide) (by omega) ((kA_rt R).2.2.2.2.2 i hi), ob_s]
    obtain ⟨A1, s1, e1, R1⟩ := M_doRemove (V := V) (g := g) (m := m) (b := 0) (z := z) (f0 := f0) (by decide) (kA_rt R) hv hi
    have hr : s_refC 10 (tC T i) 0 0 0 = 0 := by
      unfold s_refC
      rw [if_neg (fun h => absurd h.1 (by decide)), if_pos (by decide), if_pos (by decide)]
      rfl
    unfold p_X8_removeCoast_j21
    rw [hr, e1, ob_s]
    have hh := QC.yes (V := V) (g := g) (m := m) (f0 := f0) (z2 := z) (ans := nn (cN (tC T i))) (K := fun v4 => if v4.1 = (0 : Int32) then some (nn (cN (tC T i)), v4.2) else some ((0 : Int32), v4.2)) hv R hz (fun _ _ => rfl) hu hH hHv s1 R1 (fun _ _ _ => rfl)
    unfold s_ans ts_do
    rw [ix_nn (by omega)]
    exact hh
theorem Q_movePoint (R : RT (A 0) T) (hv : TV T) (hz : z 6 = nn u) (hu : u ≤ 8) (hH : HsA A u H) (hHv : ∀ k, k < u → TV (H k)) (a p v w k : Int32) (c0 : CS) : QC V m f0 z A T u H (s_ref 5 T a p v w) (s_ans 5 T a p v w) (ts_do 5 T a p v w k c0) (p_X8_movePoint V g (mH V m 0 z A f0) m a p v w) := by
  have h6 := hv.1
  unfold p_X8_movePoint
  rw [m_me, M_isPoint (by decide) R hv, ob_s, M_pos, ob_s, M_lacksBoth, ob_s]
  cases ha : inC (tN T) a with
  | false =>
    rw [s_ref_1 (by decide) (by decide) ha]
    exact QC.lack (code := 1) (by decide) R hz hH
  | true =>
    rw [s_ref_c (by decide) (by decide) ha]
    obtain ⟨i, hi, rfl⟩ := inC_ex (by omega) ha
    rw [ix_nn (by omega)]
    have n2 := (hv.2.2 i hi).n2
    unfold s_refC
    show QC V m f0 z A T u H (if s_hp 5 = true ∧ inC (cN (tC T i)) p = false then _ else (if s_in (-1000) 1000 v = true then _ else _)) _ _ _
    cases hp : inC (cN (tC T i)) p with
    | false => exact QC.lack (code := 1) (by decide) R hz hH
    | true =>
      rw [if_neg (fun h => absurd h.2 (by decide))]
      cases hx : s_in (-1000) 1000 v with
      | false => exact QC.lack (code := 2) (by decide) R hz hH
      | true =>
        show QC V m f0 z A T u H (if s_in (-1000) 1000 w = true then _ else _) _ _ _
        cases hw : s_in (-1000) 1000 w with
        | false => exact QC.lack (code := 2) (by decide) R hz hH
        | true =>
          obtain ⟨j, hj, rfl⟩ := inC_ex (by omega) hp
          show QC V m f0 z A T u H 0 _ _ ((p_X8_keep V g (mH V m 0 (upd z 7 0) A f0) m).bind _)
          obtain ⟨A1, s1, e1, R1⟩ := M_doMove (V := V) (g := g) (m := m) (b := 0) (z := upd z 7 0) (f0 := f0) (by decide) (kA_rt R) hv hi hj v w
          have rc := (kA_rt R).2.2.2.2.2 i hi
          rw [M_keepK, ob_s, M_x (by decide) (by omega) rc n2 hj, ob_s, M_y (by decide) (by omega) rc n2 hj, ob_s, M_king (by decide) ((kA_rt R).k01 hv), ob_s, M_measure, ob_s, e1, ob_s]
          have hh := QC.yes (V := V) (g := g) (m := m) (f0 := f0) (ans := s_dist (kA A 0 0) (cX (tC T i) j - v) (cY (tC T i) j - w)) (K := fun v11 => if v11.1 = (0 : Int32) then some (s_dist (kA A 0 0) (cX (tC T i) j - v) (cY (tC T i) j - w), v11.2) else some ((0 : Int32), v11.2)) hv R hz (upd_7 0) hu hH hHv s1 R1 (fun _ _ _ => rfl)
          unfold s_ans ts_do
          rw [ix_nn (by omega), ix_nn (by omega)]
          rw [(kA_rt R).1] at hh ⊢
          refine cast ?_ hh
          unfold s_nc
          simp only [ix_nn (show j < 2147483648 by omega)]
          rfl
theorem Q_insertPoint (R : RT (A 0) T) (hv : TV T) (hz : z 6 = nn u) (hu : u ≤ 8) (hH : HsA A u H) (hHv : ∀ k, k < u → TV (H k)) (a p v w k : Int32) (c0 : CS) : QC V m f0 z A T u H (s_ref 6 T a p v w) (s_ans 6 T a p v w) (ts_do 6 T a p v w k c0) (p_X8_insertPoint V g (mH V m 0 z A f0) m a p v w) := by
  have h6 := hv.1
  unfold p_X8_insertPoint
  rw [m_me, M_isCoast (by decide) R h6, ob_s]
  have j0 : ∀ t : Bool, p_X8_insertPoint_j27 V g m a p v w (bz t) m (mH V m 0 z A f0) = if (t && (s_in (-1000) 1000 v && s_in (-1000) 1000 w)) = true then (p_X8_keep V g (mH V m 0 (upd z 7 0) A f0) m).bind (fun v5 => (p_X8_doInsert V g v5 m a p v w).bind fun v6 => (p_X8_fails V g v6.2 m v6.1).bind fun v7 => (if v7.1 = (0 : Int32) then (p_X8_count V g v7.2 m a).bind fun v9 => some (v9, v7.2) else some ((0 : Int32), v7.2))) else some (0, mH V m 0 (upd z 7 (s_thr t (s_in (-1000) 1000 v && s_in (-1000) 1000 w))) A f0) := by
    intro t
    unfold p_X8_insertPoint_j27
    rw [M_pos, ob_s, M_lacksBoth, ob_s]
    cases ht : t <;> cases hx : (s_in (-1000) 1000 v && s_in (-1000) 1000 w) <;> rfl
  cases ha : inC (tN T) a with
  | false =>
    rw [s_ref_1 (by decide) (by decide) ha, if_pos bz_f]
    show QC _ _ _ _ _ _ _ _ _ _ _ (p_X8_insertPoint_j27 V g m a p v w (bz false) m (mH V m 0 z A f0))
    rw [j0]
    exact QC.lack (code := 1) (by decide) R hz hH
  | true =>
    rw [s_ref_c (by decide) (by decide) ha]
    obtain ⟨i, hi, rfl⟩ := inC_ex (by omega) ha
    have n2 := (hv.2.2 i hi).n2
    rw [ix_nn (by omega), if_neg bz_tn, M_count (by decide) (by omega) (R.2.2.2.2.2 i hi), ob_s, M_range, ob_s, show decide (¬ p < 0 ∧ ¬ nn (cN (tC T i)) < p) = inC (cN (tC T i) + 1) p from s_inL (by omega) p]
    unfold s_refC
    show QC V m f0 z A T u H (if s_hp 6 = true ∧ inC (cN (tC T i) + 1) p = false then _ else (if s_in (-1000) 1000 v = true then _ else _)) _ _ _
    cases hp : inC (cN (tC T i) + 1) p with
    | false =>
      rw [if_pos bz_f]
      show QC _ _ _ _ _ _ _ _ _ _ _ (p_X8_insertPoint_j27 V g m (nn i) p v w (bz false) m (mH V m 0 z A f0))
      rw [j0]
      exact QC.lack (code := 1) (by decide) R hz hH
    | true =>
      rw [if_neg (fun h => absurd h.2 (by decide)), if_neg bz_tn]
      show QC _ _ _ _ _ _ _ _ _ _ _ (p_X8_insertPoint_j27 V g m (nn i) p v w (bz true) m (mH V m 0 z A f0))
      rw [j0]
      cases hx : s_in (-1000) 1000 v with
      | false => exact QC.lack (code := 2) (by decide) R hz hH
      | true =>
        show QC V m f0 z A T u H (if s_in (-1000) 1000 w = true then _ else _) _ _ _
        cases hw : s_in (-1000) 1000 w with
        | false => exact QC.lack (code := 2) (by decide) R hz hH
        | true =>
          obtain ⟨j, hj, rfl⟩ := inC_ex (by omega) hp
          show QC V m f0 z A T u H (if decide (cN (tC T i) < 129) = true then 0 else 3) _ _ ((p_X8_keep V g (mH V m 0 (upd z 7 0) A f0) m).bind _)
          have d := M_doInsert (V := V) (g := g) (m := m) (b := 0) (z := upd z 7 0) (f0 := f0) (by decide) (kA_rt R) hv hi (show j ≤ cN (tC T i) by omega) v w
          rw [M_keepK, ob_s]
          by_cases hc : cN (tC T i) < 129
          · rw [if_pos hc] at d
            obtain ⟨A1, s1, e1, R1⟩ := d
            rw [if_pos (by simpa using hc), e1, ob_s]
            have hh := QC.yes (V := V) (g := g) (m := m) (f0 := f0) hv R hz (upd_7 0) hu hH hHv s1 R1 (K := kC V g m (nn i)) (hK_count (by omega) (ts_set_c _ _ _) hi)
            unfold s_ans ts_do
            rw [ix_nn (by omega)]
            refine cast ?_ hh
            unfold s_nc
            simp only [ix_nn (show j < 2147483648 by omega)]
            rfl
          · rw [if_neg hc] at d
            rw [if_neg (by simpa using hc), d, ob_s, M_failsN (k := 3) (by decide), ob_s]
            exact QC.no (code := 3) (by decide) hv R hz (upd_7 0) hH (SC.rf _ _)
theorem Q_removePoint (R : RT (A 0) T) (hv : TV T) (hz : z 6 = nn u) (hu : u ≤ 8) (hH : HsA A u H) (hHv : ∀ k, k < u → TV (H k)) (a p k : Int32) (c0 : CS) : QC V m f0 z A T u H (if s_ref 7 T a p 0 0 = 3 then 2 else s_ref 7 T a p 0 0) (s_ans 7 T a p 0 0) (ts_do 7 T a p 0 0 k c0) (p_X8_removePoint V g (mH V m 0 z A f0) m a p) := by
  have h6 := hv.1
  unfold p_X8_removePoint
  rw [m_me, M_keepK, ob_s]
  have e : (inC (tN T) a && inC (cN (tC T (ix a))) p) = false → p_X8_doCut V g (mH V m 0 z (kA A) f0) m a p = some (1, mH V m 0 z (kA A) f0) := by
    intro h
    unfold p_X8_doCut
    rw [m_me, M_isPoint (by decide) (kA_rt R) hv, ob_s, h, if_pos bz_f]
  cases ha : inC (tN T) a with
  | false =>
    rw [s_ref_1 (by decide) (by decide) ha]
    rw [e (by rw [ha]; rfl), ob_s, M_failsN (k := 1) (by decide), ob_s]
    exact QC.no (code := 1) (by decide) hv R hz (fun _ _ => rfl) hH (SC.rf _ _)
  | true =>
    rw [s_ref_c (by decide) (by decide) ha]
    obtain ⟨i, hi, rfl⟩ := inC_ex (by omega) ha
    rw [ix_nn (by omega)] at e ⊢
    have n2 := (hv.2.2 i hi).n2
    unfold s_refC
    show QC V m f0 z A T u H (if (if s_hp 7 = true ∧ inC (cN (tC T i)) p = false then 1 else _) = (3 : Int32) then _ else (if s_hp 7 = true ∧ inC (cN (tC T i)) p = false then 1 else _)) _ _ _
    cases hp : inC (cN (tC T i)) p with
    | false =>
      rw [e (by rw [hp, Bool.and_false]), ob_s, M_failsN (k := 1) (by decide), ob_s]
      exact QC.no (code := 1) (by decide) hv R hz (fun _ _ => rfl) hH (SC.rf _ _)
    | true =>
      rw [if_neg (fun h : s_hp 7 = true ∧ true = false => absurd h.2 (by decide)), show s_in (-(s_lim 7)) (s_lim 7) 0 = true by decide, if_pos rfl]
      obtain ⟨j, hj, rfl⟩ := inC_ex (by omega) hp
      have d := M_doCut (V := V) (g := g) (m := m) (b := 0) (z := z) (f0 := f0) (by decide) (kA_rt R) hv hi hj
      show QC V m f0 z A T u H (if (if decide (s_need (tC T i) < cN (tC T i)) = true then (0 : Int32) else 3) = 3 then 2 else (if decide (s_need (tC T i) < cN (tC T i)) = true then (0 : Int32) else 3)) _ _ _
      by_cases hc : s_need (tC T i) < cN (tC T i)
      · rw [if_pos hc] at d
        obtain ⟨A1, s1, e1, R1⟩ := d
        rw [if_pos (show decide (s_need (tC T i) < cN (tC T i)) = true by simpa using hc), e1, ob_s]
        have hh := QC.yes (V := V) (g := g) (m := m) (f0 := f0) (z2 := z) hv R hz (fun _ _ => rfl) hu hH hHv s1 R1 (K := kC V g m (nn i)) (hK_count (by omega) (ts_set_c _ _ _) hi)
        unfold s_ans ts_do
        rw [ix_nn (by omega)]
        refine cast ?_ hh
        unfold s_nc
        simp only [ix_nn (show j < 2147483648 by omega)]
        rfl
      · rw [if_neg hc] at d
        rw [if_neg (show ¬ decide (s_need (tC T i) < cN (tC T i)) = true by simpa using hc), d, ob_s, M_failsN (k := 2) (by decide), ob_s]
        exact QC.no (code := 2) (by decide) hv R hz (fun _ _ => rfl) hH (SC.rf _ _)
theorem Q_shift (R : RT (A 0) T) (hv : TV T) (hz : z 6 = nn u) (hu : u ≤ 8) (hH : HsA A u H) (hHv : ∀ k, k < u → TV (H k)) (a v w k : Int32) (c0 : CS) : QC V m f0 z A T u H (s_ref 8 T a 0 v w) (s_ans 8 T a 0 v w) (ts_do 8 T a 0 v w k c0) (p_X8_shift V g (mH V m 0 z A f0) m a v w) := by
  have h6 := hv.1
  unfold p_X8_shift
  rw [m_me, M_isCoast (by decide) R h6, ob_s, M_shiftBy, ob_s]
  have j0 : ∀ t y : Bool, p_X8_shift_j25 V g m a v w (bz y) (bz t) m (mH V m 0 z A f0) = if (t && y) = true then (p_X8_keep V g (mH V m 0 (upd z 7 0) A f0) m).bind (fun v5 => (p_X8_doShift V g v5 m a v w).bind fun v6 => (p_X8_fails V g v6.2 m v6.1).bind fun v7 => (if v7.1 = (0 : Int32) then (p_X8_count V g v7.2 m a).bind fun v9 => some (v9, v7.2) else some ((0 : Int32), v7.2))) else some (0, mH V m 0 (upd z 7 (s_thr t y)) A f0) := by
    intro t y
    unfold p_X8_shift_j25
    rw [M_lacksBoth, ob_s]
    cases ht : t <;> cases hx : y <;> rfl
  have j1 : (if bz (s_in (-2000) 2000 v) = (0 : Int32) then p_X8_shift_j24 V g (p_X8_shift_j25 V g) m a v w (bz (inC (tN T) a)) m (mH V m 0 z A f0) else (p_X8_isShift V g (mH V m 0 z A f0) w).bind fun v11 => (if v11 = (0 : Int32) then p_X8_shift_j24 V g (p_X8_shift_j25 V g) m a v w (bz (inC (tN T) a)) m (mH V m 0 z A f0) else p_X8_shift_j25 V g m a v w (1 : Int32) (bz (inC (tN T) a)) m (mH V m 0 z A f0))) = p_X8_shift_j25 V g m a v w (bz (s_in (-2000) 2000 v && s_in (-2000) 2000 w)) (bz (inC (tN T) a)) m (mH V m 0 z A f0) := by
    rw [M_shiftBy, ob_s]
    cases s_in (-2000) 2000 v <;> cases s_in (-2000) 2000 w <;> rfl
  rw [j1, j0]
  cases ha : inC (tN T) a with
  | false =>
    rw [s_ref_1 (by decide) (by decide) ha]
    exact QC.lack (code := 1) (by decide) R hz hH
  | true =>
    rw [s_ref_c (by decide) (by decide) ha]
    obtain ⟨i, hi, rfl⟩ := inC_ex (by omega) ha
    rw [ix_nn (by omega)]
    unfold s_refC
    rw [if_neg (fun h => absurd h.1 (by decide))]
    show QC V m f0 z A T u H (if s_in (-2000) 2000 v = true then _ else _) _ _ _
    cases hx : s_in (-2000) 2000 v with
    | false => exact QC.lack (code := 2) (by decide) R hz hH
    | true =>
      show QC V m f0 z A T u H (if s_in (-2000) 2000 w = true then _ else _) _ _ _
      cases hw : s_in (-2000) 2000 w with
      | false => exact QC.lack (code := 2) (by decide) R hz hH
      | true =>
        show QC V m f0 z A T u H (if s_may (tC T i) v w (cN (tC T i)) 0 = true then 0 else 3) _ _ ((p_X8_keep V g (mH V m 0 (upd z 7 0) A f0) m).bind _)
        have d := M_doShift (V := V) (g := g) (m := m) (b := 0) (z := upd z 7 0) (f0 := f0) (by decide) (kA_rt R) hv hi v w
        rw [M_keepK, ob_s]
        by_cases hc : s_may (tC T i) v w (cN (tC T i)) 0 = true
        · rw [if_pos hc] at d ⊢
          obtain ⟨A1, s1, e1, R1⟩ := d
          rw [e1, ob_s]
          have hh := QC.yes (V := V) (g := g) (m := m) (f0 := f0) hv R hz (upd_7 0) hu hH hHv s1 R1 (K := kC V g m (nn i)) (hK_count (by omega) (ts_set_c _ _ _) hi)
          unfold s_ans ts_do
          rw [ix_nn (by omega)]
          exact hh
        · rw [if_neg hc] at d ⊢
          rw [d, ob_s, M_failsN (k := 3) (by decide), ob_s]
          exact QC.no (code := 3) (by decide) hv R hz (upd_7 0) hH (SC.rf _ _)
theorem Q_setKingMetric (R : RT (A 0) T) (hv : TV T) (hz : z 6 = nn u) (hu : u ≤ 8) (hH : HsA A u H) (hHv : ∀ k, k < u → TV (H k)) {k : Int32} (h01 : k = 0 ∨ k = 1) : QC V m f0 z A T u H 0 (tK T) (ts_met T k) (p_X8_setKingMetric V g (mH V m 0 z A f0) m k) := by
  obtain ⟨r, e1, e2⟩ := M_record (V := V) (g := g) (m := m) (b := 0) (z := upd z 7 0) (A := upA (kA A) 0 (upd (A 0) 0 k)) (f0 := f0) (T := T) (u := u) (H := H) (by rw [upA_n _ _ (by decide), show kA A 2 = _ from upA_s A 2 _]; exact R.cp hv) hv ((upd_n z 0 (by decide)).trans hz) hu (fun j hj => by rw [upA_n _ _ (by decide), show kA A 4 = A 4 from upA_n A _ (by decide)]; exact hH j hj) hHv
  refine ⟨tK T, upd (upd z 7 0) 6 (nn (h_pu u)), upA (upA (kA A) 0 (upd (A 0) 0 k)) 4 r, ?_, ?_, fun _ => ⟨rfl, upd_s _ _ _, fun j h6 h7 => (upd_n (upd z 7 0) _ h6).trans (upd_n z 0 h7), ?_, e2, fun j h0 h2 h4 => ?_⟩, fun h => absurd rfl h⟩
  · have hm := M_setMetric (V := V) (g := g) (m := m) (b := 0) (z := upd z 7 0) (A := kA A) (f0 := f0) (by decide) h01
    rw [kA_0] at hm
    unfold p_X8_setKingMetric
    rw [m_me, m_told, ob_s, M_king (by decide) (R.k01 hv), ob_s, M_keepK, ob_s, hm, ob_s, e1, ob_s, R.1, hbz01 hv.2.1, ob_s]
  · rw [upd_n _ _ (by decide), upd_s]
  · rw [upA_n _ _ (by decide), upA_s]
    exact R.met hv k
  · rw [upA_n _ _ h4, upA_n _ _ h0]
    exact upA_n A _ h2
end QQ

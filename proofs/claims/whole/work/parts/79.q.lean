/-! ===== a script's commands are done ===== -/
def s_refK (K : CMD) (T : TS) : Int32 := s_ref (qV K) T (qA K) (qP K) (qU K) (qW K)
def ts_doK (K : CMD) (T : TS) : TS := ts_do (qV K) T (qA K) (qP K) (qU K) (qW K) (qK K) (qC K)
def DR (V : Nat → Nat) (m : Nat) (f0 : GH) (z : Nat → Int32) (A : Nat → Nat → Int32) (T : TS) (ref : Int32) (T1 : TS) (r : Option (Int32 × GH)) : Prop := ∃ code A1, r = some (code, mH V m 0 z A1 f0) ∧ RB 0 A A1 ∧ (ref = 0 → code = 0 ∧ RT (A1 0) T1) ∧ (ref ≠ 0 → code ≠ 0 ∧ RT (A1 0) T)
section DD
variable {V : Nat → Nat} {g f0 : GH} {m v : Nat} {z : Nat → Int32} {A : Nat → Nat → Int32} {T T1 : TS} {a p u w k ref : Int32} {c0 : CS}
theorem DR.no {code : Int32} (hc : code ≠ 0) (hr : ref ≠ 0) (R : RT (A 0) T) : DR V m f0 z A T ref T1 (some (code, mH V m 0 z A f0)) := ⟨code, A, rfl, RB.rf 0 A, fun h => absurd h hr, fun _ => ⟨hc, R⟩⟩
theorem DR.yes {A1 : Nat → Nat → Int32} {r : Option (Int32 × GH)} (hr : ref = 0) (h : r = some (0, mH V m 0 z A1 f0)) (s : RB 0 A A1) (R : RT (A1 0) T1) : DR V m f0 z A T ref T1 r := ⟨0, A1, h, s, fun _ => ⟨rfl, R⟩, fun h => absurd hr h⟩
theorem s_refV (h2 : ¬ v ≤ 2) (h11 : v ≠ 11) (hu : s_in (-(s_lim v)) (s_lim v) u = true) (hw : s_in (-(s_lim v)) (s_lim v) w = true) : s_ref v T a p u w = if inC (tN T) a = true then (if s_hp v = true ∧ inC (cN (tC T (ix a)) + (if v = 6 then 1 else 0)) p = false then 1 else if s_mayV v (tC T (ix a)) u w = true then 0 else 3) else 1 := by
  unfold s_ref s_refC
  rw [if_neg h2, if_neg h11, if_pos hu, if_pos hw]
theorem ts_do_set (h2 : ¬ v ≤ 2) (h11 : v ≠ 11) (h10 : v ≠ 10) : ts_do v T a p u w k c0 = ts_set T (ix a) (s_nc v (tC T (ix a)) p u w) := by
  unfold ts_do
  rw [if_neg h2, if_neg h11, if_neg h10]
theorem D_fold (R : RT (A 0) T) (hv : TV T) (hu : s_in (-(s_lim 3)) (s_lim 3) u = true) (hw : s_in (-(s_lim 3)) (s_lim 3) w = true) : DR V m f0 z A T (s_ref 3 T a p u w) (ts_do 3 T a p u w k c0) (p_X8_doFold V g (mH V m 0 z A f0) m a u) := by
  have h6 := hv.1
  rw [s_refV (by decide) (by decide) hu hw, ts_do_set (by decide) (by decide) (by decide)]
  cases ha : inC (tN T) a with
  | false =>
    rw [if_neg (by decide), show p_X8_doFold V g (mH V m 0 z A f0) m a u = some (1, mH V m 0 z A f0) by unfold p_X8_doFold; rw [m_me, M_isCoast (by decide) R h6, ob_s, ha, if_pos bz_f]]
    exact DR.no (by decide) (by decide) R
  | true =>
    obtain ⟨i, hi, rfl⟩ := inC_ex (by omega) ha
    rw [if_pos rfl, if_neg (fun h => absurd h.1 (by decide)), ix_nn (by omega)]
    obtain ⟨A1, s1, d0, d1⟩ := M_doFold (V := V) (g := g) (m := m) (b := 0) (z := z) (f0 := f0) (by decide) R hv hi u
    by_cases h : s_why (tC T i) u = 0
    · rw [if_pos (show s_mayV 3 (tC T i) u w = true by show decide (_) = true; exact decide_eq_true h)]
      exact DR.yes rfl (d0 h).1 s1 (d0 h).2
    · rw [if_neg (show ¬ s_mayV 3 (tC T i) u w = true by show ¬ decide (_) = true; rw [decide_eq_false h]; decide), (d1 h).1]
      exact ⟨3, A1, rfl, s1, fun h => absurd h (by decide), fun _ => ⟨by decide, (d1 h).2.rt R hv⟩⟩
theorem D_unfold (R : RT (A 0) T) (hv : TV T) (hu : s_in (-(s_lim 4)) (s_lim 4) u = true) (hw : s_in (-(s_lim 4)) (s_lim 4) w = true) : DR V m f0 z A T (s_ref 4 T a p u w) (ts_do 4 T a p u w k c0) (p_X8_doUnfold V g (mH V m 0 z A f0) m a) := by
  have h6 := hv.1
  rw [s_refV (by decide) (by decide) hu hw, ts_do_set (by decide) (by decide) (by decide)]
  cases ha : inC (tN T) a with
  | false =>
    rw [if_neg (by decide), show p_X8_doUnfold V g (mH V m 0 z A f0) m a = some (1, mH V m 0 z A f0) by unfold p_X8_doUnfold; rw [m_me, M_isCoast (by decide) R h6, ob_s, ha, if_pos bz_f]]
    exact DR.no (by decide) (by decide) R
  | true =>
    obtain ⟨i, hi, rfl⟩ := inC_ex (by omega) ha
    rw [if_pos rfl, if_neg (fun h => absurd h.1 (by decide)), ix_nn (by omega)]
    have d := M_doUnfold (V := V) (g := g) (m := m) (b := 0) (z := z) (f0 := f0) (by decide) R hv hi
    by_cases h : s_need (tC T i) ≤ (cN (tC T i) + 1) / 2
    · rw [if_pos h] at d
      obtain ⟨A1, s1, e1, R1⟩ := d
      rw [if_pos (show s_mayV 4 (tC T i) u w = true by show decide (_) = true; exact decide_eq_true h)]
      exact DR.yes rfl e1 s1 R1
    · rw [if_neg h] at d
      rw [if_neg (show ¬ s_mayV 4 (tC T i) u w = true by show ¬ decide (_) = true; rw [decide_eq_false h]; decide), d]
      exact DR.no (by decide) (by decide) R
theorem D_shift (R : RT (A 0) T) (hv : TV T) (hu : s_in (-(s_lim 8)) (s_lim 8) u = true) (hw : s_in (-(s_lim 8)) (s_lim 8) w = true) : DR V m f0 z A T (s_ref 8 T a p u w) (ts_do 8 T a p u w k c0) (p_X8_doShift V g (mH V m 0 z A f0) m a u w) := by
  have h6 := hv.1
  rw [s_refV (by decide) (by decide) hu hw, ts_do_set (by decide) (by decide) (by decide)]
  cases ha : inC (tN T) a with
  | false =>
    rw [if_neg (by decide), show p_X8_doShift V g (mH V m 0 z A f0) m a u w = some (1, mH V m 0 z A f0) by unfold p_X8_doShift; rw [m_me, M_isCoast (by decide) R h6, ob_s, ha, if_pos bz_f]]
    exact DR.no (by decide) (by decide) R
  | true =>
    obtain ⟨i, hi, rfl⟩ := inC_ex (by omega) ha
    rw [if_pos rfl, if_neg (fun h => absurd h.1 (by decide)), ix_nn (by omega)]
    have d := M_doShift (V := V) (g := g) (m := m) (b := 0) (z := z) (f0 := f0) (by decide) R hv hi u w
    by_cases h : s_may (tC T i) u w (cN (tC T i)) 0 = true
    · rw [if_pos h] at d
      obtain ⟨A1, s1, e1, R1⟩ := d
      rw [if_pos (show s_mayV 8 (tC T i) u w = true from h)]
      exact DR.yes rfl e1 s1 R1
    · rw [if_neg h] at d
      rw [if_neg (show ¬ s_mayV 8 (tC T i) u w = true from h), d]
      exact DR.no (by decide) (by decide) R
theorem D_reverse (R : RT (A 0) T) (hv : TV T) (hu : s_in (-(s_lim 9)) (s_lim 9) u = true) (hw : s_in (-(s_lim 9)) (s_lim 9) w = true) : DR V m f0 z A T (s_ref 9 T a p u w) (ts_do 9 T a p u w k c0) (p_X8_doReverse V g (mH V m 0 z A f0) m a) := by
  have h6 := hv.1
  rw [s_refV (by decide) (by decide) hu hw, ts_do_set (by decide) (by decide) (by decide)]
  cases ha : inC (tN T) a with
  | false =>
    rw [if_neg (by decide), show p_X8_doReverse V g (mH V m 0 z A f0) m a = some (1, mH V m 0 z A f0) by unfold p_X8_doReverse; rw [m_me, M_isCoast (by decide) R h6, ob_s, ha, if_pos bz_f]]
    exact DR.no (by decide) (by decide) R
  | true =>
    obtain ⟨i, hi, rfl⟩ := inC_ex (by omega) ha
    rw [if_pos rfl, if_neg (fun h => absurd h.1 (by decide)), ix_nn (by omega)]
    obtain ⟨A1, s1, e1, R1⟩ := M_doReverse (V := V) (g := g) (m := m) (b := 0) (z := z) (f0 := f0) (by decide) R hv hi
    rw [if_pos (show s_mayV 9 (tC T i) u w = true from rfl)]
    exact DR.yes rfl e1 s1 R1
theorem D_remove (R : RT (A 0) T) (hv : TV T) (hu : s_in (-(s_lim 10)) (s_lim 10) u = true) (hw : s_in (-(s_lim 10)) (s_lim 10) w = true) : DR V m f0 z A T (s_ref 10 T a p u w) (ts_do 10 T a p u w k c0) (p_X8_doRemove V g (mH V m 0 z A f0) m a) := by
  have h6 := hv.1
  rw [s_refV (by decide) (by decide) hu hw, show ts_do 10 T a p u w k c0 = ts_rem T (ix a) from rfl]
  cases ha : inC (tN T) a with
  | false =>
    rw [if_neg (by decide), show p_X8_doRemove V g (mH V m 0 z A f0) m a = some (1, mH V m 0 z A f0) by unfold p_X8_doRemove; rw [m_me, M_isCoast (by decide) R h6, ob_s, ha, if_pos bz_f]]
    exact DR.no (by decide) (by decide) R
  | true =>
    obtain ⟨i, hi, rfl⟩ := inC_ex (by omega) ha
    rw [if_pos rfl, if_neg (fun h => absurd h.1 (by decide)), ix_nn (by omega)]
    obtain ⟨A1, s1, e1, R1⟩ := M_doRemove (V := V) (g := g) (m := m) (b := 0) (z := z) (f0 := f0) (by decide) R hv hi
    rw [if_pos (show s_mayV 10 (tC T i) u w = true from rfl)]
    exact DR.yes rfl e1 s1 R1
theorem D_move (R : RT (A 0) T) (hv : TV T) (hu : s_in (-(s_lim 5)) (s_lim 5) u = true) (hw : s_in (-(s_lim 5)) (s_lim 5) w = true) : DR V m f0 z A T (s_ref 5 T a p u w) (ts_do 5 T a p u w k c0) (p_X8_doMove V g (mH V m 0 z A f0) m a p u w) := by
  have h6 := hv.1
  rw [s_refV (by decide) (by decide) hu hw, ts_do_set (by decide) (by decide) (by decide)]
  have hno : (inC (tN T) a && inC (cN (tC T (ix a))) p) = false → p_X8_doMove V g (mH V m 0 z A f0) m a p u w = some (1, mH V m 0 z A f0) := fun h => by unfold p_X8_doMove; rw [m_me, M_isPoint (by decide) R hv, ob_s, h, if_pos bz_f]
  cases ha : inC (tN T) a with
  | false =>
    rw [if_neg (by decide), hno (by rw [ha]; rfl)]
    exact DR.no (by decide) (by decide) R
  | true =>
    obtain ⟨i, hi, rfl⟩ := inC_ex (by omega) ha
    rw [ix_nn (by omega)] at hno ⊢
    have n2 := (hv.2.2 i hi).n2
    rw [if_pos rfl]
    show DR V m f0 z A T (if s_hp 5 = true ∧ inC (cN (tC T i)) p = false then 1 else _) _ _
    cases hp : inC (cN (tC T i)) p with
    | false =>
      rw [if_pos ⟨rfl, rfl⟩, hno (by rw [ha, hp]; rfl)]
      exact DR.no (by decide) (by decide) R
    | true =>
      obtain ⟨j, hj, rfl⟩ := inC_ex (by omega) hp
      obtain ⟨A1, s1, e1, R1⟩ := M_doMove (V := V) (g := g) (m := m) (b := 0) (z := z) (f0 := f0) (by decide) R hv hi hj u w
      rw [if_neg (fun h => absurd h.2 (by decide)), if_pos (show s_mayV 5 (tC T i) u w = true from rfl), show s_nc 5 (tC T i) (nn j) u w = s_put (tC T i) j u w by unfold s_nc; simp only [ix_nn (show j < 2147483648 by omega)]]
      exact DR.yes rfl e1 s1 R1
theorem D_cut (R : RT (A 0) T) (hv : TV T) (hu : s_in (-(s_lim 7)) (s_lim 7) u = true) (hw : s_in (-(s_lim 7)) (s_lim 7) w = true) : DR V m f0 z A T (s_ref 7 T a p u w) (ts_do 7 T a p u w k c0) (p_X8_doCut V g (mH V m 0 z A f0) m a p) := by
  have h6 := hv.1
  rw [s_refV (by decide) (by decide) hu hw, ts_do_set (by decide) (by decide) (by decide)]
  have hno : (inC (tN T) a && inC (cN (tC T (ix a))) p) = false → p_X8_doCut V g (mH V m 0 z A f0) m a p = some (1, mH V m 0 z A f0) := fun h => by unfold p_X8_doCut; rw [m_me, M_isPoint (by decide) R hv, ob_s, h, if_pos bz_f]
  cases ha : inC (tN T) a with
  | false =>
    rw [if_neg (by decide), hno (by rw [ha]; rfl)]
    exact DR.no (by decide) (by decide) R
  | true =>
    obtain ⟨i, hi, rfl⟩ := inC_ex (by omega) ha
    rw [ix_nn (by omega)] at hno ⊢
    have n2 := (hv.2.2 i hi).n2
    rw [if_pos rfl]
    show DR V m f0 z A T (if s_hp 7 = true ∧ inC (cN (tC T i)) p = false then 1 else _) _ _
    cases hp : inC (cN (tC T i)) p with
    | false =>
      rw [if_pos ⟨rfl, rfl⟩, hno (by rw [ha, hp]; rfl)]
      exact DR.no (by decide) (by decide) R
    | true =>
      obtain ⟨j, hj, rfl⟩ := inC_ex (by omega) hp
      have d := M_doCut (V := V) (g := g) (m := m) (b := 0) (z := z) (f0 := f0) (by decide) R hv hi hj
      rw [if_neg (fun h => absurd h.2 (by decide)), show s_nc 7 (tC T i) (nn j) u w = s_cut (tC T i) j by unfold s_nc; simp only [ix_nn (show j < 2147483648 by omega)]]
      by_cases h : s_need (tC T i) < cN (tC T i)
      · rw [if_pos h] at d
        obtain ⟨A1, s1, e1, R1⟩ := d
        rw [if_pos (show s_mayV 7 (tC T i) u w = true by show decide (_) = true; exact decide_eq_true h)]
        exact DR.yes rfl e1 s1 R1
      · rw [if_neg h] at d
        rw [if_neg (show ¬ s_mayV 7 (tC T i) u w = true by show ¬ decide (_) = true; rw [decide_eq_false h]; decide), d]
        exact DR.no (by decide) (by decide) R
theorem D_insert (R : RT (A 0) T) (hv : TV T) (hu : s_in (-(s_lim 6)) (s_lim 6) u = true) (hw : s_in (-(s_lim 6)) (s_lim 6) w = true) : DR V m f0 z A T (s_ref 6 T a p u w) (ts_do 6 T a p u w k c0) (p_X8_doInsert V g (mH V m 0 z A f0) m a p u w) := by
  have h6 := hv.1
  rw [s_refV (by decide) (by decide) hu hw, ts_do_set (by decide) (by decide) (by decide)]
  cases ha : inC (tN T) a with
  | false =>
    rw [if_neg (by decide), show p_X8_doInsert V g (mH V m 0 z A f0) m a p u w = some (1, mH V m 0 z A f0) by unfold p_X8_doInsert; rw [m_me, M_isCoast (by decide) R h6, ob_s, ha, if_pos bz_f]]
    exact DR.no (by decide) (by decide) R
  | true =>
    obtain ⟨i, hi, rfl⟩ := inC_ex (by omega) ha
    rw [ix_nn (by omega)]
    have n2 := (hv.2.2 i hi).n2
    rw [if_pos rfl]
    show DR V m f0 z A T (if s_hp 6 = true ∧ inC (cN (tC T i) + 1) p = false then 1 else _) _ _
    cases hp : inC (cN (tC T i) + 1) p with
    | false =>
      rw [if_pos ⟨rfl, rfl⟩, show p_X8_doInsert V g (mH V m 0 z A f0) m (nn i) p u w = some (1, mH V m 0 z A f0) by unfold p_X8_doInsert; rw [m_me, M_isCoast (by decide) R h6, ob_s, ha, if_neg bz_tn, M_count (by decide) (by omega) (R.2.2.2.2.2 i hi), ob_s, M_range, ob_s, show decide (¬ p < 0 ∧ ¬ nn (cN (tC T i)) < p) = inC (cN (tC T i) + 1) p from s_inL (by omega) p, hp, if_pos bz_f]]
      exact DR.no (by decide) (by decide) R
    | true =>
      obtain ⟨j, hj, rfl⟩ := inC_ex (by omega) hp
      have d := M_doInsert (V := V) (g := g) (m := m) (b := 0) (z := z) (f0 := f0) (by decide) R hv hi (show j ≤ cN (tC T i) by omega) u w
      rw [if_neg (fun h => absurd h.2 (by decide)), show s_nc 6 (tC T i) (nn j) u w = s_ins (tC T i) j u w by unfold s_nc; simp only [ix_nn (show j < 2147483648 by omega)]]
      by_cases h : cN (tC T i) < 129
      · rw [if_pos h] at d
        obtain ⟨A1, s1, e1, R1⟩ := d
        rw [if_pos (show s_mayV 6 (tC T i) u w = true by show decide (_) = true; exact decide_eq_true h)]
        exact DR.yes rfl e1 s1 R1
      · rw [if_neg h] at d
        rw [if_neg (show ¬ s_mayV 6 (tC T i) u w = true by show ¬ decide (_) = true; rw [decide_eq_false h]; decide), d]
        exact DR.no (by decide) (by decide) R
theorem M_does {n : Nat} {K : CMD} (hn : n < 20) (R : RT (A 0) T) (hv : TV T) (O : OrR (A 8) (73 * n) K) (hK : CmV K) : ∃ code A1, p_X8_does V g (mH V m 0 z A f0) m (nn (73 * n)) = some (code, mH V m 0 z A1 f0) ∧ (∀ j, j ≠ 0 → j ≠ 7 → A1 j = A j) ∧ (s_refK K T = 0 → code = 0 ∧ RT (A1 0) (ts_doK K T)) ∧ (s_refK K T ≠ 0 → code ≠ 0 ∧ RT (A1 0) T) := by
  obtain ⟨v, a, p, u, w, k, c⟩ := K
  obtain ⟨k1, k11, kc, kk, ku, kw⟩ := hK
  have k1 : 1 ≤ v := k1
  have k11 : v ≤ 11 := k11
  have ku : s_in (-(s_lim v)) (s_lim v) u = true := ku
  have kw : s_in (-(s_lim v)) (s_lim v) w = true := kw
  show ∃ (code : Int32) (A1 : Nat → Nat → Int32), _ ∧ _ ∧ (s_ref v T a p u w = 0 → code = 0 ∧ RT (A1 0) (ts_do v T a p u w k c)) ∧ (s_ref v T a p u w ≠ 0 → code ≠ 0 ∧ RT (A1 0) T)
  have r8 : ∀ j, j < 1460 → h_li (mH V m 0 z A f0) (m + 1 + 8) 0 (nn j) = some (A 8 j) := fun j hj => m_li (by decide) hj
  have fin : ∀ (kind : Int32) (call : Option (Int32 × GH)), A 8 (73 * n) = kind → p_X8_does V g (mH V m 0 z A f0) m (nn (73 * n)) = call.bind (fun v14 => some (v14.1, v14.2)) → DR V m f0 z A T (s_ref v T a p u w) (ts_do v T a p u w k c) call → ∃ code A1, p_X8_does V g (mH V m 0 z A f0) m (nn (73 * n)) = some (code, mH V m 0 z A1 f0) ∧ (∀ j, j ≠ 0 → j ≠ 7 → A1 j = A j) ∧ (s_ref v T a p u w = 0 → code = 0 ∧ RT (A1 0) (ts_do v T a p u w k c)) ∧ (s_ref v T a p u w ≠ 0 → code ≠ 0 ∧ RT (A1 0) T) := by
    intro kind call _ h1 h2
    obtain ⟨code, A1, d1, d2, d3, d4⟩ := h2
    refine ⟨code, A1, ?_, fun j j0 _ => d2 j j0, d3, d4⟩
    rw [h1, d1, ob_s]
  unfold OrR at O
  by_cases h2 : v ≤ 2
  · rw [if_pos (show qV (v, a, p, u, w, k, c) ≤ 2 from h2)] at O
    obtain ⟨o1, o2⟩ := O
    obtain ⟨cv, c33⟩ : CoV c ∧ cN c ≤ 33 := kc h2
    have hc := m_cp (V := V) (m := m) (b := 0) (z := z) (A := A) (f0 := f0) (i := 8) (j := 7) (sp := 73 * n + 5) (dp := 0) (n := 68) (by decide) (by decide) (by show _ ≤ 1460; omega) (by decide)
    have q7 : RQ (va_cpy (A 8) (A 7) (73 * n + 5) 0 68) 0 c := o2.frame c33 (fun j hj => by rw [cpy_in (by omega) (by omega)]; congr 1; omega)
    have hd := M_doAdd (V := V) (g := g) (m := m) (b := 0) (z := z) (A := upA A 7 (va_cpy (A 8) (A 7) (73 * n + 5) 0 68)) (f0 := f0) (T := T) (c := c) (by decide) (by rw [upA_n _ _ (by decide)]; exact R) hv (by rw [upA_s]; exact q7) c33
    have hr : s_ref v T a p u w = if tN T < 6 then 0 else 3 := if_pos h2
    have ht : ts_do v T a p u w k c = ts_add T c := if_pos h2
    have hun : p_X8_does V g (mH V m 0 z A f0) m (nn (73 * n)) = (p_X8_doAdd V g (mH V m 0 z (upA A 7 (va_cpy (A 8) (A 7) (73 * n + 5) 0 68)) f0) m).bind fun v13 => some (v13.1, v13.2) := by
      unfold p_X8_does
      rw [m_me, m_r23, ob_s, nn_s, r8 _ (by omega), ob_s, ob_s, nn_a2, r8 _ (by omega), ob_s, ob_s, r8 _ (by omega), ob_s, show A 8 (73 * n) = 0 from o1, if_pos rfl, ob_s, m_r22, ob_s, ob_s, m_al (j := 7) (by decide), ob_s, nn_a5]
      show ((h_cp (mH V m 0 z A f0) 0 (m + 1 + 8) (nn (73 * n + 5)) (m + 1 + 7) (nn 0) (nn 68)).bind _) = _
      rw [hc, ob_s]
    rw [hun, hr, ht]
    by_cases h6 : tN T < 6
    · rw [if_pos h6] at hd
      obtain ⟨A1, s1, d1, R1⟩ := hd
      rw [d1, ob_s, if_pos h6]
      exact ⟨0, A1, rfl, fun j j0 j7 => (s1 j j0).trans (upA_n _ _ j7), fun _ => ⟨rfl, R1⟩, fun h => absurd rfl h⟩
    · rw [if_neg h6] at hd
      rw [hd, ob_s, if_neg h6]
      exact ⟨2, _, rfl, fun j _ j7 => upA_n _ _ j7, fun h => absurd h (by decide), fun _ => ⟨by decide, by rw [upA_n _ _ (by decide)]; exact R⟩⟩
  · rw [if_neg (show ¬ qV (v, a, p, u, w, k, c) ≤ 2 from h2)] at O
    by_cases h11 : v = 11
    · rw [if_pos (show qV (v, a, p, u, w, k, c) = 11 from h11)] at O
      obtain ⟨o1, o2⟩ := O
      have o2 : A 8 (73 * n + 1) = k := o2
      have hk01 : k = 0 ∨ k = 1 := kk h11
      have hs := M_setMetric (V := V) (g := g) (m := m) (b := 0) (z := z) (A := A) (f0 := f0) (by decide) hk01
      have hr : s_ref v T a p u w = 0 := by unfold s_ref; rw [if_neg h2, if_pos h11]
      have ht : ts_do v T a p u w k c = ts_met T k := by unfold ts_do; rw [if_neg h2, if_pos h11]
      rw [hr, ht]
      refine ⟨0, _, ?_, fun j j0 _ => upA_n A (upd (A 0) 0 k) j0, fun _ => ⟨rfl, by rw [upA_s]; exact R.met hv k⟩, fun h => absurd rfl h⟩
      unfold p_X8_does
      rw [m_me, m_r23, ob_s, nn_s, r8 _ (by omega), ob_s, ob_s, nn_a2, r8 _ (by omega), ob_s, ob_s, r8 _ (by omega), ob_s, show A 8 (73 * n) = 9 from o1, if_neg (by decide), if_neg (by decide), if_neg (by decide), if_neg (by decide), if_neg (by decide), if_neg (by decide), if_neg (by decide), if_neg (by decide), if_neg (by decide), o2]
      rcases hk01 with q | q
      · rw [q] at hs ⊢
        rw [if_neg (by decide), hs, ob_s]
      · rw [q] at hs ⊢
        rw [if_pos rfl, hs, ob_s]
    · rw [if_neg (show ¬ qV (v, a, p, u, w, k, c) = 11 from h11)] at O
      obtain ⟨o1, o2, o3, o4, o5⟩ := O
      have o1 : A 8 (73 * n) = nn (v - 2) := o1
      have o2 : A 8 (73 * n + 1) = a := o2
      have o3 : s_hp v = true → A 8 (73 * n + 2) = p := o3
      have o4 : v = 3 → A 8 (73 * n + 2) = u := o4
      have o5 : kBoth v = true → A 8 (73 * n + 3) = u ∧ A 8 (73 * n + 4) = w := o5
      have hv8 : v = 3 ∨ v = 4 ∨ v = 5 ∨ v = 6 ∨ v = 7 ∨ v = 8 ∨ v = 9 ∨ v = 10 := by omega
      rcases hv8 with rfl | rfl | rfl | rfl | rfl | rfl | rfl | rfl
      · refine fin _ _ o1 ?_ (D_fold (g := g) R hv ku kw)
        unfold p_X8_does
        rw [m_me, m_r23, ob_s, nn_s, r8 _ (by omega), ob_s, ob_s, nn_a2, r8 _ (by omega), ob_s, ob_s, r8 _ (by omega), ob_s, o1, o2, o4 rfl]
        rfl
      · refine fin _ _ o1 ?_ (D_unfold (g := g) R hv ku kw)
        unfold p_X8_does
        rw [m_me, m_r23, ob_s, nn_s, r8 _ (by omega), ob_s, ob_s, nn_a2, r8 _ (by omega), ob_s, ob_s, r8 _ (by omega), ob_s, o1, o2]
        rfl
      · refine fin _ _ o1 ?_ (D_move (g := g) R hv ku kw)
        unfold p_X8_does
        rw [m_me, m_r23, ob_s, nn_s, r8 _ (by omega), ob_s, ob_s, nn_a2, r8 _ (by omega), ob_s, ob_s, r8 _ (by omega), ob_s, o1, o2, o3 rfl]
        rw [if_neg (by decide), if_neg (by decide), if_neg (by decide), if_pos (by decide)]
        rw [ob_s, nn_a3, r8 _ (by omega), ob_s, ob_s, nn_a4, r8 _ (by omega), ob_s, (o5 rfl).1, (o5 rfl).2]
        rfl
      · refine fin _ _ o1 ?_ (D_insert (g := g) R hv ku kw)
        unfold p_X8_does
        rw [m_me, m_r23, ob_s, nn_s, r8 _ (by omega), ob_s, ob_s, nn_a2, r8 _ (by omega), ob_s, ob_s, r8 _ (by omega), ob_s, o1, o2, o3 rfl]
        rw [if_neg (by decide), if_neg (by decide), if_neg (by decide), if_neg (by decide), if_pos (by decide)]
        rw [ob_s, nn_a3, r8 _ (by omega), ob_s, ob_s, nn_a4, r8 _ (by omega), ob_s, (o5 rfl).1, (o5 rfl).2]
        rfl
      · refine fin _ _ o1 ?_ (D_cut (g := g) R hv ku kw)
        unfold p_X8_does
        rw [m_me, m_r23, ob_s, nn_s, r8 _ (by omega), ob_s, ob_s, nn_a2, r8 _ (by omega), ob_s, ob_s, r8 _ (by omega), ob_s, o1, o2, o3 rfl]
        rfl
      · refine fin _ _ o1 ?_ (D_shift (g := g) R hv ku kw)
        unfold p_X8_does
        rw [m_me, m_r23, ob_s, nn_s, r8 _ (by omega), ob_s, ob_s, nn_a2, r8 _ (by omega), ob_s, ob_s, r8 _ (by omega), ob_s, o1, o2]
        rw [if_neg (by decide), if_neg (by decide), if_neg (by decide), if_neg (by decide), if_neg (by decide), if_neg (by decide), if_pos (by decide)]
        rw [ob_s, nn_a3, r8 _ (by omega), ob_s, ob_s, nn_a4, r8 _ (by omega), ob_s, (o5 rfl).1, (o5 rfl).2]
        rfl
      · refine fin _ _ o1 ?_ (D_reverse (g := g) R hv ku kw)
        unfold p_X8_does
        rw [m_me, m_r23, ob_s, nn_s, r8 _ (by omega), ob_s, ob_s, nn_a2, r8 _ (by omega), ob_s, ob_s, r8 _ (by omega), ob_s, o1, o2]
        rfl
      · refine fin _ _ o1 ?_ (D_remove (g := g) R hv ku kw)
        unfold p_X8_does
        rw [m_me, m_r23, ob_s, nn_s, r8 _ (by omega), ob_s, ob_s, nn_a2, r8 _ (by omega), ob_s, ob_s, r8 _ (by omega), ob_s, o1, o2]
        rfl
end DD

/-! ===== the constructors: the reference's, whole ===== -/
theorem tl_B {s : Nat → Int32} {isl : Int32} : ∀ j, j ≤ 33 → (∀ i, i < 2 * j → bd (s i)) → CoB (tl_c s isl j) := by
  intro j
  induction j with
  | zero => intro _ _; exact CoB.new isl
  | succ j ih =>
    intro hj hs
    exact (ih (by omega) (fun i hi => hs i (by omega))).app (by rw [(tl_n s isl j).1]; omega) (hs _ (by omega)) (hs _ (by omega))
theorem tl_V {s : Nat → Int32} {isl : Int32} {L : Nat} (hL : L ≤ 33) (hs : ∀ i, i < 2 * L → bd (s i)) (h : isl = 0 ∧ 2 ≤ L ∨ isl = 1 ∧ 3 ≤ L) : CoV (tl_c s isl L) ∧ cN (tl_c s isl L) ≤ 33 := by
  obtain ⟨n1, n2⟩ := tl_n s isl L
  obtain ⟨b1, b2⟩ := tl_B (isl := isl) L hL hs
  exact ⟨⟨by rw [n1, n2]; exact h, by omega, b2⟩, b1⟩
theorem MSV.ad {T : MS} {c : CS} (h : MSV T) (h6 : T.1 < 6) (hc : CoV c ∧ cN c ≤ 33) : MSV (ms_add T c) := by
  refine ⟨by show T.1 + 1 ≤ 6; omega, fun i hi => ?_⟩
  have hi : i < T.1 + 1 := hi
  show CoV (if i = T.1 then c else T.2 i) ∧ cN (if i = T.1 then c else T.2 i) ≤ 33
  by_cases e : i = T.1
  · rw [if_pos e]; exact hc
  · rw [if_neg e]; exact h.2 i (by omega)
theorem bd_0 : ∀ i, i < 2 * 5 → bd (al_f al_c0 i) := by unfold bd; decide
theorem bd_1 : ∀ i, i < 2 * 4 → bd (al_f al_c1 i) := by unfold bd; decide
theorem bd_2 : ∀ i, i < 2 * 3 → bd (al_f al_c2 i) := by unfold bd; decide
theorem M_0_V : MSV mp_0 := ⟨Nat.zero_le _, fun i hi => absurd hi (Nat.not_lt_zero i)⟩
theorem M_1_V : MSV M_1 := M_0_V.ad (by decide) (tl_V (by decide) bd_0 (Or.inl ⟨rfl, by decide⟩))
theorem M_2_V : MSV M_2 := M_1_V.ad (by decide) (tl_V (by decide) bd_1 (Or.inr ⟨rfl, by decide⟩))
theorem M_3_V : MSV M_3 := M_2_V.ad (by decide) (tl_V (by decide) bd_2 (Or.inr ⟨rfl, by decide⟩))
section KE
variable {V : Nat → Nat} {g f f0 f1 : GH} {x m n k j b : Nat} {z : Nat → Int32} {A : Nat → Nat → Int32} {T : TS}
/-- a coastline of the beginning, laid -/
theorem M_put {T : MS} {i : Nat} {c : CS} (hT : MSV T) (hi : T.1 = i) (h6 : i < 6) (R : RTm (A 0) 0 T) (hn : cN c ≤ 33) (q : RQ (A 7) 0 c) : ∃ r, p_X8_layTold V g (mH V m 0 z A f0) m = some (mH V m 0 z (upA A 0 r) f0) ∧ RTm r 0 (ms_add T c) := by
  subst hi
  exact ⟨_, M_layTold (i := T.1) (by decide) R.2.1 (by omega), R.lay hT h6 (Or.inl rfl) hn q⟩
theorem I_t5 (A : Nat → Nat → Int32) (f0 : GH) (R : RTm (A 0) 0 M_2) : ∃ A1, p_X8_init_s5 V g m (mH V m 0 z A f0) n = some (mH V m 0 z A1 f0, n) ∧ RT (A1 0) (T_new M_3 0) := by
  obtain ⟨r0, e0, q0⟩ := M_startC (V := V) (g := g) (m := m) (b := 0) (z := z) (A := A) (f0 := f0) 1
  obtain ⟨r1, e1, q1⟩ := M_tell (V := V) (g := g) (m := m) (b := 0) (z := z) (A := upA A 7 r0) (f0 := f0) (c := c_new 1) (by rw [upA_s]; exact q0) (by decide) 35 5
  rw [upA_up] at e1
  obtain ⟨r2, e2, q2⟩ := M_tell (V := V) (g := g) (m := m) (b := 0) (z := z) (A := upA A 7 r1) (f0 := f0) (by rw [upA_s]; exact q1) (by decide) 45 5
  rw [upA_up] at e2
  obtain ⟨r3, e3, q3⟩ := M_tell (V := V) (g := g) (m := m) (b := 0) (z := z) (A := upA A 7 r2) (f0 := f0) (by rw [upA_s]; exact q2) (by decide) 40 15
  rw [upA_up] at e3
  obtain ⟨r4, e4, R4⟩ := M_put (V := V) (g := g) (m := m) (z := z) (A := upA A 7 r3) (f0 := f0) (c := tl_c (al_f al_c2) 1 3) M_2_V (i := 2) rfl (by decide) (by rw [upA_n _ _ (by decide)]; exact R) (by decide) (by rw [upA_s]; exact q3)
  have R5 : RT (upA (upA A 7 r3) 0 r4 0) (M_3.1, 0, r4 2, r4 3, r4 4, M_3.2) := by rw [upA_s]; exact R4
  obtain ⟨r5, hr5⟩ : ∃ r, r = upd (upd (upd (upA (upA A 7 r3) 0 r4 0) 2 (s_pts (M_3.1, 0, r4 2, r4 3, r4 4, M_3.2))) 3 0) 4 0 := ⟨_, rfl⟩
  have e5 := M_rest (V := V) (g := g) (m := m) (z := z) (f0 := f0) (by decide : 0 < 2) R5 (by show M_3.1 ≤ 6; decide)
  rw [← hr5] at e5
  refine ⟨upA (upA (upA A 7 r3) 0 r4) 0 r5, ?_, ?_⟩
  · unfold p_X8_init_s5
    rw [e0, ob_s, e1, ob_s, e2, ob_s, e3, ob_s, e4, ob_s, e5, ob_s]
  · rw [upA_s, hr5, upA_s]
    obtain ⟨w0, w1, w2, w3, w4, w5⟩ := R4
    exact ⟨by rw [upd_n _ _ (by decide), upd_n _ _ (by decide), upd_n _ _ (by decide)]; exact w0, by rw [upd_n _ _ (by decide), upd_n _ _ (by decide), upd_n _ _ (by decide)]; exact w1, by rw [upd_n _ _ (by decide), upd_n _ _ (by decide), upd_s]; rfl, by rw [upd_n _ _ (by decide), upd_s]; rfl, upd_s _ _ _, fun i hi => (w5 i hi).frame (M_3_V.2 i hi).1.n2 (fun k h1 h2 => by rw [upd_n _ _ (by omega), upd_n _ _ (by omega), upd_n _ _ (by omega)])⟩
theorem I_t4 (A : Nat → Nat → Int32) (f0 : GH) (R : RTm (A 0) 0 mp_0) (q : RQ (A 7) 0 (tl_c (al_f al_c0) 0 5)) : ∃ A1, p_X8_init_s4 V g m (mH V m 0 z A f0) n = some (mH V m 0 z A1 f0, n) ∧ RT (A1 0) (T_new M_3 0) := by
  obtain ⟨ra, ea, Ra⟩ := M_put (V := V) (g := g) (m := m) (z := z) (A := A) (f0 := f0) (c := tl_c (al_f al_c0) 0 5) M_0_V (i := 0) rfl (by decide) R (by decide) q
  obtain ⟨r0, e0, q0⟩ := M_startC (V := V) (g := g) (m := m) (b := 0) (z := z) (A := upA A 0 ra) (f0 := f0) 1
  obtain ⟨r1, e1, q1⟩ := M_tell (V := V) (g := g) (m := m) (b := 0) (z := z) (A := upA (upA A 0 ra) 7 r0) (f0 := f0) (c := c_new 1) (by rw [upA_s]; exact q0) (by decide) 30 0
  rw [upA_up] at e1
  obtain ⟨r2, e2, q2⟩ := M_tell (V := V) (g := g) (m := m) (b := 0) (z := z) (A := upA (upA A 0 ra) 7 r1) (f0 := f0) (by rw [upA_s]; exact q1) (by decide) 50 0
  rw [upA_up] at e2
  obtain ⟨r3, e3, q3⟩ := M_tell (V := V) (g := g) (m := m) (b := 0) (z := z) (A := upA (upA A 0 ra) 7 r2) (f0 := f0) (by rw [upA_s]; exact q2) (by decide) 50 20
  rw [upA_up] at e3
  obtain ⟨r4, e4, q4⟩ := M_tell (V := V) (g := g) (m := m) (b := 0) (z := z) (A := upA (upA A 0 ra) 7 r3) (f0 := f0) (by rw [upA_s]; exact q3) (by decide) 30 20
  rw [upA_up] at e4
  obtain ⟨rb, eb, Rb⟩ := M_put (V := V) (g := g) (m := m) (z := z) (A := upA (upA A 0 ra) 7 r4) (f0 := f0) (c := tl_c (al_f al_c1) 1 4) M_1_V (i := 1) rfl (by decide) (by rw [upA_n _ _ (by decide), upA_s]; exact Ra) (by decide) (by rw [upA_s]; exact q4)
  obtain ⟨A1, e5, R5⟩ := I_t5 (V := V) (g := g) (m := m) (n := n) (z := z) (upA (upA (upA A 0 ra) 7 r4) 0 rb) f0 (by rw [upA_s]; exact Rb)
  refine ⟨A1, ?_, R5⟩
  unfold p_X8_init_s4
  rw [ea, ob_s, e0, ob_s, e1, ob_s, e2, ob_s, e3, ob_s, e4, ob_s, eb, ob_s]
  exact e5
theorem I_t3 (A : Nat → Nat → Int32) (f0 : GH) (R : RTm (A 0) 0 mp_0) : ∃ A1, p_X8_init_s3 V g m (mH V m 0 z A f0) n = some (mH V m 0 z A1 f0, n) ∧ RT (A1 0) (T_new M_3 0) := by
  obtain ⟨r0, e0, q0⟩ := M_startC (V := V) (g := g) (m := m) (b := 0) (z := z) (A := A) (f0 := f0) 0
  obtain ⟨r1, e1, q1⟩ := M_tell (V := V) (g := g) (m := m) (b := 0) (z := z) (A := upA A 7 r0) (f0 := f0) (c := c_new 0) (by rw [upA_s]; exact q0) (by decide) 0 0
  rw [upA_up] at e1
  obtain ⟨r2, e2, q2⟩ := M_tell (V := V) (g := g) (m := m) (b := 0) (z := z) (A := upA A 7 r1) (f0 := f0) (by rw [upA_s]; exact q1) (by decide) 4 3
  rw [upA_up] at e2
  obtain ⟨r3, e3, q3⟩ := M_tell (V := V) (g := g) (m := m) (b := 0) (z := z) (A := upA A 7 r2) (f0 := f0) (by rw [upA_s]; exact q2) (by decide) 8 0
  rw [upA_up] at e3
  obtain ⟨r4, e4, q4⟩ := M_tell (V := V) (g := g) (m := m) (b := 0) (z := z) (A := upA A 7 r3) (f0 := f0) (by rw [upA_s]; exact q3) (by decide) 12 5
  rw [upA_up] at e4
  obtain ⟨r5, e5, q5⟩ := M_tell (V := V) (g := g) (m := m) (b := 0) (z := z) (A := upA A 7 r4) (f0 := f0) (by rw [upA_s]; exact q4) (by decide) 20 5
  rw [upA_up] at e5
  obtain ⟨A1, e6, R6⟩ := I_t4 (V := V) (g := g) (m := m) (n := n) (z := z) (upA A 7 r5) f0 (by rw [upA_n _ _ (by decide)]; exact R) (by rw [upA_s]; exact q5)
  refine ⟨A1, ?_, R6⟩
  unfold p_X8_init_s3
  rw [e0, ob_s, e1, ob_s, e2, ob_s, e3, ob_s, e4, ob_s, e5, ob_s]
  exact e6
end KE

/-! ===== folding: the reference's side ===== -/
theorem upA_up (A : Nat → Nat → Int32) (b : Nat) (r r1 : Nat → Int32) : upA (upA A b r) b r1 = upA A b r1 := by
  funext i
  unfold upA
  split <;> rfl
theorem s_abs_neg (v : Int32) : s_abs (-v) = s_abs v := by
  unfold s_abs
  by_cases h : v = -2147483648
  · subst h
    decide
  · have hv : (-v).toInt = -v.toInt := by
      rw [Int32.toInt_neg]
      have h1 := Int32.le_toInt v
      have h2 := Int32.toInt_lt v
      have h3 : v.toInt ≠ -2147483648 := fun e => h (Int32.toInt_inj.mp (by rw [e]; decide))
      rw [Int.bmod_eq_of_le] <;> omega
    by_cases h0 : (0 : Int32) ≤ v
    · by_cases h1 : (0 : Int32) ≤ -v
      · rw [if_pos h0, if_pos h1]
        rw [i_le, show (0 : Int32).toInt = 0 from rfl] at h0 h1
        exact Int32.toInt_inj.mp (by omega)
      · rw [if_pos h0, if_neg h1, Int32.neg_neg]
    · by_cases h1 : (0 : Int32) ≤ -v
      · rw [if_neg h0, if_pos h1]
      · rw [i_le, show (0 : Int32).toInt = 0 from rfl] at h0 h1
        omega
theorem s_abs_sub (x y : Int32) : s_abs (x - y) = s_abs (y - x) := by rw [← s_abs_neg, Int32.neg_sub]
theorem nn_par {j : Nat} (h : j < 2147483648) : nn j - nn j / (2 : Int32) * (2 : Int32) = nn (j % 2) := by
  rw [n_2, nn_div h (by decide), nn_mul, nn_sub (by omega)]
  congr 1
  omega
theorem bz_and (p q : Bool) : bz p &&& bz q = bz (p && q) := by cases p <;> cases q <;> decide
section RY
variable {V : Nat → Nat} {g f f0 : GH} {x m b : Nat} {T : TS} {z : Nat → Int32} {A : Nat → Nat → Int32} {hs pc pn : Int32}
theorem M_mid (hb : b < 2) {i : Nat} {c : CS} (hi : i < 6) {r : Nat → Int32} (h : RC r i c) (cv : CoV c) {j : Nat} (hj : j < cN c) (hj2 : 2 * j + 1 < 129) (w : Int32) : p_X8_layMiddle V g (mH V m b z (upA A b r) f0) m (nn i) (nn j) w = some (bz (s_ok c w j), mH V m b z (upA A b (lay r 6 (2 * j + 1) (s_midX c w j) (s_midY c w j))) f0) := by
  have n1 := cv.n1
  have n2 := cv.n2
  have hA : RC (upA A b r b) i c := by rw [upA_s]; exact h
  have hn := s_next_lt (i := j) (show 0 < cN c by omega)
  have e0 := M_next (V := V) (g := g) (m := m) (z := z) (f0 := f0) hb (by omega) hA n2 hj
  have e1 := M_x (V := V) (g := g) (m := m) (z := z) (f0 := f0) hb (by omega) hA n2 hj
  have e2 := M_x (V := V) (g := g) (m := m) (z := z) (f0 := f0) hb (by omega) hA n2 hn
  have e3 := M_y (V := V) (g := g) (m := m) (z := z) (f0 := f0) hb (by omega) hA n2 hj
  have e4 := M_y (V := V) (g := g) (m := m) (z := z) (f0 := f0) hb (by omega) hA n2 hn
  have el : ∀ u v : Int32, p_X8_layPoint V g (mH V m b z (upA A b r) f0) m (6 : Int32) ((2 : Int32) * nn j + (1 : Int32)) u v = some (mH V m b z (upA A b (lay r 6 (2 * j + 1) u v)) f0) := by
    intro u v
    rw [show (6 : Int32) = nn 6 from rfl, nn_d, nn_s, M_lay hb (by omega) hj2, upA_s, upA_up]
  unfold p_X8_layMiddle
  simp only [m_me, e0, e1, e2, e3, e4, ob_s, nn_par (show j < 2147483648 by omega)]
  unfold p_X8_layMiddle_j88 p_X8_layMiddle_j108 p_X8_layMiddle_j133 p_X8_layMiddle_j148 p_X8_layMiddle_j166
  simp only [M_size, ob_s, el, M_pos, hbz]
  have hfl : s_flat c j = decide (¬ s_abs (cX c (s_next (cN c) j) - cX c j) < s_abs (cY c (s_next (cN c) j) - cY c j)) := by
    unfold s_flat
    rw [s_abs_sub, s_abs_sub (cY c j)]
  unfold s_ok s_midX s_midY s_by s_half
  rw [hfl]
  have hp : (nn (j % 2) = (0 : Int32)) ↔ j % 2 = 0 := by rw [n_0]; exact nn_eq (by omega) (by omega)
  by_cases h1 : j % 2 = 0
  · rw [if_pos (hp.mpr h1), if_pos h1]
    by_cases h2 : s_abs (cX c (s_next (cN c) j) - cX c j) < s_abs (cY c (s_next (cN c) j) - cY c j)
    · rw [if_pos h2, decide_eq_false (fun q => q h2)]
      simp only [if_true, Bool.false_eq_true, if_false]
    · rw [if_neg h2, decide_eq_true h2, if_neg (show ¬ (1 : Int32) = 0 by decide), if_pos rfl, if_pos rfl, if_neg (show ¬ (1 : Int32) = 0 by decide), if_neg (show ¬ (1 : Int32) = 0 by decide), if_neg (show ¬ (1 : Int32) = 0 by decide)]
  · rw [if_neg (fun q => h1 (hp.mp q)), if_neg h1]
    by_cases h2 : s_abs (cX c (s_next (cN c) j) - cX c j) < s_abs (cY c (s_next (cN c) j) - cY c j)
    · rw [if_pos h2, decide_eq_false (fun q => q h2)]
      simp only [if_true, Bool.false_eq_true, if_false]
    · rw [if_neg h2, decide_eq_true h2, if_neg (show ¬ (1 : Int32) = 0 by decide), if_pos rfl, if_pos rfl, if_neg (show ¬ (1 : Int32) = 0 by decide), if_neg (show ¬ (1 : Int32) = 0 by decide), if_neg (show ¬ (1 : Int32) = 0 by decide)]
theorem M_foldedCount (hb : b < 2) {i : Nat} {c : CS} (hi : i ≤ 6) (h : RC (A b) i c) (cv : CoV c) : p_X8_foldedCount V g (mH V m b z A f0) m (nn i) = some (nn (cN c + s_seg c)) := by
  have n1 := cv.n1
  unfold p_X8_foldedCount s_seg
  rw [m_me, M_island hb hi h cv.i01, ob_s, M_count hb hi h, ob_s, ob_s, nn_d]
  by_cases hz : cI c = 0
  · rw [if_pos hz, if_pos hz, n_1, nn_sub (by omega)]
    congr 2
    omega
  · rw [if_neg hz, if_neg hz]
    congr 2
    omega
/-- the row's places of coastline 6 up to point n hold what folding gives -/
def FP6 (r : Nat → Int32) (c : CS) (w : Int32) (n : Nat) : Prop := Pts r 6 0 n (cX (s_fold c w)) (cY (s_fold c w))
theorem FP6.lay {r : Nat → Int32} {c : CS} {w : Int32} {n : Nat} (h : FP6 r c w n) {u v : Int32} (hu : u = cX (s_fold c w) n) (hv : v = cY (s_fold c w) n) : FP6 (lay r 6 n u v) c w (n + 1) :=
  Pts.lay_in (fun j h1 h2 h3 => h j h1 (by omega)) (fun _ _ => ⟨hu, hv⟩)
theorem M_fold_l (hb : b < 2) {i : Nat} {c : CS} (hi : i < 6) (cv : CoV c) (hM : cN c + s_seg c ≤ 129) (w : Int32) (K : Int32 → GH → Option (Int32 × GH)) (r0 : Nat → Int32) :
    ∀ (d N j : Nat) (p : Bool) (r : Nat → Int32), RC r i c → (∀ k, k < 1567 → r k = r0 k) → FP6 r c w (min (2 * j) (cN c + s_seg c)) → j + d = cN c → d < N → ∃ r1, p_X8_layFolded_l57 V g K N m (nn i) w (nn (cN c + s_seg c)) (bz p) (nn j) (mH V m b z (upA A b r) f0) = K (bz (p && s_fit c w (s_seg c - j) j)) (mH V m b z (upA A b r1) f0) ∧ (∀ k, k < 1567 → r1 k = r0 k) ∧ FP6 r1 c w (cN c + s_seg c) := by
  have n1 := cv.n1
  have n2 := cv.n2
  have hsg : s_seg c = cN c - 1 ∨ s_seg c = cN c := by unfold s_seg; split <;> omega
  intro d
  induction d with
  | zero =>
    intro N j p r h ho hf he hN
    obtain ⟨N, rfl⟩ : ∃ M, N = M + 1 := ⟨N - 1, by omega⟩
    have hA : RC (upA A b r b) i c := by rw [upA_s]; exact h
    refine ⟨r, ?_, ho, ?_⟩
    · rw [p_X8_layFolded_l57, M_count hb (by omega) hA, ob_s, if_pos (by rw [nn_le (by omega) (by omega)]; omega), show s_seg c - j = 0 by omega]
      show _ = K (bz (p && true)) _
      rw [Bool.and_true]
    · rw [show min (2 * j) (cN c + s_seg c) = cN c + s_seg c by omega] at hf
      exact hf
  | succ d ih =>
    intro N j p r h ho hf he hN
    obtain ⟨N, rfl⟩ : ∃ M, N = M + 1 := ⟨N - 1, by omega⟩
    have hA : RC (upA A b r b) i c := by rw [upA_s]; exact h
    have hj : j < cN c := by omega
    rw [show min (2 * j) (cN c + s_seg c) = 2 * j by omega] at hf
    have ha : RC (lay r 6 (2 * j) (cX c j) (cY c j)) i c := h.frame n2 (fun k q1 q2 => lay_n _ _ _ _ _ (by omega) (by omega))
    have hoa : ∀ k, k < 1567 → lay r 6 (2 * j) (cX c j) (cY c j) k = r0 k := fun k hk => by rw [lay_n _ _ _ _ _ (by omega) (by omega)]; exact ho k hk
    have hfa : FP6 (lay r 6 (2 * j) (cX c j) (cY c j)) c w (2 * j + 1) := hf.lay (by show _ = (if (2 * j) % 2 = 0 then _ else _); rw [if_pos (by omega), show 2 * j / 2 = j by omega]) (by show _ = (if (2 * j) % 2 = 0 then _ else _); rw [if_pos (by omega), show 2 * j / 2 = j by omega])
    rw [p_X8_layFolded_l57, M_count hb (by omega) hA, ob_s, if_neg (by rw [nn_le (by omega) (by omega)]; omega), M_x hb (by omega) hA n2 hj, ob_s, M_y hb (by omega) hA n2 hj, ob_s, nn_d, show (6 : Int32) = nn 6 from rfl, M_lay hb (by omega) (by omega), ob_s, upA_s, upA_up, nn_s, nn_s]
    by_cases hc : 2 * j + 1 < cN c + s_seg c
    · rw [if_neg (by rw [nn_le (by omega) (by omega)]; omega), M_mid hb hi ha cv hj (by omega), ob_s]
      dsimp only
      rw [bz_and]
      have hb2 : RC (lay (lay r 6 (2 * j) (cX c j) (cY c j)) 6 (2 * j + 1) (s_midX c w j) (s_midY c w j)) i c := ha.frame n2 (fun k q1 q2 => lay_n _ _ _ _ _ (by omega) (by omega))
      have hob : ∀ k, k < 1567 → lay (lay r 6 (2 * j) (cX c j) (cY c j)) 6 (2 * j + 1) (s_midX c w j) (s_midY c w j) k = r0 k := fun k hk => by rw [lay_n _ _ _ _ _ (by omega) (by omega)]; exact hoa k hk
      have hfb : FP6 (lay (lay r 6 (2 * j) (cX c j) (cY c j)) 6 (2 * j + 1) (s_midX c w j) (s_midY c w j)) c w (2 * j + 1 + 1) := hfa.lay (by show _ = (if (2 * j + 1) % 2 = 0 then _ else _); rw [if_neg (by omega), show (2 * j + 1) / 2 = j by omega]) (by show _ = (if (2 * j + 1) % 2 = 0 then _ else _); rw [if_neg (by omega), show (2 * j + 1) / 2 = j by omega])
      obtain ⟨r1, e1, o1, f1⟩ := ih N (j + 1) (p && s_ok c w j) _ hb2 hob (by rw [show min (2 * (j + 1)) (cN c + s_seg c) = 2 * j + 1 + 1 by omega]; exact hfb) (by omega) (by omega)
      refine ⟨r1, ?_, o1, f1⟩
      rw [e1, show s_seg c - j = (s_seg c - (j + 1)) + 1 by omega]
      show _ = K (bz (p && (s_ok c w j && s_fit c w (s_seg c - (j + 1)) (j + 1)))) _
      rw [Bool.and_assoc]
    · rw [if_pos (by rw [nn_le (by omega) (by omega)]; omega)]
      obtain ⟨r1, e1, o1, f1⟩ := ih N (j + 1) p _ ha hoa (by rw [show min (2 * (j + 1)) (cN c + s_seg c) = 2 * j + 1 by omega]; exact hfa) (by omega) (by omega)
      refine ⟨r1, ?_, o1, f1⟩
      rw [e1, show s_seg c - j = 0 by omega, show s_seg c - (j + 1) = 0 by omega]
      rfl
theorem M_layFolded (hb : b < 2) {i : Nat} {c : CS} (hi : i < 6) (h : RC (A b) i c) (cv : CoV c) (w : Int32) : ∃ A1, p_X8_layFolded V g (mH V m b z A f0) m (nn i) w = some (s_why c w, mH V m b z A1 f0) ∧ SC b A A1 ∧ (s_why c w = 0 → RC (A1 b) 6 (s_fold c w)) := by
  have n1 := cv.n1
  have n2 := cv.n2
  have hsg : s_seg c = cN c - 1 ∨ s_seg c = cN c := by unfold s_seg; split <;> omega
  have := mL_row hb
  unfold p_X8_layFolded s_why
  rw [m_me, M_foldedCount hb (by omega) h cv, ob_s]
  by_cases hM : 129 < cN c + s_seg c
  · refine ⟨A, ?_, SC.rf b A, fun e => ?_⟩
    · rw [if_neg (by rw [show (129 : Int32) = nn 129 from rfl, nn_le (by omega) (by omega)]; omega), if_pos hM]
    · rw [if_pos hM] at e
      cases e
  · have h6 : (6 : Int32) = nn 6 := rfl
    rw [if_pos (by rw [show (129 : Int32) = nn 129 from rfl, nn_le (by omega) (by omega)]; omega), if_neg hM, m_row, ob_s, h6, p_at, ob_s, ob_s, p_at, ob_s, nn_a0, nn_a0, m_li (by omega) (by omega), ob_s, m_si (by omega) (by omega), ob_s, m_row, ob_s, p_at, ob_s, nn_s, m_si (by omega) (by omega), ob_s, upA_s, upA_up, h.1]
    have ha : RC (upd (upd (A b) (5 + 260 * 6) (cI c)) (5 + 260 * 6 + 1) (nn (cN c + s_seg c))) i c := h.frame n2 (fun k q1 q2 => by rw [upd_n _ _ (by omega), upd_n _ _ (by omega)])
    obtain ⟨r1, e1, o1, f1⟩ := M_fold_l (V := V) (g := g) (m := m) (z := z) (f0 := f0) (A := A) hb hi cv (by omega) w (fun x4 f => if x4 = (0 : Int32) then some ((2 : Int32), f) else some ((0 : Int32), f)) (upd (upd (A b) (5 + 260 * 6) (cI c)) (5 + 260 * 6 + 1) (nn (cN c + s_seg c))) (cN c) FU 0 true _ ha (fun _ _ => rfl) (fun k q1 q2 => absurd q2 (by omega)) (by omega) (by unfold FU; omega)
    refine ⟨upA A b r1, ?_, SC.up (fun k hk => ?_), fun e => ?_⟩
    · refine Eq.trans e1 ?_
      rw [Bool.true_and, Nat.sub_zero]
      cases s_fit c w (s_seg c) 0 <;> rfl
    · rw [o1 k (by omega), upd_n _ _ (by omega), upd_n _ _ (by omega)]
    · rw [upA_s]
      refine ⟨?_, ?_, fun k hk => ?_⟩
      · rw [o1 _ (by omega), upd_n _ _ (by omega), upd_s]
        rfl
      · rw [o1 _ (by omega), show 6 + 260 * 6 = 5 + 260 * 6 + 1 by omega, upd_s]
        rfl
      · exact f1 k (Nat.zero_le k) hk
theorem P_foldObstacle (X : XoA f x hs pc pn) (C : ChA f (x + 1) T) (hv : TV T) (a w : Int32) : p_X7_foldObstacle V g f x a w = some (sCo T a fun c => sIn (-50) 50 w (.inr (s_why c w))) := by
  unfold p_X7_foldObstacle
  rw [X.me]
  unfold sCo
  cases ha : inC (tN T) a with
  | false => rw [P_atN X C ha, xb_l, if_neg b_ff]
  | true =>
    obtain ⟨q, q1, q2, q3, q4⟩ := P_at (V := V) (g := g) X C ha
    have cv := hv.2.2 _ (inC_t (by have := hv.1; omega) ha).2
    have n1 := cv.n1
    rw [q1, xb_r, if_pos rfl, P_within]
    unfold sIn
    dsimp only
    cases hl : s_in (-50) 50 w with
    | false => rw [if_neg b_ff, xb_l, if_neg b_ff]
    | true => rw [if_pos rfl, xb_r, if_pos rfl, C_why q2 (by omega), ob_s]
theorem Q_foldObstacle (hb : b < 2) (R : RT (A b) T) (hv : TV T) (a w : Int32) : ∃ A1, p_X8_foldObstacle V g (mH V m b z A f0) m a w = some (sv (sCo T a fun c => sIn (-50) 50 w (.inr (s_why c w))), mH V m b (upd z 7 (st cdA (sCo T a fun c => sIn (-50) 50 w (.inr (s_why c w) : Nat ⊕ Int32)))) A1 f0) ∧ SC b A A1 := by
  have h6 := hv.1
  unfold p_X8_foldObstacle
  rw [m_me, M_isCoast hb R hv.1, ob_s, M_height, ob_s, M_lacksBoth, ob_s]
  unfold sCo sIn
  cases ha : inC (tN T) a with
  | false =>
    refine ⟨A, ?_, SC.rf b A⟩
    rw [Bool.false_and, if_neg (show ¬ bz (!false) = (0 : Int32) by decide), if_neg b_ff]; rfl
  | true =>
    rw [if_pos (rfl : true = true)]
    dsimp only
    cases hl : s_in (-50) 50 w with
    | false =>
      refine ⟨A, ?_, SC.rf b A⟩
      rw [if_neg (show ¬ bz (!(true && false)) = (0 : Int32) by decide), if_neg b_ff]; rfl
    | true =>
      obtain ⟨i, hi, rfl⟩ := inC_ex (by omega) ha
      have cv := hv.2.2 i hi
      obtain ⟨A1, e1, s1, -⟩ := M_layFolded (V := V) (g := g) (m := m) (z := upd z 7 (s_thr true true)) (f0 := f0) hb (show i < 6 by omega) (R.2.2.2.2.2 i hi) cv w
      refine ⟨A1, ?_, s1⟩
      rw [if_pos (show bz (!(true && true)) = (0 : Int32) by decide), if_pos rfl, e1, ob_s, ix_nn (show i < 2147483648 by omega)]
      rfl
end RY

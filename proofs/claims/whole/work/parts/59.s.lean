/-! ===== the first of the greatest ===== -/
def s_am (F : Nat → Int32) : Nat → Nat
  | 0 => 0
  | d + 1 => if F (d + 1) ≤ F (s_am F d) then s_am F d else d + 1
theorem s_am_s (F : Nat → Int32) {i : Nat} (h : 1 ≤ i) : s_am F i = if F i ≤ F (s_am F (i - 1)) then s_am F (i - 1) else i := by
  obtain ⟨d, rfl⟩ : ∃ d, i = d + 1 := ⟨i - 1, by omega⟩
  rfl
theorem s_am_le (F : Nat → Int32) (d : Nat) : s_am F d ≤ d := by
  induction d with
  | zero => exact Nat.le_refl 0
  | succ d ih =>
    unfold s_am
    split <;> omega
theorem s_nonneg {v : Int32} (h : 0 ≤ v.toInt) : ¬ v ≤ (-1 : Int32) := by
  rw [i_le, show (-1 : Int32).toInt = -1 by decide]
  omega
section RS
variable {V : Nat → Nat} {g f f0 : GH} {x m b : Nat} {T : TS} {z : Nat → Int32} {A : Nat → Nat → Int32} {hs pc pn : Int32}
theorem P_ls_l (X : XoA f x hs pc pn) (C : ChA f (x + 1) T) {q l : Nat} {c : CS} (q2 : CoA f q 129 c) (hn : 1 ≤ cN c) (hS : s_sticks c l < 200) (hl : l < 8) (K : Int32 → Option (Nat ⊕ Int32)) :
    ∀ (d N i : Nat), 1 ≤ i → i + d = s_sticks c l → d < N → p_X7_longestStick_l29 V g f K N x (nn l) q (nn (s_am (s_span (tK T) c l) (i - 1))) (s_span (tK T) c l (s_am (s_span (tK T) c l) (i - 1))) (nn (s_sticks c l)) (nn i) = K (nn (s_am (s_span (tK T) c l) (s_sticks c l - 1))) := by
  intro d
  induction d with
  | zero =>
    intro N i h1 he hN
    obtain ⟨N, rfl⟩ : ∃ M, N = M + 1 := ⟨N - 1, by omega⟩
    rw [p_X7_longestStick_l29, if_pos (by rw [nn_le (by omega) (by omega)]; omega), show i - 1 = s_sticks c l - 1 by omega]
  | succ d ih =>
    intro N i h1 he hN
    obtain ⟨N, rfl⟩ : ∃ M, N = M + 1 := ⟨N - 1, by omega⟩
    rw [p_X7_longestStick_l29, if_neg (by rw [nn_le (by omega) (by omega)]; omega), X.ch, ob_s, C.k, ob_s, C_span q2 hn hl (by omega), ob_s, nn_s]
    have e := s_am_s (s_span (tK T) c l) h1
    have h := ih N (i + 1) (by omega) (by omega) (by omega)
    rw [Nat.add_sub_cancel, e] at h
    by_cases hc : s_span (tK T) c l i ≤ s_span (tK T) c l (s_am (s_span (tK T) c l) (i - 1))
    · rw [if_pos hc] at h ⊢
      exact h
    · rw [if_neg hc] at h ⊢
      exact h
theorem P_longestStick (X : XoA f x hs pc pn) (C : ChA f (x + 1) T) (hv : TV T) (a l : Int32) : p_X7_longestStick V g f x a l = some (sCo T a fun c => sIn 0 7 l (.inr (nn (s_am (s_span (tK T) c (ix l)) (s_sticks c (ix l) - 1))))) := by
  unfold p_X7_longestStick
  rw [X.me]
  unfold sCo
  cases ha : inC (tN T) a with
  | false => rw [P_atN X C ha, xb_l, if_neg b_ff]
  | true =>
    obtain ⟨q, q1, q2, q3, q4⟩ := P_at (V := V) (g := g) X C ha
    have cv := hv.2.2 _ (inC_t (by have := hv.1; omega) ha).2
    have n1 := cv.n1
    rw [q1, xb_r, if_pos rfl, P_within]
    unfold sIn
    dsimp only
    cases hl : s_in 0 7 l with
    | false => rw [if_neg b_ff, xb_l, if_neg b_ff]
    | true =>
      obtain ⟨j, hj, rfl⟩ := lvl7 hl
      have h2 := s_sticks_200 (l := j) cv
      have h3 := s_sticks_pos (l := j) cv
      rw [if_pos rfl, xb_r, if_pos rfl, C_sticks q2 (by omega) hj, ob_s, ix_nn (show j < 2147483648 by omega)]
      obtain ⟨N, hN⟩ : ∃ N, FU = N + 1 := ⟨999999, rfl⟩
      have hbig : 199 < N := by unfold FU at hN; omega
      rw [hN, p_X7_longestStick_l29, if_neg (by rw [n_0, nn_le (by omega) (by omega)]; omega), X.ch, ob_s, C.k, ob_s, n_0, C_span q2 (by omega) hj (by omega), ob_s, if_neg (s_nonneg (s_span_b cv (by omega)).1), nn_s]
      exact P_ls_l X C q2 (by omega) h2 hj _ (s_sticks (tC T (ix a)) j - 1) N 1 (by omega) (by omega) (by omega)
theorem Q_ls_l (hb : b < 2) (k01 : A b 0 = 0 ∨ A b 0 = 1) {i l : Nat} {c : CS} (hi : i ≤ 6) (h : RC (A b) i c) (hc : cI c = 0 ∨ cI c = 1) (hn1 : 1 ≤ cN c) (hn : cN c ≤ 129) (hS : s_sticks c l < 200) (hl : l < 8) (K : Int32 → GH → Option (Int32 × GH)) :
    ∀ (d N k : Nat), 1 ≤ k → k + d = s_sticks c l → d < N → p_X8_longestStick_l16 V g K N m (nn i) (nn l) (nn (s_am (s_span (A b 0) c l) (k - 1))) (nn k) (mH V m b z A f0) = K (nn (s_am (s_span (A b 0) c l) (s_sticks c l - 1))) (mH V m b z A f0) := by
  intro d
  induction d with
  | zero =>
    intro N k h1 he hN
    obtain ⟨N, rfl⟩ : ∃ M, N = M + 1 := ⟨N - 1, by omega⟩
    rw [p_X8_longestStick_l16, M_sticks hb hi h hc hn1 hn hl, ob_s, if_pos (by rw [nn_le (by omega) (by omega)]; omega), show k - 1 = s_sticks c l - 1 by omega]
  | succ d ih =>
    intro N k h1 he hN
    obtain ⟨N, rfl⟩ : ∃ M, N = M + 1 := ⟨N - 1, by omega⟩
    have hle := s_am_le (s_span (A b 0) c l) (k - 1)
    have e := s_am_s (s_span (A b 0) c l) h1
    have hh := ih N (k + 1) (by omega) (by omega) (by omega)
    rw [Nat.add_sub_cancel, e] at hh
    rw [p_X8_longestStick_l16, M_sticks hb hi h hc hn1 hn hl, ob_s, if_neg (by rw [nn_le (by omega) (by omega)]; omega), M_king hb k01, ob_s, M_span hb hi h hc hn1 hn hl (by omega), ob_s, ob_s, M_span hb hi h hc hn1 hn hl (by omega), ob_s]
    unfold p_X8_longestStick_j58
    rw [nn_s]
    by_cases hq : s_span (A b 0) c l k ≤ s_span (A b 0) c l (s_am (s_span (A b 0) c l) (k - 1))
    · rw [if_pos hq] at hh ⊢
      rw [if_pos rfl]
      exact hh
    · rw [if_neg hq] at hh ⊢
      rw [if_neg (show ¬ (1 : Int32) = 0 by decide)]
      exact hh
theorem Q_longestStick (hb : b < 2) (R : RT (A b) T) (hv : TV T) (a l : Int32) : p_X8_longestStick V g (mH V m b z A f0) m a l = some (sv (sCo T a fun c => sIn 0 7 l (.inr (nn (s_am (s_span (tK T) c (ix l)) (s_sticks c (ix l) - 1))))), mH V m b (upd z 7 (st cdA (sCo T a fun c => sIn 0 7 l (.inr (nn (s_am (s_span (tK T) c (ix l)) (s_sticks c (ix l) - 1))))))) A f0) := by
  have k01 := R.k01 hv
  have h6 := hv.1
  unfold p_X8_longestStick p_X8_lacksLevel
  rw [m_me, m_me, M_isCoast hb R hv.1, ob_s, M_level, ob_s, M_lacksBoth, ob_s]
  dsimp only
  rw [hbz, ob_s, ob_s]
  dsimp only
  unfold sCo sIn
  cases ha : inC (tN T) a with
  | false => rw [Bool.false_and, if_neg (show ¬ bz (!false) = (0 : Int32) by decide), if_neg b_ff]; rfl
  | true =>
    rw [if_pos (rfl : true = true)]
    dsimp only
    cases hl : s_in 0 7 l with
    | false => rw [if_neg (show ¬ bz (!(true && false)) = (0 : Int32) by decide), if_neg b_ff]; rfl
    | true =>
      obtain ⟨i, hi, rfl⟩ := inC_ex (by omega) ha
      obtain ⟨j, hj, rfl⟩ := lvl7 hl
      have cv := hv.2.2 i hi
      have n1 := cv.n1
      have n2 := cv.n2
      have rc := R.2.2.2.2.2 i hi
      have h2 := s_sticks_200 (l := j) cv
      have h3 := s_sticks_pos (l := j) cv
      rw [if_pos (show bz (!(true && true)) = (0 : Int32) by decide), if_pos rfl, ix_nn (show i < 2147483648 by omega), ix_nn (show j < 2147483648 by omega)]
      have h := Q_ls_l (V := V) (g := g) (f0 := f0) (m := m) (z := upd z 7 (s_thr true true)) hb k01 (show i ≤ 6 by omega) rc cv.i01 (by omega) n2 h2 hj (fun x3 f => some (x3, f)) (s_sticks (tC T i) j - 1) FU 1 (by omega) (by omega) (by unfold FU; omega)
      rw [R.1] at h
      exact h
end RS

/-! ===== the first of the greatest ===== -/
def s_am (F : Nat → Int32) : Nat → Nat
  | 0 => 0
  | d + 1 => if F (d + 1) ≤ F (s_am F d) then s_am F d else d + 1
theorem s_am_s (F : Nat → Int32) {i : Nat} (h : 1 ≤ i) : s_am F i = if F i ≤ F (s_am F (i - 1)) then s_am F (i - 1) else i := by
  obtain ⟨d, rfl⟩ : ∃ d, i = d + 1 := ⟨i - 1, by omega⟩
  rfl
theorem s_am_le (F : Nat → Int32) (d : Nat) : s_am F d ≤ d := by
  induction d with
  | zero => exact Nat.le_refl 0
  | succ d ih =>
    unfold s_am
    split <;> omega
theorem s_nonneg {v : Int32} (h : 0 ≤ v.toInt) : ¬ v ≤ (-1 : Int32) := by
  rw [i_le, show (-1 : Int32).toInt = -1 by decide]
  omega
section RS
variable {V : Nat → Nat} {g f f0 : GH} {x m b : Nat} {T : TS} {z : Nat → Int32} {A : Nat → Nat → Int32} {hs pc pn : Int32}
theorem P_ls_l (X : XoA f x hs pc pn) (C : ChA f (x + 1) T) {q l : Nat} {c : CS} (q2 : CoA f q 129 c) (hn : 1 ≤ cN c) (hS : s_sticks c l < 200) (hl : l < 8) (K : Int32 → Option (Nat ⊕ Int32)) :
    ∀ (d N i : Nat), 1 ≤ i → i + d = s_sticks c l → d < N → p_X7_longestStick_l29 V g f K N x (nn l) q (nn (s_am (s_span (tK T) c l) (i - 1))) (s_span (tK T) c l (s_am (s_span (tK T) c l) (i - 1))) (nn (s_sticks c l)) (nn i) = K (nn (s_am (s_span (tK T) c l) (s_sticks c l - 1))) := by
  intro d
  induction d with
  | zero =>
    intro N i h1 he hN
    obtain ⟨N, rfl⟩ : ∃ M, N = M + 1 := ⟨N - 1, by omega⟩
    rw [p_X7_longestStick_l29, if_pos (by rw [nn_le (by omega) (by omega)]; omega), show i - 1 = s_sticks c l - 1 by omega]
  | succ d ih =>
    intro N i h1 he hN
    obtain ⟨N, rfl⟩ : ∃ M, N = M + 1 := ⟨N - 1, by omega⟩
    rw [p_X7_longestStick_l29, if_neg (by rw [nn_le (by omega) (by omega)]; omega), X.ch, ob_s, C.k, ob_s, C_span q2 hn hl (by omega), ob_s, nn_s]
    have e := s_am_s (s_span (tK T) c l) h1
    have h := ih N (i + 1) (by omega) (by omega) (by omega)
    rw [Nat.add_sub_cancel, e] at h
    by_cases hc : s_span (tK T) c l i ≤ s_span (tK T) c l (s_am (s_span (tK T) c l) (i - 1))
    · rw [if_pos hc] at h ⊢
      exact h
    · rw [if_neg hc] at h ⊢
      exact h
theorem P_longestStick (X : XoA f x hs pc pn) (C : ChA f (x + 1) T) (hv : TV T) (a l : Int32) : p_X7_longestStick V g f x a l = some (sCo T a fun c => sIn 0 7 l (.inr (nn (s_am (s_span (tK T) c (ix l)) (s_sticks c (ix l) - 1))))) := by
  unfold p_X7_longestStick
  rw [X.me]
  unfold sCo
  cases ha : inC (tN T) a with
  | false => rw [P_atN X C ha, xb_l, if_neg b_ff]
  | true =>
    obtain ⟨q, q1, q2, q3, q4⟩ := P_at (V := V) (g := g) X C ha
    have cv := hv.2.2 _ (inC_t (by have := hv.1; omega) ha).2
    have n1 := cv.n1
    rw [q1, xb_r, if_pos rfl, P_within]
    unfold sIn
    dsimp only
    cases hl : s_in 0 7 l with
    | false => rw [if_neg b_ff, xb_l, if_neg b_ff]
    | true =>
      obtain ⟨j, hj, rfl⟩ := lvl7 hl
      have h2 := s_sticks_200 (l := j) cv
      have h3 := s_sticks_pos (l := j) cv
      rw [if_pos rfl, xb_r, if_pos rfl, C_sticks q2 (by omega) hj, ob_s, ix_nn (show j < 2147483648 by omega)]
      obtain ⟨N, hN⟩ : ∃ N, FU = N + 1 := ⟨999999, rfl⟩
      have hbig : 199 < N := by unfold FU at hN; omega
      rw [hN, p_X7_longestStick_l29, if_neg (by rw [n_0, nn_le (by omega) (by omega)]; omega), X.ch, ob_s, C.k, ob_s, n_0, C_span q2 (by omega) hj (by omega), ob_s, if_neg (s_nonneg (s_span_b cv (by omega)).1), nn_s]
      exact P_ls_l X C q2 (by omega) h2 hj _ (s_sticks (tC T (ix a)) j - 1) N 1 (by omega) (by omega) (by omega)
end RS


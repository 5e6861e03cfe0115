/-! ===== all coastlines ===== -/
def s_tot (T : TS) (l : Nat) : Int32 := itr (fun i a => a + s_len (tK T) (tC T i) l) (tN T) 0 0
/-- the longest coastline, the first of equals; none: -1 -/
def s_lc (T : TS) (l : Nat) : Int32 := if tN T = 0 then -1 else nn (s_am (fun i => s_len (tK T) (tC T i) l) (tN T - 1))
theorem nn_nm {k : Nat} (h : k < 2147483648) : ¬ nn k = (-1 : Int32) := fun e => nn_nl k h (by rw [e]; decide)
section RT2
variable {V : Nat → Nat} {g f f0 : GH} {x m b : Nat} {T : TS} {z : Nat → Int32} {A : Nat → Nat → Int32} {hs pc pn : Int32}
theorem P_tot_l (X : XoA f x hs pc pn) (C : ChA f (x + 1) T) (hv : TV T) {l : Nat} (hl : l < 8) (K : Int32 → Option (Nat ⊕ Int32)) :
    ∀ (d N i : Nat) (a : Int32), i + d = tN T → d < N → p_X7_totalLength_l11 V g f K N x (nn l) a (nn i) = K (itr (fun i a => a + s_len (tK T) (tC T i) l) d i a) := by
  have h6 := hv.1
  intro d
  induction d with
  | zero =>
    intro N i a he hN
    obtain ⟨N, rfl⟩ : ∃ M, N = M + 1 := ⟨N - 1, by omega⟩
    rw [p_X7_totalLength_l11, X.ch, ob_s, C.n, ob_s, if_pos (by rw [nn_le (by omega) (by omega)]; omega)]
    rfl
  | succ d ih =>
    intro N i a he hN
    obtain ⟨N, rfl⟩ : ∃ M, N = M + 1 := ⟨N - 1, by omega⟩
    obtain ⟨q, q1, q2, q3, q4⟩ := C.co (show i < tN T by omega)
    have n1 := (hv.2.2 i (by omega)).n1
    rw [p_X7_totalLength_l11, X.ch, ob_s, C.n, ob_s, if_neg (by rw [nn_le (by omega) (by omega)]; omega), ob_s, C.arr, ob_s, q1, ob_s, ob_s, C.k, ob_s, C_len q2 (by omega) hl, ob_s, nn_s]
    exact ih N (i + 1) _ (by omega) (by omega)
theorem P_totalLength (X : XoA f x hs pc pn) (C : ChA f (x + 1) T) (hv : TV T) (l : Int32) : p_X7_totalLength V g f x l = some (sIn 0 7 l (.inr (s_tot T (ix l)))) := by
  unfold p_X7_totalLength
  rw [X.me, P_within]
  unfold sIn
  cases hl : s_in 0 7 l with
  | false => rw [if_neg b_ff, xb_l, if_neg b_ff]
  | true =>
    obtain ⟨j, hj, rfl⟩ := lvl7 hl
    have h6 := hv.1
    rw [if_pos rfl, xb_r, if_pos rfl, ix_nn (show j < 2147483648 by omega)]
    exact P_tot_l X C hv hj _ (tN T) FU 0 0 (by omega) (by unfold FU; omega)
theorem P_lc_l (X : XoA f x hs pc pn) (C : ChA f (x + 1) T) (hv : TV T) {l : Nat} (hl : l < 8) (K : Int32 → Option (Nat ⊕ Int32)) :
    ∀ (d N i : Nat), 1 ≤ i → i + d = tN T → d < N → p_X7_longestCoast_l14 V g f K N x (nn l) (nn (s_am (fun i => s_len (tK T) (tC T i) l) (i - 1))) (s_len (tK T) (tC T (s_am (fun i => s_len (tK T) (tC T i) l) (i - 1))) l) (nn i) = K (nn (s_am (fun i => s_len (tK T) (tC T i) l) (tN T - 1))) := by
  have h6 := hv.1
  intro d
  induction d with
  | zero =>
    intro N i h1 he hN
    obtain ⟨N, rfl⟩ : ∃ M, N = M + 1 := ⟨N - 1, by omega⟩
    rw [p_X7_longestCoast_l14, X.ch, ob_s, C.n, ob_s, if_pos (by rw [nn_le (by omega) (by omega)]; omega), show i - 1 = tN T - 1 by omega]
  | succ d ih =>
    intro N i h1 he hN
    obtain ⟨N, rfl⟩ : ∃ M, N = M + 1 := ⟨N - 1, by omega⟩
    obtain ⟨q, q1, q2, q3, q4⟩ := C.co (show i < tN T by omega)
    have n1 := (hv.2.2 i (by omega)).n1
    rw [p_X7_longestCoast_l14, X.ch, ob_s, C.n, ob_s, if_neg (by rw [nn_le (by omega) (by omega)]; omega), ob_s, C.arr, ob_s, q1, ob_s, ob_s, C.k, ob_s, C_len q2 (by omega) hl, ob_s, nn_s]
    have e := s_am_s (fun i => s_len (tK T) (tC T i) l) h1
    have h := ih N (i + 1) (by omega) (by omega) (by omega)
    rw [Nat.add_sub_cancel, e] at h
    by_cases hc : s_len (tK T) (tC T i) l ≤ s_len (tK T) (tC T (s_am (fun i => s_len (tK T) (tC T i) l) (i - 1))) l
    · rw [if_pos hc] at h ⊢
      exact h
    · rw [if_neg hc] at h ⊢
      exact h
theorem P_longestCoast (X : XoA f x hs pc pn) (C : ChA f (x + 1) T) (hv : TV T) (l : Int32) : p_X7_longestCoast V g f x l = some (sIn 0 7 l (.inr (s_lc T (ix l)))) := by
  unfold p_X7_longestCoast
  rw [X.me, P_within]
  unfold sIn
  cases hl : s_in 0 7 l with
  | false => rw [if_neg b_ff, xb_l, if_neg b_ff]
  | true =>
    obtain ⟨j, hj, rfl⟩ := lvl7 hl
    have h6 := hv.1
    rw [if_pos rfl, xb_r, if_pos rfl, ix_nn (show j < 2147483648 by omega)]
    obtain ⟨N, hN⟩ : ∃ N, FU = N + 1 := ⟨999999, rfl⟩
    have hbig : 199 < N := by unfold FU at hN; omega
    unfold s_lc
    rw [hN, p_X7_longestCoast_l14, X.ch, ob_s, C.n, ob_s]
    by_cases h0 : tN T = 0
    · rw [h0, if_pos (by decide), if_pos rfl]
    · obtain ⟨q, q1, q2, q3, q4⟩ := C.co (show 0 < tN T by omega)
      have cv := hv.2.2 0 (by omega)
      have n1 := cv.n1
      rw [if_neg (by rw [n_0, nn_le (by omega) (by omega)]; omega), if_neg h0, ob_s, C.arr, ob_s, n_0, q1, ob_s, ob_s, C.k, ob_s, C_len q2 (by omega) hj, ob_s, if_neg (s_nonneg (s_len_b cv).1), nn_s]
      exact P_lc_l X C hv hj _ (tN T - 1) N 1 (by omega) (by omega) (by omega)
end RT2


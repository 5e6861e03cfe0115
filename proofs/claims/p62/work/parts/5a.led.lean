/-! ===== the ledgers' gap ===== -/
def s_pts (T : TS) : Int32 := itr (fun i a => a + nn (cN (tC T i))) (tN T) 0 0
def s_gap (T : TS) : Int32 := s_abs (tL T + tA T - tR T - s_pts T)
section LG
variable {V : Nat → Nat} {g f f0 : GH} {x m b : Nat} {T : TS} {z : Nat → Int32} {A : Nat → Nat → Int32} {hs pc pn : Int32}
theorem C_pts_l (C : ChA f x T) (K : Int32 → Option Int32) : ∀ (d N i : Nat) (a : Int32), i + d = tN T → d < N → p_X1_pointTotal_l4 V g f K N x a (nn i) = K (itr (fun i a => a + nn (cN (tC T i))) d i a) := by
  have h6 := C.2.1
  intro d
  induction d with
  | zero =>
    intro N i a he hN
    obtain ⟨N, rfl⟩ : ∃ M, N = M + 1 := ⟨N - 1, by omega⟩
    rw [p_X1_pointTotal_l4, C.n, ob_s, if_pos (by rw [nn_le (by omega) (by omega)]; omega)]
    rfl
  | succ d ih =>
    intro N i a he hN
    obtain ⟨N, rfl⟩ : ∃ M, N = M + 1 := ⟨N - 1, by omega⟩
    obtain ⟨q, q1, q2, -, -⟩ := C.co (show i < tN T by omega)
    rw [p_X1_pointTotal_l4, C.n, ob_s, if_neg (by rw [nn_le (by omega) (by omega)]; omega), C.arr, ob_s, q1, ob_s, q2.n, ob_s, nn_s]
    exact ih N (i + 1) _ (by omega) (by omega)
theorem C_pts (C : ChA f x T) : p_X1_pointTotal V g f x = some (s_pts T) := by
  have h6 := C.2.1
  unfold p_X1_pointTotal
  rw [C.me]
  exact C_pts_l C _ (tN T) FU 0 0 (by omega) (by unfold FU; omega)
theorem P_ledgerGap (X : XoA f x hs pc pn) (C : ChA f (x + 1) T) : p_X7_ledgerGap V g f x = some (s_gap T) := by
  unfold p_X7_ledgerGap
  rw [X.me, X.ch, ob_s, C.l, ob_s, ob_s, C.a, ob_s, ob_s, C.r, ob_s, ob_s, C_pts C, ob_s, pm_absS, ob_s]
  rfl
end LG
/-! ===== a finer level is not shorter ===== -/
theorem s_dist_tri {k a1 b1 a2 b2 a3 b3 : Int32} (h1 : bd a1) (h2 : bd b1) (h3 : bd a2) (h4 : bd b2) (h5 : bd a3) (h6 : bd b3) : (s_dist k (a1 - a3) (b1 - b3)).toInt ≤ (s_dist k (a1 - a2) (b1 - b2)).toInt + (s_dist k (a2 - a3) (b2 - b3)).toInt := by
  have e1 := bd_sub h1 h3
  have e2 := bd_sub h3 h5
  have e3 := bd_sub h1 h5
  have g1 := bd_sub h2 h4
  have g2 := bd_sub h4 h6
  have g3 := bd_sub h2 h6
  unfold bd at h1 h2 h3 h4 h5 h6
  have i1 := s_abs_i (v := a1 - a2) (by omega)
  have i2 := s_abs_i (v := a2 - a3) (by omega)
  have i3 := s_abs_i (v := a1 - a3) (by omega)
  have j1 := s_abs_i (v := b1 - b2) (by omega)
  have j2 := s_abs_i (v := b2 - b3) (by omega)
  have j3 := s_abs_i (v := b1 - b3) (by omega)
  unfold s_dist
  split
  · rw [i_add (by omega) (by omega), i_add (by omega) (by omega), i_add (by omega) (by omega)]
    omega
  · rw [s_max_i, s_max_i, s_max_i]
    omega


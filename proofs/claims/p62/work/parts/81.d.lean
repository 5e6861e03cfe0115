/-! ===== areMaps ===== -/
def LG (T : TS) : Prop := s_pts T = tL T + tA T - tR T
section AM
variable {V : Nat → Nat} {g f : GH} {x k : Nat} {T : TS}
theorem R_len0 (J : JR f x T) (hk : k < tN T) : h_nt (p_X7_lengthAt V g f x (nn k) (0 : Int32)) = some (s_len (tK T) (tC T k) 0) := by
  rw [n_0]; exact R_len J hk (by omega)
theorem i_a00 (a : Int32) : a + (0 : Int32) = a := by
  apply Int32.toBitVec_inj.mp
  simp
theorem surr_f {T : TS} {i k : Nat} (h : cI (tC T i) = 0) : s_surr T i k = false := by
  unfold s_surr
  rw [if_pos (Or.inr h)]
theorem L_l55 (J : JR f x T) (hk : k < tN T) (K165 : Option Int32) (K173 : Nat → Int32 → Int32 → Int32 → Int32 → Int32 → Int32 → Int32 → Option Int32) (P TT M : Int32) :
    ∀ (d N i : Nat) (a : Int32), i + d = tN T → d < N → p_L_areMaps_l55 V g f K165 K173 N x (nn (tN T)) P TT (nn k) M a (s_inn T k (tN T)) (nn i) = K173 x (nn (tN T)) P TT (nn k) M (itr (fun i a => if s_surr T i k = true then a + 1 else a) d i a) (s_inn T k (tN T)) := by
  obtain ⟨hs, pc, pn, X, C, hv⟩ := id J
  have h6 := hv.1
  intro d
  induction d with
  | zero =>
    intro N i a he hN
    obtain ⟨N, rfl⟩ : ∃ M, N = M + 1 := ⟨N - 1, by omega⟩
    rw [p_L_areMaps_l55, if_pos (by rw [nn_le (by omega) (by omega)]; omega)]
    rfl
  | succ d ih =>
    intro N i a he hN
    obtain ⟨N, rfl⟩ : ∃ M, N = M + 1 := ⟨N - 1, by omega⟩
    have hi : i < tN T := by omega
    have hno : s_surr T i k = false → p_L_areMaps_j85 V g f (p_L_areMaps_j86 V g f (p_L_areMaps_l55 V g f K165 K173 N) K165) x (nn (tN T)) P TT (nn k) M a (s_inn T k (tN T)) (nn i) = K173 x (nn (tN T)) P TT (nn k) M (itr (fun i a => if s_surr T i k = true then a + 1 else a) (d + 1) i a) (s_inn T k (tN T)) := by
      intro hf
      unfold p_L_areMaps_j85 p_L_areMaps_j86
      rw [if_pos rfl]
      unfold p_L_areMaps_j100
      rw [if_pos rfl, nn_s, i_a00, ih N (i + 1) a (by omega) (by omega), itr]
      rw [hf, if_neg (by decide)]
    rw [p_L_areMaps_l55, if_neg (by rw [nn_le (by omega) (by omega)]; omega), R_isl J hi, ob_s]
    by_cases c1 : cI (tC T i) = 0
    · rw [if_pos c1]
      exact hno (surr_f c1)
    · rw [if_neg c1, R_enc J hi hk c1, ob_s]
      by_cases c2 : s_surr T i k = true
      · have hne := (surr_p c2).1
        rcases inn_p T k (tN T) h6 with ⟨q1, q2⟩ | ⟨m, q1, q2, q3, q4⟩
        · rw [q2 i hi] at c2; cases c2
        · have hb := surr_box hv hi hk c2
          have hq := q4 i hi c2
          rw [i_le] at hq
          rw [c2, if_neg bz_tn]
          unfold p_L_areMaps_j86
          rw [if_neg (by decide)]
          unfold p_L_areMaps_j100
          rw [if_neg (by decide), if_neg (by rw [nn_eq (by omega) (by omega)]; exact hne), if_neg (by rw [q2]; exact nn_nl m (by omega)), q2, R_da J q1 (surr_p q3).2.1, ob_s, R_da J hi c1, ob_s, if_neg (by rw [i_lt]; omega), R_bw J hi, ob_s, R_bw J hk, ob_s, if_neg (by rw [i_lt]; omega), R_bh J hi, ob_s, R_bh J hk, ob_s, if_pos (by rw [i_le]; omega), nn_s, ← q2, ih N (i + 1) _ (by omega) (by omega), itr]
          rw [c2, if_pos rfl]
      · have c2 : s_surr T i k = false := bool_f (fun q => c2 q)
        rw [c2, if_pos bz_f]
        exact hno c2
theorem nn_div6 {n : Nat} (h : n ≤ 129) : nn n / (6 : Int32) = nn (n / 6) := by
  rw [n_6, nn_div (by omega) (by decide)]
theorem L_j381 (J : JR f x T) (hk : k < tN T) {i : Nat} (hi : i < cN (tC T k)) (K267 : Nat → Int32 → Int32 → Int32 → Int32 → Int32 → Int32 → Int32 → Option Int32) (K415 : Option Int32) (x1 x2 x3 x8 : Int32) :
    p_L_areMaps_j381 V g f K267 K415 x x1 x2 x3 (nn k) (nn (cN (tC T k))) x8 (nn i) = K267 x x1 x2 x3 (nn k) (nn (cN (tC T k))) x8 (nn (i + (1 + cN (tC T k) / 6))) := by
  obtain ⟨hs, pc, pn, X, C, hv⟩ := id J
  have cv := hv.2.2 k hk
  have n2 := cv.n2
  have hfin : p_L_areMaps_j417 V g f K267 x x1 x2 x3 (nn k) (nn (cN (tC T k))) x8 (nn i) = K267 x x1 x2 x3 (nn k) (nn (cN (tC T k))) x8 (nn (i + (1 + cN (tC T k) / 6))) := by
    unfold p_L_areMaps_j417
    rw [nn_div6 n2, n_1, nn_add, nn_add]
  unfold p_L_areMaps_j381
  rw [R_isl J hk, ob_s]
  by_cases c1 : cI (tC T k) = 0
  · rw [if_pos c1, hfin]
  · have b := cv.2.2 i hi
    rw [if_neg c1, R_px J hk hi, ob_s, R_py J hk hi, ob_s, R_cont J hk c1 b.1 b.2, ob_s, cov_self hi, if_neg bz_tn, hfin]
theorem L_l267 (J : JR f x T) (hk : k < tN T) (K415 : Option Int32) (K432 : Nat → Int32 → Int32 → Int32 → Int32 → Option Int32) (x1 x2 x3 : Int32) :
    ∀ (d N i : Nat), cN (tC T k) ≤ i + d → d < N → i < 1000 → p_L_areMaps_l267 V g f K415 K432 N x x1 x2 x3 (nn k) (nn (cN (tC T k))) (s_lip T (tC T k)) (nn i) = K432 x x1 x2 x3 (nn k) := by
  obtain ⟨hs, pc, pn, X, C, hv⟩ := id J
  have cv := hv.2.2 k hk
  have n2 := cv.n2
  intro d
  induction d with
  | zero =>
    intro N i he hN hb
    obtain ⟨N, rfl⟩ : ∃ M, N = M + 1 := ⟨N - 1, by omega⟩
    rw [p_L_areMaps_l267, if_pos (by rw [nn_le (by omega) (by omega)]; omega)]
  | succ d ih =>
    intro N i he hN hb
    obtain ⟨N, rfl⟩ : ∃ M, N = M + 1 := ⟨N - 1, by omega⟩
    rw [p_L_areMaps_l267]
    by_cases c1 : cN (tC T k) ≤ i
    · rw [if_pos (by rw [nn_le (by omega) (by omega)]; exact c1)]
    · have hi : i < cN (tC T k) := by omega
      have b := cv.2.2 i hi
      obtain ⟨e1, e2⟩ := near_self (w := tK T) cv hi
      have hnext : i + (1 + cN (tC T k) / 6) < 1000 := by omega
      rw [if_neg (by rw [nn_le (by omega) (by omega)]; exact c1), R_px J hk hi, ob_s, R_py J hk hi, ob_s, R_near J hk b.1 b.2, ob_s, R_wo J hk hi, ob_s, if_neg (by rw [nn_lt (by omega) (by omega)]; omega), R_dist J hk (by omega) hi, ob_s, e2, if_pos rfl, R_len0 J hk, ob_s]
      have hrec : ∀ x8 : Int32, x8 = s_lip T (tC T k) → p_L_areMaps_j381 V g f (p_L_areMaps_l267 V g f K415 K432 N) K415 x x1 x2 x3 (nn k) (nn (cN (tC T k))) x8 (nn i) = K432 x x1 x2 x3 (nn k) := by
        intro x8 h8
        rw [L_j381 J hk hi, h8]
        exact ih N _ (by omega) (by omega) hnext
      rcases but_p (w := tK T) cv hi with ⟨p1, p2, p3, p4⟩ | ⟨p1, p2⟩
      · rcases lip_p (T := T) cv with ⟨q1, q2⟩ | ⟨q1, p, q2, q3, q4⟩
        · exact absurd p1 q1
        · rw [if_neg (by rw [i_lt]; omega), if_pos (by rw [i_le]; show (0 : Int) ≤ _; omega)]
          unfold p_L_areMaps_j350
          rw [if_pos (by rw [q3]; exact nn_ge p (by omega))]
          unfold p_L_areMaps_j360
          rw [if_pos rfl, if_neg (by rw [q3]; exact nn_nl p (by omega)), q3, R_wo J hk q2, ob_s, if_neg (by rw [i_lt]; have := q4 i hi; omega), ← q3]
          exact hrec _ rfl
      · rcases lip_p (T := T) cv with ⟨q1, q2⟩ | ⟨q1, p, q2, q3, q4⟩
        · have b0 := s_len_b (k := tK T) (l := 0) cv
          rw [p2, if_neg (by rw [i_lt, show (-1 : Int32).toInt = -1 from rfl]; omega), if_neg (by decide)]
          unfold p_L_areMaps_j350
          rw [if_neg (by rw [q2]; decide)]
          unfold p_L_areMaps_j360
          rw [if_pos rfl, if_pos (by rw [q2]; decide)]
          exact hrec _ rfl
        · exact absurd q1 p1
theorem L_l12 (J : JR f x T) (K165 K254 K415 : Option Int32) (K438 : Nat → Int32 → Int32 → Option Int32) :
    ∀ (d N i : Nat) (P TT : Int32), i + d = tN T → d < N → p_L_areMaps_l12 V g f K165 K254 K415 K438 N x (nn (tN T)) P TT (nn i) = K438 x (itr (fun i a => a + nn (cN (tC T i))) d i P) (itr (fun i a => a + s_len (tK T) (tC T i) 0) d i TT) := by
  obtain ⟨hs, pc, pn, X, C, hv⟩ := id J
  have h6 := hv.1
  intro d
  induction d with
  | zero =>
    intro N i P TT he hN
    obtain ⟨N, rfl⟩ : ∃ M, N = M + 1 := ⟨N - 1, by omega⟩
    rw [p_L_areMaps_l12, if_pos (by rw [nn_le (by omega) (by omega)]; omega)]
    rfl
  | succ d ih =>
    intro N i P TT he hN
    obtain ⟨N, rfl⟩ : ∃ M, N = M + 1 := ⟨N - 1, by omega⟩
    have hi : i < tN T := by omega
    have cv := hv.2.2 i hi
    have n2 := cv.n2
    obtain ⟨r1, r2, r3⟩ := ring_p T i (tN T) h6
    have hm : s_lc T 0 = nn (s_am (fun i => s_len (tK T) (tC T i) 0) (tN T - 1)) := by unfold s_lc; rw [if_neg (by omega)]
    have hm1 := am_max (fun i => s_len (tK T) (tC T i) 0) (tN T - 1) i (by omega)
    have hm2 := s_am_le (fun i => s_len (tK T) (tC T i) 0) (tN T - 1)
    have hrec : p_L_areMaps_l12 V g f K165 K254 K415 K438 N x (nn (tN T)) (P + nn (cN (tC T i))) (TT + s_len (tK T) (tC T i) 0) (nn (i + 1)) = K438 x (itr (fun i a => a + nn (cN (tC T i))) (d + 1) i P) (itr (fun i a => a + s_len (tK T) (tC T i) 0) (d + 1) i TT) := by
      rw [ih N (i + 1) _ _ (by omega) (by omega)]
      rfl
    have hrd : h_nt (p_X7_ringDepth V g f x (nn i)) = some (itr (fun j a => if s_surr T j i = true then a + 1 else a) (tN T) 0 (0 : Int32)) := R_ring J hi
    rw [p_L_areMaps_l12, if_neg (by rw [nn_le (by omega) (by omega)]; omega), R_cnt J hi, ob_s, R_len0 J hi, ob_s, R_inn J hi, ob_s]
    rw [show p_L_areMaps_l55 V g f K165 _ FU x (nn (tN T)) (P + nn (cN (tC T i))) (TT + s_len (tK T) (tC T i) 0) (nn i) (nn (cN (tC T i))) (0 : Int32) (s_inn T i (tN T)) (0 : Int32) = _ from L_l55 J hi K165 _ _ _ _ (tN T) FU 0 0 (by omega) (by unfold FU; omega)]
    rw [hrd, ob_s, if_pos rfl]
    have h204 : ∀ t : Int32, p_L_areMaps_j204 V g f (p_L_areMaps_l12 V g f K165 K254 K415 K438 N) K254 K415 x (nn (tN T)) (P + nn (cN (tC T i))) (TT + s_len (tK T) (tC T i) 0) (nn i) (nn (cN (tC T i))) t t = K438 x (itr (fun i a => a + nn (cN (tC T i))) (d + 1) i P) (itr (fun i a => a + s_len (tK T) (tC T i) 0) (d + 1) i TT) := by
      intro t
      have h243 : ∀ m : Nat, m ≤ cN (tC T i) → p_L_areMaps_j243 V g f (p_L_areMaps_l12 V g f K165 K254 K415 K438 N) K254 K415 x (nn (tN T)) (P + nn (cN (tC T i))) (TT + s_len (tK T) (tC T i) 0) (nn i) (nn (cN (tC T i))) (nn m) (nn (cN (tC T i))) = K438 x (itr (fun i a => a + nn (cN (tC T i))) (d + 1) i P) (itr (fun i a => a + s_len (tK T) (tC T i) 0) (d + 1) i TT) := by
        intro m hm
        unfold p_L_areMaps_j243
        rw [if_neg (by rw [nn_lt (by omega) (by omega)]; omega), if_pos (by rw [show (129 : Int32) = nn 129 from rfl, nn_le (by omega) (by omega)]; omega), R_lip J hi, ob_s]
        rw [show p_L_areMaps_l267 V g f K415 _ FU x (nn (tN T)) (P + nn (cN (tC T i))) (TT + s_len (tK T) (tC T i) 0) (nn i) (nn (cN (tC T i))) (s_lip T (tC T i)) (0 : Int32) = _ from L_l267 J hi K415 _ _ _ _ (cN (tC T i)) FU 0 (by omega) (by unfold FU; omega) (by omega), nn_s]
        exact hrec
      unfold p_L_areMaps_j204
      rw [if_pos rfl, R_len0 J hi, ob_s, show h_nt (p_X7_longestCoast V g f x (0 : Int32)) = some (s_lc T 0) from R_lc J (l := 0) (by omega), ob_s, hm, R_len0 J (by omega), ob_s, if_neg (by rw [i_lt]; rw [i_le] at hm1; omega), R_isl J hi, ob_s]
      rcases cv.1 with ⟨w1, w2⟩ | ⟨w1, w2⟩
      · rw [w1, if_pos rfl]; exact h243 2 w2
      · rw [w1, if_neg (by decide)]; exact h243 3 w2
    rcases inn_p T i (tN T) h6 with ⟨q1, q2⟩ | ⟨m, q1, q2, q3, q4⟩
    · have hz := r3.mpr q2
      rw [q1, if_pos (by decide)]
      unfold p_L_areMaps_j194
      rw [if_pos (by rw [i_le]; show _ ≤ (0 : Int); omega)]
      exact h204 0
    · have hz : ¬ (itr (fun j a => if s_surr T j i = true then a + 1 else a) (tN T) 0 (0 : Int32)).toInt = 0 := fun z => by
        have := r3.mp z m q1
        rw [q3] at this
        cases this
      rw [q2, if_neg (nn_nl m (by omega))]
      unfold p_L_areMaps_j194
      rw [if_neg (by rw [i_le]; show ¬ _ ≤ (0 : Int); omega)]
      exact h204 1
theorem L_areMaps (J : JR f x T) (hg : LG T) : p_L_areMaps V g f x = some (1 : Int32) := by
  have hgap : s_gap T = 0 := by
    unfold s_gap
    rw [show tL T + tA T - tR T = s_pts T from hg.symm, show s_pts T - s_pts T = 0 by apply Int32.toBitVec_inj.mp; simp]
    decide
  unfold p_L_areMaps
  rw [R_n J, ob_s, show p_L_areMaps_l12 V g f _ _ _ _ FU x (nn (tN T)) (0 : Int32) (0 : Int32) (0 : Int32) = _ from L_l12 J _ _ _ _ (tN T) FU 0 0 0 (by omega) (by unfold FU; obtain ⟨hs, pc, pn, X, C, hv⟩ := J; have := hv.1; omega)]
  rw [show h_nt (p_X7_totalLength V g f x (0 : Int32)) = some (s_tot T 0) from R_tot J (l := 0) (by omega), ob_s, if_pos (show itr (fun i a => a + s_len (tK T) (tC T i) 0) (tN T) 0 (0 : Int32) = s_tot T 0 from rfl), R_lo J, ob_s, R_ad J, ob_s, R_re J, ob_s, if_pos (show itr (fun i a => a + nn (cN (tC T i))) (tN T) 0 (0 : Int32) = tL T + tA T - tR T from hg), R_gap J, ob_s, hgap, if_pos rfl]
end AM

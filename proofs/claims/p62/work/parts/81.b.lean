/-! ===== areSticks ===== -/
section AS
variable {V : Nat → Nat} {g f : GH} {x k : Nat} {T : TS}
theorem L_j90 (J : JR f x T) (hk : k < tN T) {l i : Nat} (hl : l < 8) (hi : i < s_sticks (tC T k) l) (K36 : Nat → Int32 → Int32 → Int32 → Int32 → Int32 → Int32 → Int32 → Option Int32) (K171 : Option Int32) (S a : Int32) :
    p_L_areSticks_j90 V g f K36 K171 x (nn k) (nn (cN (tC T k))) (nn l) S a (nn (s_am (s_span (tK T) (tC T k) l) (s_sticks (tC T k) l - 1))) (nn i) (nn (i * 2 ^ l)) (nn (s_end (tC T k) l i)) = K36 x (nn k) (nn (cN (tC T k))) (nn l) S (a + s_span (tK T) (tC T k) l i) (nn (s_am (s_span (tK T) (tC T k) l) (s_sticks (tC T k) l - 1))) (nn (i + 1)) := by
  obtain ⟨hs, pc, pn, X, C, hv⟩ := id J
  have cv := hv.2.2 k hk
  have n1 := cv.n1
  have n2 := cv.n2
  have s2 := s_sticks_200 (l := l) cv
  have hf := s_from_lt (c := tC T k) (l := l) (by omega) hi
  have he := s_end_lt (c := tC T k) (l := l) (s := i) (by omega)
  have hq : s_am (s_span (tK T) (tC T k) l) (s_sticks (tC T k) l - 1) ≤ s_sticks (tC T k) l - 1 := s_am_le _ _
  unfold p_L_areSticks_j90
  rw [R_sl J hk hl hi, ob_s, nn_31 hl, nn_shl hl, if_pos rfl, if_neg (by rw [nn_le (by omega) (by omega)]; omega), R_dist J hk hf he, ob_s, if_pos (show s_span (tK T) (tC T k) l i = s_d (tK T) (tC T k) (i * 2 ^ l) (s_end (tC T k) l i) from rfl), R_sl J hk hl (by omega), ob_s,
    if_neg (by have := am_max (s_span (tK T) (tC T k) l) (s_sticks (tC T k) l - 1) i (by omega); rw [i_le] at this; rw [i_lt]; omega), nn_s]
  by_cases c1 : s_am (s_span (tK T) (tC T k) l) (s_sticks (tC T k) l - 1) ≤ i
  · rw [if_pos (by rw [nn_le (by omega) (by omega)]; exact c1)]
  · rw [if_neg (by rw [nn_le (by omega) (by omega)]; exact c1), ob_s, if_neg (fun q => by have := am_first (s_span (tK T) (tC T k) l) (s_sticks (tC T k) l - 1) i (by omega); rw [q, i_lt] at this; omega)]
theorem L_l36 (J : JR f x T) (hk : k < tN T) {l : Nat} (hl : l < 8) (K171 : Option Int32) (K179 : Nat → Int32 → Int32 → Int32 → Int32 → Int32 → Option Int32) :
    ∀ (d N i : Nat) (a : Int32), i + d = s_sticks (tC T k) l → d < N → p_L_areSticks_l36 V g f K171 K179 N x (nn k) (nn (cN (tC T k))) (nn l) (nn (s_sticks (tC T k) l)) a (nn (s_am (s_span (tK T) (tC T k) l) (s_sticks (tC T k) l - 1))) (nn i) = K179 x (nn k) (nn (cN (tC T k))) (nn l) (nn (s_sticks (tC T k) l)) (itr (fun s a => a + s_span (tK T) (tC T k) l s) d i a) := by
  obtain ⟨hs, pc, pn, X, C, hv⟩ := id J
  have cv := hv.2.2 k hk
  have n1 := cv.n1
  have n2 := cv.n2
  have s2 := s_sticks_200 (l := l) cv
  intro d
  induction d with
  | zero =>
    intro N i a he hN
    obtain ⟨N, rfl⟩ : ∃ M, N = M + 1 := ⟨N - 1, by omega⟩
    rw [p_L_areSticks_l36, if_pos (by rw [nn_le (by omega) (by omega)]; omega)]
    rfl
  | succ d ih =>
    intro N i a he hN
    obtain ⟨N, rfl⟩ : ∃ M, N = M + 1 := ⟨N - 1, by omega⟩
    have hi : i < s_sticks (tC T k) l := by omega
    rw [p_L_areSticks_l36, if_neg (by rw [nn_le (by omega) (by omega)]; omega), R_ss J hk hl hi, ob_s, nn_s, itr]
    by_cases c1 : s_sticks (tC T k) l ≤ i + 1
    · have hE := end_la cv hi (by omega)
      rw [if_pos (by rw [nn_le (by omega) (by omega)]; exact c1), R_isl J hk, ob_s]
      by_cases c2 : cI (tC T k) = 0
      · rw [if_pos c2] at hE ⊢
        rw [nn_p (by omega), ← hE, L_j90 J hk hl hi]
        exact ih N (i + 1) _ (by omega) (by omega)
      · rw [if_neg c2] at hE ⊢
        rw [show (0 : Int32) = nn (s_end (tC T k) l i) by rw [hE]; rfl, L_j90 J hk hl hi]
        exact ih N (i + 1) _ (by omega) (by omega)
    · rw [if_neg (by rw [nn_le (by omega) (by omega)]; exact c1), R_ss J hk hl (by omega), ob_s, ← end_in cv (by omega), L_j90 J hk hl hi]
      exact ih N (i + 1) _ (by omega) (by omega)
theorem L_j269 (J : JR f x T) (hk : k < tN T) {l : Nat} (hl : l < 8) (K8 : Nat → Int32 → Int32 → Int32 → Option Int32) (K314 : Option Int32) (n : Int32) :
    p_L_areSticks_j269 V g f K8 K314 x (nn k) n (nn l) (s_len (tK T) (tC T k) l) = K8 x (nn k) n (nn (l + 1)) := by
  obtain ⟨hs, pc, pn, X, C, hv⟩ := id J
  have cv := hv.2.2 k hk
  have b := s_len_b (k := tK T) (l := l) cv
  obtain ⟨e, e1, e2, e3, -, -⟩ := coarse_ge (w := tK T) (c := tC T k) 7 l (by omega) (Int.le_refl _)
  have hkl := len_king cv l
  unfold p_L_areSticks_j269
  rw [R_clf J hk b.1, ob_s, e1, if_neg (by rw [nn_lt (by omega) (by omega)]; omega), R_k J, ob_s, R_oth J hk hl, ob_s]
  rcases hv.2.1 with q | q
  · have ho : s_other T (tC T k) l = s_len 1 (tC T k) l := by unfold s_other; rw [if_pos q]
    rw [ho, q]
    by_cases c1 : s_len 1 (tC T k) l < s_len 0 (tC T k) l
    · rw [if_pos c1]
      unfold p_L_areSticks_j300
      rw [if_pos rfl, nn_s]
    · rw [if_neg c1]
      unfold p_L_areSticks_j300
      rw [if_neg (by decide), R_oth J hk hl, ob_s, ho, if_pos (i_ant hkl (by rw [i_lt] at c1; omega)), nn_s]
  · have ho : s_other T (tC T k) l = s_len 0 (tC T k) l := by unfold s_other; rw [if_neg (by rw [q]; decide)]
    rw [ho, q, if_neg (by rw [i_lt]; omega)]
    unfold p_L_areSticks_j300
    rw [if_pos rfl, nn_s]
theorem L_j213 (J : JR f x T) (hk : k < tN T) {l : Nat} (hl : l < 8) (K8 : Nat → Int32 → Int32 → Int32 → Option Int32) (K267 K314 : Option Int32) (n : Int32) :
    p_L_areSticks_j213 V g f K8 K267 K314 x (nn k) n (nn l) (s_len (tK T) (tC T k) l) = K8 x (nn k) n (nn (l + 1)) := by
  obtain ⟨hs, pc, pn, X, C, hv⟩ := id J
  have cv := hv.2.2 k hk
  unfold p_L_areSticks_j213
  by_cases c1 : 7 ≤ l
  · rw [if_pos (by rw [n_7, nn_le (by omega) (by omega)]; exact c1), L_j269 J hk hl]
  · have hq : s_am (s_gain (tK T) (tC T k)) 6 ≤ 6 := s_am_le _ _
    have hg := s_gain_b (k := tK T) cv l
    rw [if_neg (by rw [n_7, nn_le (by omega) (by omega)]; exact c1), R_lg J hk (by omega), ob_s, if_neg (by rw [i_lt]; show ¬ _ < (0 : Int); omega), ob_s, nn_s, R_len J hk (by omega), ob_s, if_pos (show s_gain (tK T) (tC T k) l = s_len (tK T) (tC T k) l - s_len (tK T) (tC T k) (l + 1) from rfl), ob_s, R_gg J hk, ob_s, R_lg J hk (by omega), ob_s, if_pos (am_max (s_gain (tK T) (tC T k)) 6 l (by omega)), L_j269 J hk hl]
theorem L_l8 (J : JR f x T) (hk : k < tN T) (K171 K267 K314 : Option Int32) (K322 : Nat → Int32 → Option Int32) :
    ∀ (d N l : Nat), l + d = 8 → d < N → p_L_areSticks_l8 V g f K171 K267 K314 K322 N x (nn k) (nn (cN (tC T k))) (nn l) = K322 x (nn k) := by
  obtain ⟨hs, pc, pn, X, C, hv⟩ := id J
  have cv := hv.2.2 k hk
  intro d
  induction d with
  | zero =>
    intro N l he hN
    obtain ⟨N, rfl⟩ : ∃ M, N = M + 1 := ⟨N - 1, by omega⟩
    rw [p_L_areSticks_l8, if_pos (by rw [show (8 : Int32) = nn 8 from rfl, nn_le (by omega) (by omega)]; omega)]
  | succ d ih =>
    intro N l he hN
    obtain ⟨N, rfl⟩ : ∃ M, N = M + 1 := ⟨N - 1, by omega⟩
    have hl : l < 8 := by omega
    have s1 := s_sticks_pos (l := l) cv
    have s2 := s_sticks_200 (l := l) cv
    rw [p_L_areSticks_l8, if_neg (by rw [show (8 : Int32) = nn 8 from rfl, nn_le (by omega) (by omega)]; omega), R_sc J hk hl, ob_s, R_ls J hk hl, ob_s, n_0, L_l36 J hk hl _ _ (s_sticks (tC T k) l) FU 0 _ (by omega) (by unfold FU; omega)]
    rw [R_len J hk hl, ob_s, if_pos (show itr (fun s a => a + s_span (tK T) (tC T k) l s) (s_sticks (tC T k) l) 0 (nn 0) = s_len (tK T) (tC T k) l from rfl), if_neg (by rw [n_1, nn_lt (by omega) (by omega)]; omega),
      show itr (fun s a => a + s_span (tK T) (tC T k) l s) (s_sticks (tC T k) l) 0 (nn 0) = s_len (tK T) (tC T k) l from rfl]
    by_cases c1 : l ≤ 0
    · rw [if_pos (by rw [nn_le (by omega) (by omega)]; exact c1), L_j213 J hk hl]
      exact ih N (l + 1) (by omega) (by omega)
    · have h1 := st_anti cv (l - 1)
      rw [show l - 1 + 1 = l by omega] at h1
      have h2 := s_sticks_200 (l := l - 1) cv
      rw [if_neg (by rw [nn_le (by omega) (by omega)]; exact c1), nn_p (by omega), R_sc J hk (by omega), ob_s, if_neg (by rw [nn_lt (by omega) (by omega)]; omega), L_j213 J hk hl]
      exact ih N (l + 1) (by omega) (by omega)
theorem L_j366 (J : JR f x T) (hk : k < tN T) : p_L_areSticks_j366 V g f x (nn k) = some (1 : Int32) := by
  obtain ⟨hs, pc, pn, X, C, hv⟩ := id J
  have cv := hv.2.2 k hk
  have b7 := s_len_b (k := tK T) (l := 7) cv
  have b0 := s_len_b (k := tK T) (l := 0) cv
  obtain ⟨e, e1, e2, e3, -, -⟩ := coarse_ge (w := tK T) (c := tC T k) (z := 0) 7 7 (Nat.le_refl _) b7.1
  have h7 : e = 7 := by omega
  subst h7
  have hp : (s_len (tK T) (tC T k) 0 + (1 : Int32)).toInt = (s_len (tK T) (tC T k) 0).toInt + 1 := i_add (b := 1) (by show _ ≤ _ + (1 : Int); omega) (by show _ + (1 : Int) < _; omega)
  unfold p_L_areSticks_j366
  rw [R_clf J hk (z := 0) (by decide), ob_s, e1, if_pos (show nn 7 = (7 : Int32) from rfl), n_0, R_len J hk (by omega), ob_s, R_clf J hk (by rw [hp]; omega), ob_s, coarse_no 7 (fun m hm => by have := len_anti (w := tK T) cv (show 0 ≤ m by omega); rw [hp]; omega), if_pos rfl]
theorem L_areSticks (J : JR f x T) (hk : k < tN T) : p_L_areSticks V g f x (nn k) = some (1 : Int32) := by
  obtain ⟨hs, pc, pn, X, C, hv⟩ := id J
  have cv := hv.2.2 k hk
  obtain ⟨e, e1, e2, e3, e4, e5⟩ := coarse_ge (w := tK T) (c := tC T k) (z := s_len (tK T) (tC T k) 0) 7 0 (by omega) (Int.le_refl _)
  have ha := len_anti (w := tK T) cv (show 0 ≤ e by omega)
  unfold p_L_areSticks
  rw [R_cnt J hk, ob_s, n_0, L_l8 J hk _ _ _ _ 8 FU 0 (by omega) (by unfold FU; omega)]
  rw [R_cel J hk, ob_s, e1, R_len J hk (by omega), ob_s, R_len J hk (by omega), ob_s, if_pos (i_ant ha e4)]
  by_cases c1 : e = 7
  · rw [if_pos (by rw [c1]; rfl), L_j366 J hk]
  · have h5 := e5 (e + 1) (by omega) (by omega)
    rw [if_neg (by rw [n_7, nn_eq (by omega) (by omega)]; exact c1), nn_s, R_len J hk (by omega), ob_s, ob_s, if_neg (by rw [i_le]; omega), L_j366 J hk]
end AS

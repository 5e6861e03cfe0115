/-! ===== act: the other changes, and all of them that need no text ===== -/
section AD
variable {V : Nat → Nat} {g f f1 : GH} {x y u p k n : Nat} {T T1 S : TS} {H : Nat → TS} {hs cc : Int32} {bs : Nat → Int32}
theorem nn_n1 {k : Nat} (h : k < 2147483648) : nn k ≠ (-1 : Int32) := nn_ne h
theorem A_drop (S0 : StOK V g) (hv : TV T) (hk : k < tN T) {i : Nat} (hi : i < cN (tC T k)) : AO V T (fun x _ f n =>
    (h_nt (p_X7_lengthWithoutPoint V g f x (nn k) (nn i))).bind fun v93 =>
    (if (0 : Int32) ≤ v93 then
      (h_nt (p_X7_removePoint V g f x (nn k) (nn i))).bind fun v95 =>
      (if v95.1 = (nn (cN (tC T k)) - (1 : Int32)) then
        (h_nt (p_X7_lengthAt V g v95.2 x (nn k) (0 : Int32))).bind fun v97 =>
        (if v97 = v93 then
          some ((1 : Int32), v95.2, n)
        else
          some ((0 : Int32), v95.2, n))
      else
        some ((0 : Int32), v95.2, n))
    else
      (h_nt (p_X7_isIsland V g f x (nn k))).bind fun v99 =>
      (if v99 = (0 : Int32) then
        (if nn (cN (tC T k)) = (2 : Int32) then
          some ((1 : Int32), f, n)
        else
          some ((0 : Int32), f, n))
      else
        (if nn (cN (tC T k)) = (3 : Int32) then
          some ((1 : Int32), f, n)
        else
          some ((0 : Int32), f, n))))) := by
  have cv := hv.2.2 k hk
  have n1 := cv.n1
  have n2 := cv.n2
  have nd := need_2 (tC T k)
  have hneed := cv.need
  rcases but_p (w := tK T) cv hi with ⟨q1, q2, q3, q4⟩ | ⟨q1, q2⟩
  · refine ⟨ts_set T k (s_cut (tC T k) i), true, fun f x y n hs u p H S hy1 hy2 hW hJ => ?_⟩
    obtain ⟨bs, cc, I⟩ := hJ
    obtain ⟨f1, e1, I1, o1⟩ := J_drop S0 I hk hi (by omega)
    refine ⟨f1, n, ?_, AR.t I1 hW hy1 o1⟩
    dsimp only
    rw [R_wo I.jr hk hi, ob_s, if_pos (by rw [i_le]; exact q3), e1, ob_s]
    dsimp only
    rw [nn_p (by omega), if_pos rfl, S_len0 I1.jr hk, ob_s, if_pos (by rw [q2, s_wo_eq (tK T) _ hi (by omega)])]
  · refine ⟨T, false, fun f x y n hs u p H S hy1 hy2 hW hJ => ?_⟩
    obtain ⟨bs, cc, I⟩ := hJ
    refine ⟨f, n, ?_, AR.no I hW hy1 (fun _ _ => rfl)⟩
    dsimp only
    rw [R_wo I.jr hk hi, ob_s, q2, if_neg (by decide), R_isl I.jr hk, ob_s]
    by_cases z : cI (tC T k) = 0
    · have := (need_v cv).1 z
      rw [if_pos z, if_pos (by rw [n_2, nn_eq (by omega) (by omega)]; omega)]
    · have := (need_v cv).2 z
      rw [if_neg z, if_pos (by rw [n_3, nn_eq (by omega) (by omega)]; omega)]
theorem A_rev (S0 : StOK V g) (hv : TV T) (hk : k < tN T) : AO V T (fun x _ f n =>
        (h_nt (p_X7_lengthAt V g f x (nn k) (0 : Int32))).bind fun v67 =>
        (h_nt (p_X7_pointX V g f x (nn k) (0 : Int32))).bind fun v68 =>
        (h_nt (p_X7_reverse V g f x (nn k))).bind fun v69 =>
        (if v69.1 = nn (cN (tC T k)) then
          (h_nt (p_X7_pointX V g v69.2 x (nn k) (nn (cN (tC T k)) - (1 : Int32)))).bind fun v71 =>
          (if v71 = v68 then
            (h_nt (p_X7_lengthAt V g v69.2 x (nn k) (0 : Int32))).bind fun v73 =>
            (if v73 = v67 then
              some ((1 : Int32), v69.2, n)
            else
              some ((0 : Int32), v69.2, n))
          else
            some ((0 : Int32), v69.2, n))
        else
          some ((0 : Int32), v69.2, n))) := by
  have cv := hv.2.2 k hk
  have n1 := cv.n1
  refine ⟨ts_set T k (s_rev (tC T k)), true, fun f x y n hs u p H S hy1 hy2 hW hJ => ?_⟩
  obtain ⟨bs, cc, I⟩ := hJ
  obtain ⟨f1, e1, I1, o1⟩ := J_rev S0 I hk
  refine ⟨f1, n, ?_, AR.t I1 hW hy1 o1⟩
  have hN : cN (s_rev (tC T k)) = cN (tC T k) := rfl
  have hxx : cX (s_rev (tC T k)) (cN (tC T k) - 1) = cX (tC T k) 0 := by
    show cX (tC T k) (cN (tC T k) - 1 - (cN (tC T k) - 1)) = _
    rw [Nat.sub_self]
  dsimp only
  rw [R_len0 I.jr hk, ob_s, show h_nt (p_X7_pointX V g f x (nn k) (0 : Int32)) = some (cX (tC T k) 0) from R_px I.jr hk (i := 0) (by omega), ob_s, e1, ob_s]
  dsimp only
  rw [if_pos rfl, nn_p (by omega), S_px I1.jr hk (by rw [hN]; omega), ob_s, hxx, if_pos rfl, S_len0 I1.jr hk, ob_s, if_pos (rev_len cv)]
theorem A_rem (S0 : StOK V g) (hv : TV T) (hk : k < tN T) : AO V T (fun x _ f n =>
          (p_X7_removedPoints V g f x).bind fun v60 =>
          (h_nt (p_X7_removeCoast V g f x (nn k))).bind fun v61 =>
          (if v61.1 = nn (cN (tC T k)) then
            (p_X7_coastCount V g v61.2 x).bind fun v63 =>
            (if v63 = (nn (tN T) - (1 : Int32)) then
              (p_X7_removedPoints V g v61.2 x).bind fun v65 =>
              (if v65 = (v60 + nn (cN (tC T k))) then
                some ((1 : Int32), v61.2, n)
              else
                some ((0 : Int32), v61.2, n))
            else
              some ((0 : Int32), v61.2, n))
          else
            some ((0 : Int32), v61.2, n))) := by
  refine ⟨ts_rem T k, true, fun f x y n hs u p H S hy1 hy2 hW hJ => ?_⟩
  obtain ⟨bs, cc, I⟩ := hJ
  obtain ⟨f1, e1, I1, o1⟩ := J_rem S0 I hk
  refine ⟨f1, n, ?_, AR.t I1 hW hy1 o1⟩
  dsimp only
  rw [R_re I.jr, ob_s, e1, ob_s]
  dsimp only
  rw [if_pos rfl, R_n I1.jr, ob_s, nn_p (by omega), if_pos (show nn (tN (ts_rem T k)) = nn (tN T - 1) from rfl), R_re I1.jr, ob_s, if_pos (show tR (ts_rem T k) = tR T + nn (cN (tC T k)) from rfl)]
theorem A_met (S0 : StOK V g) (hv : TV T) (hk : k < tN T) : AO V T (fun x _ f n =>
          (p_X7_usesKingMetric V g f x).bind fun v51 =>
          (h_nt (p_X7_lengthInOtherMetric V g f x (nn k) (2 : Int32))).bind fun v52 =>
          (if v51 = (0 : Int32) then
            p_L_act_j1120 V g x (nn k) v51 v52 (1 : Int32) x f n
          else
            p_L_act_j1120 V g x (nn k) v51 v52 (0 : Int32) x f n)) := by
  rcases hv.2.1 with q | q
  · refine ⟨ts_met T 1, true, fun f x y n hs u p H S hy1 hy2 hW hJ => ?_⟩
    obtain ⟨bs, cc, I⟩ := hJ
    obtain ⟨f1, e1, I1, o1⟩ := J_met S0 I (k := 1) (Or.inr rfl)
    refine ⟨f1, n, ?_, AR.t I1 hW hy1 o1⟩
    have ho : s_other T (tC T k) 2 = s_len 1 (tC T k) 2 := by unfold s_other; rw [if_pos q]
    have hl : h_nt (p_X7_lengthAt V g f1 x (nn k) (2 : Int32)) = some (s_len 1 (tC T k) 2) := R_len (T := ts_met T 1) I1.jr hk (l := 2) (by omega)
    dsimp only
    rw [R_k I.jr, ob_s, show h_nt (p_X7_lengthInOtherMetric V g f x (nn k) (2 : Int32)) = some (s_other T (tC T k) 2) from R_oth I.jr hk (l := 2) (by omega), ob_s, ho, q, if_pos rfl]
    unfold p_L_act_j1120
    rw [e1, nt_r, ob_s]
    dsimp only
    rw [q, if_pos rfl, R_k I1.jr, ob_s, if_neg (show ¬ tK (ts_met T 1) = 0 from show ¬ (1 : Int32) = 0 by decide), hl, ob_s, if_pos rfl]
  · refine ⟨ts_met T 0, true, fun f x y n hs u p H S hy1 hy2 hW hJ => ?_⟩
    obtain ⟨bs, cc, I⟩ := hJ
    obtain ⟨f1, e1, I1, o1⟩ := J_met S0 I (k := 0) (Or.inl rfl)
    refine ⟨f1, n, ?_, AR.t I1 hW hy1 o1⟩
    have ho : s_other T (tC T k) 2 = s_len 0 (tC T k) 2 := by unfold s_other; rw [if_neg (by rw [q]; decide)]
    have hl : h_nt (p_X7_lengthAt V g f1 x (nn k) (2 : Int32)) = some (s_len 0 (tC T k) 2) := R_len (T := ts_met T 0) I1.jr hk (l := 2) (by omega)
    dsimp only
    rw [R_k I.jr, ob_s, show h_nt (p_X7_lengthInOtherMetric V g f x (nn k) (2 : Int32)) = some (s_other T (tC T k) 2) from R_oth I.jr hk (l := 2) (by omega), ob_s, ho, q, if_neg (by decide)]
    unfold p_L_act_j1120
    rw [e1, nt_r, ob_s]
    dsimp only
    rw [q, if_pos rfl, R_k I1.jr, ob_s, if_neg (show ¬ tK (ts_met T 0) = 1 from show ¬ (0 : Int32) = 1 by decide), hl, ob_s, if_pos rfl]
/-- the least and the greatest of all coordinates -/
def loS (c : CS) (i : Nat) (p : Int32 × Int32) : Int32 × Int32 := (s_min p.1 (s_min (cX c i) (cY c i)), s_max p.2 (s_max (cX c i) (cY c i)))
theorem lo_p {c : CS} (cv : CoV c) : ∀ d, d ≤ cN c → bd (itr (loS c) d 0 (1000, -1000)).1 ∧ bd (itr (loS c) d 0 (1000, -1000)).2 ∧ ∀ j, j < d → (itr (loS c) d 0 (1000, -1000)).1.toInt ≤ (cX c j).toInt ∧ (cX c j).toInt ≤ (itr (loS c) d 0 (1000, -1000)).2.toInt ∧ (itr (loS c) d 0 (1000, -1000)).1.toInt ≤ (cY c j).toInt ∧ (cY c j).toInt ≤ (itr (loS c) d 0 (1000, -1000)).2.toInt := by
  intro d
  induction d with
  | zero =>
    intro _
    exact ⟨⟨show (-1000 : Int) ≤ (1000 : Int32).toInt by decide, show (1000 : Int32).toInt ≤ (1000 : Int) by decide⟩, ⟨show (-1000 : Int) ≤ (-1000 : Int32).toInt by decide, show (-1000 : Int32).toInt ≤ (1000 : Int) by decide⟩, fun j hj => absurd hj (by omega)⟩
  | succ d ih =>
    intro hd
    obtain ⟨h1, h2, h3⟩ := ih (by omega)
    have hX := cv.2.2 d (by omega)
    rw [itr_last, Nat.zero_add]
    generalize itr (loS c) d 0 (1000, -1000) = p at h1 h2 h3 ⊢
    unfold loS
    dsimp only
    unfold bd at h1 h2 hX ⊢
    rw [s_min_i, s_max_i, s_min_i, s_max_i]
    refine ⟨by omega, by omega, fun j hj => ?_⟩
    by_cases e : j = d
    · rw [e]; omega
    · have := h3 j (by omega)
      omega
theorem A_shift (S0 : StOK V g) (hv : TV T) (hk : k < tN T) {a : Int32} (ha : -80 ≤ a.toInt ∧ a.toInt ≤ 80) : AO V T (fun x _ f n =>
      (h_nt (p_X7_lengthAt V g f x (nn k) (3 : Int32))).bind fun v75 =>
      p_L_act_l827 V g (fun x0 x6 x7 x9 x11 x12 x13 f n =>
        (p_J9_max_7cf53 V g f ((-1000 : Int32) - x12) (x13 - (1000 : Int32))).bind fun v85 =>
        (p_J9_min_7cf53 V g f ((1000 : Int32) - x13) ((1000 : Int32) + x12)).bind fun v86 =>
        (p_J9_min_7cf53 V g f v86 x9).bind fun v87 =>
        (p_J9_max_7cf53 V g f v85 v87).bind fun v88 =>
        (h_nt (p_X7_shift V g f x0 x6 v88 (-v88))).bind fun v89 =>
        (if v89.1 = x7 then
          (h_nt (p_X7_lengthAt V g v89.2 x0 x6 (3 : Int32))).bind fun v91 =>
          (if v91 = x11 then
            some ((1 : Int32), v89.2, n)
          else
            some ((0 : Int32), v89.2, n))
        else
          some ((0 : Int32), v89.2, n))) FU x (nn k) (nn (cN (tC T k))) a v75 (1000 : Int32) (-1000 : Int32) (0 : Int32) f n) := by
  have cv := hv.2.2 k hk
  have n1 := cv.n1
  have n2 := cv.n2
  obtain ⟨b1, b2, b3⟩ := lo_p cv (cN (tC T k)) (Nat.le_refl _)
  have hlo : ∀ (f : GH) (x n : Nat) (J : JR f x T) (K : Nat → Int32 → Int32 → Int32 → Int32 → Int32 → Int32 → GH → Nat → Option (Int32 × GH × Nat)) (L : Int32) (d N i : Nat) (q : Int32 × Int32), i + d = cN (tC T k) → d < N → p_L_act_l827 V g K N x (nn k) (nn (cN (tC T k))) a L q.1 q.2 (nn i) f n = K x (nn k) (nn (cN (tC T k))) a L (itr (loS (tC T k)) d i q).1 (itr (loS (tC T k)) d i q).2 f n := by
    intro f x n J K L d
    induction d with
    | zero =>
      intro N i q he hN
      obtain ⟨N, rfl⟩ : ∃ M, N = M + 1 := ⟨N - 1, by omega⟩
      rw [p_L_act_l827, if_pos (by rw [nn_le (by omega) (by omega)]; omega)]
      rfl
    | succ d ih =>
      intro N i q he hN
      obtain ⟨N, rfl⟩ : ∃ M, N = M + 1 := ⟨N - 1, by omega⟩
      rw [p_L_act_l827, if_neg (by rw [nn_le (by omega) (by omega)]; omega), R_px J hk (by omega), ob_s, R_py J hk (by omega), ob_s, pm_min, ob_s, pm_min, ob_s, ob_s, ob_s, pm_max, ob_s, pm_max, ob_s, nn_s, itr]
      exact ih N (i + 1) (loS (tC T k) i q) (by omega) (by omega)
  obtain ⟨q, hq⟩ : ∃ q, q = itr (loS (tC T k)) (cN (tC T k)) 0 (1000, -1000) := ⟨_, rfl⟩
  rw [← hq] at b1 b2 b3
  have hL : ∀ (f : GH) (x n : Nat) (J : JR f x T) (K : Nat → Int32 → Int32 → Int32 → Int32 → Int32 → Int32 → GH → Nat → Option (Int32 × GH × Nat)) (L : Int32), p_L_act_l827 V g K FU x (nn k) (nn (cN (tC T k))) a L (1000 : Int32) (-1000 : Int32) (0 : Int32) f n = K x (nn k) (nn (cN (tC T k))) a L q.1 q.2 f n := by
    intro f x n J K L
    have := hlo f x n J K L (cN (tC T k)) FU 0 (1000, -1000) (by omega) (by unfold FU; omega)
    rw [← hq] at this
    exact this
  obtain ⟨lo, hi⟩ := q
  dsimp only at b1 b2 b3 hL
  have b0 := b3 0 (by omega)
  unfold bd at b1 b2
  have e1 : ((-1000 : Int32) - lo).toInt = -1000 - lo.toInt := i_sub (a := -1000) (by show _ ≤ (-1000 : Int) - _; omega) (by show (-1000 : Int) - _ < _; omega)
  have e2 : (hi - (1000 : Int32)).toInt = hi.toInt - 1000 := i_sub (b := 1000) (by show _ ≤ _ - (1000 : Int); omega) (by show _ - (1000 : Int) < _; omega)
  have e3 : ((1000 : Int32) - hi).toInt = 1000 - hi.toInt := i_sub (a := 1000) (by show _ ≤ (1000 : Int) - _; omega) (by show (1000 : Int) - _ < _; omega)
  have e4 : ((1000 : Int32) + lo).toInt = 1000 + lo.toInt := i_add (a := 1000) (by show _ ≤ (1000 : Int) + _; omega) (by show (1000 : Int) + _ < _; omega)
  obtain ⟨w, hw⟩ : ∃ w, w = s_max (s_max ((-1000 : Int32) - lo) (hi - (1000 : Int32))) (s_min (s_min ((1000 : Int32) - hi) ((1000 : Int32) + lo)) a) := ⟨_, rfl⟩
  have hwi : w.toInt = max (max (-1000 - lo.toInt) (hi.toInt - 1000)) (min (min (1000 - hi.toInt) (1000 + lo.toInt)) a.toInt) := by
    rw [hw, s_max_i, s_max_i, s_min_i, s_min_i, e1, e2, e3, e4]
  have hng : (-w).toInt = -w.toInt := i_neg (by omega)
  refine ⟨ts_set T k (s_mv (tC T k) w (-w)), true, fun f x y n hs u p H S hy1 hy2 hW hJ => ?_⟩
  obtain ⟨bs, cc, I⟩ := hJ
  obtain ⟨f1, g1, I1, o1⟩ := J_shift S0 I hk (a := w) (b := -w) (by omega) (by rw [hng]; omega) (fun j hj => by
    have c1 := b3 j hj
    have c2 := cv.2.2 j hj
    unfold bd at c2 ⊢
    rw [i_add (by omega) (by omega), i_add (by rw [hng]; omega) (by rw [hng]; omega), hng]
    omega)
  refine ⟨f1, n, ?_, AR.t I1 hW hy1 o1⟩
  have hm1 : p_J9_max_7cf53 V g f ((-1000 : Int32) - lo) (hi - (1000 : Int32)) = some (s_max ((-1000 : Int32) - lo) (hi - (1000 : Int32))) := pm_max _ _ _ _ _
  have hm2 : p_J9_min_7cf53 V g f ((1000 : Int32) - hi) ((1000 : Int32) + lo) = some (s_min ((1000 : Int32) - hi) ((1000 : Int32) + lo)) := pm_min _ _ _ _ _
  have hm3 : p_J9_min_7cf53 V g f (s_min ((1000 : Int32) - hi) ((1000 : Int32) + lo)) a = some (s_min (s_min ((1000 : Int32) - hi) ((1000 : Int32) + lo)) a) := pm_min _ _ _ _ _
  have hm4 : p_J9_max_7cf53 V g f (s_max ((-1000 : Int32) - lo) (hi - (1000 : Int32))) (s_min (s_min ((1000 : Int32) - hi) ((1000 : Int32) + lo)) a) = some w := by
    rw [hw]; exact pm_max _ _ _ _ _
  dsimp only
  rw [show h_nt (p_X7_lengthAt V g f x (nn k) (3 : Int32)) = some (s_len (tK T) (tC T k) 3) from R_len I.jr hk (l := 3) (by omega), ob_s, hL f x n I.jr, hm1, ob_s, hm2, ob_s, hm3, ob_s, hm4, ob_s, g1, ob_s]
  dsimp only
  rw [if_pos rfl, show h_nt (p_X7_lengthAt V g f1 x (nn k) (3 : Int32)) = some (s_len (tK T) (s_mv (tC T k) w (-w)) 3) from S_len I1.jr hk (l := 3) (by omega), ob_s, mv_len, if_pos rfl]
end AD

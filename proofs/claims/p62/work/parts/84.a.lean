/-! ===== act: the changes that need no text ===== -/
def WZ (f : GH) (y : Nat) : Prop := ∃ r : Nat → Int32, f y = some (.inl (0, 6, .inl r)) ∧ ∀ k, k < 6 → r k = 0
def JW (V : Nat → Nat) (f : GH) (x : Nat) (T : TS) (hs : Int32) (u p : Nat) (H : Nat → TS) (S : TS) : Prop := ∃ bs cc, JV V f x T hs u p H S 0 bs cc
def AR (V : Nat → Nat) (T T1 : TS) (b : Bool) (x y : Nat) (hs : Int32) (u p : Nat) (H : Nat → TS) (S : TS) (f f1 : GH) (n n1 : Nat) : Prop :=
  ((b = true ∧ JW V f1 x T1 hs (h_pu u) (h_pp p) (h_pH u H T) S) ∨ (b = false ∧ T1 = T ∧ JW V f1 x T hs u p H S)) ∧ WZ f1 y ∧ (∀ a, a < x ∨ x + 235 ≤ a → a < n → a ≠ y → f1 a = f a) ∧ n ≤ n1
def AO (V : Nat → Nat) (T : TS) (P : Nat → Nat → GH → Nat → Option (Int32 × GH × Nat)) : Prop := ∃ (T1 : TS) (b : Bool), ∀ (f : GH) (x y n : Nat) (hs : Int32) (u p : Nat) (H : Nat → TS) (S : TS), x + 235 ≤ y → y < n → WZ f y → JW V f x T hs u p H S → ∃ f1 n1, P x y f n = some ((1 : Int32), f1, n1) ∧ AR V T T1 b x y hs u p H S f f1 n n1
theorem WZ.fr {f f1 : GH} {y : Nat} (h : WZ f y) (e : f1 y = f y) : WZ f1 y := by
  obtain ⟨r, h1, h2⟩ := h
  exact ⟨r, e.trans h1, h2⟩
section AC
variable {V : Nat → Nat} {g f f1 : GH} {x y u p k n : Nat} {T T1 S : TS} {H : Nat → TS} {hs cc : Int32} {bs : Nat → Int32}
theorem AR.t (J : JV V f1 x T1 hs (h_pu u) (h_pp p) (h_pH u H T) S 0 bs cc) (W : WZ f y) (hy : x + 235 ≤ y) (o : ∀ b, b < x ∨ x + 235 ≤ b → f1 b = f b) : AR V T T1 true x y hs u p H S f f1 n n :=
  ⟨Or.inl ⟨rfl, bs, cc, J⟩, W.fr (o y (by omega)), fun a ha _ _ => o a ha, Nat.le_refl _⟩
theorem AR.no (J : JV V f1 x T hs u p H S 0 bs cc) (W : WZ f y) (hy : x + 235 ≤ y) (o : ∀ b, b < x ∨ x + 235 ≤ b → f1 b = f b) : AR V T T false x y hs u p H S f f1 n n :=
  ⟨Or.inr ⟨rfl, rfl, bs, cc, J⟩, W.fr (o y (by omega)), fun a ha _ _ => o a ha, Nat.le_refl _⟩
variable {c : CS}
theorem S_len (J : JR f x (ts_set T k c)) (hk : k < tN T) {l : Nat} (hl : l < 8) : h_nt (p_X7_lengthAt V g f x (nn k) (nn l)) = some (s_len (tK T) c l) := by
  have := R_len (V := V) (g := g) J (show k < tN (ts_set T k c) from hk) hl
  rw [set_C] at this
  exact this
theorem S_len0 (J : JR f x (ts_set T k c)) (hk : k < tN T) : h_nt (p_X7_lengthAt V g f x (nn k) (0 : Int32)) = some (s_len (tK T) c 0) := by
  rw [n_0]; exact S_len J hk (by omega)
theorem S_cnt (J : JR f x (ts_set T k c)) (hk : k < tN T) : h_nt (p_X7_pointCount V g f x (nn k)) = some (nn (cN c)) := by
  have := R_cnt (V := V) (g := g) J (show k < tN (ts_set T k c) from hk)
  rw [set_C] at this
  exact this
theorem S_isl (J : JR f x (ts_set T k c)) (hk : k < tN T) : h_nt (p_X7_isIsland V g f x (nn k)) = some (cI c) := by
  have := R_isl (V := V) (g := g) J (show k < tN (ts_set T k c) from hk)
  rw [set_C] at this
  exact this
theorem S_px (J : JR f x (ts_set T k c)) (hk : k < tN T) {i : Nat} (hi : i < cN c) : h_nt (p_X7_pointX V g f x (nn k) (nn i)) = some (cX c i) := by
  have := R_px (V := V) (g := g) J (show k < tN (ts_set T k c) from hk) (i := i) (by rw [set_C]; exact hi)
  rw [set_C] at this
  exact this
theorem S_py (J : JR f x (ts_set T k c)) (hk : k < tN T) {i : Nat} (hi : i < cN c) : h_nt (p_X7_pointY V g f x (nn k) (nn i)) = some (cY c i) := by
  have := R_py (V := V) (g := g) J (show k < tN (ts_set T k c) from hk) (i := i) (by rw [set_C]; exact hi)
  rw [set_C] at this
  exact this
theorem S_wo (J : JR f x (ts_set T k c)) (hk : k < tN T) {i : Nat} (hi : i < cN c) : h_nt (p_X7_lengthWithoutPoint V g f x (nn k) (nn i)) = some (s_but (tK T) c i) := by
  have := R_wo (V := V) (g := g) J (show k < tN (ts_set T k c) from hk) (i := i) (by rw [set_C]; exact hi)
  rw [set_C] at this
  exact this
theorem S_v (J : JR f x (ts_set T k c)) (hk : k < tN T) : CoV c := by
  obtain ⟨hs, pc, pn, X, C, hv⟩ := J
  have := hv.2.2 k hk
  rw [set_C] at this
  exact this
/-- a coordinate of the law's -/
theorem co_b (v : Int32) : bd (nn (mo v 161) - (80 : Int32)) := by
  have hm := mo_lt v (show 1 ≤ 161 by omega)
  unfold bd
  rw [i_sub (b := 80) (by rw [nn_i (by omega)]; show _ ≤ _ - (80 : Int); omega) (by rw [nn_i (by omega)]; show _ - (80 : Int) < _; omega), nn_i (by omega), show (80 : Int32).toInt = 80 from rfl]
  omega
theorem co_s (v : Int32) : -80 ≤ (nn (mo v 161) - (80 : Int32)).toInt ∧ (nn (mo v 161) - (80 : Int32)).toInt ≤ 80 := by
  have hm := mo_lt v (show 1 ≤ 161 by omega)
  rw [i_sub (b := 80) (by rw [nn_i (by omega)]; show _ ≤ _ - (80 : Int); omega) (by rw [nn_i (by omega)]; show _ - (80 : Int) < _; omega), nn_i (by omega), show (80 : Int32).toInt = 80 from rfl]
  omega
theorem A_fold (S0 : StOK V g) (hv : TV T) (hk : k < tN T) (v : Int32) : AO V T (fun x _ f n =>
      (h_nt (p_X7_lengthAfterFold V g f x (nn k) (nn (mo v 41) - (20 : Int32)) (0 : Int32))).bind fun v145 =>
      (h_nt (p_X7_foldObstacle V g v145.2 x (nn k) (nn (mo v 41) - (20 : Int32)))).bind fun v146 =>
      (if v146 ≤ (0 : Int32) then
        (h_nt (p_X7_fold V g v145.2 x (nn k) (nn (mo v 41) - (20 : Int32)))).bind fun v148 =>
        (h_nt (p_X7_pointCount V g v148.2 x (nn k))).bind fun v149 =>
        (if v148.1 = v149 then
          (h_nt (p_X7_lengthAt V g v148.2 x (nn k) (0 : Int32))).bind fun v151 =>
          (if v151 = v145.1 then
            some ((1 : Int32), v148.2, n)
          else
            some ((0 : Int32), v148.2, n))
        else
          some ((0 : Int32), v148.2, n))
      else
        (if v145.1 = (-1 : Int32) then
          some ((1 : Int32), v145.2, n)
        else
          some ((0 : Int32), v145.2, n)))) := by
  have hm := mo_lt v (show 1 ≤ 41 by omega)
  have hw : -50 ≤ (nn (mo v 41) - (20 : Int32)).toInt ∧ (nn (mo v 41) - (20 : Int32)).toInt ≤ 50 := by
    rw [i_sub (b := 20) (by rw [nn_i (by omega)]; show _ ≤ _ - (20 : Int); omega) (by rw [nn_i (by omega)]; show _ - (20 : Int) < _; omega), nn_i (by omega), show (20 : Int32).toInt = 20 from rfl]
    omega
  generalize nn (mo v 41) - (20 : Int32) = w at hw ⊢
  by_cases hy : s_why (tC T k) w = 0
  · refine ⟨ts_set T k (s_fold (tC T k) w), true, fun f x y n hs u p H S hy1 hy2 hW hJ => ?_⟩
    obtain ⟨bs, cc, I⟩ := hJ
    obtain ⟨f1, e1, I1, o1⟩ := J_laf (g := g) I hk (l := 0) (by omega) hw
    rw [laf_0 hy] at e1
    obtain ⟨f2, e2, I2, o2⟩ := J_fold S0 I1 hk hw hy
    refine ⟨f2, n, ?_, AR.t I2 hW hy1 (fun b hb => (o2 b hb).trans (o1 b hb))⟩
    dsimp only
    rw [show h_nt (p_X7_lengthAfterFold V g f x (nn k) w (0 : Int32)) = some (s_len (tK T) (s_fold (tC T k) w) 0, f1) by rw [n_0, e1]; rfl, ob_s]
    dsimp only
    rw [R_obs I1.jr hk hw, ob_s, hy, if_pos (by decide), e2, ob_s]
    dsimp only
    rw [S_cnt I2.jr hk, ob_s, if_pos rfl, S_len0 I2.jr hk, ob_s, if_pos rfl]
  · refine ⟨T, false, fun f x y n hs u p H S hy1 hy2 hW hJ => ?_⟩
    obtain ⟨bs, cc, I⟩ := hJ
    obtain ⟨f1, e1, I1, o1⟩ := J_laf (g := g) I hk (l := 0) (by omega) hw
    rw [laf_n hy] at e1
    refine ⟨f1, n, ?_, AR.no I1 hW hy1 o1⟩
    have hle : ¬ s_why (tC T k) w ≤ (0 : Int32) := by
      rcases why_cs (tC T k) w with ⟨_, q⟩ | ⟨_, q | q⟩
      · rw [q]; decide
      · exact absurd q hy
      · rw [q]; decide
    dsimp only
    rw [show h_nt (p_X7_lengthAfterFold V g f x (nn k) w (0 : Int32)) = some ((-1 : Int32), f1) by rw [n_0, e1]; rfl, ob_s]
    dsimp only
    rw [R_obs I1.jr hk hw, ob_s, if_neg hle, if_pos rfl]
theorem need_v {c : CS} (cv : CoV c) : (cI c = 0 → s_need c = 2) ∧ (cI c ≠ 0 → s_need c = 3) := by
  unfold s_need
  exact ⟨fun h => if_pos h, fun h => if_neg h⟩
theorem A_unfold (S0 : StOK V g) (hv : TV T) (hk : k < tN T) : AO V T (fun x _ f n =>
    (h_nt (p_X7_lengthAt V g f x (nn k) (1 : Int32))).bind fun v127 =>
    (h_nt (p_X7_isIsland V g f x (nn k))).bind fun v128 =>
    (if v128 = (0 : Int32) then
      p_L_act_j445 V g x (nn k) (nn (cN (tC T k))) ((nn (cN (tC T k)) + (1 : Int32)) / (2 : Int32)) v127 (2 : Int32) ((nn (cN (tC T k)) + (1 : Int32)) / (2 : Int32)) f n
    else
      p_L_act_j445 V g x (nn k) (nn (cN (tC T k))) ((nn (cN (tC T k)) + (1 : Int32)) / (2 : Int32)) v127 (3 : Int32) ((nn (cN (tC T k)) + (1 : Int32)) / (2 : Int32)) f n)) := by
  have cv := hv.2.2 k hk
  have n1 := cv.n1
  have n2 := cv.n2
  have hhalf : (nn (cN (tC T k)) + (1 : Int32)) / (2 : Int32) = nn ((cN (tC T k) + 1) / 2) := by rw [nn_s, n_2, nn_div (by omega) (by omega)]
  have hN : cN (s_unf (tC T k)) = (cN (tC T k) + 1) / 2 := rfl
  have hI : cI (s_unf (tC T k)) = cI (tC T k) := rfl
  have hpar : nn (cN (tC T k)) - nn (cN (tC T k)) / (2 : Int32) * (2 : Int32) = nn (cN (tC T k) % 2) := nn_par (by omega)
  by_cases hd : s_need (tC T k) ≤ (cN (tC T k) + 1) / 2
  · refine ⟨ts_set T k (s_unf (tC T k)), true, fun f x y n hs u p H S hy1 hy2 hW hJ => ?_⟩
    obtain ⟨bs, cc, I⟩ := hJ
    obtain ⟨f1, e1, I1, o1⟩ := J_unfold S0 I hk hd
    obtain ⟨q1, q2⟩ := unf_len (w := tK T) cv hd
    refine ⟨f1, n, ?_, AR.t I1 hW hy1 o1⟩
    have h445 : ∀ m : Nat, m = s_need (tC T k) → p_L_act_j445 V g x (nn k) (nn (cN (tC T k))) (nn ((cN (tC T k) + 1) / 2)) (s_len (tK T) (tC T k) 1) (nn m) (nn ((cN (tC T k) + 1) / 2)) f n = some ((1 : Int32), f1, n) := by
      intro m hm
      unfold p_L_act_j445
      rw [if_pos (by rw [nn_le (by omega) (by omega)]; omega), e1, ob_s]
      dsimp only
      rw [if_pos (by rw [hN]), hpar]
      by_cases c1 : cN (tC T k) % 2 = 0
      · rw [if_pos (by rw [c1]; rfl), S_isl I1.jr hk, ob_s, hI]
        by_cases c2 : cI (tC T k) = 0
        · rw [if_pos c2, S_len0 I1.jr hk, ob_s, if_neg (by rw [i_lt]; have := q1 ⟨c1, c2⟩; omega)]
        · rw [if_neg c2]
          unfold p_L_act_j507
          rw [S_len0 I1.jr hk, ob_s, if_pos (q2 (fun h => c2 h.2))]
      · rw [if_neg (fun z => c1 (by rw [n_0, nn_eq (by omega) (by omega)] at z; exact z))]
        unfold p_L_act_j507
        rw [S_len0 I1.jr hk, ob_s, if_pos (q2 (fun h => c1 h.1))]
    dsimp only
    rw [show h_nt (p_X7_lengthAt V g f x (nn k) (1 : Int32)) = some (s_len (tK T) (tC T k) 1) from R_len I.jr hk (l := 1) (by omega), ob_s, R_isl I.jr hk, ob_s, hhalf]
    by_cases z : cI (tC T k) = 0
    · rw [if_pos z]
      exact h445 2 ((need_v cv).1 z).symm
    · rw [if_neg z]
      exact h445 3 ((need_v cv).2 z).symm
  · refine ⟨T, false, fun f x y n hs u p H S hy1 hy2 hW hJ => ?_⟩
    obtain ⟨bs, cc, I⟩ := hJ
    refine ⟨f, n, ?_, AR.no I hW hy1 (fun _ _ => rfl)⟩
    have hst : s_sticks (tC T k) 1 ≤ 3 := by
      have h1 := need_2 (tC T k)
      have h2 : s_need (tC T k) ≤ 3 := by unfold s_need; split <;> omega
      have h3 : (cN (tC T k) - 1) / 2 ≤ 2 := by omega
      unfold s_sticks
      split
      · exact Nat.le_trans h3 (by omega)
      · exact Nat.succ_le_succ h3
    have h445 : ∀ m : Nat, m = s_need (tC T k) → p_L_act_j445 V g x (nn k) (nn (cN (tC T k))) (nn ((cN (tC T k) + 1) / 2)) (s_len (tK T) (tC T k) 1) (nn m) (nn ((cN (tC T k) + 1) / 2)) f n = some ((1 : Int32), f, n) := by
      intro m hm
      have h2 : s_need (tC T k) ≤ 3 := by unfold s_need; split <;> omega
      unfold p_L_act_j445
      rw [if_neg (by rw [nn_le (by omega) (by omega)]; omega), show h_nt (p_X7_stickCount V g f x (nn k) (1 : Int32)) = some (nn (s_sticks (tC T k) 1)) from R_sc I.jr hk (l := 1) (by omega), ob_s, if_neg (by rw [n_3, nn_lt (by omega) (by omega)]; omega)]
    dsimp only
    rw [show h_nt (p_X7_lengthAt V g f x (nn k) (1 : Int32)) = some (s_len (tK T) (tC T k) 1) from R_len I.jr hk (l := 1) (by omega), ob_s, R_isl I.jr hk, ob_s, hhalf]
    by_cases z : cI (tC T k) = 0
    · rw [if_pos z]
      exact h445 2 ((need_v cv).1 z).symm
    · rw [if_neg z]
      exact h445 3 ((need_v cv).2 z).symm
theorem A_move (S0 : StOK V g) (hv : TV T) (hk : k < tN T) {i : Nat} (hi : i < cN (tC T k)) {a b : Int32} (ha : bd a) (hb : bd b) : AO V T (fun x _ f n =>
      (h_nt (p_X7_pointX V g f x (nn k) (nn i))).bind fun v114 =>
      (p_J9_abs_0f7a4 V g f (v114 - a)).bind fun v115 =>
      (h_nt (p_X7_pointY V g f x (nn k) (nn i))).bind fun v116 =>
      (p_J9_abs_0f7a4 V g f (v116 - b)).bind fun v117 =>
      (h_nt (p_X7_movePoint V g f x (nn k) (nn i) a b)).bind fun v118 =>
      (p_X7_usesKingMetric V g v118.2 x).bind fun v119 =>
      (if v119 = (0 : Int32) then
        p_L_act_j597 V g x (nn k) (nn i) a b (v115 + v117) v118.1 v118.2 n
      else
        (p_J9_max_7cf53 V g v118.2 v115 v117).bind fun v126 =>
        p_L_act_j597 V g x (nn k) (nn i) a b v126 v118.1 v118.2 n)) := by
  refine ⟨ts_set T k (s_put (tC T k) i a b), true, fun f x y n hs u p H S hy1 hy2 hW hJ => ?_⟩
  obtain ⟨bs, cc, I⟩ := hJ
  obtain ⟨f1, e1, I1, o1⟩ := J_move S0 I hk hi ha hb
  refine ⟨f1, n, ?_, AR.t I1 hW hy1 o1⟩
  have hp : ∀ t : Int32, t = s_dist (tK T) (cX (tC T k) i - a) (cY (tC T k) i - b) → p_L_act_j597 V g x (nn k) (nn i) a b t (s_dist (tK T) (cX (tC T k) i - a) (cY (tC T k) i - b)) f1 n = some ((1 : Int32), f1, n) := by
    intro t ht
    have hxx : cX (s_put (tC T k) i a b) i = a := upd_s _ _ _
    have hyy : cY (s_put (tC T k) i a b) i = b := upd_s _ _ _
    unfold p_L_act_j597
    rw [if_pos ht.symm, S_px I1.jr hk (i := i) hi, ob_s, hxx, if_pos rfl, S_py I1.jr hk (i := i) hi, ob_s, hyy, if_pos rfl]
  dsimp only
  rw [R_px I.jr hk hi, ob_s, pm_absS, ob_s, R_py I.jr hk hi, ob_s, pm_absS, ob_s, e1, ob_s]
  dsimp only
  rw [R_k I1.jr, ob_s, set_K]
  by_cases z : tK T = 0
  · rw [if_pos z]
    exact hp _ (by unfold s_dist; rw [if_pos z])
  · rw [if_neg z, pm_max, ob_s]
    exact hp _ (by unfold s_dist; rw [if_neg z]; rfl)
theorem A_ins (S0 : StOK V g) (hv : TV T) (hk : k < tN T) {i : Nat} (hi : i < cN (tC T k)) (hn : cN (tC T k) < 129) {a b : Int32} (ha : bd a) (hb : bd b) : AO V T (fun x _ f n =>
          (h_nt (p_X7_lengthAt V g f x (nn k) (0 : Int32))).bind fun v105 =>
          (h_nt (p_X7_insertPoint V g f x (nn k) (nn i) a b)).bind fun v106 =>
          (if v106.1 = (nn (cN (tC T k)) + (1 : Int32)) then
            (h_nt (p_X7_pointX V g v106.2 x (nn k) (nn i))).bind fun v108 =>
            (if v108 = a then
              (h_nt (p_X7_lengthAt V g v106.2 x (nn k) (0 : Int32))).bind fun v110 =>
              (if v110 < v105 then
                some ((0 : Int32), v106.2, n)
              else
                (h_nt (p_X7_lengthWithoutPoint V g v106.2 x (nn k) (nn i))).bind fun v112 =>
                (if v112 = v105 then
                  some ((1 : Int32), v106.2, n)
                else
                  some ((0 : Int32), v106.2, n)))
            else
              some ((0 : Int32), v106.2, n))
          else
            some ((0 : Int32), v106.2, n))) := by
  refine ⟨ts_set T k (s_ins (tC T k) i a b), true, fun f x y n hs u p H S hy1 hy2 hW hJ => ?_⟩
  obtain ⟨bs, cc, I⟩ := hJ
  obtain ⟨f1, e1, I1, o1⟩ := J_ins S0 I hk (i := i) (by omega) hn ha hb
  have cv := hv.2.2 k hk
  have ci := S_v I1.jr hk
  obtain ⟨q1, q2⟩ := ins_len (w := tK T) cv ci (by omega)
  have hN : cN (s_ins (tC T k) i a b) = cN (tC T k) + 1 := rfl
  have hxx : cX (s_ins (tC T k) i a b) i = a := by
    show (if i < i then _ else if i = i then a else _) = a
    rw [if_neg (by omega), if_pos rfl]
  refine ⟨f1, n, ?_, AR.t I1 hW hy1 o1⟩
  dsimp only
  rw [R_len0 I.jr hk, ob_s, e1, ob_s]
  dsimp only
  rw [nn_s, if_pos rfl, S_px I1.jr hk (by rw [hN]; omega), ob_s, hxx, if_pos rfl, S_len0 I1.jr hk, ob_s, if_neg (by rw [i_lt]; omega), S_wo I1.jr hk (by rw [hN]; omega), ob_s, if_pos q1]
end AC

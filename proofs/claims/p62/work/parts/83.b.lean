/-! ===== isFold ===== -/
section IF
variable {V : Nat → Nat} {g f : GH} {x u p bl k n : Nat} {T S : TS} {H : Nat → TS} {hs cc : Int32} {bs : Nat → Int32}
def JE (V : Nat → Nat) (f f1 : GH) (x n n1 : Nat) (T : TS) (hs : Int32) (S : TS) (bl : Nat) (bs : Nat → Int32) (cc : Int32) : Prop := (∃ u p H, JV V f1 x T hs u p H S bl bs cc) ∧ (∀ b, b < x ∨ x + 235 ≤ b → b < n → f1 b = f b) ∧ n ≤ n1
theorem AA.fr {f1 : GH} {a : Nat} {U : TS} (h : AA f a U) (e : f1 a = f a) : AA f1 a U := by
  obtain ⟨r, h1, h2⟩ := h
  exact ⟨r, e.trans h1, h2⟩
theorem why_cs (c : CS) (h : Int32) : (129 < cN c + s_seg c ∧ s_why c h = 1) ∨ (¬ 129 < cN c + s_seg c ∧ (s_why c h = 0 ∨ s_why c h = 2)) := by
  unfold s_why
  by_cases q : 129 < cN c + s_seg c
  · rw [if_pos q]; exact Or.inl ⟨q, rfl⟩
  · rw [if_neg q]
    refine Or.inr ⟨q, ?_⟩
    split
    · exact Or.inl rfl
    · exact Or.inr rfl
theorem fold_V {T : TS} (hv : TV T) (hk : k < tN T) {w : Int32} (hw : -50 ≤ w.toInt ∧ w.toInt ≤ 50) (hy : s_why (tC T k) w = 0) : CoV (s_fold (tC T k) w) :=
  by
  have hc : s_can 3 (tC T k) 0 w 0 := ⟨fun h => (by cases h), sin_of (lo := -50) (hi := 50) hw.1 hw.2, by decide, by show decide _ = true; rw [decide_eq_true_eq]; exact hy⟩
  exact CoV.nc (hv.2.2 k hk) (by omega) (by omega) hc
theorem laf_0 {T : TS} {c : CS} {w : Int32} {l : Nat} (h : s_why c w = 0) : s_laf T c w l = s_len (tK T) (s_fold c w) l := by unfold s_laf; rw [if_pos h]
theorem laf_n {T : TS} {c : CS} {w : Int32} {l : Nat} (h : s_why c w ≠ 0) : s_laf T c w l = -1 := by unfold s_laf; rw [if_neg h]
/-- folding and unfolding, and both taken back -/
theorem L_full (S0 : StOK V g) (I : JV V f x T hs u p H S bl bs cc) (hn : x + 235 ≤ n) (hk : k < tN T) {w : Int32} (hw : -50 ≤ w.toInt ∧ w.toInt ≤ 50) (hy : s_why (tC T k) w = 0) :
    ∃ f1 n1, p_L_isFold_j72 V g x (nn k) w (s_why (tC T k) w) (nn (cN (tC T k))) (nn (cN (tC T k) + s_seg (tC T k))) 0 0 f n = some ((1 : Int32), f1, n1) ∧ JE V f f1 x n n1 T hs S bl bs cc := by
  have cv := I.tv.2.2 k hk
  have n2 := cv.n2
  unfold p_L_isFold_j72
  rw [if_pos rfl]
  by_cases c24 : cN (tC T k) ≤ 24
  · have fv := fold_V I.tv hk hw hy
    obtain ⟨f1, e1, A1, o1⟩ := L_all (V := V) (g := g) I.jr (n := n) (by omega)
    have I1 := I.frame (f1 := f1) (fun a h1 h2 => o1 a (by omega))
    obtain ⟨f2, e2, I2, o2⟩ := J_laf (g := g) I1 hk (l := 0) (by omega) hw
    obtain ⟨f3, e3, I3, o3⟩ := J_laf (g := g) I2 hk (l := 1) (by omega) hw
    rw [laf_0 hy] at e2 e3
    rw [fold_len cv] at e3
    obtain ⟨f4, e4, I4, o4⟩ := J_fold S0 I3 hk hw hy
    have hFC : tC (ts_set T k (s_fold (tC T k) w)) k = s_fold (tC T k) w := set_C T k _
    have k4 : k < tN (ts_set T k (s_fold (tC T k) w)) := hk
    have hU := fold_unf cv w
    have hneed : s_need (tC (ts_set T k (s_fold (tC T k) w)) k) ≤ (cN (tC (ts_set T k (s_fold (tC T k) w)) k) + 1) / 2 := by
      rw [hFC]
      have h1 : (cN (s_fold (tC T k) w) + 1) / 2 = cN (tC T k) := hU.2.1
      rw [h1]
      exact cv.need
    obtain ⟨f5, e5, I5, o5⟩ := J_unfold S0 I4 k4 hneed
    rw [hFC] at e5 I5
    have hu1 := pu_1 (h_pu u)
    have hu8 : u ≤ 8 := I.2.2.2.2.2.2.2.2.2.1
    have hp8 := pu_8 (pu_8 hu8)
    obtain ⟨f6, e6, I6, o6⟩ := J_undo (g := g) I5 (by omega)
    rw [pH_top _ _ _ (pu_8 hu8)] at I6
    have hu2 : h_pu (h_pu u) - 1 ≠ 0 := by unfold h_pu; split <;> split <;> omega
    obtain ⟨f7, e7, I7, o7⟩ := J_undo (g := g) I6 hu2
    rw [pH_low (pu_8 hu8) (pu_1 u), pH_top _ _ _ hu8] at I7
    obtain ⟨f8, e8, A8, o8⟩ := L_all (V := V) (g := g) I7.jr (n := n + 1) (by omega)
    have I8 := I7.frame (f1 := f8) (fun a h1 h2 => o8 a (by omega))
    have os : ∀ b, b < x ∨ x + 235 ≤ b → b < n + 1 → f8 b = f1 b := fun b h1 h2 => (o8 b (by omega)).trans ((o7 b h1).trans ((o6 b h1).trans ((o5 b h1).trans ((o4 b h1).trans ((o3 b h1).trans (o2 b h1))))))
    have A1' : AA f8 n T := A1.fr (os n (by omega) (by omega))
    have hal := L_alike (V := V) (g := g) A8 A1' (TE.rf T) I.tv
    have A5 : AA f5 n T := A1.fr ((o5 n (by omega)).trans ((o4 n (by omega)).trans ((o3 n (by omega)).trans (o2 n (by omega)))))
    have hL := aL_b I.tv
    have hL2 : off T (k + 1) ≤ aL T := off_le T (by omega)
    have hL3 := off_s T k
    have hloop : ∀ (K260 : GH → Nat → Option (Int32 × GH × Nat)) (K268 : Nat → Nat → GH → Nat → Option (Int32 × GH × Nat)) (m : Nat) (d N i : Nat), i + d = cN (tC T k) → d < N → p_L_isFold_l209 V g K260 K268 N x (nn k) (nn (cN (tC T k))) n (nn i) f5 m = K268 x n f5 m := by
      obtain ⟨r, r1, r2⟩ := id A5
      have rb := r2.2.2.2.2.2 k hk
      have hC5 : tC (ts_set (ts_set T k (s_fold (tC T k) w)) k (s_unf (s_fold (tC T k) w))) k = s_unf (s_fold (tC T k) w) := set_C _ k _
      intro K260 K268 m d
      induction d with
      | zero =>
        intro N i he hN
        obtain ⟨N, rfl⟩ : ∃ M, N = M + 1 := ⟨N - 1, by omega⟩
        rw [p_L_isFold_l209, if_pos (by rw [nn_le (by omega) (by omega)]; omega)]
      | succ d ih =>
        intro N i he hN
        obtain ⟨N, rfl⟩ : ∃ M, N = M + 1 := ⟨N - 1, by omega⟩
        have hi : i < cN (tC T k) := by omega
        have hi5 : i < cN (tC (ts_set (ts_set T k (s_fold (tC T k) w)) k (s_unf (s_fold (tC T k) w))) k) := by
          rw [hC5, hU.2.1]; exact hi
        have hX := fold_X (tC T k) w i
        have e25 := R_px (V := V) (g := g) I5.jr k4 hi5
        have e29 := R_py (V := V) (g := g) I5.jr k4 hi5
        rw [hC5] at e25 e29
        rw [show cX (s_unf (s_fold (tC T k) w)) i = cX (tC T k) i from hX.1] at e25
        rw [show cY (s_unf (s_fold (tC T k) w)) i = cY (tC T k) i from hX.2] at e29
        rw [p_L_isFold_l209, if_neg (by rw [nn_le (by omega) (by omega)]; omega), e25, ob_s, L_at A5 I.tv hk hi, ob_s, hli_of r1 (by omega) (by omega), ob_s, if_pos (rb.2.2 i hi).1.symm, e29, ob_s, ob_s, nn_s, hli_of r1 (by omega) (by omega), ob_s, if_pos (by rw [show off T k + 2 + 2 * i + 1 = off T k + 3 + 2 * i by omega]; exact (rb.2.2 i hi).2.symm), nn_s]
        exact ih N (i + 1) (by omega) (by omega)
    refine ⟨f8, n + 1 + 1, ?_, ⟨_, _, _, I8⟩, fun b h1 h2 => (os b h1 (by omega)).trans (o1 b (by omega)), by omega⟩
    rw [if_pos (by rw [show (24 : Int32) = nn 24 from rfl, nn_le (by omega) (by omega)]; exact c24), hy, if_pos (by decide), e1, ob_s]
    dsimp only
    have r0 : h_nt (p_X7_lengthAt V g f1 x (nn k) (0 : Int32)) = some (s_len (tK T) (tC T k) 0) := R_len0 I1.jr hk
    have e2' : h_nt (p_X7_lengthAfterFold V g f1 x (nn k) w (0 : Int32)) = some (s_len (tK T) (s_fold (tC T k) w) 0, f2) := by rw [n_0, e2]; rfl
    have e3' : h_nt (p_X7_lengthAfterFold V g f2 x (nn k) w (1 : Int32)) = some (s_len (tK T) (tC T k) 0, f3) := by rw [n_1, e3]; rfl
    have hle := s_len_le (k := tK T) fv 0
    rw [show 0 + 1 = 1 from rfl, fold_len cv] at hle
    have r4 : h_nt (p_X7_lengthAt V g f4 x (nn k) (0 : Int32)) = some (s_len (tK T) (s_fold (tC T k) w) 0) := by
      have := R_len0 (V := V) (g := g) I4.jr k4
      rw [hFC] at this
      exact this
    have r5 : h_nt (p_X7_lengthAt V g f4 x (nn k) (1 : Int32)) = some (s_len (tK T) (tC T k) 0) := by
      have := R_len (V := V) (g := g) I4.jr k4 (l := 1) (by omega)
      rw [hFC] at this
      rw [n_1, this, set_K, fold_len cv]
    have r6 : h_nt (p_X7_lengthAt V g f5 x (nn k) (0 : Int32)) = some (s_len (tK T) (tC T k) 0) := by
      have := R_len0 (V := V) (g := g) I5.jr k4
      rw [set_C] at this
      rw [this, set_K, set_K, len_CE hU (by rw [hU.2.1]; have := cv.n1; omega)]
    rw [r0, ob_s, e2', ob_s]
    dsimp only
    rw [e3', ob_s]
    dsimp only
    rw [if_pos rfl, if_neg (by rw [i_lt]; omega), e4, ob_s]
    dsimp only
    rw [if_pos (show nn (cN (s_fold (tC T k) w)) = nn (cN (tC T k) + s_seg (tC T k)) from rfl), r4, ob_s, if_pos rfl, r5, ob_s, if_pos rfl, e5, ob_s]
    dsimp only
    rw [if_pos (by rw [hU.2.1]), r6, ob_s, if_pos rfl, n_0, hloop _ _ _ (cN (tC T k)) FU 0 (by omega) (by unfold FU; omega), e6, nt_r, ob_s]
    dsimp only
    rw [if_neg (by rw [nn_lt (by omega) (by omega)]; omega), e7, nt_r, ob_s]
    dsimp only
    rw [if_neg (by rw [nn_lt (by omega) (by omega)]; omega), e8, ob_s]
    dsimp only
    rw [hal, ob_s, if_neg (by decide)]
  · rw [if_neg (by rw [show (24 : Int32) = nn 24 from rfl, nn_le (by omega) (by omega)]; exact c24)]
    exact ⟨f, n, rfl, ⟨⟨_, _, _, I⟩, fun _ _ _ => rfl, Nat.le_refl _⟩⟩
theorem L_isFold (S0 : StOK V g) (I : JV V f x T hs u p H S bl bs cc) (hn : x + 235 ≤ n) (hk : k < tN T) (v : Int32) :
    ∃ f1 n1, p_L_isFold V g f n x (nn k) v = some ((1 : Int32), f1, n1) ∧ JE V f f1 x n n1 T hs S bl bs cc := by
  have cv := I.tv.2.2 k hk
  have n1 := cv.n1
  have n2 := cv.n2
  have hm := mo_lt v (show 1 ≤ 101 by omega)
  have hw : -50 ≤ (nn (mo v 101) - (50 : Int32)).toInt ∧ (nn (mo v 101) - (50 : Int32)).toInt ≤ 50 := by
    rw [i_sub (b := 50) (by rw [nn_i (by omega)]; show _ ≤ _ - (50 : Int); omega) (by rw [nn_i (by omega)]; show _ - (50 : Int) < _; omega), nn_i (by omega), show (50 : Int32).toInt = 50 from rfl]
    omega
  have hmain : ∃ f1 n1, p_L_isFold_j46 V g x (nn k) (nn (mo v 101) - (50 : Int32)) (s_why (tC T k) (nn (mo v 101) - (50 : Int32))) (nn (cN (tC T k))) (nn (cN (tC T k) + s_seg (tC T k))) f n = some ((1 : Int32), f1, n1) ∧ JE V f f1 x n n1 T hs S bl bs cc := by
    generalize nn (mo v 101) - (50 : Int32) = w at hw ⊢
    have hseg := s_seg_le (tC T k)
    unfold p_L_isFold_j46 p_L_isFold_j59
    rcases why_cs (tC T k) w with ⟨q1, q2⟩ | ⟨q1, q2⟩
    · have c24 : ¬ cN (tC T k) ≤ 24 := by omega
      rw [if_pos q2, if_neg (by rw [show (129 : Int32) = nn 129 from rfl, nn_le (by omega) (by omega)]; omega)]
      unfold p_L_isFold_j72
      rw [if_pos rfl, if_neg (by rw [show (24 : Int32) = nn 24 from rfl, nn_le (by omega) (by omega)]; exact c24)]
      exact ⟨f, n, rfl, ⟨⟨_, _, _, I⟩, fun _ _ _ => rfl, Nat.le_refl _⟩⟩
    · have hne : ¬ s_why (tC T k) w = 1 := fun z => by rw [z] at q2; rcases q2 with h | h <;> exact absurd h (by decide)
      rw [if_neg hne, if_pos (by rw [show (129 : Int32) = nn 129 from rfl, nn_le (by omega) (by omega)]; omega)]
      rcases q2 with q2 | q2
      · exact L_full S0 I hn hk hw q2
      · unfold p_L_isFold_j72
        rw [if_pos rfl]
        by_cases c24 : cN (tC T k) ≤ 24
        · obtain ⟨f2, e2, I2, o2⟩ := J_laf (g := g) I hk (l := 0) (by omega) hw
          rw [laf_n (by rw [q2]; decide)] at e2
          refine ⟨f2, n, ?_, ⟨⟨_, _, _, I2⟩, fun b h1 _ => o2 b h1, Nat.le_refl _⟩⟩
          rw [if_pos (by rw [show (24 : Int32) = nn 24 from rfl, nn_le (by omega) (by omega)]; exact c24), if_neg (by rw [q2]; decide), show h_nt (p_X7_lengthAfterFold V g f x (nn k) w (0 : Int32)) = some ((-1 : Int32), f2) by rw [n_0, e2]; rfl, ob_s]
          dsimp only
          rw [if_pos rfl]
        · rw [if_neg (by rw [show (24 : Int32) = nn 24 from rfl, nn_le (by omega) (by omega)]; exact c24)]
          exact ⟨f, n, rfl, ⟨⟨_, _, _, I⟩, fun _ _ _ => rfl, Nat.le_refl _⟩⟩
  obtain ⟨f1, m1, e1, e2⟩ := hmain
  refine ⟨f1, m1, ?_, e2⟩
  unfold p_L_isFold
  rw [show p_L_most V g f v (101 : Int32) = some (nn (mo v 101)) from L_most V g f v (b := 101) (by omega) (by omega), ob_s, R_obs I.jr hk hw, ob_s, R_cnt I.jr hk, ob_s, R_isl I.jr hk, ob_s]
  have hs0 : ∀ z : cI (tC T k) = 0, (2 : Int32) * nn (cN (tC T k)) - (1 : Int32) = nn (cN (tC T k) + s_seg (tC T k)) := fun z => by
    unfold s_seg
    rw [if_pos z, nn_d, nn_p (by omega)]
    congr 1
    omega
  have hs1 : ∀ z : cI (tC T k) ≠ 0, (2 : Int32) * nn (cN (tC T k)) = nn (cN (tC T k) + s_seg (tC T k)) := fun z => by
    unfold s_seg
    rw [if_neg z, nn_d]
    congr 1
    omega
  by_cases z : cI (tC T k) = 0
  · rw [if_pos z, hs0 z]
    exact e1
  · rw [if_neg z, hs1 z]
    exact e1
end IF

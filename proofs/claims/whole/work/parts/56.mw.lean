/-! ===== the reference's row: writes ===== -/
theorem nn_div {a b : Nat} (ha : a < 2147483648) (hb : b < 2147483648) : nn a / nn b = nn (a / b) := (Int32.ofNat_div ha hb).symm
theorem lay_x (r : Nat → Int32) (i k : Nat) (x y : Int32) : lay r i k x y (7 + 260 * i + 2 * k) = x := by
  unfold lay
  rw [upd_n _ _ (by omega), upd_s]
theorem lay_y (r : Nat → Int32) (i k : Nat) (x y : Int32) : lay r i k x y (8 + 260 * i + 2 * k) = y := by
  unfold lay
  rw [upd_s]
theorem lay_n (r : Nat → Int32) (i k : Nat) (x y : Int32) {j : Nat} (h1 : j ≠ 7 + 260 * i + 2 * k) (h2 : j ≠ 8 + 260 * i + 2 * k) : lay r i k x y j = r j := by
  unfold lay
  rw [upd_n _ _ h2, upd_n _ _ h1]
/-- the places from a on, k of them, hold the points P -/
def Pts (r : Nat → Int32) (i lo hi : Nat) (X Y : Nat → Int32) : Prop := ∀ k, lo ≤ k → k < hi → r (7 + 260 * i + 2 * k) = X k ∧ r (8 + 260 * i + 2 * k) = Y k
theorem Pts.lay_in {r : Nat → Int32} {i lo hi : Nat} {X Y : Nat → Int32} {k : Nat} {x y : Int32} (h : ∀ j, lo ≤ j → j < hi → j ≠ k → r (7 + 260 * i + 2 * j) = X j ∧ r (8 + 260 * i + 2 * j) = Y j) (hx : lo ≤ k → k < hi → x = X k ∧ y = Y k) : Pts (lay r i k x y) i lo hi X Y := by
  intro j h1 h2
  by_cases q : j = k
  · subst q
    rw [lay_x, lay_y]
    exact hx h1 h2
  · rw [lay_n _ _ _ _ _ (by omega) (by omega), lay_n _ _ _ _ _ (by omega) (by omega)]
    exact h j h1 h2 q
/-- nothing but the points of coastline i changed -/
def Oth (r r1 : Nat → Int32) (i : Nat) : Prop := ∀ j, j < 7 + 260 * i ∨ 265 + 260 * i ≤ j → r1 j = r j
theorem Oth.rf (r : Nat → Int32) (i : Nat) : Oth r r i := fun _ _ => rfl
theorem Oth.lay {r r1 : Nat → Int32} {i k : Nat} {x y : Int32} (h : Oth r r1 i) (hk : k < 129) : Oth r (lay r1 i k x y) i := fun j hj => by
  rw [lay_n _ _ _ _ _ (by omega) (by omega)]
  exact h j hj
section MW
variable {V : Nat → Nat} {g f0 : GH} {m b : Nat} {z : Nat → Int32} {A : Nat → Nat → Int32} {i : Nat} {c : CS}
theorem M_countR (hb : b < 2) (hi : i ≤ 6) : p_X8_count V g (mH V m b z A f0) m (nn i) = some (A b (6 + 260 * i)) := by
  have := mL_row hb
  unfold p_X8_count
  simp only [m_me, m_row, p_at, ob_s, nn_s]
  rw [m_li (by omega) (by omega), ob_s, show 5 + 260 * i + 1 = 6 + 260 * i by omega]
theorem M_xR (hb : b < 2) (hi : i ≤ 6) {k : Nat} (hk : k < 129) : p_X8_x V g (mH V m b z A f0) m (nn i) (nn k) = some (A b (7 + 260 * i + 2 * k)) := by
  have := mL_row hb
  unfold p_X8_x
  simp only [m_me, m_row, p_at, ob_s, nn_a2, nn_d, nn_add]
  rw [m_li (by omega) (by omega), ob_s, show 5 + 260 * i + 2 + 2 * k = 7 + 260 * i + 2 * k by omega]
theorem M_yR (hb : b < 2) (hi : i ≤ 6) {k : Nat} (hk : k < 129) : p_X8_y V g (mH V m b z A f0) m (nn i) (nn k) = some (A b (8 + 260 * i + 2 * k)) := by
  have := mL_row hb
  unfold p_X8_y
  simp only [m_me, m_row, p_at, ob_s, nn_a2, nn_d, nn_add, nn_s]
  rw [m_li (by omega) (by omega), ob_s, show 5 + 260 * i + 2 + 2 * k + 1 = 8 + 260 * i + 2 * k by omega]
theorem M_copyCoast {j : Nat} (hb : b < 2) (hi : i ≤ 6) (hj : j ≤ 6) : p_X8_copyCoast V g (mH V m b z A f0) m (nn i) (nn j) = some (mH V m b z (upA A b (va_cpy (A b) (A b) (5 + 260 * i) (5 + 260 * j) 260)) f0) := by
  have := mL_row hb
  unfold p_X8_copyCoast
  simp only [m_me, m_row, p_at, ob_s, n_260]
  rw [m_cp (by omega) (by omega) (by omega) (by omega), ob_s]
theorem RC_cpy {r : Nat → Int32} {j : Nat} (h : RC r i c) (hn : cN c ≤ 129) : RC (va_cpy r r (5 + 260 * i) (5 + 260 * j) 260) j c := by
  obtain ⟨h1, h2, h3⟩ := h
  refine ⟨?_, ?_, fun k hk => ?_⟩
  · rw [cpy_in (by omega) (by omega), ← h1]
    congr 1
    omega
  · rw [cpy_in (by omega) (by omega), ← h2]
    congr 1
    omega
  · rw [cpy_in (by omega) (by omega), cpy_in (by omega) (by omega), ← (h3 k hk).1, ← (h3 k hk).2]
    exact ⟨by congr 1; omega, by congr 1; omega⟩
theorem M_cut_l (hb : b < 2) (hi : i ≤ 6) (r0 : Nat → Int32) {n p : Nat} (hn : n ≤ 128) (hr : r0 (6 + 260 * i) = nn n) (hp : p ≤ n) (K : GH → Option GH) : ∀ (d N k : Nat), k + d = 7 + 260 * i + 2 * n → d < N → 7 + 260 * i + 2 * p ≤ k →
    p_X8_cut_l29 V g K N m (nn i) (nn k) (mH V m b z (upA A b (fun j => if 7 + 260 * i + 2 * p ≤ j ∧ j < k then r0 (j + 2) else r0 j)) f0) = K (mH V m b z (upA A b (fun j => if 7 + 260 * i + 2 * p ≤ j ∧ j < 7 + 260 * i + 2 * n then r0 (j + 2) else r0 j)) f0) := by
  have hL := mL_row hb
  intro d
  induction d with
  | zero =>
    intro N k he hN hk
    obtain ⟨N, rfl⟩ : ∃ M, N = M + 1 := ⟨N - 1, by omega⟩
    have : k = 7 + 260 * i + 2 * n := by omega
    subst this
    rw [p_X8_cut_l29, p_at, ob_s, M_countR hb hi, ob_s, upA_s]
    rw [if_neg (show ¬ (7 + 260 * i + 2 * p ≤ 6 + 260 * i ∧ 6 + 260 * i < 7 + 260 * i + 2 * n) by omega), hr, nn_a2, nn_d, nn_add, if_pos (by rw [nn_le (by omega) (by omega)]; omega)]
  | succ d ih =>
    intro N k he hN hk
    obtain ⟨N, rfl⟩ : ∃ M, N = M + 1 := ⟨N - 1, by omega⟩
    rw [p_X8_cut_l29, p_at, ob_s, M_countR hb hi, ob_s, upA_s]
    rw [if_neg (show ¬ (7 + 260 * i + 2 * p ≤ 6 + 260 * i ∧ 6 + 260 * i < k) by omega), hr, nn_a2, nn_d, nn_add, if_neg (by rw [nn_le (by omega) (by omega)]; omega)]
    simp only [m_row, ob_s, nn_a2, nn_s]
    rw [m_li (by omega) (by omega), ob_s, m_si (by omega) (by omega), ob_s, upA_u, upA_s]
    have ih0 := ih N (k + 1) (by omega) (by omega) (by omega)
    rw [← ih0]
    congr 3
    funext j
    by_cases q : j = k
    · subst q
      rw [upd_s, if_neg (by omega), if_pos (by omega)]
    · rw [upd_n _ _ q]
      by_cases q2 : 7 + 260 * i + 2 * p ≤ j ∧ j < k
      · rw [if_pos q2, if_pos (by omega)]
      · rw [if_neg q2, if_neg (by omega)]
def cutR (r0 : Nat → Int32) (i p n : Nat) : Nat → Int32 := fun j => if 7 + 260 * i + 2 * p ≤ j ∧ j < 7 + 260 * i + 2 * n then r0 (j + 2) else r0 j
theorem cutR_in (r0 : Nat → Int32) {i p n j : Nat} (h : 7 + 260 * i + 2 * p ≤ j) (h2 : j < 7 + 260 * i + 2 * n) : cutR r0 i p n j = r0 (j + 2) := by
  unfold cutR
  rw [if_pos ⟨h, h2⟩]
theorem cutR_out (r0 : Nat → Int32) {i p n j : Nat} (h : j < 7 + 260 * i + 2 * p ∨ 7 + 260 * i + 2 * n ≤ j) : cutR r0 i p n j = r0 j := by
  unfold cutR
  rw [if_neg (by omega)]
theorem M_cut (hb : b < 2) (hi : i ≤ 6) (h : RC (A b) i c) (hn1 : 1 ≤ cN c) (hn : cN c ≤ 129) {p : Nat} (hp : p < cN c) : ∃ r1, p_X8_cut V g (mH V m b z A f0) m (nn i) (nn p) = some (mH V m b z (upA A b r1) f0) ∧ RC r1 i (s_cut c p) ∧ ∀ j, j < 5 + 260 * i ∨ 265 + 260 * i ≤ j → r1 j = A b j := by
  have hL := mL_row hb
  have hl := M_cut_l (V := V) (g := g) (m := m) (z := z) (A := A) (f0 := f0) hb hi (upd (A b) (6 + 260 * i) (nn (cN c - 1))) (n := cN c - 1) (p := p) (by omega) (upd_s _ _ _) (by omega) (fun f => some f) (7 + 260 * i + 2 * (cN c - 1) - (7 + 260 * i + 2 * p)) FU (7 + 260 * i + 2 * p) (by omega) (by unfold FU; omega) (Nat.le_refl _)
  have e0 : (fun j => if 7 + 260 * i + 2 * p ≤ j ∧ j < 7 + 260 * i + 2 * p then upd (A b) (6 + 260 * i) (nn (cN c - 1)) (j + 2) else upd (A b) (6 + 260 * i) (nn (cN c - 1)) j) = upd (A b) (6 + 260 * i) (nn (cN c - 1)) := by
    funext j
    rw [if_neg (by omega)]
  rw [e0] at hl
  refine ⟨cutR (upd (A b) (6 + 260 * i) (nn (cN c - 1))) i p (cN c - 1), ?_, ⟨?_, ?_, fun k hk => ?_⟩, fun j hj => ?_⟩
  · unfold p_X8_cut
    simp only [m_me, m_row, p_at, ob_s, nn_a2, nn_d, nn_add, nn_s]
    rw [m_li (by omega) (by omega), ob_s, show 5 + 260 * i + 1 = 6 + 260 * i by omega, h.2.1, nn_p hn1, m_si (by omega) (by omega), ob_s, show 5 + 260 * i + 2 + 2 * p = 7 + 260 * i + 2 * p by omega]
    exact hl
  · rw [cutR_out _ (by omega), upd_n _ _ (by omega)]
    exact h.1
  · rw [cutR_out _ (by omega), upd_s]
    rfl
  · have hk' : k < cN c - 1 := hk
    show _ = (if k < p then cX c k else cX c (k + 1)) ∧ _ = (if k < p then cY c k else cY c (k + 1))
    by_cases q : k < p
    · rw [cutR_out _ (by omega), cutR_out _ (by omega), upd_n _ _ (by omega), upd_n _ _ (by omega), if_pos q, if_pos q]
      exact h.2.2 k (by omega)
    · rw [cutR_in _ (by omega) (by omega), cutR_in _ (by omega) (by omega), upd_n _ _ (by omega), upd_n _ _ (by omega), if_neg q, if_neg q]
      have := h.2.2 (k + 1) (by omega)
      rw [show 7 + 260 * i + 2 * k + 2 = 7 + 260 * i + 2 * (k + 1) by omega, show 8 + 260 * i + 2 * k + 2 = 8 + 260 * i + 2 * (k + 1) by omega]
      exact this
  · rw [cutR_out _ (by omega), upd_n _ _ (by omega)]
theorem M_unf_l (hb : b < 2) (hi : i ≤ 6) {N0 : Nat} (hN0 : N0 ≤ 129) (r0 X Y : Nat → Int32) (L : Nat) (hL : 2 * L ≤ N0 + 1) (K : Nat → Int32 → Int32 → GH → Option (Int32 × GH)) : ∀ (d N t : Nat) (A : Nat → Nat → Int32), t + d = L → d < N → Pts (A b) i 0 t (fun k => X (2 * k)) (fun k => Y (2 * k)) → Pts (A b) i t N0 X Y → Oth r0 (A b) i →
    ∃ r1, p_X8_doUnfold_l49 V g K N m (nn i) (nn L) (nn t) (mH V m b z A f0) = K m (nn i) (nn L) (mH V m b z (upA A b r1) f0) ∧ Pts r1 i 0 L (fun k => X (2 * k)) (fun k => Y (2 * k)) ∧ Oth r0 r1 i := by
  intro d
  induction d with
  | zero =>
    intro N t A he hN h1 h2 h3
    obtain ⟨N, rfl⟩ : ∃ M, N = M + 1 := ⟨N - 1, by omega⟩
    have : t = L := by omega
    subst this
    refine ⟨A b, ?_, h1, h3⟩
    rw [p_X8_doUnfold_l49, if_pos (Int32.le_refl _), upA_e]
  | succ d ih =>
    intro N t A he hN h1 h2 h3
    obtain ⟨N, rfl⟩ : ∃ M, N = M + 1 := ⟨N - 1, by omega⟩
    have e1 : A b (7 + 260 * i + 2 * (2 * t)) = X (2 * t) ∧ A b (8 + 260 * i + 2 * (2 * t)) = Y (2 * t) := h2 (2 * t) (by omega) (by omega)
    obtain ⟨r1, q1, q2, q3⟩ := ih N (t + 1) (upA A b (lay (A b) i t (X (2 * t)) (Y (2 * t)))) (by omega) (by omega) (by rw [upA_s]; exact Pts.lay_in (fun j a1 a2 a3 => h1 j a1 (by omega)) (fun _ _ => ⟨rfl, rfl⟩)) (by rw [upA_s]; exact Pts.lay_in (fun j a1 a2 a3 => h2 j (by omega) a2) (fun a1 _ => by omega)) (by rw [upA_s]; exact h3.lay (by omega))
    refine ⟨r1, ?_, q2, q3⟩
    rw [p_X8_doUnfold_l49, if_neg (by rw [nn_le (by omega) (by omega)]; omega), nn_d, M_xR hb hi (by omega), ob_s, M_yR hb hi (by omega), ob_s, e1.1, e1.2, M_lay hb hi (by omega), ob_s, nn_s, q1, upA_u]
theorem M_insL (hb : b < 2) (hi : i ≤ 6) {N0 : Nat} (hN0 : N0 ≤ 128) (r0 X Y : Nat → Int32) (p : Nat) (x y : Int32) (K : Nat → Int32 → Int32 → Int32 → Int32 → GH → Option (Int32 × GH)) : ∀ (d N t : Nat) (A : Nat → Nat → Int32), t = p + d → d < N → t ≤ N0 → Pts (A b) i (t + 1) (N0 + 1) (fun k => X (k - 1)) (fun k => Y (k - 1)) → Pts (A b) i 0 (if t = N0 then N0 else t + 1) X Y → Oth r0 (A b) i →
    ∃ r1, p_X8_doInsert_l43 V g K N m (nn i) (nn p) x y (nn t) (mH V m b z A f0) = K m (nn i) (nn p) x y (mH V m b z (upA A b r1) f0) ∧ Pts r1 i (p + 1) (N0 + 1) (fun k => X (k - 1)) (fun k => Y (k - 1)) ∧ Pts r1 i 0 p X Y ∧ Oth r0 r1 i := by
  intro d
  induction d with
  | zero =>
    intro N t A he hN ht h1 h2 h3
    obtain ⟨N, rfl⟩ : ∃ M, N = M + 1 := ⟨N - 1, by omega⟩
    have : t = p := by omega
    subst this
    refine ⟨A b, ?_, h1, fun k a1 a2 => h2 k a1 (by split <;> omega), h3⟩
    rw [p_X8_doInsert_l43, if_pos (Int32.le_refl _), upA_e]
  | succ d ih =>
    intro N t A he hN ht h1 h2 h3
    obtain ⟨N, rfl⟩ : ∃ M, N = M + 1 := ⟨N - 1, by omega⟩
    have e1 : A b (7 + 260 * i + 2 * (t - 1)) = X (t - 1) ∧ A b (8 + 260 * i + 2 * (t - 1)) = Y (t - 1) := h2 (t - 1) (by omega) (by split <;> omega)
    obtain ⟨r1, q1, q2, q3, q4⟩ := ih N (t - 1) (upA A b (lay (A b) i t (X (t - 1)) (Y (t - 1)))) (by omega) (by omega) (by omega) (by rw [upA_s]; exact Pts.lay_in (fun j a1 a2 a3 => h1 j (by omega) a2) (fun _ _ => ⟨rfl, rfl⟩)) (by rw [upA_s]; exact Pts.lay_in (fun j a1 a2 a3 => h2 j a1 (by split at a2 <;> split <;> omega)) (fun a1 a2 => by split at a2 <;> omega)) (by rw [upA_s]; exact h3.lay (by omega))
    refine ⟨r1, ?_, q2, q3, q4⟩
    rw [p_X8_doInsert_l43, if_neg (by rw [nn_le (by omega) (by omega)]; omega), nn_p (by omega), M_xR hb hi (by omega), ob_s, M_yR hb hi (by omega), ob_s, e1.1, e1.2, M_lay hb hi (by omega), ob_s, nn_dm (by omega), q1, upA_u]
/-- whether all points may be shifted -/
def s_may (c : CS) (dx dy : Int32) : Nat → Nat → Bool
  | 0, _ => true
  | d + 1, k => s_in (-1000) 1000 (cX c k + dx) && s_in (-1000) 1000 (cY c k + dy) && s_may c dx dy d (k + 1)
theorem M_may_l (hb : b < 2) (hi : i ≤ 6) (h : RC (A b) i c) (hn : cN c ≤ 129) (dx dy : Int32) (K : GH → Option (Int32 × GH)) (K2 : Nat → Int32 → Int32 → Int32 → GH → Option (Int32 × GH)) : ∀ (d N t : Nat), t + d = cN c → d < N → p_X8_doShift_l13 V g K K2 N m (nn i) dx dy (nn t) (mH V m b z A f0) = if s_may c dx dy d t = true then K2 m (nn i) dx dy (mH V m b z A f0) else K (mH V m b z A f0) := by
  intro d
  induction d with
  | zero =>
    intro N t he hN
    obtain ⟨N, rfl⟩ : ∃ M, N = M + 1 := ⟨N - 1, by omega⟩
    rw [p_X8_doShift_l13, M_count hb hi h, ob_s, if_pos (by rw [nn_le (by omega) (by omega)]; omega), s_may, if_pos rfl]
  | succ d ih =>
    intro N t he hN
    obtain ⟨N, rfl⟩ : ∃ M, N = M + 1 := ⟨N - 1, by omega⟩
    have hlt : t < cN c := by omega
    rw [p_X8_doShift_l13, M_count hb hi h, ob_s, if_neg (by rw [nn_le (by omega) (by omega)]; omega), M_x hb hi h hn hlt, ob_s, M_y hb hi h hn hlt, ob_s, M_pos, ob_s, s_may]
    cases s_in (-1000) 1000 (cX c t + dx) && s_in (-1000) 1000 (cY c t + dy) with
    | false => rw [if_pos bz_f, Bool.false_and, if_neg Bool.false_ne_true]
    | true =>
      rw [if_neg bz_tn, Bool.true_and, nn_s]
      exact ih N (t + 1) (by omega) (by omega)
theorem M_mv_l (hb : b < 2) (hi : i ≤ 6) {N0 : Nat} (hN0 : N0 ≤ 129) (r0 X Y : Nat → Int32) (hr : r0 (6 + 260 * i) = nn N0) (dx dy : Int32) (K : GH → Option (Int32 × GH)) : ∀ (d N t : Nat) (A : Nat → Nat → Int32), t + d = N0 → d < N → Pts (A b) i 0 t (fun k => X k + dx) (fun k => Y k + dy) → Pts (A b) i t N0 X Y → Oth r0 (A b) i →
    ∃ r1, p_X8_doShift_l58 V g K N m (nn i) dx dy (nn t) (mH V m b z A f0) = K (mH V m b z (upA A b r1) f0) ∧ Pts r1 i 0 N0 (fun k => X k + dx) (fun k => Y k + dy) ∧ Oth r0 r1 i := by
  intro d
  induction d with
  | zero =>
    intro N t A he hN h1 h2 h3
    obtain ⟨N, rfl⟩ : ∃ M, N = M + 1 := ⟨N - 1, by omega⟩
    have : t = N0 := by omega
    subst this
    refine ⟨A b, ?_, h1, h3⟩
    rw [p_X8_doShift_l58, M_countR hb hi, ob_s, h3 _ (by omega), hr, if_pos (Int32.le_refl _), upA_e]
  | succ d ih =>
    intro N t A he hN h1 h2 h3
    obtain ⟨N, rfl⟩ : ∃ M, N = M + 1 := ⟨N - 1, by omega⟩
    have e1 := h2 t (Nat.le_refl _) (by omega)
    obtain ⟨r1, q1, q2, q3⟩ := ih N (t + 1) (upA A b (lay (A b) i t (X t + dx) (Y t + dy))) (by omega) (by omega) (by rw [upA_s]; exact Pts.lay_in (fun j a1 a2 a3 => h1 j a1 (by omega)) (fun _ _ => ⟨rfl, rfl⟩)) (by rw [upA_s]; exact Pts.lay_in (fun j a1 a2 a3 => h2 j (by omega) a2) (fun a1 _ => by omega)) (by rw [upA_s]; exact h3.lay (by omega))
    refine ⟨r1, ?_, q2, q3⟩
    rw [p_X8_doShift_l58, M_countR hb hi, ob_s, h3 _ (by omega), hr, if_neg (by rw [nn_le (by omega) (by omega)]; omega), M_xR hb hi (by omega), ob_s, M_yR hb hi (by omega), ob_s, e1.1, e1.2, M_lay hb hi (by omega), ob_s, nn_s, q1, upA_u]
theorem M_rev_l (hb : b < 2) (hi : i < 6) {N0 : Nat} (hN0 : N0 ≤ 129) (r0 X Y : Nat → Int32) (hr : r0 (6 + 260 * i) = nn N0) (hs : Pts r0 6 0 N0 X Y) (K : GH → Option (Int32 × GH)) : ∀ (d N t : Nat) (A : Nat → Nat → Int32), t + d = N0 → d < N → Pts (A b) i 0 t (fun k => X (N0 - 1 - k)) (fun k => Y (N0 - 1 - k)) → Oth r0 (A b) i →
    ∃ r1, p_X8_doReverse_l19 V g K N m (nn i) (nn t) (mH V m b z A f0) = K (mH V m b z (upA A b r1) f0) ∧ Pts r1 i 0 N0 (fun k => X (N0 - 1 - k)) (fun k => Y (N0 - 1 - k)) ∧ Oth r0 r1 i := by
  intro d
  induction d with
  | zero =>
    intro N t A he hN h1 h3
    obtain ⟨N, rfl⟩ : ∃ M, N = M + 1 := ⟨N - 1, by omega⟩
    have : t = N0 := by omega
    subst this
    refine ⟨A b, ?_, h1, h3⟩
    rw [p_X8_doReverse_l19, M_countR hb (by omega), ob_s, h3 _ (by omega), hr, if_pos (Int32.le_refl _), upA_e]
  | succ d ih =>
    intro N t A he hN h1 h3
    obtain ⟨N, rfl⟩ : ∃ M, N = M + 1 := ⟨N - 1, by omega⟩
    have e1 := hs (N0 - 1 - t) (by omega) (by omega)
    obtain ⟨r1, q1, q2, q3⟩ := ih N (t + 1) (upA A b (lay (A b) i t (X (N0 - 1 - t)) (Y (N0 - 1 - t)))) (by omega) (by omega) (by rw [upA_s]; exact Pts.lay_in (fun j a1 a2 a3 => h1 j a1 (by omega)) (fun _ _ => ⟨rfl, rfl⟩)) (by rw [upA_s]; exact h3.lay (by omega))
    refine ⟨r1, ?_, q2, q3⟩
    rw [p_X8_doReverse_l19, M_countR hb (by omega), ob_s, h3 _ (by omega), hr, if_neg (by rw [nn_le (by omega) (by omega)]; omega), ob_s, nn_p (by omega), nn_sub (by omega), show (6 : Int32) = nn 6 from rfl, M_xR hb (by omega) (by omega), ob_s, M_yR hb (by omega) (by omega), ob_s, h3 _ (by omega), h3 _ (by omega), e1.1, e1.2, M_lay hb (by omega) (by omega), ob_s, nn_s, q1, upA_u]
end MW

/-! ===== the reference's row: coastlines in it, what is read of them ===== -/
def RC (r : Nat → Int32) (i : Nat) (c : CS) : Prop := r (5 + 260 * i) = cI c ∧ r (6 + 260 * i) = nn (cN c) ∧ ∀ k, k < cN c → r (7 + 260 * i + 2 * k) = cX c k ∧ r (8 + 260 * i + 2 * k) = cY c k
theorem RC.frame {r r1 : Nat → Int32} {i : Nat} {c : CS} (h : RC r i c) (hn : cN c ≤ 129) (e : ∀ k, 5 + 260 * i ≤ k → k < 265 + 260 * i → r1 k = r k) : RC r1 i c := by
  obtain ⟨h1, h2, h3⟩ := h
  refine ⟨by rw [e _ (by omega) (by omega), h1], by rw [e _ (by omega) (by omega), h2], fun k hk => ?_⟩
  rw [e _ (by omega) (by omega), e _ (by omega) (by omega)]
  exact h3 k hk
theorem p_at (V : Nat → Nat) (g f : GH) (i : Nat) : p_X8_at V g f (nn i) = some (nn (5 + 260 * i)) := by
  unfold p_X8_at
  rw [n_5, n_260, nn_mul, nn_add]
theorem nn_a0 (k : Nat) : nn k + (0 : Int32) = nn k := by rw [n_0, nn_add]; rfl
theorem nn_a2 (k : Nat) : nn k + (2 : Int32) = nn (k + 2) := by rw [n_2, nn_add]
section MR
variable {V : Nat → Nat} {g f0 : GH} {m b : Nat} {z : Nat → Int32} {A : Nat → Nat → Int32} {i : Nat} {c : CS}
theorem M_count (hb : b < 2) (hi : i ≤ 6) (h : RC (A b) i c) : p_X8_count V g (mH V m b z A f0) m (nn i) = some (nn (cN c)) := by
  have := mL_row hb
  unfold p_X8_count
  simp only [m_me, m_row, p_at, ob_s, nn_s]
  rw [m_li (by omega) (by omega), ob_s, show 5 + 260 * i + 1 = 6 + 260 * i by omega, h.2.1]
theorem M_island (hb : b < 2) (hi : i ≤ 6) (h : RC (A b) i c) (hc : cI c = 0 ∨ cI c = 1) : p_X8_island V g (mH V m b z A f0) m (nn i) = some (cI c) := by
  have := mL_row hb
  unfold p_X8_island
  simp only [m_me, m_row, p_at, ob_s, nn_a0]
  rw [m_li (by omega) (by omega), ob_s, h.1]
  rcases hc with h | h <;> rw [h] <;> rfl
theorem M_x (hb : b < 2) (hi : i ≤ 6) (h : RC (A b) i c) (hn : cN c ≤ 129) {k : Nat} (hk : k < cN c) : p_X8_x V g (mH V m b z A f0) m (nn i) (nn k) = some (cX c k) := by
  have := mL_row hb
  unfold p_X8_x
  simp only [m_me, m_row, p_at, ob_s, nn_a2, nn_d, nn_add]
  rw [m_li (by omega) (by omega), ob_s, show 5 + 260 * i + 2 + 2 * k = 7 + 260 * i + 2 * k by omega, (h.2.2 k hk).1]
theorem M_y (hb : b < 2) (hi : i ≤ 6) (h : RC (A b) i c) (hn : cN c ≤ 129) {k : Nat} (hk : k < cN c) : p_X8_y V g (mH V m b z A f0) m (nn i) (nn k) = some (cY c k) := by
  have := mL_row hb
  unfold p_X8_y
  simp only [m_me, m_row, p_at, ob_s, nn_a2, nn_d, nn_add, nn_s]
  rw [m_li (by omega) (by omega), ob_s, show 5 + 260 * i + 2 + 2 * k + 1 = 8 + 260 * i + 2 * k by omega, (h.2.2 k hk).2]
/-- a point is laid: where it stands in the row -/
def lay (r : Nat → Int32) (i k : Nat) (x y : Int32) : Nat → Int32 := upd (upd r (7 + 260 * i + 2 * k) x) (8 + 260 * i + 2 * k) y
theorem M_lay (hb : b < 2) (hi : i ≤ 6) {k : Nat} (hk : k < 129) (x y : Int32) : p_X8_layPoint V g (mH V m b z A f0) m (nn i) (nn k) x y = some (mH V m b z (upA A b (lay (A b) i k x y)) f0) := by
  have := mL_row hb
  unfold p_X8_layPoint
  simp only [m_me, m_row, p_at, ob_s, nn_a2, nn_d, nn_add, nn_s]
  rw [m_si (by omega) (by omega), ob_s]
  simp only [m_row, ob_s]
  rw [m_si (by omega) (by omega), ob_s, upA_s]
  unfold lay
  rw [show 5 + 260 * i + 2 + 2 * k = 7 + 260 * i + 2 * k by omega, show 7 + 260 * i + 2 * k + 1 = 8 + 260 * i + 2 * k by omega]
  congr 2
  funext j
  by_cases h : j = b
  · subst h
    rw [upA_s, upA_s]
  · rw [upA_n _ _ h, upA_n _ _ h, upA_n _ _ h]
theorem M_fewest (hb : b < 2) (hi : i ≤ 6) (h : RC (A b) i c) (hc : cI c = 0 ∨ cI c = 1) : p_X8_fewest V g (mH V m b z A f0) m (nn i) = some (nn (if cI c = 0 then 2 else 3)) := by
  unfold p_X8_fewest
  simp only [m_me, M_island hb hi h hc, ob_s]
  split <;> rfl
theorem M_measure (f : GH) (dx dy k : Int32) : p_X8_measure V g f dx dy k = some (s_dist k dx dy) := by
  unfold p_X8_measure s_dist s_max
  simp only [M_size, ob_s]
  split
  · rfl
  · by_cases h : s_abs dx < s_abs dy
    · rw [if_pos (Int32.le_of_lt h), if_pos h]
    · rw [if_neg h]
      split
      · rename_i h2
        have : s_abs dx = s_abs dy := Int32.le_antisymm h2 (i_not_lt.mp h)
        rw [this]
      · rfl
theorem M_king (hb : b < 2) (hk : A b 0 = 0 ∨ A b 0 = 1) : p_X8_isKing V g (mH V m b z A f0) m = some (A b 0) := by
  have := mL_row hb
  unfold p_X8_isKing
  simp only [m_me, m_row, ob_s]
  rw [n_0, m_li (by omega) (by omega), ob_s]
  rcases hk with h | h <;> rw [h] <;> rfl
theorem M_dist (hb : b < 2) (hi : i ≤ 6) (h : RC (A b) i c) (hn : cN c ≤ 129) {j k : Nat} (hj : j < cN c) (hk : k < cN c) (w : Int32) : p_X8_distance V g (mH V m b z A f0) m (nn i) (nn j) (nn k) w = some (s_d w c j k) := by
  unfold p_X8_distance
  simp only [m_me, M_x hb hi h hn hj, M_x hb hi h hn hk, M_y hb hi h hn hj, M_y hb hi h hn hk, ob_s, M_measure]
  rfl
theorem M_sticks (hb : b < 2) (hi : i ≤ 6) (h : RC (A b) i c) (hc : cI c = 0 ∨ cI c = 1) (hn1 : 1 ≤ cN c) (hn : cN c ≤ 129) {l : Nat} (hl : l < 8) : p_X8_sticks V g (mH V m b z A f0) m (nn i) (nn l) = some (nn (s_sticks c l)) := by
  have hd := Nat.div_mul_le_self (cN c - 1) (2 ^ l)
  have hd2 := Nat.div_le_self (cN c - 1) (2 ^ l)
  unfold p_X8_sticks p_X8_sticks_j32 s_sticks
  simp only [m_me, M_count hb hi h, M_island hb hi h hc, ob_s, nn_p hn1, nn_31 hl, nn_shr (show cN c - 1 < 2147483648 by omega) hl, nn_s, nn_p (Nat.le_add_left 1 _), Nat.add_sub_cancel, nn_shl hl]
  have e10 : ¬ (1 : Int32) = 0 := by decide
  by_cases h0 : cI c = 0
  · by_cases h1 : (cN c - 1) / 2 ^ l * 2 ^ l = cN c - 1
    · rw [if_pos (by rw [h1]), if_pos h0, if_neg e10, if_pos ⟨h0, h1⟩]
    · rw [if_neg (by rw [nn_eq (by omega) (by omega)]; exact h1), if_pos h0, if_pos trivial, if_neg (fun q => h1 q.2)]
  · rw [if_neg h0, if_neg h0, if_neg (show ¬ (cI c = 0 ∧ (cN c - 1) / 2 ^ l * 2 ^ l = cN c - 1) from fun q => h0 q.1)]
    split <;> rfl
theorem M_end (hb : b < 2) (hi : i ≤ 6) (h : RC (A b) i c) (hc : cI c = 0 ∨ cI c = 1) (hn1 : 1 ≤ cN c) (hn : cN c ≤ 129) {l s : Nat} (hl : l < 8) (hs : s < 2000) : p_X8_endOf V g (mH V m b z A f0) m (nn i) (nn l) (nn s) = some (nn (s_end c l s)) := by
  have h2 := s_to_small hl hs
  unfold p_X8_endOf s_end
  simp only [m_me, M_count hb hi h, M_island hb hi h hc, ob_s, nn_s, nn_31 hl, nn_shl hl, nn_p hn1]
  by_cases q : (s + 1) * 2 ^ l < cN c
  · rw [if_neg (by rw [nn_le (by omega) (by omega)]; omega), if_pos q]
  · rw [if_pos (by rw [nn_le (by omega) (by omega)]; omega), if_neg q]
    split <;> rfl
theorem M_span (hb : b < 2) (hi : i ≤ 6) (h : RC (A b) i c) (hc : cI c = 0 ∨ cI c = 1) (hn1 : 1 ≤ cN c) (hn : cN c ≤ 129) {l s : Nat} (hl : l < 8) (hs : s < s_sticks c l) (w : Int32) : p_X8_lengthOf V g (mH V m b z A f0) m (nn i) (nn l) (nn s) w = some (s_span w c l s) := by
  have h1 := s_sticks_le c l
  unfold p_X8_lengthOf
  simp only [m_me, nn_31 hl, nn_shl hl, M_end hb hi h hc hn1 hn hl (show s < 2000 by omega), M_dist hb hi h hn (s_from_lt hn1 hs) (s_end_lt hn1), ob_s]
  rfl
theorem M_len_l (hb : b < 2) (hi : i ≤ 6) (h : RC (A b) i c) (hc : cI c = 0 ∨ cI c = 1) (hn1 : 1 ≤ cN c) (hn : cN c ≤ 129) {l : Nat} (hl : l < 8) (w : Int32) (K : Int32 → Option Int32) : ∀ (d N s : Nat) (a : Int32), s + d = s_sticks c l → d < N → p_X8_length_l6 V g (mH V m b z A f0) K N m (nn i) (nn l) w a (nn s) = K (itr (fun s a => a + s_span w c l s) d s a) := by
  have h1 := s_sticks_le c l
  intro d
  induction d with
  | zero =>
    intro N s a he hN
    obtain ⟨N, rfl⟩ : ∃ M, N = M + 1 := ⟨N - 1, by omega⟩
    rw [p_X8_length_l6, M_sticks hb hi h hc hn1 hn hl, ob_s, if_pos (by rw [nn_le (by omega) (by omega)]; omega)]
    rfl
  | succ d ih =>
    intro N s a he hN
    obtain ⟨N, rfl⟩ : ∃ M, N = M + 1 := ⟨N - 1, by omega⟩
    rw [p_X8_length_l6, M_sticks hb hi h hc hn1 hn hl, ob_s, if_neg (by rw [nn_le (by omega) (by omega)]; omega), M_span hb hi h hc hn1 hn hl (by omega), ob_s, nn_s]
    exact ih N (s + 1) _ (by omega) (by omega)
theorem M_len (hb : b < 2) (hi : i ≤ 6) (h : RC (A b) i c) (hc : cI c = 0 ∨ cI c = 1) (hn1 : 1 ≤ cN c) (hn : cN c ≤ 129) {l : Nat} (hl : l < 8) (w : Int32) : p_X8_length V g (mH V m b z A f0) m (nn i) (nn l) w = some (s_len w c l) := by
  have h1 := s_sticks_le c l
  unfold p_X8_length
  rw [m_me]
  exact M_len_l hb hi h hc hn1 hn hl w _ (s_sticks c l) FU 0 0 (by omega) (by unfold FU; omega)
theorem M_lenNow (hb : b < 2) (hi : i ≤ 6) (h : RC (A b) i c) (hc : cI c = 0 ∨ cI c = 1) (hn1 : 1 ≤ cN c) (hn : cN c ≤ 129) (hk : A b 0 = 0 ∨ A b 0 = 1) {l : Nat} (hl : l < 8) : p_X8_lengthNow V g (mH V m b z A f0) m (nn i) (nn l) = some (s_len (A b 0) c l) := by
  unfold p_X8_lengthNow
  simp only [m_me, M_king hb hk, M_len hb hi h hc hn1 hn hl, ob_s]
theorem M_gain (hb : b < 2) (hi : i ≤ 6) (h : RC (A b) i c) (hc : cI c = 0 ∨ cI c = 1) (hn1 : 1 ≤ cN c) (hn : cN c ≤ 129) (hk : A b 0 = 0 ∨ A b 0 = 1) {l : Nat} (hl : l < 7) : p_X8_gain V g (mH V m b z A f0) m (nn i) (nn l) = some (s_gain (A b 0) c l) := by
  unfold p_X8_gain
  simp only [m_me, nn_s, M_lenNow hb hi h hc hn1 hn hk (show l < 8 by omega), M_lenNow hb hi h hc hn1 hn hk (show l + 1 < 8 by omega), ob_s]
  rfl
theorem M_coarsest_l (hb : b < 2) (hi : i ≤ 6) (h : RC (A b) i c) (hc : cI c = 0 ∨ cI c = 1) (hn1 : 1 ≤ cN c) (hn : cN c ≤ 129) (hk : A b 0 = 0 ∨ A b 0 = 1) (w : Int32) : ∀ (l N : Nat), l < 8 → l + 1 < N → p_X8_coarsest_l3 V g (mH V m b z A f0) (fun x => some x) N m (nn i) w (nn l) = some (s_coarsest (A b 0) c w l) := by
  intro l
  induction l with
  | zero =>
    intro N hl hN
    obtain ⟨N, rfl⟩ : ∃ M, N = M + 2 := ⟨N - 2, by omega⟩
    rw [p_X8_coarsest_l3, if_neg (nn_nl 0 (by decide)), M_lenNow hb hi h hc hn1 hn hk hl, ob_s, s_coarsest]
    by_cases q : s_len (A b 0) c 0 < w
    · rw [if_neg (i_not_le.mpr q), if_pos q, p_X8_coarsest_l3, if_pos (by decide +kernel)]
      rfl
    · rw [if_pos (i_not_lt.mp q), if_neg q]
  | succ l ih =>
    intro N hl hN
    obtain ⟨N, rfl⟩ : ∃ M, N = M + 1 := ⟨N - 1, by omega⟩
    rw [p_X8_coarsest_l3, if_neg (nn_nl _ (by omega)), M_lenNow hb hi h hc hn1 hn hk hl, ob_s, s_coarsest]
    by_cases q : s_len (A b 0) c (l + 1) < w
    · rw [if_neg (i_not_le.mpr q), if_pos q, nn_pm]
      exact ih N (by omega) (by omega)
    · rw [if_pos (i_not_lt.mp q), if_neg q]
theorem M_coarsest (hb : b < 2) (hi : i ≤ 6) (h : RC (A b) i c) (hc : cI c = 0 ∨ cI c = 1) (hn1 : 1 ≤ cN c) (hn : cN c ≤ 129) (hk : A b 0 = 0 ∨ A b 0 = 1) (w : Int32) : p_X8_coarsest V g (mH V m b z A f0) m (nn i) w = some (s_coarsest (A b 0) c w 7) := by
  unfold p_X8_coarsest
  rw [m_me, n_7]
  exact M_coarsest_l hb hi h hc hn1 hn hk w 7 FU (by decide) (by decide)
end MR

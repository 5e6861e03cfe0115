/-! ===== areas, positions, boxes: the reference's side ===== -/
theorem i_addsub (a b : Int32) : a + b - b = a := by rw [Int32.sub_eq_add_neg, Int32.add_assoc, Int32.add_right_neg, Int32.add_zero]
theorem s_max_of (a b : Int32) : a + b - s_min a b = s_max a b := by
  unfold s_min s_max
  by_cases h : b < a
  · rw [if_pos h, if_neg (i_not_lt.mpr (Int32.le_of_lt h)), i_addsub]
  · rw [if_neg h, Int32.add_comm a b, i_addsub]
    by_cases k : a < b
    · rw [if_pos k]
    · rw [if_neg k]
      exact Int32.le_antisymm (i_not_lt.mp k) (i_not_lt.mp h)
theorem M_least (V : Nat → Nat) (g f : GH) (a b : Int32) : p_X8_least V g f a b = some (s_min a b) := by
  unfold p_X8_least s_min
  by_cases h : b < a
  · rw [if_pos (Int32.le_of_lt h), if_pos h]
  · rw [if_neg h]
    split
    · rename_i k
      rw [Int32.le_antisymm k (i_not_lt.mp h)]
    · rfl
def s_btw (v a b : Int32) : Bool := decide (¬ v < s_min a b ∧ ¬ s_max a b < v)
theorem M_btw (V : Nat → Nat) (g f : GH) (v a b : Int32) : p_X8_isBetween V g f v a b = some (bz (s_btw v a b)) := by
  unfold p_X8_isBetween s_btw
  simp only [M_least, ob_s, s_max_of]
  by_cases h : v < s_min a b
  · rw [if_pos h, decide_eq_false (fun q => q.1 h)]
    rfl
  · rw [if_neg h]
    by_cases k : s_max a b < v
    · rw [if_pos k, decide_eq_false (fun q => q.2 k)]
      rfl
    · rw [if_neg k, decide_eq_true ⟨h, k⟩]
      rfl
theorem s_on_eq (c : CS) (i : Nat) (x y : Int32) : s_on c i x y = (s_btw x (cX c i) (cX c (s_next (cN c) i)) && s_btw y (cY c i) (cY c (s_next (cN c) i)) && decide (s_side c i x y = 0)) := by
  unfold s_on s_btw
  rw [Bool.eq_iff_iff]
  simp only [Bool.and_eq_true, decide_eq_true_eq]
  constructor
  · rintro ⟨h1, h2, h3, h4, h5⟩
    exact ⟨⟨⟨h2, h3⟩, h4, h5⟩, h1⟩
  · rintro ⟨⟨⟨h2, h3⟩, h4, h5⟩, h1⟩
    exact ⟨h1, h2, h3, h4, h5⟩
theorem bz_xor (a b : Bool) : bz a ^^^ bz b = bz (a ^^ b) := by cases a <;> cases b <;> decide
section MX
variable {V : Nat → Nat} {g f0 : GH} {m b : Nat} {z : Nat → Int32} {A : Nat → Nat → Int32} {i : Nat} {c : CS}
theorem M_next (hb : b < 2) (hi : i ≤ 6) (h : RC (A b) i c) (hn : cN c ≤ 129) {k : Nat} (hk : k < cN c) : p_X8_next V g (mH V m b z A f0) m (nn i) (nn k) = some (nn (s_next (cN c) k)) := by
  unfold p_X8_next s_next
  simp only [m_me, M_count hb hi h, ob_s, nn_s]
  by_cases q : k + 1 < cN c
  · rw [if_neg (by rw [nn_le (by omega) (by omega)]; omega), if_pos q]
  · rw [if_pos (by rw [nn_le (by omega) (by omega)]; omega), if_neg q]
    rfl
theorem M_area_l (hb : b < 2) (hi : i ≤ 6) (h : RC (A b) i c) (hn : cN c ≤ 129) : ∀ (d N k : Nat) (a : Int32), k + d = cN c → d < N → p_X8_signedArea_l4 V g (mH V m b z A f0) (fun x => some x) N m (nn i) a (nn k) = some (itr (fun i a => a + (cX c i * cY c (s_next (cN c) i) - cX c (s_next (cN c) i) * cY c i)) d k a) := by
  intro d
  induction d with
  | zero =>
    intro N k a he hN
    obtain ⟨N, rfl⟩ : ∃ M, N = M + 1 := ⟨N - 1, by omega⟩
    rw [p_X8_signedArea_l4, M_count hb hi h, ob_s, if_pos (by rw [nn_le (by omega) (by omega)]; omega)]
    rfl
  | succ d ih =>
    intro N k a he hN
    obtain ⟨N, rfl⟩ : ∃ M, N = M + 1 := ⟨N - 1, by omega⟩
    have hlt : k < cN c := by omega
    have hlt2 := s_next_lt (i := k) (show 0 < cN c by omega)
    rw [p_X8_signedArea_l4, M_count hb hi h, ob_s, if_neg (by rw [nn_le (by omega) (by omega)]; omega)]
    simp only [M_next hb hi h hn hlt, M_x hb hi h hn hlt, M_y hb hi h hn hlt, M_x hb hi h hn hlt2, M_y hb hi h hn hlt2, ob_s, nn_s]
    exact ih N (k + 1) _ (by omega) (by omega)
theorem M_area (hb : b < 2) (hi : i ≤ 6) (h : RC (A b) i c) (hn : cN c ≤ 129) : p_X8_signedArea V g (mH V m b z A f0) m (nn i) = some (s_area c) := by
  unfold p_X8_signedArea
  rw [m_me]
  exact M_area_l hb hi h hn (cN c) FU 0 0 (by omega) (by unfold FU; omega)
theorem M_turn (hb : b < 2) (hi : i ≤ 6) (h : RC (A b) i c) (hn : cN c ≤ 129) {k : Nat} (hk : k < cN c) (x y : Int32) : p_X8_turn V g (mH V m b z A f0) m (nn i) (nn k) x y = some (s_side c k x y) := by
  have h2 := s_next_lt (i := k) (show 0 < cN c by omega)
  unfold p_X8_turn
  simp only [m_me, M_next hb hi h hn hk, M_x hb hi h hn hk, M_y hb hi h hn hk, M_x hb hi h hn h2, M_y hb hi h hn h2, ob_s]
  rfl
theorem M_on (hb : b < 2) (hi : i ≤ 6) (h : RC (A b) i c) (hn : cN c ≤ 129) {k : Nat} (hk : k < cN c) (x y : Int32) : p_X8_isOn V g (mH V m b z A f0) m (nn i) (nn k) x y = some (bz (s_on c k x y)) := by
  have h2 := s_next_lt (i := k) (show 0 < cN c by omega)
  rw [s_on_eq]
  unfold p_X8_isOn p_X8_isOn_j53 p_X8_isOn_j54
  simp only [m_me, M_next hb hi h hn hk, M_x hb hi h hn hk, M_y hb hi h hn hk, M_x hb hi h hn h2, M_y hb hi h hn h2, ob_s, M_btw, M_turn hb hi h hn hk]
  have e10 : ¬ (1 : Int32) = 0 := by decide
  cases s_btw x (cX c k) (cX c (s_next (cN c) k)) with
  | false =>
    rw [if_pos bz_f, if_pos trivial]
    rfl
  | true =>
    rw [if_neg bz_tn]
    cases s_btw y (cY c k) (cY c (s_next (cN c) k)) with
    | false =>
      rw [if_pos bz_f, if_pos trivial]
      rfl
    | true =>
      rw [if_neg bz_tn, if_neg e10]
      by_cases q : s_side c k x y = 0
      · rw [if_pos q, decide_eq_true q]
        rfl
      · rw [if_neg q, decide_eq_false q]
        rfl
theorem M_ray (hb : b < 2) (hi : i ≤ 6) (h : RC (A b) i c) (hn : cN c ≤ 129) {k : Nat} (hk : k < cN c) (x y : Int32) : p_X8_isCrossed V g (mH V m b z A f0) m (nn i) (nn k) x y = some (bz (s_ray c k x y)) := by
  have h2 := s_next_lt (i := k) (show 0 < cN c by omega)
  unfold p_X8_isCrossed p_X8_isCrossed_j16 p_X8_isCrossed_j39 s_ray
  simp only [m_me, M_next hb hi h hn hk, M_y hb hi h hn hk, M_y hb hi h hn h2, ob_s, M_turn hb hi h hn hk]
  have e01 : ¬ (0 : Int32) = 1 := by decide
  have e10 : ¬ (1 : Int32) = 0 := by decide
  by_cases a1 : y < cY c k
  · rw [if_neg (i_not_le.mpr a1), if_pos a1]
    by_cases a2 : y < cY c (s_next (cN c) k)
    · rw [if_neg (i_not_le.mpr a2), if_pos a2, if_pos trivial]
      rfl
    · rw [if_pos (i_not_lt.mp a2), if_neg a2, if_neg e10, if_pos trivial]
      by_cases a3 : s_side c k x y < 0
      · rw [if_neg (i_not_le.mpr a3), decide_eq_true a3]
        rfl
      · rw [if_pos (i_not_lt.mp a3), decide_eq_false a3]
        rfl
  · rw [if_pos (i_not_lt.mp a1), if_neg a1]
    by_cases a2 : y < cY c (s_next (cN c) k)
    · rw [if_neg (i_not_le.mpr a2), if_pos a2, if_neg e01, if_neg e10]
      by_cases a3 : 0 < s_side c k x y
      · rw [if_neg (i_not_le.mpr a3), decide_eq_true a3]
        rfl
      · rw [if_pos (i_not_lt.mp a3), decide_eq_false a3]
        rfl
    · rw [if_pos (i_not_lt.mp a2), if_neg a2, if_pos trivial]
      rfl
theorem M_cov_l (hb : b < 2) (hi : i ≤ 6) (h : RC (A b) i c) (hn : cN c ≤ 129) (x y : Int32) : ∀ (d N k : Nat) (w : Bool), k + d = cN c → d < N → p_X8_holds_l6 V g (mH V m b z A f0) (some (1 : Int32)) (fun x4 => (h_bz x4).bind fun _ => some x4) N m (nn i) x y (bz w) (nn k) = some (bz (s_cov c x y d k w)) := by
  intro d
  induction d with
  | zero =>
    intro N k w he hN
    obtain ⟨N, rfl⟩ : ∃ M, N = M + 1 := ⟨N - 1, by omega⟩
    rw [p_X8_holds_l6, M_count hb hi h, ob_s, if_pos (by rw [nn_le (by omega) (by omega)]; omega), hbz]
    rfl
  | succ d ih =>
    intro N k w he hN
    obtain ⟨N, rfl⟩ : ∃ M, N = M + 1 := ⟨N - 1, by omega⟩
    have hlt : k < cN c := by omega
    rw [p_X8_holds_l6, M_count hb hi h, ob_s, if_neg (by rw [nn_le (by omega) (by omega)]; omega), M_on hb hi h hn hlt, ob_s, s_cov]
    cases s_on c k x y with
    | true => rfl
    | false =>
      rw [if_pos bz_f, M_ray hb hi h hn hlt, ob_s, if_neg Bool.false_ne_true, bz_xor, nn_s]
      exact ih N (k + 1) _ (by omega) (by omega)
theorem M_holds (hb : b < 2) (hi : i ≤ 6) (h : RC (A b) i c) (hn : cN c ≤ 129) (x y : Int32) : p_X8_holds V g (mH V m b z A f0) m (nn i) x y = some (bz (s_covers c x y)) := by
  unfold p_X8_holds
  rw [m_me]
  exact M_cov_l hb hi h hn x y (cN c) FU 0 false (by omega) (by unfold FU; omega)
theorem M_all_l (hb : b < 2) {j : Nat} {e : CS} (hi : i ≤ 6) (h : RC (A b) i c) (hn : cN c ≤ 129) (hj : j ≤ 6) (k : RC (A b) j e) (hn2 : cN e ≤ 129) : ∀ (d N t : Nat), t + d = cN e → d < N → p_X8_surrounds_l17 V g (mH V m b z A f0) (some (0 : Int32)) (some (1 : Int32)) N m (nn i) (nn j) (nn t) = some (bz (s_all c e d t)) := by
  intro d
  induction d with
  | zero =>
    intro N t he hN
    obtain ⟨N, rfl⟩ : ∃ M, N = M + 1 := ⟨N - 1, by omega⟩
    rw [p_X8_surrounds_l17, M_count hb hj k, ob_s, if_pos (by rw [nn_le (by omega) (by omega)]; omega)]
    rfl
  | succ d ih =>
    intro N t he hN
    obtain ⟨N, rfl⟩ : ∃ M, N = M + 1 := ⟨N - 1, by omega⟩
    have hlt : t < cN e := by omega
    rw [p_X8_surrounds_l17, M_count hb hj k, ob_s, if_neg (by rw [nn_le (by omega) (by omega)]; omega)]
    simp only [M_x hb hj k hn2 hlt, M_y hb hj k hn2 hlt, ob_s, M_holds hb hi h hn, nn_s]
    rw [s_all]
    cases s_covers c (cX e t) (cY e t) with
    | false =>
      rw [if_pos bz_f, if_neg Bool.false_ne_true]
      rfl
    | true =>
      rw [if_neg bz_tn, if_pos rfl]
      exact ih N (t + 1) (by omega) (by omega)
theorem M_surrounds (hb : b < 2) {j : Nat} {e : CS} (hi : i ≤ 6) (h : RC (A b) i c) (hc : cI c = 0 ∨ cI c = 1) (hn : cN c ≤ 129) (hj : j ≤ 6) (k : RC (A b) j e) (hn2 : cN e ≤ 129) : p_X8_surrounds V g (mH V m b z A f0) m (nn i) (nn j) = some (bz (if i = j ∨ cI c = 0 then false else s_coversAll c e)) := by
  unfold p_X8_surrounds
  rw [m_me]
  by_cases q : i = j
  · rw [if_pos (by rw [q]), if_pos (Or.inl q)]
    rfl
  · rw [if_neg (by rw [nn_eq (by omega) (by omega)]; exact q), M_island hb hi h hc, ob_s]
    by_cases q2 : cI c = 0
    · rw [if_pos q2, if_pos (Or.inr q2)]
      rfl
    · rw [if_neg q2, if_neg (fun w => w.elim q q2)]
      exact M_all_l hb hi h hn hj k hn2 (cN e) FU 0 (by omega) (by unfold FU; omega)
theorem s_min_le (a v : Int32) : (if a ≤ v then a else v) = s_min a v := by
  unfold s_min
  by_cases h : v < a
  · rw [if_neg (i_not_le.mpr h), if_pos h]
  · rw [if_pos (i_not_lt.mp h), if_neg h]
theorem s_max_le (a v : Int32) : (if v ≤ a then a else v) = s_max a v := by
  unfold s_max
  by_cases h : a < v
  · rw [if_neg (i_not_le.mpr h), if_pos h]
  · rw [if_pos (i_not_lt.mp h), if_neg h]
theorem M_box_l (hb : b < 2) (hi : i ≤ 6) (h : RC (A b) i c) (hn : cN c ≤ 129) {w : Nat} {X : Nat → Int32} (hX : ∀ k, k < cN c → A b (7 + 260 * i + 2 * k + w) = X k) (hw : w < 2) : ∀ (d N k : Nat) (p : Int32 × Int32), k + d = cN c → d < N → p_X8_box_l12 V g (mH V m b z A f0) (fun x3 x4 => some (x4 - x3)) N m (nn i) (nn w) p.1 p.2 (nn k) = some ((itr (fun i (p : Int32 × Int32) => (s_min p.1 (X i), s_max p.2 (X i))) d k p).2 - (itr (fun i (p : Int32 × Int32) => (s_min p.1 (X i), s_max p.2 (X i))) d k p).1) := by
  have hL := mL_row hb
  intro d
  induction d with
  | zero =>
    intro N k p he hN
    obtain ⟨N, rfl⟩ : ∃ M, N = M + 1 := ⟨N - 1, by omega⟩
    rw [p_X8_box_l12, M_count hb hi h, ob_s, if_pos (by rw [nn_le (by omega) (by omega)]; omega)]
    rfl
  | succ d ih =>
    intro N k p he hN
    obtain ⟨N, rfl⟩ : ∃ M, N = M + 1 := ⟨N - 1, by omega⟩
    have hlt : k < cN c := by omega
    rw [p_X8_box_l12, M_count hb hi h, ob_s, if_neg (by rw [nn_le (by omega) (by omega)]; omega)]
    simp only [m_row, p_at, ob_s, nn_a2, nn_d, nn_add]
    rw [m_li (by omega) (by omega), ob_s, show 5 + 260 * i + 2 + 2 * k + w = 7 + 260 * i + 2 * k + w by omega, hX k hlt]
    have ih0 := ih N (k + 1) (s_min p.1 (X k), s_max p.2 (X k)) (by omega) (by omega)
    rw [itr]
    rw [← ih0, ← s_min_le, ← s_max_le]
    unfold p_X8_box_j54
    simp only [nn_s]
    split <;> split <;> rfl
theorem M_boxX (hb : b < 2) (hi : i ≤ 6) (h : RC (A b) i c) (hn : cN c ≤ 129) : p_X8_box V g (mH V m b z A f0) m (nn i) (0 : Int32) = some (s_box (cX c) (cN c)) := by
  unfold p_X8_box
  rw [m_me]
  exact M_box_l hb hi h hn (w := 0) (fun k hk => (h.2.2 k hk).1) (by decide) (cN c) FU 0 (1000, -1000) (by omega) (by unfold FU; omega)
theorem M_boxY (hb : b < 2) (hi : i ≤ 6) (h : RC (A b) i c) (hn : cN c ≤ 129) : p_X8_box V g (mH V m b z A f0) m (nn i) (1 : Int32) = some (s_box (cY c) (cN c)) := by
  unfold p_X8_box
  rw [m_me]
  exact M_box_l hb hi h hn (w := 1) (fun k hk => by rw [show 7 + 260 * i + 2 * k + 1 = 8 + 260 * i + 2 * k by omega]; exact (h.2.2 k hk).2) (by decide) (cN c) FU 0 (1000, -1000) (by omega) (by unfold FU; omega)
end MX

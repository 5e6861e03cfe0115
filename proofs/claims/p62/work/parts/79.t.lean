/-! ===== the output: its digits, the reference's side ===== -/
def nd (w : Nat) : Nat := if w < 10 then 1 else if w < 100 then 2 else if w < 1000 then 3 else if w < 10000 then 4 else if w < 100000 then 5 else 6
def dr (w t : Nat) : Int32 := nn (48 + w / 10 ^ t % 10)
theorem nd_b (w : Nat) : 1 ≤ nd w ∧ nd w ≤ 6 := by
  unfold nd
  repeat' split
  all_goals omega
theorem nd_100 {w : Nat} (h : 100 ≤ w) (h6 : w < 1000000) : nd w = nd (w / 100) + 2 := by
  unfold nd
  repeat' split
  all_goals omega
theorem nd_le {w : Nat} (h6 : w < 1000000) : ∀ e, e < 6 → (w / 10 ^ e ≤ 9 ↔ nd w ≤ e + 1) := by
  intro e he
  have : e = 0 ∨ e = 1 ∨ e = 2 ∨ e = 3 ∨ e = 4 ∨ e = 5 := by omega
  unfold nd
  rcases this with rfl | rfl | rfl | rfl | rfl | rfl <;> (repeat' split) <;> omega
theorem nd_lt {w : Nat} (h6 : w < 1000000) : ∀ i, 1 ≤ i → i < 7 → (10 ^ i ≤ w ↔ i < nd w) := by
  intro i h1 hi
  have : i = 1 ∨ i = 2 ∨ i = 3 ∨ i = 4 ∨ i = 5 ∨ i = 6 := by omega
  unfold nd
  rcases this with rfl | rfl | rfl | rfl | rfl | rfl <;> (repeat' split) <;> omega
theorem dr_100 (w t : Nat) : dr (w / 100) t = dr w (t + 2) := by
  have h : 100 * 10 ^ t = 10 ^ (t + 2) := by
    rw [Nat.pow_succ, Nat.pow_succ]
    generalize 10 ^ t = q
    omega
  unfold dr
  rw [Nat.div_div_eq_div_mul, h]
theorem p10 : ∀ e, e < 7 → 1 ≤ 10 ^ e ∧ 10 ^ e ≤ 1000000 := by decide
theorem dv_s {y : Int32} (h : y ≠ 0) : h_dv y = some y := if_neg h
section WM
variable {V : Nat → Nat} {g f0 : GH} {m b o w : Nat} {z : Nat → Int32} {A : Nat → Nat → Int32}
end WM
/-! the class's digits -/
theorem ng_ng {y : Nat} (h : y < 2147483648) : -(-(nn y)) = nn y := by
  have e1 : (-(nn y)).toInt = -(y : Int) := by rw [i_neg (by rw [nn_i h]; omega), nn_i h]
  rw [i_eq, i_neg (by rw [e1]; omega), e1, nn_i h]
  omega
theorem ng_i {y : Nat} (h : y < 2147483648) : (-(nn y)).toInt = -(y : Int) := by rw [i_neg (by rw [nn_i h]; omega), nn_i h]
theorem ng_div {y : Nat} (h : y < 2147483648) : -(nn y) / (100 : Int32) = -(nn (y / 100)) := by
  rw [i_eq, Int32.toInt_div, ng_i h, ng_i (by omega), show (100 : Int32).toInt = (100 : Int) from rfl, Int.neg_tdiv, show (y : Int).tdiv 100 = ((y / 100 : Nat) : Int) from rfl, bm_id (by omega) (by omega)]
theorem ng_ix {y : Nat} (h : y < 1000000) : (-(nn y) / (100 : Int32)) * (100 : Int32) - (-(nn y)) = nn (y % 100) := by
  have e1 : (-(nn (y / 100)) * (100 : Int32)).toInt = -((y / 100 : Nat) : Int) * 100 := by
    rw [i_mul (by rw [ng_i (by omega), show (100 : Int32).toInt = (100 : Int) from rfl]; omega) (by rw [ng_i (by omega), show (100 : Int32).toInt = (100 : Int) from rfl]; omega), ng_i (by omega)]
    rfl
  rw [ng_div (by omega), i_eq, i_sub (by rw [e1, ng_i (by omega)]; omega) (by rw [e1, ng_i (by omega)]; omega), e1, ng_i (by omega), nn_i (by omega)]
  omega
theorem nn_m1 {e : Nat} (h : 1 ≤ e) : nn e + (-1 : Int32) = nn (e - 1) := by
  obtain ⟨e, rfl⟩ : ∃ k, e = k + 1 := ⟨e - 1, by omega⟩
  rw [nn_pm, Nat.add_sub_cancel]
theorem ones_t : ∀ j, j < 100 → (al_ones.getD j 0).toInt8.toInt32 = nn (48 + j % 10) := by decide
theorem tens_t : ∀ j, j < 100 → (al_tens.getD j 0).toInt8.toInt32 = nn (48 + j / 10) := by decide
section WC
variable {V : Nat → Nat} {g f : GH} {va cap w : Nat}
theorem C_ss (hw : w < 1000000) : p_J6_stringSize_0f7a4 V g f (nn w) = some (nn (nd w)) := by
  have h6 := nd_b w
  have hl : ∀ (d N i : Nat), nd w = i + d → 1 ≤ i → d < N → p_J6_stringSize_0f7a4_l16 V g f (fun x1 x3 => some (x3 + x1)) (fun x1 => some ((10 : Int32) + x1)) N (-(nn w)) (0 : Int32) (-(nn (10 ^ i))) (nn i) = some (nn (nd w)) := by
    intro d
    induction d with
    | zero =>
      intro N i hi h1 hN
      obtain ⟨N, rfl⟩ : ∃ M, N = M + 1 := ⟨N - 1, by omega⟩
      obtain ⟨q1, q2⟩ := p10 i (by omega)
      have := nd_lt hw i h1 (by omega)
      rw [p_J6_stringSize_0f7a4_l16, if_neg (by rw [show (10 : Int32) = nn 10 from rfl, nn_le (by omega) (by omega)]; omega), if_neg (by rw [i_le, ng_i (by omega), ng_i (by omega)]; omega), nn_a0, show i = nd w by omega]
    | succ d ih =>
      intro N i hi h1 hN
      obtain ⟨N, rfl⟩ : ∃ M, N = M + 1 := ⟨N - 1, by omega⟩
      obtain ⟨q1, q2⟩ := p10 i (by omega)
      have := nd_lt hw i h1 (by omega)
      have hm : ∀ i, i < 6 → (10 : Int32) * (-(nn (10 ^ i))) = -(nn (10 ^ (i + 1))) := by decide
      rw [p_J6_stringSize_0f7a4_l16, if_neg (by rw [show (10 : Int32) = nn 10 from rfl, nn_le (by omega) (by omega)]; omega), if_pos (by rw [i_le, ng_i (by omega), ng_i (by omega)]; omega), hm i (by omega), nn_s]
      exact ih N (i + 1) (by omega) (by omega) (by omega)
  unfold p_J6_stringSize_0f7a4 p_J6_stringSize_0f7a4_j11
  rw [if_neg (nn_nl w (by omega))]
  exact hl (nd w - 1) FU 1 (by omega) (by decide) (by unfold FU; omega)
/-- the class's bytes -/
def bH (f : GH) (va cap : Nat) (r : Nat → Int32) : GH := h_up f va (.inl (1, cap, .inl r))
theorem bH_a {r : Nat → Int32} : bH f va cap r va = some (.inl (1, cap, .inl r)) := h_up_s _ _ _
theorem bH_s {r : Nat → Int32} {i : Nat} (hi : i < cap) (hc : cap ≤ 600) (v : Int32) : h_sb (bH f va cap r) va 1 (nn i) v = some (bH f va cap (upd r i v.toInt8.toInt32)) := by
  unfold h_sb
  rw [hsi_of bH_a hi (by omega)]
  unfold bH
  rw [up_up]
theorem StOK.on (S : StOK V g) {j : Nat} (h : j < 100) : ∃ v, h_li (gA g) (V 17) 1 (nn j) = some v ∧ v.toInt8.toInt32 = nn (48 + j % 10) := by
  obtain ⟨r, h1, h2⟩ := S.2.2.2.2.2.2.1
  exact ⟨_, hli_of h1 h (by omega), by rw [h2 j h]; exact ones_t j h⟩
theorem StOK.te (S : StOK V g) {j : Nat} (h : j < 100) : ∃ v, h_li (gA g) (V 18) 1 (nn j) = some v ∧ v.toInt8.toInt32 = nn (48 + j / 10) := by
  obtain ⟨r, h1, h2⟩ := S.2.2.2.2.2.2.2.1
  exact ⟨_, hli_of h1 h (by omega), by rw [h2 j h]; exact tens_t j h⟩
theorem bfit_8 (v : Int32) : bfit v.toInt8.toInt32 := pk_fb v
theorem C_gc_l (S : StOK V g) (hc : cap ≤ 600) : ∀ (k N y e : Nat) (r : Nat → Int32), y < 100 ^ (k + 1) → k < N → y < 1000000 → nd y ≤ e → e ≤ cap → (∀ i, bfit (r i)) → ∃ v r1, p_J6_getChars_ba4f3_l22 V g (fun x0 x2 x5 x6 f =>
      (h_li (gA g) (V 17) 1 (-x0)).bind fun v19 =>
      (h_sb f x2 1 (x5 + (-1 : Int32)) v19).bind fun f20 =>
      (if (-9 : Int32) ≤ x0 then
        p_J6_getChars_ba4f3_j104 V g x2 (x5 + (-1 : Int32)) x6 f20
      else
        (h_li (gA g) (V 18) 1 (-x0)).bind fun v24 =>
        (h_sb f20 x2 1 ((x5 + (-1 : Int32)) + (-1 : Int32)) v24).bind fun f25 =>
        p_J6_getChars_ba4f3_j104 V g x2 ((x5 + (-1 : Int32)) + (-1 : Int32)) x6 f25)) N (-(nn y)) va (nn e) (0 : Int32) (bH f va cap r) = some (v, bH f va cap r1) ∧ (∀ i, i < e - nd y ∨ e ≤ i → r1 i = r i) ∧ (∀ t, t < nd y → r1 (e - 1 - t) = dr y t) ∧ ∀ i, bfit (r1 i) := by
  have fin : ∀ (N y e : Nat) (r : Nat → Int32), y < 100 → 0 < N → nd y ≤ e → e ≤ cap → (∀ i, bfit (r i)) → ∃ v r1, p_J6_getChars_ba4f3_l22 V g (fun x0 x2 x5 x6 f =>
      (h_li (gA g) (V 17) 1 (-x0)).bind fun v19 =>
      (h_sb f x2 1 (x5 + (-1 : Int32)) v19).bind fun f20 =>
      (if (-9 : Int32) ≤ x0 then
        p_J6_getChars_ba4f3_j104 V g x2 (x5 + (-1 : Int32)) x6 f20
      else
        (h_li (gA g) (V 18) 1 (-x0)).bind fun v24 =>
        (h_sb f20 x2 1 ((x5 + (-1 : Int32)) + (-1 : Int32)) v24).bind fun f25 =>
        p_J6_getChars_ba4f3_j104 V g x2 ((x5 + (-1 : Int32)) + (-1 : Int32)) x6 f25)) N (-(nn y)) va (nn e) (0 : Int32) (bH f va cap r) = some (v, bH f va cap r1) ∧ (∀ i, i < e - nd y ∨ e ≤ i → r1 i = r i) ∧ (∀ t, t < nd y → r1 (e - 1 - t) = dr y t) ∧ ∀ i, bfit (r1 i) := by
    intro N y e r hy hN he hec hb
    obtain ⟨N, rfl⟩ : ∃ M, N = M + 1 := ⟨N - 1, by omega⟩
    have hn1 := nd_b y
    obtain ⟨v1, a1, a2⟩ := S.on hy
    obtain ⟨v2, b1, b2⟩ := S.te hy
    have hb1 : ∀ i, bfit (upd r (e - 1) (nn (48 + y % 10)) i) := fun i => by
      by_cases q : i = e - 1
      · rw [q, upd_s, ← a2]; exact bfit_8 v1
      · rw [upd_n _ _ q]; exact hb i
    rw [p_J6_getChars_ba4f3_l22, if_pos (by rw [i_lt, ng_i (by omega), show (-100 : Int32).toInt = (-100 : Int) from rfl]; omega)]
    rw [ng_ng (by omega), a1, ob_s, nn_m1 (by omega), bH_s (by omega) hc, a2, ob_s]
    by_cases h9 : y ≤ 9
    · have hnd : nd y = 1 := by unfold nd; rw [if_pos (by omega)]
      rw [if_pos (by rw [i_le, ng_i (by omega), show (-9 : Int32).toInt = (-9 : Int) from rfl]; omega)]
      unfold p_J6_getChars_ba4f3_j104
      rw [if_pos rfl]
      refine ⟨_, _, rfl, fun i hi => upd_n _ _ (by omega), fun t ht => ?_, hb1⟩
      rw [show t = 0 by omega, Nat.sub_zero, upd_s]
      unfold dr
      rw [Nat.pow_zero, Nat.div_one]
    · have hnd : nd y = 2 := by unfold nd; rw [if_neg (by omega), if_pos (by omega)]
      rw [if_neg (by rw [i_le, ng_i (by omega), show (-9 : Int32).toInt = (-9 : Int) from rfl]; omega), b1, ob_s, nn_m1 (by omega), bH_s (by omega) hc, b2, ob_s]
      unfold p_J6_getChars_ba4f3_j104
      rw [if_pos rfl]
      refine ⟨_, _, rfl, fun i hi => by rw [upd_n _ _ (by omega), upd_n _ _ (by omega)], fun t ht => ?_, fun i => ?_⟩
      · unfold dr
        have : t = 0 ∨ t = 1 := by omega
        rcases this with rfl | rfl
        · rw [Nat.sub_zero, upd_n _ _ (by omega), upd_s, Nat.pow_zero, Nat.div_one]
        · rw [show e - 1 - 1 = e - 1 - 1 from rfl, upd_s, Nat.pow_one]
          congr 1
          omega
      · by_cases q : i = e - 1 - 1
        · rw [q, upd_s, ← b2]; exact bfit_8 v2
        · rw [upd_n _ _ q]; exact hb1 i
  intro k
  induction k with
  | zero =>
    intro N y e r hy hN h6 he hec hb
    exact fin N y e r (by omega) (by omega) he hec hb
  | succ k ih =>
    intro N y e r hy hN h6 he hec hb
    by_cases h : y < 100
    · exact fin N y e r h (by omega) he hec hb
    · obtain ⟨N, rfl⟩ : ∃ M, N = M + 1 := ⟨N - 1, by omega⟩
      have hnd := nd_100 (by omega) h6
      have hn1 := nd_b (y / 100)
      obtain ⟨v1, a1, a2⟩ := S.on (show y % 100 < 100 by omega)
      obtain ⟨v2, b1, b2⟩ := S.te (show y % 100 < 100 by omega)
      have hpw : y / 100 < 100 ^ (k + 1) := by
        rw [Nat.div_lt_iff_lt_mul (by decide), ← Nat.pow_succ]
        exact hy
      obtain ⟨v, r1, e1, e2, e3, e4⟩ := ih N (y / 100) (e - 1 - 1) (upd (upd r (e - 1) (nn (48 + y % 100 % 10))) (e - 1 - 1) (nn (48 + y % 100 / 10))) hpw (by omega) (by omega) (by omega) (by omega) (fun i => by
        by_cases q : i = e - 1 - 1
        · rw [q, upd_s, ← b2]; exact bfit_8 v2
        · rw [upd_n _ _ q]
          by_cases q2 : i = e - 1
          · rw [q2, upd_s, ← a2]; exact bfit_8 v1
          · rw [upd_n _ _ q2]; exact hb i)
      rw [p_J6_getChars_ba4f3_l22, if_neg (by rw [i_lt, ng_i (by omega), show (-100 : Int32).toInt = (-100 : Int) from rfl]; omega), ng_ix h6, a1, ob_s, nn_m1 (by omega), bH_s (by omega) hc, a2, ob_s, b1, ob_s, nn_m1 (by omega), bH_s (by omega) hc, b2, ob_s, ng_div (by omega), e1]
      refine ⟨v, r1, rfl, fun i hi => by rw [e2 i (by omega), upd_n _ _ (by omega), upd_n _ _ (by omega)], fun t ht => ?_, e4⟩
      by_cases q : 2 ≤ t
      · rw [show e - 1 - t = e - 1 - 1 - 1 - (t - 2) by omega, e3 (t - 2) (by omega), dr_100, show t - 2 + 2 = t by omega]
      · have : t = 0 ∨ t = 1 := by omega
        unfold dr
        rcases this with rfl | rfl
        · rw [Nat.sub_zero, e2 (e - 1) (by omega), upd_n _ _ (by omega), upd_s, Nat.pow_zero, Nat.div_one, show y % 100 % 10 = y % 10 by omega]
        · rw [e2 (e - 1 - 1) (by omega), upd_s, Nat.pow_one]
          congr 1
          omega
theorem C_gc (S : StOK V g) (hc : cap ≤ 600) (hw : w < 1000000) {e : Nat} (he : nd w ≤ e) (hec : e ≤ cap) {r : Nat → Int32} (hb : ∀ i, bfit (r i)) : ∃ v r1, p_J6_getChars_ba4f3 V g (bH f va cap r) (nn w) (nn e) va = some (v, bH f va cap r1) ∧ (∀ i, i < e - nd w ∨ e ≤ i → r1 i = r i) ∧ (∀ t, t < nd w → r1 (e - 1 - t) = dr w t) ∧ ∀ i, bfit (r1 i) := by
  obtain ⟨v, r1, e1, e2⟩ := C_gc_l (V := V) (g := g) (f := f) (va := va) S hc 2 FU w e r (by show w < 1000000; exact hw) (by unfold FU; omega) hw he hec hb
  refine ⟨v, r1, ?_, e2⟩
  unfold p_J6_getChars_ba4f3
  rw [if_pos (nn_ge w (by omega))]
  unfold p_J6_getChars_ba4f3_j12
  rw [if_pos rfl]
  exact e1
end WC


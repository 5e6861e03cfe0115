/-! ===== the law's numbers; each change by its name ===== -/
def mo (v : Int32) (b : Nat) : Nat := (v &&& (2147483647 : Int32)).toNatClampNeg % b
theorem and_nn (v : Int32) : (0 : Int32) ≤ v &&& (2147483647 : Int32) := by
  rw [Int32.le_iff_toBitVec_sle, Int32.toBitVec_and]
  rw [BitVec.sle_iff_toInt_le]
  have h : (v.toBitVec &&& (2147483647 : Int32).toBitVec).msb = false := by
    rw [BitVec.msb_and]
    have : ((2147483647 : Int32).toBitVec).msb = false := by decide
    rw [this, Bool.and_false]
  have h2 := BitVec.toInt_nonneg_of_msb_false h
  exact h2
theorem L_most (V : Nat → Nat) (g f : GH) (v : Int32) {b : Nat} (h1 : 1 ≤ b) (h2 : b < 2147483648) : p_L_most V g f v (nn b) = some (nn (mo v b)) := by
  have h0 := nn_of (and_nn v)
  have hb : (v &&& (2147483647 : Int32)).toNatClampNeg < 2147483648 := by
    have := i_hi (v &&& (2147483647 : Int32))
    show ((v &&& (2147483647 : Int32)).toInt).toNat < _
    omega
  unfold p_L_most h_dv mo
  rw [if_neg (fun q => by rw [n_0, nn_eq (by omega) (by omega)] at q; omega), ob_s, h0]
  generalize (v &&& (2147483647 : Int32)).toNatClampNeg = a at hb ⊢
  have hc : (nn a).toNatClampNeg = a := nn_c hb
  have hm : a / b * b ≤ a := Nat.div_mul_le_self a b
  rw [nn_div hb h2, nn_mul, nn_sub hm, hc]
  congr 2
  have := Nat.div_add_mod a b
  rw [Nat.mul_comm] at this
  omega
theorem mo_lt (v : Int32) {b : Nat} (h : 1 ≤ b) : mo v b < b := Nat.mod_lt _ (by omega)
section JX
variable {V : Nat → Nat} {g f : GH} {x u p bl k : Nat} {T S : TS} {H : Nat → TS} {hs cc : Int32} {bs : Nat → Int32}
theorem ref_c {v : Nat} {q r w : Int32} (h3 : 3 ≤ v) (h10 : v ≤ 10) (hv : TV T) (hk : k < tN T) : s_ref v T (nn k) q r w = s_refC v (tC T k) q r w := by
  have := hv.1
  unfold s_ref
  rw [if_neg (by omega), if_neg (by omega), if_pos (inC_nn (by omega) hk), ix_nn (by omega)]
theorem refC_0 {v : Nat} {c : CS} {q r w : Int32} (h1 : s_hp v = true → inC (cN c + (if v = 6 then 1 else 0)) q = true) (h2 : s_in (-(s_lim v)) (s_lim v) r = true) (h3 : s_in (-(s_lim v)) (s_lim v) w = true) (h4 : s_mayV v c r w = true) : s_refC v c q r w = 0 := by
  unfold s_refC
  rw [if_neg (fun q => by rw [h1 q.1] at q; cases q.2), if_pos h2, if_pos h3, if_pos h4]
theorem ans_c {v : Nat} {q r w : Int32} (h3 : 3 ≤ v) (h10 : v ≤ 9) (h5 : v ≠ 5) (hv : TV T) (hk : k < tN T) : s_ans v T (nn k) q r w = nn (cN (s_nc v (tC T k) q r w)) := by
  have := hv.1
  unfold s_ans
  rw [if_neg (by omega), if_neg (by omega), if_neg (by omega), if_neg h5, ix_nn (by omega)]
theorem ch_c {v : Nat} {q r w : Int32} (h10 : v ≠ 10) (hv : TV T) (hk : k < tN T) : ts_ch v T (nn k) q r w = ts_set T k (s_nc v (tC T k) q r w) := by
  have := hv.1
  unfold ts_ch
  rw [if_neg h10, ix_nn (by omega)]
theorem set_C (T : TS) (i : Nat) (c : CS) : tC (ts_set T i c) i = c := if_pos rfl
theorem set_C2 (T : TS) {i j : Nat} (c : CS) (h : j ≠ i) : tC (ts_set T i c) j = tC T j := if_neg h
theorem set_K (T : TS) (i : Nat) (c : CS) : tK (ts_set T i c) = tK T := rfl
theorem set_N (T : TS) (i : Nat) (c : CS) : tN (ts_set T i c) = tN T := rfl
def JQ (V : Nat → Nat) (f f1 : GH) (x : Nat) (T T1 : TS) (hs : Int32) (u p : Nat) (H : Nat → TS) (S : TS) (bl : Nat) (bs : Nat → Int32) (cc : Int32) : Prop := JV V f1 x T1 hs (h_pu u) (h_pp p) (h_pH u H T) S bl bs cc ∧ ∀ b, b < x ∨ x + 235 ≤ b → f1 b = f b
theorem J_fold (S0 : StOK V g) (I : JV V f x T hs u p H S bl bs cc) (hk : k < tN T) {w : Int32} (hw : -50 ≤ w.toInt ∧ w.toInt ≤ 50) (hy : s_why (tC T k) w = 0) : ∃ f1, h_nt (p_X7_fold V g f x (nn k) w) = some (nn (cN (s_fold (tC T k) w)), f1) ∧ JQ V f f1 x T (ts_set T k (s_fold (tC T k) w)) hs u p H S bl bs cc := by
  have h0 : s_ref 3 T (nn k) 0 w 0 = 0 := by
    rw [ref_c (by omega) (by omega) I.tv hk]
    exact refC_0 (fun h => by cases h) (sin_of (lo := -50) (hi := 50) hw.1 hw.2) (by decide) (by show decide _ = true; rw [decide_eq_true_eq]; exact hy)
  obtain ⟨f1, e1, e2, e3⟩ := J_chg S0 I (by omega) (by omega) h0
  rw [ch_c (by omega) I.tv hk] at e2
  rw [ans_c (by omega) (by omega) (by omega) I.tv hk] at e1
  refine ⟨f1, ?_, e2, e3⟩
  unfold p_X7_fold
  rw [e1]
  rfl
theorem J_unfold (S0 : StOK V g) (I : JV V f x T hs u p H S bl bs cc) (hk : k < tN T) (hy : s_need (tC T k) ≤ (cN (tC T k) + 1) / 2) : ∃ f1, h_nt (p_X7_unfold V g f x (nn k)) = some (nn (cN (s_unf (tC T k))), f1) ∧ JQ V f f1 x T (ts_set T k (s_unf (tC T k))) hs u p H S bl bs cc := by
  have h0 : s_ref 4 T (nn k) 0 0 0 = 0 := by
    rw [ref_c (by omega) (by omega) I.tv hk]
    exact refC_0 (fun h => by cases h) (by decide) (by decide) (by show decide _ = true; rw [decide_eq_true_eq]; exact hy)
  obtain ⟨f1, e1, e2, e3⟩ := J_chg S0 I (by omega) (by omega) h0
  rw [ch_c (by omega) I.tv hk] at e2
  rw [ans_c (by omega) (by omega) (by omega) I.tv hk] at e1
  refine ⟨f1, ?_, e2, e3⟩
  unfold p_X7_unfold
  rw [e1]
  rfl
theorem J_move (S0 : StOK V g) (I : JV V f x T hs u p H S bl bs cc) (hk : k < tN T) {i : Nat} (hi : i < cN (tC T k)) {a b : Int32} (ha : bd a) (hb : bd b) : ∃ f1, h_nt (p_X7_movePoint V g f x (nn k) (nn i) a b) = some (s_dist (tK T) (cX (tC T k) i - a) (cY (tC T k) i - b), f1) ∧ JQ V f f1 x T (ts_set T k (s_put (tC T k) i a b)) hs u p H S bl bs cc := by
  have n2 := (I.tv.2.2 k hk).n2
  have h6 := I.tv.1
  have h0 : s_ref 5 T (nn k) (nn i) a b = 0 := by
    rw [ref_c (by omega) (by omega) I.tv hk]
    exact refC_0 (fun _ => inC_nn (by show cN (tC T k) + 0 < _; omega) (by show i < cN (tC T k) + 0; omega)) (sin_of (lo := -1000) (hi := 1000) ha.1 ha.2) (sin_of (lo := -1000) (hi := 1000) hb.1 hb.2) rfl
  obtain ⟨f1, e1, e2, e3⟩ := J_chg S0 I (by omega) (by omega) h0
  rw [ch_c (by omega) I.tv hk] at e2
  have ea : s_ans 5 T (nn k) (nn i) a b = s_dist (tK T) (cX (tC T k) i - a) (cY (tC T k) i - b) := by
    unfold s_ans
    rw [if_neg (by omega), if_neg (by omega), if_neg (by omega), if_pos rfl, ix_nn (by omega), ix_nn (by omega)]
  rw [show s_nc 5 (tC T k) (nn i) a b = s_put (tC T k) i a b by show s_put (tC T k) (ix (nn i)) a b = _; rw [ix_nn (by omega)]] at e2
  refine ⟨f1, ?_, e2, e3⟩
  unfold p_X7_movePoint
  rw [e1, ea]
  rfl
theorem J_ins (S0 : StOK V g) (I : JV V f x T hs u p H S bl bs cc) (hk : k < tN T) {i : Nat} (hi : i ≤ cN (tC T k)) (hn : cN (tC T k) < 129) {a b : Int32} (ha : bd a) (hb : bd b) : ∃ f1, h_nt (p_X7_insertPoint V g f x (nn k) (nn i) a b) = some (nn (cN (tC T k) + 1), f1) ∧ JQ V f f1 x T (ts_set T k (s_ins (tC T k) i a b)) hs u p H S bl bs cc := by
  have n2 := (I.tv.2.2 k hk).n2
  have h0 : s_ref 6 T (nn k) (nn i) a b = 0 := by
    rw [ref_c (by omega) (by omega) I.tv hk]
    exact refC_0 (fun _ => inC_nn (by rw [if_pos rfl]; omega) (by rw [if_pos rfl]; omega)) (sin_of (lo := -1000) (hi := 1000) ha.1 ha.2) (sin_of (lo := -1000) (hi := 1000) hb.1 hb.2) (by show decide _ = true; rw [decide_eq_true_eq]; exact hn)
  obtain ⟨f1, e1, e2, e3⟩ := J_chg S0 I (by omega) (by omega) h0
  rw [ch_c (by omega) I.tv hk] at e2
  have hnc : s_nc 6 (tC T k) (nn i) a b = s_ins (tC T k) i a b := by show s_ins (tC T k) (ix (nn i)) a b = _; rw [ix_nn (by omega)]
  rw [ans_c (by omega) (by omega) (by omega) I.tv hk, hnc] at e1
  rw [hnc] at e2
  refine ⟨f1, ?_, e2, e3⟩
  unfold p_X7_insertPoint
  rw [e1]
  rfl
theorem J_drop (S0 : StOK V g) (I : JV V f x T hs u p H S bl bs cc) (hk : k < tN T) {i : Nat} (hi : i < cN (tC T k)) (hn : s_need (tC T k) < cN (tC T k)) : ∃ f1, h_nt (p_X7_removePoint V g f x (nn k) (nn i)) = some (nn (cN (tC T k) - 1), f1) ∧ JQ V f f1 x T (ts_set T k (s_cut (tC T k) i)) hs u p H S bl bs cc := by
  have n2 := (I.tv.2.2 k hk).n2
  have h0 : s_ref 7 T (nn k) (nn i) 0 0 = 0 := by
    rw [ref_c (by omega) (by omega) I.tv hk]
    exact refC_0 (fun _ => inC_nn (by show cN (tC T k) + 0 < _; omega) (by show i < cN (tC T k) + 0; omega)) (by decide) (by decide) (by show decide _ = true; rw [decide_eq_true_eq]; exact hn)
  obtain ⟨f1, e1, e2, e3⟩ := J_chg S0 I (by omega) (by omega) h0
  rw [ch_c (by omega) I.tv hk] at e2
  have hnc : s_nc 7 (tC T k) (nn i) 0 0 = s_cut (tC T k) i := by show s_cut (tC T k) (ix (nn i)) = _; rw [ix_nn (by omega)]
  rw [ans_c (by omega) (by omega) (by omega) I.tv hk, hnc] at e1
  rw [hnc] at e2
  refine ⟨f1, ?_, e2, e3⟩
  unfold p_X7_removePoint
  rw [e1]
  rfl
theorem may_of {c : CS} {a b : Int32} : ∀ (d i : Nat), (∀ j, i ≤ j → j < i + d → s_in (-1000) 1000 (cX c j + a) = true ∧ s_in (-1000) 1000 (cY c j + b) = true) → s_may c a b d i = true := by
  intro d
  induction d with
  | zero => intro i _; rfl
  | succ d ih =>
    intro i h
    obtain ⟨h1, h2⟩ := h i (Nat.le_refl _) (by omega)
    have h3 := ih (i + 1) (fun j q1 q2 => h j (by omega) (by omega))
    unfold s_may
    rw [h1, h2, h3]
    rfl
theorem J_shift (S0 : StOK V g) (I : JV V f x T hs u p H S bl bs cc) (hk : k < tN T) {a b : Int32} (ha : -2000 ≤ a.toInt ∧ a.toInt ≤ 2000) (hb : -2000 ≤ b.toInt ∧ b.toInt ≤ 2000) (hm : ∀ j, j < cN (tC T k) → bd (cX (tC T k) j + a) ∧ bd (cY (tC T k) j + b)) : ∃ f1, h_nt (p_X7_shift V g f x (nn k) a b) = some (nn (cN (tC T k)), f1) ∧ JQ V f f1 x T (ts_set T k (s_mv (tC T k) a b)) hs u p H S bl bs cc := by
  have h0 : s_ref 8 T (nn k) 0 a b = 0 := by
    rw [ref_c (by omega) (by omega) I.tv hk]
    exact refC_0 (fun h => by cases h) (sin_of (lo := -2000) (hi := 2000) ha.1 ha.2) (sin_of (lo := -2000) (hi := 2000) hb.1 hb.2) (may_of _ 0 (fun j _ h2 => ⟨sin_bd (hm j (by omega)).1, sin_bd (hm j (by omega)).2⟩))
  obtain ⟨f1, e1, e2, e3⟩ := J_chg S0 I (by omega) (by omega) h0
  rw [ch_c (by omega) I.tv hk] at e2
  rw [ans_c (by omega) (by omega) (by omega) I.tv hk] at e1
  refine ⟨f1, ?_, e2, e3⟩
  unfold p_X7_shift
  rw [e1]
  rfl
theorem J_rev (S0 : StOK V g) (I : JV V f x T hs u p H S bl bs cc) (hk : k < tN T) : ∃ f1, h_nt (p_X7_reverse V g f x (nn k)) = some (nn (cN (tC T k)), f1) ∧ JQ V f f1 x T (ts_set T k (s_rev (tC T k))) hs u p H S bl bs cc := by
  have h0 : s_ref 9 T (nn k) 0 0 0 = 0 := by
    rw [ref_c (by omega) (by omega) I.tv hk]
    exact refC_0 (fun h => by cases h) (by decide) (by decide) rfl
  obtain ⟨f1, e1, e2, e3⟩ := J_chg S0 I (by omega) (by omega) h0
  rw [ch_c (by omega) I.tv hk] at e2
  rw [ans_c (by omega) (by omega) (by omega) I.tv hk] at e1
  refine ⟨f1, ?_, e2, e3⟩
  unfold p_X7_reverse
  rw [e1]
  rfl
theorem J_rem (S0 : StOK V g) (I : JV V f x T hs u p H S bl bs cc) (hk : k < tN T) : ∃ f1, h_nt (p_X7_removeCoast V g f x (nn k)) = some (nn (cN (tC T k)), f1) ∧ JQ V f f1 x T (ts_rem T k) hs u p H S bl bs cc := by
  have h6 := I.tv.1
  have h0 : s_ref 10 T (nn k) 0 0 0 = 0 := by
    rw [ref_c (by omega) (by omega) I.tv hk]
    exact refC_0 (fun h => by cases h) (by decide) (by decide) rfl
  obtain ⟨f1, e1, e2, e3⟩ := J_chg S0 I (by omega) (by omega) h0
  have hch : ts_ch 10 T (nn k) 0 0 0 = ts_rem T k := by unfold ts_ch; rw [if_pos rfl, ix_nn (by omega)]
  have ha : s_ans 10 T (nn k) 0 0 0 = nn (cN (tC T k)) := by unfold s_ans; rw [if_neg (by omega), if_neg (by omega), if_pos rfl, ix_nn (by omega)]
  rw [hch] at e2
  refine ⟨f1, ?_, e2, e3⟩
  unfold p_X7_removeCoast
  rw [e1, ha]
  rfl
theorem pH_top (u : Nat) (H : Nat → TS) (T : TS) (h : u ≤ 8) : h_pH u H T (h_pu u - 1) = T := by
  unfold h_pH h_pu
  by_cases c : u < 8
  · rw [if_pos c, if_neg (by split <;> omega)]
  · rw [if_neg c, if_pos (show u = 8 by omega), if_neg (by omega)]
theorem pH_low {u : Nat} {H : Nat → TS} {T : TS} (h : u ≤ 8) (h1 : 1 ≤ u) : h_pH u H T (h_pu u - 1 - 1) = H (u - 1) := by
  unfold h_pH h_pu
  by_cases c : u < 8
  · rw [if_pos c, if_neg (show ¬ u = 8 by omega), if_pos (by omega)]
    exact congrArg H (by omega)
  · rw [if_neg c, if_pos (show u = 8 by omega), if_pos (by omega)]
    exact congrArg H (by omega)
theorem pu_1 (u : Nat) : 1 ≤ h_pu u := by unfold h_pu; split <;> omega
end JX

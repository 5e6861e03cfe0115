/-! ===== areas, positions, boxes, the nearest point, what is left without a point: the class's side ===== -/
def bz (b : Bool) : Int32 := if b then 1 else 0
theorem bz_t : bz true = (1 : Int32) := rfl
theorem bz_f : bz false = (0 : Int32) := rfl
theorem bz_tn : ¬ bz true = (0 : Int32) := by decide
theorem bz_0 (b : Bool) : bz b = (0 : Int32) ↔ b = false := by cases b <;> decide
theorem bz_1 (b : Bool) : bz b = (1 : Int32) ↔ b = true := by cases b <;> decide
theorem hbz (b : Bool) : h_bz (bz b) = some (bz b) := by cases b <;> decide
theorem hbz01 {v : Int32} (h : v = 0 ∨ v = 1) : h_bz v = some v := by
  unfold h_bz
  rw [if_pos h]
def s_area (c : CS) : Int32 := itr (fun i a => a + (cX c i * cY c (s_next (cN c) i) - cX c (s_next (cN c) i) * cY c i)) (cN c) 0 0
def s_side (c : CS) (i : Nat) (x y : Int32) : Int32 := (cX c (s_next (cN c) i) - cX c i) * (y - cY c i) - (cY c (s_next (cN c) i) - cY c i) * (x - cX c i)
def s_on (c : CS) (i : Nat) (x y : Int32) : Bool := decide (s_side c i x y = 0 ∧ ¬ x < s_min (cX c i) (cX c (s_next (cN c) i)) ∧ ¬ s_max (cX c i) (cX c (s_next (cN c) i)) < x ∧ ¬ y < s_min (cY c i) (cY c (s_next (cN c) i)) ∧ ¬ s_max (cY c i) (cY c (s_next (cN c) i)) < y)
def s_ray (c : CS) (i : Nat) (x y : Int32) : Bool :=
  if y < cY c i then (if y < cY c (s_next (cN c) i) then false else decide (s_side c i x y < 0))
  else if y < cY c (s_next (cN c) i) then decide (0 < s_side c i x y) else false
def s_cov (c : CS) (x y : Int32) : Nat → Nat → Bool → Bool
  | 0, _, b => b
  | d + 1, i, b => if s_on c i x y = true then true else s_cov c x y d (i + 1) (b ^^ s_ray c i x y)
def s_covers (c : CS) (x y : Int32) : Bool := s_cov c x y (cN c) 0 false
def s_all (c e : CS) : Nat → Nat → Bool
  | 0, _ => true
  | d + 1, i => if s_covers c (cX e i) (cY e i) = true then s_all c e d (i + 1) else false
def s_coversAll (c e : CS) : Bool := s_all c e (cN e) 0
def s_box (X : Nat → Int32) (n : Nat) : Int32 := (itr (fun i (p : Int32 × Int32) => (s_min p.1 (X i), s_max p.2 (X i))) n 0 (1000, -1000)).2 - (itr (fun i (p : Int32 × Int32) => (s_min p.1 (X i), s_max p.2 (X i))) n 0 (1000, -1000)).1
section CA
variable {V : Nat → Nat} {g f : GH} {q cap : Nat} {c : CS}
theorem C_area_l (h : CoA f q cap c) (hi : cI c ≠ 0) (hn : 1 ≤ cN c) : ∀ (d N i : Nat) (a : Int32), i + d = cN c → d < N → p_X2_signedArea_l4 V g f (fun x => some x) N q a (nn i) = some (itr (fun i a => a + (cX c i * cY c (s_next (cN c) i) - cX c (s_next (cN c) i) * cY c i)) d i a) := by
  have hb := h.nb
  intro d
  induction d with
  | zero =>
    intro N i a he hN
    obtain ⟨N, rfl⟩ : ∃ M, N = M + 1 := ⟨N - 1, by omega⟩
    rw [p_X2_signedArea_l4, C_segs h hn, ob_s, if_neg hi, if_pos (by rw [nn_le (by omega) (by omega)]; omega)]
    rfl
  | succ d ih =>
    intro N i a he hN
    obtain ⟨N, rfl⟩ : ∃ M, N = M + 1 := ⟨N - 1, by omega⟩
    have hlt : i < cN c := by omega
    have hlt2 := s_next_lt (i := i) (show 0 < cN c by omega)
    rw [p_X2_signedArea_l4, C_segs h hn, ob_s, if_neg hi, if_neg (by rw [nn_le (by omega) (by omega)]; omega)]
    simp only [C_segEnd h hlt, h.xs, h.ys, h.x hlt, h.y hlt, h.x hlt2, h.y hlt2, ob_s, nn_s]
    exact ih N (i + 1) _ (by omega) (by omega)
theorem C_area (h : CoA f q cap c) (hi : cI c ≠ 0) (hn : 1 ≤ cN c) : p_X2_signedArea V g f q = some (s_area c) := by
  have hb := h.nb
  unfold p_X2_signedArea
  rw [h.me]
  exact C_area_l h hi hn (cN c) FU 0 0 (by omega) (by unfold FU; omega)
theorem C_side (h : CoA f q cap c) {i : Nat} (hi : i < cN c) (x y : Int32) : p_X2_side V g f q (nn i) x y = some (s_side c i x y) := by
  have h2 := s_next_lt (i := i) (show 0 < cN c by omega)
  unfold p_X2_side
  simp only [h.me, C_segEnd h hi, h.xs, h.ys, h.x hi, h.y hi, h.x h2, h.y h2, ob_s]
  rfl
theorem C_on (h : CoA f q cap c) {i : Nat} (hi : i < cN c) (x y : Int32) : p_X2_liesOn V g f q (nn i) x y = some (bz (s_on c i x y)) := by
  have h2 := s_next_lt (i := i) (show 0 < cN c by omega)
  unfold p_X2_liesOn s_on
  simp only [h.me, C_segEnd h hi, C_side h hi, h.xs, h.ys, h.x hi, h.y hi, h.x h2, h.y h2, ob_s, pm_min, pm_max]
  by_cases a1 : s_side c i x y = 0
  · rw [if_pos a1]
    by_cases a2 : x < s_min (cX c i) (cX c (s_next (cN c) i))
    · rw [if_pos (show x < (if cX c (s_next (cN c) i) < cX c i then cX c (s_next (cN c) i) else cX c i) from a2), decide_eq_false (fun z => z.2.1 a2)]
      rfl
    · rw [if_neg (show ¬ x < (if cX c (s_next (cN c) i) < cX c i then cX c (s_next (cN c) i) else cX c i) from a2)]
      by_cases a3 : s_max (cX c i) (cX c (s_next (cN c) i)) < x
      · rw [if_pos (show (if cX c i < cX c (s_next (cN c) i) then cX c (s_next (cN c) i) else cX c i) < x from a3), decide_eq_false (fun z => z.2.2.1 a3)]
        rfl
      · rw [if_neg (show ¬ (if cX c i < cX c (s_next (cN c) i) then cX c (s_next (cN c) i) else cX c i) < x from a3)]
        by_cases a4 : y < s_min (cY c i) (cY c (s_next (cN c) i))
        · rw [if_pos (show y < (if cY c (s_next (cN c) i) < cY c i then cY c (s_next (cN c) i) else cY c i) from a4), decide_eq_false (fun z => z.2.2.2.1 a4)]
          rfl
        · rw [if_neg (show ¬ y < (if cY c (s_next (cN c) i) < cY c i then cY c (s_next (cN c) i) else cY c i) from a4)]
          by_cases a5 : s_max (cY c i) (cY c (s_next (cN c) i)) < y
          · rw [if_pos (show (if cY c i < cY c (s_next (cN c) i) then cY c (s_next (cN c) i) else cY c i) < y from a5), decide_eq_false (fun z => z.2.2.2.2 a5)]
            rfl
          · rw [if_neg (show ¬ (if cY c i < cY c (s_next (cN c) i) then cY c (s_next (cN c) i) else cY c i) < y from a5), decide_eq_true ⟨a1, a2, a3, a4, a5⟩]
            rfl
  · rw [if_neg a1, decide_eq_false (fun z => a1 z.1)]
    rfl
theorem C_ray (h : CoA f q cap c) {i : Nat} (hi : i < cN c) (x y : Int32) : p_X2_rayCrosses V g f q (nn i) x y = some (bz (s_ray c i x y)) := by
  have h2 := s_next_lt (i := i) (show 0 < cN c by omega)
  unfold p_X2_rayCrosses p_X2_rayCrosses_j15 p_X2_rayCrosses_j36 s_ray
  simp only [h.me, C_segEnd h hi, C_side h hi, h.xs, h.ys, h.x hi, h.y hi, h.x h2, h.y h2, ob_s]
  have e01 : ¬ (0 : Int32) = 1 := by decide
  have e10 : ¬ (1 : Int32) = 0 := by decide
  by_cases a1 : y < cY c i
  · rw [if_neg (i_not_le.mpr a1), if_pos a1]
    by_cases a2 : y < cY c (s_next (cN c) i)
    · rw [if_neg (i_not_le.mpr a2), if_pos a2, if_pos trivial]
      rfl
    · rw [if_pos (i_not_lt.mp a2), if_neg a2, if_neg e10, if_pos trivial]
      by_cases a3 : s_side c i x y < 0
      · rw [if_neg (i_not_le.mpr a3), decide_eq_true a3]
        rfl
      · rw [if_pos (i_not_lt.mp a3), decide_eq_false a3]
        rfl
  · rw [if_pos (i_not_lt.mp a1), if_neg a1]
    by_cases a2 : y < cY c (s_next (cN c) i)
    · rw [if_neg (i_not_le.mpr a2), if_pos a2, if_neg e01, if_neg e10]
      by_cases a3 : 0 < s_side c i x y
      · rw [if_neg (i_not_le.mpr a3), decide_eq_true a3]
        rfl
      · rw [if_pos (i_not_lt.mp a3), decide_eq_false a3]
        rfl
    · rw [if_pos (i_not_lt.mp a2), if_neg a2, if_pos trivial]
      rfl
theorem C_cov_l (h : CoA f q cap c) (hi : cI c ≠ 0) (hn : 1 ≤ cN c) (x y : Int32) : ∀ (d N i : Nat) (b : Bool), i + d = cN c → d < N → p_X2_covers_l5 V g f (some (1 : Int32)) (fun x3 => (h_bz x3).bind fun _ => some x3) N q x y (bz b) (nn i) = some (bz (s_cov c x y d i b)) := by
  have hb := h.nb
  intro d
  induction d with
  | zero =>
    intro N i b he hN
    obtain ⟨N, rfl⟩ : ∃ M, N = M + 1 := ⟨N - 1, by omega⟩
    rw [p_X2_covers_l5, C_segs h hn, ob_s, if_neg hi, if_pos (by rw [nn_le (by omega) (by omega)]; omega), hbz]
    rfl
  | succ d ih =>
    intro N i b he hN
    obtain ⟨N, rfl⟩ : ∃ M, N = M + 1 := ⟨N - 1, by omega⟩
    have hlt : i < cN c := by omega
    rw [p_X2_covers_l5, C_segs h hn, ob_s, if_neg hi, if_neg (by rw [nn_le (by omega) (by omega)]; omega), C_on h hlt, ob_s, s_cov]
    have ih0 := fun b => ih N (i + 1) b (by omega) (by omega)
    cases s_on c i x y with
    | true => rfl
    | false =>
      rw [if_pos bz_f, C_ray h hlt, ob_s, if_neg Bool.false_ne_true]
      cases s_ray c i x y with
      | false =>
        rw [if_pos bz_f, nn_s, ih0 b]
        cases b <;> rfl
      | true =>
        rw [if_neg bz_tn, nn_s]
        cases b with
        | false =>
          rw [if_pos bz_f]
          exact ih0 true
        | true =>
          rw [if_neg bz_tn]
          exact ih0 false
theorem C_covers (h : CoA f q cap c) (hi : cI c ≠ 0) (hn : 1 ≤ cN c) (x y : Int32) : p_X2_covers V g f q x y = some (bz (s_covers c x y)) := by
  have hb := h.nb
  unfold p_X2_covers
  rw [h.me]
  exact C_cov_l h hi hn x y (cN c) FU 0 false (by omega) (by unfold FU; omega)
theorem C_all_l {r cap2 : Nat} {e : CS} (h : CoA f q cap c) (k : CoA f r cap2 e) (hi : cI c ≠ 0) (hn : 1 ≤ cN c) : ∀ (d N i : Nat), i + d = cN e → d < N → p_X2_coversAll_l2 V g f (some (0 : Int32)) (some (1 : Int32)) N q r (nn i) = some (bz (s_all c e d i)) := by
  have hb := k.nb
  intro d
  induction d with
  | zero =>
    intro N i he hN
    obtain ⟨N, rfl⟩ : ∃ M, N = M + 1 := ⟨N - 1, by omega⟩
    rw [p_X2_coversAll_l2, k.n, ob_s, if_pos (by rw [nn_le (by omega) (by omega)]; omega)]
    rfl
  | succ d ih =>
    intro N i he hN
    obtain ⟨N, rfl⟩ : ∃ M, N = M + 1 := ⟨N - 1, by omega⟩
    have hlt : i < cN e := by omega
    rw [p_X2_coversAll_l2, k.n, ob_s, if_neg (by rw [nn_le (by omega) (by omega)]; omega)]
    simp only [k.xs, k.ys, k.x hlt, k.y hlt, ob_s, C_covers h hi hn, nn_s]
    rw [s_all]
    cases s_covers c (cX e i) (cY e i) with
    | false =>
      rw [if_pos bz_f, if_neg Bool.false_ne_true]
      rfl
    | true =>
      rw [if_neg bz_tn, if_pos rfl]
      exact ih N (i + 1) (by omega) (by omega)
theorem C_coversAll {r cap2 : Nat} {e : CS} (h : CoA f q cap c) (k : CoA f r cap2 e) (hi : cI c ≠ 0) (hn : 1 ≤ cN c) : p_X2_coversAll V g f q r = some (bz (s_coversAll c e)) := by
  have hb := k.nb
  unfold p_X2_coversAll
  rw [h.me]
  exact C_all_l h k hi hn (cN e) FU 0 (by omega) (by unfold FU; omega)
theorem C_box_l {a n : Nat} {X : Nat → Int32} (hn : n ≤ 200) (hx : ∀ i, i < n → h_li f a 0 (nn i) = some (X i)) : ∀ (d N i : Nat) (p : Int32 × Int32), i + d = n → d < N → p_X7_extent_l11 V g f (fun x2 x3 => some (x3 - x2)) N a (nn n) p.1 p.2 (nn i) = some ((itr (fun i (p : Int32 × Int32) => (s_min p.1 (X i), s_max p.2 (X i))) d i p).2 - (itr (fun i (p : Int32 × Int32) => (s_min p.1 (X i), s_max p.2 (X i))) d i p).1) := by
  intro d
  induction d with
  | zero =>
    intro N i p he hN
    obtain ⟨N, rfl⟩ : ∃ M, N = M + 1 := ⟨N - 1, by omega⟩
    rw [p_X7_extent_l11, if_pos (by rw [nn_le (by omega) (by omega)]; omega)]
    rfl
  | succ d ih =>
    intro N i p he hN
    obtain ⟨N, rfl⟩ : ∃ M, N = M + 1 := ⟨N - 1, by omega⟩
    rw [p_X7_extent_l11, if_neg (by rw [nn_le (by omega) (by omega)]; omega)]
    simp only [hx i (by omega), ob_s, pm_min, pm_max, nn_s]
    exact ih N (i + 1) (s_min p.1 (X i), s_max p.2 (X i)) (by omega) (by omega)
theorem C_box {a n : Nat} {X : Nat → Int32} (hn : n ≤ 200) (hx : ∀ i, i < n → h_li f a 0 (nn i) = some (X i)) : p_X7_extent V g f a (nn n) = some (s_box X n) := by
  unfold p_X7_extent
  exact C_box_l hn hx n FU 0 (1000, -1000) (by omega) (by unfold FU; omega)
end CA


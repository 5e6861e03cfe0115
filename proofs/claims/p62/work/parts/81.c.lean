/-! ===== islands: what covers a point, boxes, the least island, what is left without a point ===== -/
theorem mb {a b : Int} (h1 : -2000 ≤ a ∧ a ≤ 2000) (h2 : -2000 ≤ b ∧ b ≤ 2000) : -4000000 ≤ a * b ∧ a * b ≤ 4000000 := by
  have h : (a * b).natAbs ≤ 2000 * 2000 := by
    rw [Int.natAbs_mul]
    exact Nat.mul_le_mul (by omega) (by omega)
  omega
theorem side_i {c : CS} {i : Nat} {x y : Int32} (b1 : bd (cX c i) ∧ bd (cY c i)) (b2 : bd (cX c (s_next (cN c) i)) ∧ bd (cY c (s_next (cN c) i))) (hx : bd x) (hy : bd y) :
    (s_side c i x y).toInt = ((cX c (s_next (cN c) i)).toInt - (cX c i).toInt) * (y.toInt - (cY c i).toInt) - ((cY c (s_next (cN c) i)).toInt - (cY c i).toInt) * (x.toInt - (cX c i).toInt) := by
  have e1 := bd_sub b2.1 b1.1
  have e2 := bd_sub hy b1.2
  have e3 := bd_sub b2.2 b1.2
  have e4 := bd_sub hx b1.1
  unfold bd at b1 b2 hx hy
  have m1 := mb (a := (cX c (s_next (cN c) i)).toInt - (cX c i).toInt) (b := y.toInt - (cY c i).toInt) (by omega) (by omega)
  have m2 := mb (a := (cY c (s_next (cN c) i)).toInt - (cY c i).toInt) (b := x.toInt - (cX c i).toInt) (by omega) (by omega)
  have k1 : ((cX c (s_next (cN c) i) - cX c i) * (y - cY c i)).toInt = ((cX c (s_next (cN c) i)).toInt - (cX c i).toInt) * (y.toInt - (cY c i).toInt) := by
    rw [i_mul (by rw [e1, e2]; omega) (by rw [e1, e2]; omega), e1, e2]
  have k2 : ((cY c (s_next (cN c) i) - cY c i) * (x - cX c i)).toInt = ((cY c (s_next (cN c) i)).toInt - (cY c i).toInt) * (x.toInt - (cX c i).toInt) := by
    rw [i_mul (by rw [e3, e4]; omega) (by rw [e3, e4]; omega), e3, e4]
  unfold s_side
  rw [i_sub (by rw [k1, k2]; omega) (by rw [k1, k2]; omega), k1, k2]
theorem up_side {X0 X1 Y0 Y1 x y : Int} (h0 : x < X0) (h1 : x < X1) (h2 : Y0 ≤ y) (h3 : y < Y1) : 0 < (X1 - X0) * (y - Y0) - (Y1 - Y0) * (x - X0) := by
  have e : (X1 - X0) * (y - Y0) - (Y1 - Y0) * (x - X0) = (X1 - x) * (y - Y0) + (X0 - x) * (Y1 - y) := by grind
  have p1 : 0 ≤ (X1 - x) * (y - Y0) := Int.mul_nonneg (by omega) (by omega)
  have p2 : 0 < (X0 - x) * (Y1 - y) := Int.mul_pos (by omega) (by omega)
  omega
theorem dn_side {X0 X1 Y0 Y1 x y : Int} (h0 : x < X0) (h1 : x < X1) (h2 : y < Y0) (h3 : Y1 ≤ y) : (X1 - X0) * (y - Y0) - (Y1 - Y0) * (x - X0) < 0 := by
  have e : (X1 - X0) * (y - Y0) - (Y1 - Y0) * (x - X0) = -((X1 - x) * (Y0 - y) + (X0 - x) * (y - Y1)) := by grind
  have p1 : 0 < (X1 - x) * (Y0 - y) := Int.mul_pos (by omega) (by omega)
  have p2 : 0 ≤ (X0 - x) * (y - Y1) := Int.mul_nonneg (by omega) (by omega)
  omega
theorem up_sideR {X0 X1 Y0 Y1 x y : Int} (h0 : X0 < x) (h1 : X1 < x) (h2 : Y0 ≤ y) (h3 : y < Y1) : (X1 - X0) * (y - Y0) - (Y1 - Y0) * (x - X0) < 0 := by
  have e : (X1 - X0) * (y - Y0) - (Y1 - Y0) * (x - X0) = -((x - X1) * (y - Y0) + (x - X0) * (Y1 - y)) := by grind
  have p1 : 0 ≤ (x - X1) * (y - Y0) := Int.mul_nonneg (by omega) (by omega)
  have p2 : 0 < (x - X0) * (Y1 - y) := Int.mul_pos (by omega) (by omega)
  omega
theorem dn_sideR {X0 X1 Y0 Y1 x y : Int} (h0 : X0 < x) (h1 : X1 < x) (h2 : y < Y0) (h3 : Y1 ≤ y) : 0 < (X1 - X0) * (y - Y0) - (Y1 - Y0) * (x - X0) := by
  have e : (X1 - X0) * (y - Y0) - (Y1 - Y0) * (x - X0) = (x - X1) * (Y0 - y) + (x - X0) * (y - Y1) := by grind
  have p1 : 0 < (x - X1) * (Y0 - y) := Int.mul_pos (by omega) (by omega)
  have p2 : 0 ≤ (x - X0) * (y - Y1) := Int.mul_nonneg (by omega) (by omega)
  omega
theorem cov_f {c : CS} {x y : Int32} : ∀ (d i : Nat) (b : Bool), (∀ t, i ≤ t → t < i + d → s_on c t x y = false ∧ s_ray c t x y = false) → s_cov c x y d i b = b := by
  intro d
  induction d with
  | zero => intro i b _; rfl
  | succ d ih =>
    intro i b h
    have h0 := h i (Nat.le_refl _) (by omega)
    unfold s_cov
    rw [h0.1, h0.2, if_neg (by decide), ih (i + 1) _ (fun t h1 h2 => h t (by omega) (by omega))]
    cases b <;> rfl
theorem cov_p {c : CS} {x y : Int32} {P : Nat → Bool} (hon : ∀ t, t < cN c → s_on c t x y = false) (hray : ∀ t, t < cN c → s_ray c t x y = (P t ^^ P (s_next (cN c) t))) : ∀ (d i : Nat) (b : Bool), i + (d + 1) = cN c → s_cov c x y (d + 1) i b = (b ^^ (P i ^^ P 0)) := by
  intro d
  induction d with
  | zero =>
    intro i b h
    unfold s_cov
    rw [hon i (by omega), hray i (by omega), if_neg (by decide), show s_next (cN c) i = 0 by unfold s_next; rw [if_neg (by omega)]]
    rfl
  | succ d ih =>
    intro i b h
    unfold s_cov
    rw [hon i (by omega), hray i (by omega), if_neg (by decide), show s_next (cN c) i = i + 1 by unfold s_next; rw [if_pos (by omega)], ih (i + 1) _ (by omega)]
    cases b <;> cases P i <;> cases P (i + 1) <;> cases P 0 <;> rfl
theorem on_lo {c : CS} {i : Nat} {x y : Int32} (h : s_on c i x y = true) : (s_min (cX c i) (cX c (s_next (cN c) i))).toInt ≤ x.toInt ∧ x.toInt ≤ (s_max (cX c i) (cX c (s_next (cN c) i))).toInt ∧ (s_min (cY c i) (cY c (s_next (cN c) i))).toInt ≤ y.toInt ∧ y.toInt ≤ (s_max (cY c i) (cY c (s_next (cN c) i))).toInt := by
  unfold s_on at h
  rw [decide_eq_true_eq] at h
  obtain ⟨-, h1, h2, h3, h4⟩ := h
  rw [i_lt] at h1 h2 h3 h4
  omega
theorem bool_f {b : Bool} (h : b = true → False) : b = false := by
  cases b
  · rfl
  · exact (h rfl).elim
/-- a point that an island covers lies in its box -/
theorem cov_box {c : CS} (cv : CoV c) {x y : Int32} (hx : bd x) (hy : bd y) (h : s_covers c x y = true) :
    (∃ a, a < cN c ∧ (cX c a).toInt ≤ x.toInt) ∧ (∃ a, a < cN c ∧ x.toInt ≤ (cX c a).toInt) ∧ (∃ a, a < cN c ∧ (cY c a).toInt ≤ y.toInt) ∧ ∃ a, a < cN c ∧ y.toInt ≤ (cY c a).toInt := by
  have n1 := cv.n1
  have nx : ∀ t, t < cN c → s_next (cN c) t < cN c := fun t _ => s_next_lt (by omega)
  have hz : ∃ d, cN c = d + 1 := ⟨cN c - 1, by omega⟩
  obtain ⟨d, hd⟩ := hz
  have hc : s_cov c x y (d + 1) 0 false = true := by rw [← hd]; exact h
  have hf : (∀ t, t < cN c → s_on c t x y = false ∧ s_ray c t x y = false) → False := fun q => by
    have := cov_f (c := c) (x := x) (y := y) (d + 1) 0 false (fun t _ h2 => q t (by omega))
    rw [hc] at this
    cases this
  refine ⟨Classical.byContradiction fun q => ?_, Classical.byContradiction fun q => ?_, Classical.byContradiction fun q => ?_, Classical.byContradiction fun q => ?_⟩
  · have q : ∀ a, a < cN c → x.toInt < (cX c a).toInt := fun a ha => by
      rcases Int.lt_or_le x.toInt (cX c a).toInt with z | z
      · exact z
      · exact absurd ⟨a, ha, z⟩ q
    have hon : ∀ t, t < cN c → s_on c t x y = false := fun t ht => bool_f fun z => by
      have z1 := (on_lo z).1
      have q1 := q t ht
      have q2 := q _ (nx t ht)
      rw [s_min_i] at z1
      omega
    have hray : ∀ t, t < cN c → s_ray c t x y = (decide (y < cY c t) ^^ decide (y < cY c (s_next (cN c) t))) := fun t ht => by
      have hs := side_i (c := c) (i := t) (cv.2.2 t ht) (cv.2.2 _ (nx t ht)) hx hy
      have q1 := q t ht
      have q2 := q _ (nx t ht)
      unfold s_ray
      by_cases c1 : y < cY c t
      · rw [if_pos c1]
        by_cases c2 : y < cY c (s_next (cN c) t)
        · rw [if_pos c2, decide_eq_true c1, decide_eq_true c2]; rfl
        · have hlt : s_side c t x y < 0 := by
            rw [i_lt, hs]
            rw [i_lt] at c1 c2
            exact dn_side q1 q2 c1 (by omega)
          rw [if_neg c2, decide_eq_true c1, decide_eq_false c2, decide_eq_true hlt]; rfl
      · rw [if_neg c1]
        by_cases c2 : y < cY c (s_next (cN c) t)
        · have hlt : 0 < s_side c t x y := by
            rw [i_lt, hs]
            rw [i_lt] at c1 c2
            exact up_side q1 q2 (by omega) c2
          rw [if_pos c2, decide_eq_false c1, decide_eq_true c2, decide_eq_true hlt]; rfl
        · rw [if_neg c2, decide_eq_false c1, decide_eq_false c2]; rfl
    have := cov_p (P := fun t => decide (y < cY c t)) hon hray d 0 false (by omega)
    rw [hc] at this
    revert this
    cases decide (y < cY c 0) <;> decide
  · have q : ∀ a, a < cN c → (cX c a).toInt < x.toInt := fun a ha => by
      rcases Int.lt_or_le (cX c a).toInt x.toInt with z | z
      · exact z
      · exact absurd ⟨a, ha, z⟩ q
    refine hf fun t ht => ⟨bool_f fun z => ?_, ?_⟩
    · have z1 := (on_lo z).2.1
      have q1 := q t ht
      have q2 := q _ (nx t ht)
      rw [s_max_i] at z1
      omega
    · have hs := side_i (c := c) (i := t) (cv.2.2 t ht) (cv.2.2 _ (nx t ht)) hx hy
      have q1 := q t ht
      have q2 := q _ (nx t ht)
      unfold s_ray
      by_cases c1 : y < cY c t
      · rw [if_pos c1]
        by_cases c2 : y < cY c (s_next (cN c) t)
        · rw [if_pos c2]
        · have hlt : ¬ s_side c t x y < 0 := by
            rw [i_lt, hs]
            rw [i_lt] at c1 c2
            have := dn_sideR q1 q2 c1 (show (cY c (s_next (cN c) t)).toInt ≤ y.toInt by omega)
            show ¬ _ < (0 : Int)
            omega
          rw [if_neg c2, decide_eq_false hlt]
      · rw [if_neg c1]
        by_cases c2 : y < cY c (s_next (cN c) t)
        · have hlt : ¬ 0 < s_side c t x y := by
            rw [i_lt, hs]
            rw [i_lt] at c1 c2
            have := up_sideR q1 q2 (show (cY c t).toInt ≤ y.toInt by omega) c2
            show ¬ (0 : Int) < _
            omega
          rw [if_pos c2, decide_eq_false hlt]
        · rw [if_neg c2]
  · have q : ∀ a, a < cN c → y.toInt < (cY c a).toInt := fun a ha => by
      rcases Int.lt_or_le y.toInt (cY c a).toInt with z | z
      · exact z
      · exact absurd ⟨a, ha, z⟩ q
    refine hf fun t ht => ⟨bool_f fun z => ?_, ?_⟩
    · have z1 := (on_lo z).2.2.1
      have q1 := q t ht
      have q2 := q _ (nx t ht)
      rw [s_min_i] at z1
      omega
    · unfold s_ray
      rw [if_pos (i_lt.mpr (q t ht)), if_pos (i_lt.mpr (q _ (nx t ht)))]
  · have q : ∀ a, a < cN c → (cY c a).toInt < y.toInt := fun a ha => by
      rcases Int.lt_or_le (cY c a).toInt y.toInt with z | z
      · exact z
      · exact absurd ⟨a, ha, z⟩ q
    refine hf fun t ht => ⟨bool_f fun z => ?_, ?_⟩
    · have z1 := (on_lo z).2.2.2
      have q1 := q t ht
      have q2 := q _ (nx t ht)
      rw [s_max_i] at z1
      omega
    · have q1 := q t ht
      have q2 := q _ (nx t ht)
      unfold s_ray
      rw [if_neg (by rw [i_lt]; omega), if_neg (by rw [i_lt]; omega)]
/-! boxes -/
theorem box_p (X : Nat → Int32) : ∀ n, (∀ j, j < n → bd (X j)) → ∃ mn mx : Int32, s_box X n = mx - mn ∧ bd mn ∧ bd mx ∧ (∀ j, j < n → mn.toInt ≤ (X j).toInt ∧ (X j).toInt ≤ mx.toInt) ∧ (∀ L : Int, L ≤ 1000 → (∀ j, j < n → L ≤ (X j).toInt) → L ≤ mn.toInt) ∧ ∀ L : Int, -1000 ≤ L → (∀ j, j < n → (X j).toInt ≤ L) → mx.toInt ≤ L := by
  intro n hb
  have key : ∀ d, d ≤ n → bd (itr (fun i (p : Int32 × Int32) => (s_min p.1 (X i), s_max p.2 (X i))) d 0 (1000, -1000)).1 ∧ bd (itr (fun i (p : Int32 × Int32) => (s_min p.1 (X i), s_max p.2 (X i))) d 0 (1000, -1000)).2 ∧ (∀ j, j < d → (itr (fun i (p : Int32 × Int32) => (s_min p.1 (X i), s_max p.2 (X i))) d 0 (1000, -1000)).1.toInt ≤ (X j).toInt ∧ (X j).toInt ≤ (itr (fun i (p : Int32 × Int32) => (s_min p.1 (X i), s_max p.2 (X i))) d 0 (1000, -1000)).2.toInt) ∧ (∀ L : Int, L ≤ 1000 → (∀ j, j < d → L ≤ (X j).toInt) → L ≤ (itr (fun i (p : Int32 × Int32) => (s_min p.1 (X i), s_max p.2 (X i))) d 0 (1000, -1000)).1.toInt) ∧ ∀ L : Int, -1000 ≤ L → (∀ j, j < d → (X j).toInt ≤ L) → (itr (fun i (p : Int32 × Int32) => (s_min p.1 (X i), s_max p.2 (X i))) d 0 (1000, -1000)).2.toInt ≤ L := by
    intro d
    induction d with
    | zero =>
      intro _
      exact ⟨⟨show (-1000 : Int) ≤ (1000 : Int32).toInt by decide, show (1000 : Int32).toInt ≤ (1000 : Int) by decide⟩, ⟨show (-1000 : Int) ≤ (-1000 : Int32).toInt by decide, show (-1000 : Int32).toInt ≤ (1000 : Int) by decide⟩, fun j hj => absurd hj (by omega), fun L h _ => h, fun L h _ => h⟩
    | succ d ih =>
      intro hd
      obtain ⟨h1, h2, h3, h4, h5⟩ := ih (by omega)
      have hX := hb d (by omega)
      rw [itr_last, Nat.zero_add]
      generalize itr (fun i (p : Int32 × Int32) => (s_min p.1 (X i), s_max p.2 (X i))) d 0 (1000, -1000) = p at h1 h2 h3 h4 h5 ⊢
      dsimp only
      unfold bd at h1 h2 hX ⊢
      rw [s_min_i, s_max_i]
      refine ⟨by omega, by omega, fun j hj => ?_, fun L hL hl => ?_, fun L hL hl => ?_⟩
      · by_cases e : j = d
        · rw [e]; omega
        · have := h3 j (by omega); omega
      · have := h4 L hL (fun j hj => hl j (by omega))
        have := hl d (by omega)
        omega
      · have := h5 L hL (fun j hj => hl j (by omega))
        have := hl d (by omega)
        omega
  obtain ⟨h1, h2, h3, h4, h5⟩ := key n (Nat.le_refl _)
  exact ⟨_, _, rfl, h1, h2, h3, h4, h5⟩
theorem box_le {X Y : Nat → Int32} {n m : Nat} (hX : ∀ j, j < n → bd (X j)) (hY : ∀ j, j < m → bd (Y j)) (h : ∀ j, j < m → (∃ a, a < n ∧ (X a).toInt ≤ (Y j).toInt) ∧ ∃ a, a < n ∧ (Y j).toInt ≤ (X a).toInt) : (s_box Y m).toInt ≤ (s_box X n).toInt := by
  obtain ⟨a, b, e, ha, hb, p1, p2, p3⟩ := box_p X n hX
  obtain ⟨a', b', e', ha', hb', q1, q2, q3⟩ := box_p Y m hY
  rw [e, e', bd_sub hb ha, bd_sub hb' ha']
  unfold bd at ha hb ha' hb'
  have h1 : a.toInt ≤ a'.toInt := q2 _ (by omega) (fun j hj => by
    obtain ⟨i, hi, hi2⟩ := (h j hj).1
    have := (p1 i hi).1
    omega)
  have h2 : b'.toInt ≤ b.toInt := q3 _ (by omega) (fun j hj => by
    obtain ⟨i, hi, hi2⟩ := (h j hj).2
    have := (p1 i hi).2
    omega)
  omega
theorem all_cov {c e : CS} : ∀ (d i : Nat), s_all c e d i = true → ∀ j, i ≤ j → j < i + d → s_covers c (cX e j) (cY e j) = true := by
  intro d
  induction d with
  | zero => intro i _ j h1 h2; omega
  | succ d ih =>
    intro i h j h1 h2
    unfold s_all at h
    by_cases c1 : s_covers c (cX e i) (cY e i) = true
    · rw [if_pos c1] at h
      by_cases e1 : j = i
      · rw [e1]; exact c1
      · exact ih (i + 1) h j (by omega) (by omega)
    · rw [if_neg c1] at h
      cases h
theorem surr_p {T : TS} {i k : Nat} (h : s_surr T i k = true) : i ≠ k ∧ cI (tC T i) ≠ 0 ∧ s_coversAll (tC T i) (tC T k) = true := by
  unfold s_surr at h
  by_cases c1 : i = k ∨ cI (tC T i) = 0
  · rw [if_pos c1] at h
    cases h
  · rw [if_neg c1] at h
    exact ⟨fun e => c1 (Or.inl e), fun e => c1 (Or.inr e), h⟩
theorem surr_box {T : TS} {i k : Nat} (hv : TV T) (hi : i < tN T) (hk : k < tN T) (h : s_surr T i k = true) : (s_box (cX (tC T k)) (cN (tC T k))).toInt ≤ (s_box (cX (tC T i)) (cN (tC T i))).toInt ∧ (s_box (cY (tC T k)) (cN (tC T k))).toInt ≤ (s_box (cY (tC T i)) (cN (tC T i))).toInt := by
  have ci := hv.2.2 i hi
  have ck := hv.2.2 k hk
  have ha := all_cov (cN (tC T k)) 0 (surr_p h).2.2
  have hb : ∀ j, j < cN (tC T k) → _ := fun j hj => cov_box ci (ck.2.2 j hj).1 (ck.2.2 j hj).2 (ha j (by omega) (by omega))
  exact ⟨box_le (fun j hj => (ci.2.2 j hj).1) (fun j hj => (ck.2.2 j hj).1) (fun j hj => ⟨(hb j hj).1, (hb j hj).2.1⟩), box_le (fun j hj => (ci.2.2 j hj).2) (fun j hj => (ck.2.2 j hj).2) (fun j hj => (hb j hj).2.2)⟩
/-! the innermost island, the depth -/
theorem inn_p (T : TS) (j : Nat) : ∀ d, d ≤ 6 → (s_inn T j d = -1 ∧ ∀ i, i < d → s_surr T i j = false) ∨ ∃ k, k < d ∧ s_inn T j d = nn k ∧ s_surr T k j = true ∧ ∀ i, i < d → s_surr T i j = true → s_abs (s_area (tC T k)) ≤ s_abs (s_area (tC T i)) := by
  intro d
  induction d with
  | zero => intro _; exact Or.inl ⟨rfl, fun i h => absurd h (by omega)⟩
  | succ d ih =>
    intro hd
    rw [s_inn_s]
    by_cases c1 : s_surr T d j = true
    · rw [if_pos c1]
      rcases ih (by omega) with ⟨h1, h2⟩ | ⟨k, h1, h2, h3, h4⟩
      · rw [if_pos h1]
        refine Or.inr ⟨d, by omega, rfl, c1, fun i hi hs => ?_⟩
        by_cases e : i = d
        · rw [e]; exact i_le.mpr (Int.le_refl _)
        · rw [h2 i (by omega)] at hs; cases hs
      · rw [if_neg (by rw [h2]; exact nn_nm (by omega)), h2, ix_nn (by omega)]
        by_cases c2 : s_abs (s_area (tC T k)) ≤ s_abs (s_area (tC T d))
        · rw [if_pos c2]
          refine Or.inr ⟨k, by omega, rfl, h3, fun i hi hs => ?_⟩
          by_cases e : i = d
          · rw [e]; exact c2
          · exact h4 i (by omega) hs
        · rw [if_neg c2]
          refine Or.inr ⟨d, by omega, rfl, c1, fun i hi hs => ?_⟩
          by_cases e : i = d
          · rw [e]; exact i_le.mpr (Int.le_refl _)
          · have h5 := h4 i (by omega) hs
            rw [i_le] at c2 h5 ⊢
            omega
    · rw [if_neg c1]
      have c1 : s_surr T d j = false := by
        revert c1
        cases s_surr T d j
        · intro _; rfl
        · intro q; exact absurd rfl q
      rcases ih (by omega) with ⟨h1, h2⟩ | ⟨k, h1, h2, h3, h4⟩
      · refine Or.inl ⟨h1, fun i hi => ?_⟩
        by_cases e : i = d
        · rw [e]; exact c1
        · exact h2 i (by omega)
      · refine Or.inr ⟨k, by omega, h2, h3, fun i hi hs => ?_⟩
        by_cases e : i = d
        · rw [e, c1] at hs; cases hs
        · exact h4 i (by omega) hs
theorem ring_p (T : TS) (j : Nat) : ∀ d, d ≤ 6 → 0 ≤ (itr (fun i a => if s_surr T i j = true then a + 1 else a) d 0 (0 : Int32)).toInt ∧ (itr (fun i a => if s_surr T i j = true then a + 1 else a) d 0 (0 : Int32)).toInt ≤ d ∧ ((itr (fun i a => if s_surr T i j = true then a + 1 else a) d 0 (0 : Int32)).toInt = 0 ↔ ∀ i, i < d → s_surr T i j = false) := by
  intro d
  induction d with
  | zero => intro _; exact ⟨show (0 : Int) ≤ (0 : Int32).toInt by decide, show (0 : Int32).toInt ≤ (0 : Int) by decide, fun _ i h => absurd h (by omega), fun _ => rfl⟩
  | succ d ih =>
    intro hd
    obtain ⟨h1, h2, h3⟩ := ih (by omega)
    rw [itr_last, Nat.zero_add]
    generalize itr (fun i a => if s_surr T i j = true then a + 1 else a) d 0 (0 : Int32) = v at h1 h2 h3 ⊢
    by_cases c1 : s_surr T d j = true
    · rw [if_pos c1, i_add (b := 1) (by show _ ≤ _ + (1 : Int); omega) (by show _ + (1 : Int) < _; omega), show (1 : Int32).toInt = 1 from rfl]
      refine ⟨by omega, by omega, fun h => by omega, fun h => ?_⟩
      have := h d (by omega)
      rw [c1] at this
      cases this
    · rw [if_neg c1]
      have c1 : s_surr T d j = false := by
        revert c1
        cases s_surr T d j
        · intro _; rfl
        · intro q; exact absurd rfl q
      refine ⟨h1, by omega, fun h i hi => ?_, fun h => h3.mpr (fun i hi => h i (by omega))⟩
      by_cases e : i = d
      · rw [e]; exact c1
      · exact h3.mp h i (by omega)
/-! its own points -/
theorem on_self {c : CS} {i : Nat} : s_on c i (cX c i) (cY c i) = true := by
  have e0 : ∀ v : Int32, v - v = 0 := fun v => by
    apply Int32.toBitVec_inj.mp
    simp
  unfold s_on s_side
  rw [e0, e0, Int32.mul_zero, Int32.mul_zero, decide_eq_true_eq]
  refine ⟨by decide, ?_, ?_, ?_, ?_⟩
  · rw [i_lt, s_min_i]; omega
  · rw [i_lt, s_max_i]; omega
  · rw [i_lt, s_min_i]; omega
  · rw [i_lt, s_max_i]; omega
theorem cov_on {c : CS} {x y : Int32} {i : Nat} (h : s_on c i x y = true) : ∀ (d t : Nat) (b : Bool), t ≤ i → i < t + d → s_cov c x y d t b = true := by
  intro d
  induction d with
  | zero => intro t b h1 h2; omega
  | succ d ih =>
    intro t b h1 h2
    unfold s_cov
    by_cases c1 : s_on c t x y = true
    · rw [if_pos c1]
    · rw [if_neg c1]
      by_cases e : t = i
      · rw [e] at c1; exact absurd h c1
      · exact ih (t + 1) _ (by omega) (by omega)
theorem cov_self {c : CS} {i : Nat} (hi : i < cN c) : s_covers c (cX c i) (cY c i) = true := cov_on on_self (cN c) 0 false (by omega) (by omega)
/-! the nearest point of a point -/
theorem near_p (w : Int32) (c : CS) (x y : Int32) : ∀ d, itr (s_nearS w c x y) d 1 0 < d + 1 ∧ (∀ j, j < d + 1 → s_far w c x y (itr (s_nearS w c x y) d 1 0) ≤ s_far w c x y j) ∧ ∀ j, j < itr (s_nearS w c x y) d 1 0 → s_far w c x y (itr (s_nearS w c x y) d 1 0) < s_far w c x y j := by
  intro d
  induction d with
  | zero =>
    refine ⟨by show 0 < 1; omega, fun j hj => ?_, fun j hj => absurd hj (by show ¬ j < 0; omega)⟩
    rw [show j = 0 by omega]
    exact i_le.mpr (Int.le_refl _)
  | succ d ih =>
    obtain ⟨h1, h2, h3⟩ := ih
    rw [itr_last]
    generalize itr (s_nearS w c x y) d 1 0 = b at h1 h2 h3 ⊢
    unfold s_nearS
    by_cases c1 : s_far w c x y (1 + d) < s_far w c x y b
    · rw [if_pos c1]
      refine ⟨by omega, fun j hj => ?_, fun j hj => ?_⟩
      · by_cases e : j = 1 + d
        · rw [e]; exact i_le.mpr (Int.le_refl _)
        · have := h2 j (by omega)
          rw [i_le] at this ⊢
          rw [i_lt] at c1
          omega
      · have := h2 j (by omega)
        rw [i_le] at this
        rw [i_lt] at c1 ⊢
        omega
    · rw [if_neg c1]
      refine ⟨by omega, fun j hj => ?_, h3⟩
      by_cases e : j = 1 + d
      · rw [e]
        rw [i_lt] at c1
        rw [i_le]
        omega
      · exact h2 j (by omega)
theorem far_0 (w : Int32) (c : CS) (i : Nat) : s_far w c (cX c i) (cY c i) i = 0 := by
  have e0 : ∀ v : Int32, v - v = 0 := fun v => by
    apply Int32.toBitVec_inj.mp
    simp
  unfold s_far
  rw [e0, e0]
  unfold s_dist
  split <;> decide
theorem near_self {w : Int32} {c : CS} (cv : CoV c) {i : Nat} (hi : i < cN c) : s_near w c (cX c i) (cY c i) ≤ i ∧ s_d w c (s_near w c (cX c i) (cY c i)) i = 0 := by
  have n1 := cv.n1
  obtain ⟨h1, h2, h3⟩ := near_p w c (cX c i) (cY c i) (cN c - 1)
  have hb : s_near w c (cX c i) (cY c i) = itr (s_nearS w c (cX c i) (cY c i)) (cN c - 1) 1 0 := rfl
  rw [← hb] at h1 h2 h3
  have h4 := h2 i (by omega)
  rw [far_0, i_le] at h4
  have h5 := s_d_b (k := w) cv (show s_near w c (cX c i) (cY c i) < cN c by omega) hi
  have h6 : s_d w c (s_near w c (cX c i) (cY c i)) i = s_far w c (cX c i) (cY c i) (s_near w c (cX c i) (cY c i)) := rfl
  refine ⟨?_, ?_⟩
  · rcases Nat.lt_or_ge i (s_near w c (cX c i) (cY c i)) with q | q
    · have h7 := h3 i q
      rw [far_0, i_lt, ← h6] at h7
      have : (0 : Int32).toInt = 0 := rfl
      omega
    · exact q
  · rw [← h6] at h4
    rw [i_eq]
    have : (0 : Int32).toInt = 0 := rfl
    omega
/-! without a point -/
theorem cut_V {c : CS} (cv : CoV c) {p : Nat} (hp : p < cN c) (h : s_need c ≤ cN c - 1) : CoV (s_cut c p) := by
  have n2 := cv.n2
  refine CoV.of (i := cI c) (n := cN c - 1) cv.i01 h (by omega) (fun j hj => ?_)
  by_cases q : j < p
  · rw [if_pos q, if_pos q]; exact cv.2.2 j (by omega)
  · rw [if_neg q, if_neg q]; exact cv.2.2 (j + 1) (by omega)
theorem need_2 (c : CS) : 2 ≤ s_need c := by
  unfold s_need
  split <;> omega
theorem wo_b {w : Int32} {c : CS} (cv : CoV c) {p : Nat} (hp : p < cN c) (h : s_need c ≤ cN c - 1) : 0 ≤ (s_wo w c p).toInt ∧ (s_wo w c p).toInt ≤ (s_len w c 0).toInt := by
  have n1 := cv.n1
  have nd := need_2 c
  refine ⟨?_, ?_⟩
  · rw [s_wo_eq w c hp (by omega)]
    exact (s_len_b (cut_V cv hp h)).1
  · have b := s_len_b (k := w) (l := 0) cv
    have nx := s_next_lt (n := cN c) (i := p) (by omega)
    unfold s_wo
    by_cases c1 : cI c = 0
    · rw [if_pos c1]
      by_cases c2 : p = 0
      · have d1 := s_d_b (k := w) cv hp nx
        rw [if_pos c2, i_sub (by omega) (by omega)]
        omega
      · rw [if_neg c2]
        by_cases c3 : p = cN c - 1
        · have d1 := s_d_b (k := w) cv (show p - 1 < cN c by omega) hp
          rw [if_pos c3, i_sub (by omega) (by omega)]
          omega
        · have d1 := s_d_b (k := w) cv (show p - 1 < cN c by omega) hp
          have d2 := s_d_b (k := w) cv hp nx
          have d3 := s_d_b (k := w) cv (show p - 1 < cN c by omega) nx
          have b1 := cv.2.2 _ (show p - 1 < cN c by omega)
          have b2 := cv.2.2 _ hp
          have b3 := cv.2.2 _ nx
          have t : (s_d w c (p - 1) (s_next (cN c) p)).toInt ≤ (s_d w c (p - 1) p).toInt + (s_d w c p (s_next (cN c) p)).toInt := s_dist_tri b1.1 b1.2 b2.1 b2.2 b3.1 b3.2
          have e1 : (s_len w c 0 - s_d w c (p - 1) p).toInt = (s_len w c 0).toInt - (s_d w c (p - 1) p).toInt := i_sub (by omega) (by omega)
          have e2 : (s_len w c 0 - s_d w c (p - 1) p - s_d w c p (s_next (cN c) p)).toInt = (s_len w c 0).toInt - (s_d w c (p - 1) p).toInt - (s_d w c p (s_next (cN c) p)).toInt := by
            rw [i_sub (by omega) (by omega), e1]
          rw [if_neg c3, i_add (by omega) (by omega), e2]
          omega
    · rw [if_neg c1]
      have hq : (if p = 0 then cN c - 1 else p - 1) < cN c := by split <;> omega
      generalize (if p = 0 then cN c - 1 else p - 1) = q at hq ⊢
      have d1 := s_d_b (k := w) cv hq hp
      have d2 := s_d_b (k := w) cv hp nx
      have d3 := s_d_b (k := w) cv hq nx
      have b1 := cv.2.2 _ hq
      have b2 := cv.2.2 _ hp
      have b3 := cv.2.2 _ nx
      have t : (s_d w c q (s_next (cN c) p)).toInt ≤ (s_d w c q p).toInt + (s_d w c p (s_next (cN c) p)).toInt := s_dist_tri b1.1 b1.2 b2.1 b2.2 b3.1 b3.2
      have e1 : (s_len w c 0 - s_d w c q p).toInt = (s_len w c 0).toInt - (s_d w c q p).toInt := i_sub (by omega) (by omega)
      have e2 : (s_len w c 0 - s_d w c q p - s_d w c p (s_next (cN c) p)).toInt = (s_len w c 0).toInt - (s_d w c q p).toInt - (s_d w c p (s_next (cN c) p)).toInt := by
        rw [i_sub (by omega) (by omega), e1]
      rw [i_add (by omega) (by omega), e2]
      omega
theorem but_p {w : Int32} {c : CS} (cv : CoV c) {p : Nat} (hp : p < cN c) : (s_need c ≤ cN c - 1 ∧ s_but w c p = s_wo w c p ∧ 0 ≤ (s_but w c p).toInt ∧ (s_but w c p).toInt ≤ (s_len w c 0).toInt) ∨ (¬ s_need c ≤ cN c - 1 ∧ s_but w c p = -1) := by
  unfold s_but
  by_cases h : s_need c ≤ cN c - 1
  · rw [if_pos h]
    exact Or.inl ⟨h, rfl, wo_b cv hp h⟩
  · rw [if_neg h]
    exact Or.inr ⟨h, rfl⟩
theorem lip_p {T : TS} {c : CS} (cv : CoV c) : (¬ s_need c ≤ cN c - 1 ∧ s_lip T c = -1) ∨ (s_need c ≤ cN c - 1 ∧ ∃ p, p < cN c ∧ s_lip T c = nn p ∧ ∀ i, i < cN c → (s_but (tK T) c i).toInt ≤ (s_but (tK T) c p).toInt) := by
  have n1 := cv.n1
  by_cases h : s_need c ≤ cN c - 1
  · refine Or.inr ⟨h, ?_⟩
    have key : ∀ d, d < cN c → ∃ p, p < d + 1 ∧ itr (fun i (a : Int32 × Int32) => if s_but (tK T) c i ≤ a.2 then a else (nn i, s_but (tK T) c i)) (d + 1) 0 (-1, -1) = (nn p, s_but (tK T) c p) ∧ ∀ i, i < d + 1 → (s_but (tK T) c i).toInt ≤ (s_but (tK T) c p).toInt := by
      intro d
      induction d with
      | zero =>
        intro _
        have b0 := but_p (w := tK T) cv (show 0 < cN c by omega)
        have b0 : 0 ≤ (s_but (tK T) c 0).toInt := by
          rcases b0 with ⟨_, _, q, _⟩ | ⟨q, _⟩
          · exact q
          · exact absurd h q
        refine ⟨0, by omega, ?_, fun i hi => by rw [show i = 0 by omega]; exact Int.le_refl _⟩
        rw [itr_last]
        show (if s_but (tK T) c (0 + 0) ≤ (-1 : Int32) then _ else _) = _
        rw [if_neg (s_nonneg b0)]
      | succ d ih =>
        intro hd
        obtain ⟨p, h1, h2, h3⟩ := ih (by omega)
        rw [itr_last, h2, Nat.zero_add]
        dsimp only
        by_cases c1 : s_but (tK T) c (d + 1) ≤ s_but (tK T) c p
        · rw [if_pos c1]
          refine ⟨p, by omega, rfl, fun i hi => ?_⟩
          by_cases e : i = d + 1
          · rw [e]; exact i_le.mp c1
          · exact h3 i (by omega)
        · rw [if_neg c1]
          refine ⟨d + 1, by omega, rfl, fun i hi => ?_⟩
          by_cases e : i = d + 1
          · rw [e]; exact Int.le_refl _
          · have := h3 i (by omega)
            rw [i_le] at c1
            omega
    obtain ⟨p, h1, h2, h3⟩ := key (cN c - 1) (by omega)
    rw [show cN c - 1 + 1 = cN c by omega] at h1 h2 h3
    refine ⟨p, h1, ?_, h3⟩
    unfold s_lip
    rw [h2]
  · refine Or.inl ⟨h, ?_⟩
    have key : ∀ d, d ≤ cN c → itr (fun i (a : Int32 × Int32) => if s_but (tK T) c i ≤ a.2 then a else (nn i, s_but (tK T) c i)) d 0 (-1, -1) = (-1, -1) := by
      intro d
      induction d with
      | zero => intro _; rfl
      | succ d ih =>
        intro hd
        have b0 := but_p (w := tK T) cv (show d < cN c by omega)
        have b0 : s_but (tK T) c d = -1 := by
          rcases b0 with ⟨q, _⟩ | ⟨_, q⟩
          · exact absurd q h
          · exact q
        rw [itr_last, ih (by omega), Nat.zero_add]
        dsimp only
        rw [b0, if_pos (by decide)]
    unfold s_lip
    rw [key _ (Nat.le_refl _)]

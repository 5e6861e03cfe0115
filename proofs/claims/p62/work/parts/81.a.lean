/-! ===== what the numbers of one coast are to each other ===== -/
theorem am_max (F : Nat → Int32) : ∀ d j, j ≤ d → F j ≤ F (s_am F d) := by
  intro d
  induction d with
  | zero =>
    intro j hj
    rw [show j = 0 by omega]
    exact i_le.mpr (Int.le_refl _)
  | succ d ih =>
    intro j hj
    rw [show s_am F (d + 1) = if F (d + 1) ≤ F (s_am F d) then s_am F d else d + 1 from rfl]
    by_cases h : F (d + 1) ≤ F (s_am F d)
    · rw [if_pos h]
      by_cases e : j = d + 1
      · rw [e]; exact h
      · exact ih j (by omega)
    · rw [if_neg h]
      by_cases e : j = d + 1
      · rw [e]; exact i_le.mpr (Int.le_refl _)
      · have h1 := ih j (by omega)
        rw [i_le] at h h1 ⊢
        omega
theorem am_first (F : Nat → Int32) : ∀ d j, j < s_am F d → F j < F (s_am F d) := by
  intro d
  induction d with
  | zero =>
    intro j hj
    exact absurd hj (by show ¬ j < 0; omega)
  | succ d ih =>
    intro j hj
    rw [show s_am F (d + 1) = if F (d + 1) ≤ F (s_am F d) then s_am F d else d + 1 from rfl] at hj ⊢
    by_cases h : F (d + 1) ≤ F (s_am F d)
    · rw [if_pos h] at hj ⊢
      exact ih j hj
    · rw [if_neg h] at hj ⊢
      have h1 := am_max F d j (by omega)
      rw [i_le] at h h1
      rw [i_lt]
      omega
theorem len_mono {w : Int32} {c : CS} (cv : CoV c) (l : Nat) : ∀ d, (s_len w c (l + d)).toInt ≤ (s_len w c l).toInt := by
  intro d
  induction d with
  | zero => exact Int.le_refl _
  | succ d ih =>
    have := s_len_le (k := w) cv (l + d)
    rw [show l + (d + 1) = l + d + 1 by omega]
    omega
theorem len_anti {w : Int32} {c : CS} (cv : CoV c) {l m : Nat} (h : l ≤ m) : (s_len w c m).toInt ≤ (s_len w c l).toInt := by
  have := len_mono (w := w) cv l (m - l)
  rw [show l + (m - l) = m by omega] at this
  exact this
theorem coarse_ge {w : Int32} {c : CS} {z : Int32} : ∀ (L l : Nat), l ≤ L → z.toInt ≤ (s_len w c l).toInt → ∃ e, s_coarsest w c z L = nn e ∧ l ≤ e ∧ e ≤ L ∧ z.toInt ≤ (s_len w c e).toInt ∧ ∀ m, e < m → m ≤ L → (s_len w c m).toInt < z.toInt := by
  intro L
  induction L with
  | zero =>
    intro l hl hz
    have h0 : l = 0 := by omega
    subst h0
    refine ⟨0, ?_, Nat.le_refl _, Nat.le_refl _, hz, fun m h1 h2 => by omega⟩
    unfold s_coarsest
    rw [if_neg (by rw [i_lt]; omega)]
  | succ L ih =>
    intro l hl hz
    unfold s_coarsest
    by_cases h : s_len w c (L + 1) < z
    · rw [if_pos h]
      rw [i_lt] at h
      have hne : l ≠ L + 1 := fun e => by rw [e] at hz; omega
      obtain ⟨e, e1, e2, e3, e4, e5⟩ := ih l (by omega) hz
      refine ⟨e, e1, e2, by omega, e4, fun m h1 h2 => ?_⟩
      by_cases hm : m = L + 1
      · rw [hm]; exact h
      · exact e5 m h1 (by omega)
    · rw [if_neg h]
      rw [i_lt] at h
      exact ⟨L + 1, rfl, hl, Nat.le_refl _, by omega, fun m h1 h2 => by omega⟩
theorem coarse_no {w : Int32} {c : CS} {z : Int32} : ∀ L : Nat, (∀ m, m ≤ L → (s_len w c m).toInt < z.toInt) → s_coarsest w c z L = -1 := by
  intro L
  induction L with
  | zero =>
    intro h
    unfold s_coarsest
    rw [if_pos (by rw [i_lt]; exact h 0 (Nat.le_refl _))]
  | succ L ih =>
    intro h
    unfold s_coarsest
    rw [if_pos (by rw [i_lt]; exact h (L + 1) (Nat.le_refl _))]
    exact ih (fun m hm => h m (by omega))
theorem len_zs {w : Int32} {c : CS} (cv : CoV c) (l : Nat) : (s_len w c l).toInt = zs (fun s => (s_span w c l s).toInt) (s_sticks c l) :=
  (zs_len (G := s_span w c l) (s_sticks c l) (by have := s_sticks_200 (l := l) cv; omega) (fun k hk => s_span_b cv hk)).1
theorem zs_le {f g : Nat → Int} : ∀ n, (∀ k, k < n → f k ≤ g k) → zs f n ≤ zs g n := by
  intro n
  induction n with
  | zero => intro _; exact Int.le_refl _
  | succ n ih =>
    intro h
    have h1 := ih (fun k hk => h k (by omega))
    have h2 := h n (by omega)
    rw [zs_s, zs_s]
    omega
theorem zs_eq {f g : Nat → Int} (n : Nat) (h : ∀ k, k < n → f k = g k) : zs f n = zs g n :=
  Int.le_antisymm (zs_le n (fun k hk => by rw [h k hk]; exact Int.le_refl _)) (zs_le n (fun k hk => by rw [h k hk]; exact Int.le_refl _))
theorem d_king {c : CS} (cv : CoV c) {i j : Nat} (hi : i < cN c) (hj : j < cN c) : (s_d 1 c i j).toInt ≤ (s_d 0 c i j).toInt := by
  have b1 := cv.2.2 i hi
  have b2 := cv.2.2 j hj
  have e1 := bd_sub b1.1 b2.1
  have e2 := bd_sub b1.2 b2.2
  unfold bd at b1 b2
  have i1 := s_abs_i (v := cX c i - cX c j) (by omega)
  have i2 := s_abs_i (v := cY c i - cY c j) (by omega)
  unfold s_d s_dist
  rw [if_neg (by decide), if_pos rfl, s_max_i, i_add (by omega) (by omega)]
  omega
theorem len_king {c : CS} (cv : CoV c) (l : Nat) : (s_len 1 c l).toInt ≤ (s_len 0 c l).toInt := by
  have n1 := cv.n1
  rw [len_zs cv, len_zs cv]
  exact zs_le _ (fun s hs => d_king cv (s_from_lt (by omega) hs) (s_end_lt (by omega)))
theorem i_ant {a b : Int32} (h1 : a.toInt ≤ b.toInt) (h2 : b.toInt ≤ a.toInt) : a = b := i_eq.mpr (by omega)
theorem st_anti {c : CS} (cv : CoV c) (l : Nat) : s_sticks c (l + 1) ≤ s_sticks c l := by
  have n1 := cv.n1
  have p1 := s_sticks_pos (l := l + 1) cv
  have h1 := (stk_iff n1 (s_sticks c (l + 1) - 1)).mp (show s_sticks c (l + 1) - 1 < s_sticks c (l + 1) by omega)
  rw [s_from_eq] at h1
  have hP : 0 < 2 ^ l := Nat.pow_pos (by decide)
  have h2 : (s_sticks c (l + 1) - 1) * 2 ^ l ≤ 2 * (s_sticks c (l + 1) - 1) * 2 ^ l := Nat.mul_le_mul_right _ (by omega)
  have h3 := (stk_iff n1 (s_sticks c (l + 1) - 1)).mpr (Nat.lt_of_le_of_lt h2 h1)
  omega
theorem end_in {c : CS} (cv : CoV c) {l s : Nat} (h : s + 1 < s_sticks c l) : s_end c l s = (s + 1) * 2 ^ l := by
  have n1 := cv.n1
  have h1 := s_from_lt (c := c) (l := l) (by omega) h
  unfold s_end
  rw [if_pos h1]
theorem end_la {c : CS} (cv : CoV c) {l s : Nat} (h : s < s_sticks c l) (h1 : ¬ s + 1 < s_sticks c l) : s_end c l s = if cI c = 0 then cN c - 1 else 0 := by
  have n1 := cv.n1
  have h2 : ¬ (s + 1) * 2 ^ l < s_top c := fun q => h1 ((stk_iff n1 _).mpr q)
  unfold s_top at h2
  unfold s_end
  by_cases hz : cI c = 0
  · rw [if_pos hz] at h2 ⊢
    by_cases h4 : (s + 1) * 2 ^ l < cN c
    · rw [if_pos h4]; omega
    · rw [if_neg h4]
  · rw [if_neg hz] at h2 ⊢
    rw [if_neg h2]

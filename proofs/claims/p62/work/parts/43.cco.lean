/-! ===== the class's coastlines: cells, reads ===== -/
/-- a coastline's three cells; its arrays hold its points -/
def CoA (f : GH) (q cap : Nat) (c : CS) : Prop := f q = some (.inr (5, [.ref (q + 1), .ref (q + 2), .int (nn (cN c)), .int (cI c)])) ∧ (∃ xa : Nat → Int32, f (q + 1) = some (.inl (0, cap, .inl xa)) ∧ ∀ k, k < cN c → xa k = cX c k) ∧ (∃ ya : Nat → Int32, f (q + 2) = some (.inl (0, cap, .inl ya)) ∧ ∀ k, k < cN c → ya k = cY c k) ∧ cN c ≤ cap ∧ cap ≤ 200
section CO
variable {V : Nat → Nat} {g f : GH} {q cap : Nat} {c : CS}
theorem CoA.me {α : Type} (h : CoA f q cap c) (k : Option α) : h_me f q 5 k = k := hme_of h.1 k
theorem CoA.xs (h : CoA f q cap c) : h_gr f q 5 0 = some (q + 1) := hgr_of h.1 rfl
theorem CoA.ys (h : CoA f q cap c) : h_gr f q 5 1 = some (q + 2) := hgr_of h.1 rfl
theorem CoA.n (h : CoA f q cap c) : h_gi f q 5 2 = some (nn (cN c)) := hgi_of h.1 rfl
theorem CoA.i (h : CoA f q cap c) : h_gi f q 5 3 = some (cI c) := hgi_of h.1 rfl
theorem CoA.nb (h : CoA f q cap c) : cN c ≤ 200 := Nat.le_trans h.2.2.2.1 h.2.2.2.2
theorem CoA.x (h : CoA f q cap c) {i : Nat} (hi : i < cN c) : h_li f (q + 1) 0 (nn i) = some (cX c i) := by
  have hb := h.nb
  have h4 := h.2.2.2.1
  obtain ⟨xa, h1, h2⟩ := h.2.1
  rw [hli_of h1 (by omega) (by omega), h2 i hi]
theorem CoA.y (h : CoA f q cap c) {i : Nat} (hi : i < cN c) : h_li f (q + 2) 0 (nn i) = some (cY c i) := by
  have hb := h.nb
  have h4 := h.2.2.2.1
  obtain ⟨xa, h1, h2⟩ := h.2.2.1
  rw [hli_of h1 (by omega) (by omega), h2 i hi]
theorem CoA.frame {f1 : GH} (h : CoA f q cap c) (e : ∀ a, q ≤ a → a < q + 3 → f1 a = f a) : CoA f1 q cap c := by
  obtain ⟨h1, h2, h3, h4⟩ := h
  refine ⟨?_, ?_, ?_, h4⟩
  · rw [e q (by omega) (by omega)]
    exact h1
  · rw [e (q + 1) (by omega) (by omega)]
    exact h2
  · rw [e (q + 2) (by omega) (by omega)]
    exact h3
theorem C_segEnd (h : CoA f q cap c) {i : Nat} (hi : i < cN c) : p_X2_segmentEnd V g f q (nn i) = some (nn (s_next (cN c) i)) := by
  have hb := h.nb
  unfold p_X2_segmentEnd s_next
  simp only [h.me, h.n, ob_s, nn_s]
  by_cases hc : i + 1 < cN c
  · rw [if_neg (by rw [nn_le (by omega) (by omega)]; omega), if_pos hc]
  · rw [if_pos (by rw [nn_le (by omega) (by omega)]; omega), if_neg hc]
    rfl
theorem C_segs (h : CoA f q cap c) (hn : 1 ≤ cN c) : p_X2_segments V g f q = some (nn (if cI c = 0 then cN c - 1 else cN c)) := by
  unfold p_X2_segments
  simp only [h.me, h.n, h.i, ob_s, nn_p hn]
  split <;> rfl
theorem C_dTo (h : CoA f q cap c) {i : Nat} (hi : i < cN c) (x y k : Int32) : p_X2_distanceTo V g f q (nn i) x y k = some (s_dist k (cX c i - x) (cY c i - y)) := by
  unfold p_X2_distanceTo s_dist s_max s_abs
  simp only [h.me, h.xs, h.ys, h.x hi, h.y hi, ob_s, pm_abs, pm_max]
  split <;> rfl
theorem C_dist (h : CoA f q cap c) {i j : Nat} (hi : i < cN c) (hj : j < cN c) (k : Int32) : p_X2_distance V g f q (nn i) (nn j) k = some (s_d k c i j) := by
  unfold p_X2_distance
  simp only [h.me, h.xs, h.ys, h.x hj, h.y hj, ob_s, C_dTo h hi]
  rfl
theorem C_sticks (h : CoA f q cap c) (hn : 1 ≤ cN c) {l : Nat} (hl : l < 8) : p_X2_sticks V g f q (nn l) = some (nn (s_sticks c l)) := by
  have hb := h.nb
  have hd := Nat.div_mul_le_self (cN c - 1) (2 ^ l)
  unfold p_X2_sticks p_X2_sticks_j32 p_X2_sticks_j33 s_sticks
  simp only [h.me, h.n, h.i, ob_s, nn_p hn, nn_31 hl, nn_shr (show cN c - 1 < 2147483648 by omega) hl, nn_shl hl, nn_s]
  have e10 : ¬ (1 : Int32) = 0 := by decide
  by_cases h0 : cI c = 0
  · by_cases h1 : (cN c - 1) / 2 ^ l * 2 ^ l = cN c - 1
    · rw [if_pos h0, if_pos (by rw [h1]), if_neg e10, if_pos ⟨h0, h1⟩]
    · rw [if_pos h0, if_neg (by rw [nn_eq (by omega) (by omega)]; exact h1), if_pos trivial, if_neg (fun z => h1 z.2)]
  · rw [if_neg h0, if_pos trivial, if_neg (fun z => h0 z.1)]
theorem C_from (h : CoA f q cap c) {l s : Nat} (hl : l < 8) : p_X2_stickFrom V g f q (nn l) (nn s) = some (nn (s * 2 ^ l)) := by
  unfold p_X2_stickFrom
  simp only [h.me, nn_31 hl, nn_shl hl]
theorem C_to (h : CoA f q cap c) (hn : 1 ≤ cN c) {l s : Nat} (hl : l < 8) (hs : s < 2000) : p_X2_stickTo V g f q (nn l) (nn s) = some (nn (s_end c l s)) := by
  have hb := h.nb
  have h2 := s_to_small hl hs
  unfold p_X2_stickTo s_end
  simp only [h.me, h.n, h.i, ob_s, nn_s, nn_31 hl, nn_shl hl, nn_p hn]
  by_cases hc : (s + 1) * 2 ^ l < cN c
  · rw [if_neg (by rw [nn_le (by omega) (by omega)]; omega), if_pos hc]
  · rw [if_pos (by rw [nn_le (by omega) (by omega)]; omega), if_neg hc]
    split <;> rfl
theorem C_span (h : CoA f q cap c) (hn : 1 ≤ cN c) {l s : Nat} (hl : l < 8) (hs : s < s_sticks c l) (k : Int32) : p_X2_stickSpan V g f q (nn l) (nn s) k = some (s_span k c l s) := by
  have hb := h.nb
  have h1 := s_sticks_le c l
  unfold p_X2_stickSpan
  simp only [h.me, C_from h hl, C_to h hn hl (show s < 2000 by omega), C_dist h (s_from_lt hn hs) (s_end_lt hn), ob_s]
  rfl
theorem C_len_l (h : CoA f q cap c) (hn : 1 ≤ cN c) {l : Nat} (hl : l < 8) (k : Int32) (K : Int32 → Option Int32) : ∀ (d N i : Nat) (a : Int32), i + d = s_sticks c l → d < N → p_X2_measure_l12 V g f K N q (nn l) k a (nn (s_sticks c l)) (nn i) = K (itr (fun s a => a + s_span k c l s) d i a) := by
  have hb := h.nb
  have h1 := s_sticks_le c l
  intro d
  induction d with
  | zero =>
    intro N i a he hN
    obtain ⟨N, rfl⟩ := Nat.exists_eq_add_of_lt hN
    rw [show 0 + N + 1 = N + 1 by omega, p_X2_measure_l12, if_pos (by rw [nn_le (by omega) (by omega)]; omega)]
    rfl
  | succ d ih =>
    intro N i a he hN
    obtain ⟨N, rfl⟩ : ∃ M, N = M + 1 := ⟨N - 1, by omega⟩
    rw [p_X2_measure_l12, if_neg (by rw [nn_le (by omega) (by omega)]; omega), C_span h hn hl (by omega), ob_s, nn_s]
    exact ih N (i + 1) _ (by omega) (by omega)
theorem C_len (h : CoA f q cap c) (hn : 1 ≤ cN c) {l : Nat} (hl : l < 8) (k : Int32) : p_X2_measure V g f q (nn l) k = some (s_len k c l) := by
  have hb := h.nb
  have h1 := s_sticks_le c l
  unfold p_X2_measure
  simp only [h.me, C_sticks h hn hl, ob_s]
  rw [n_0, C_len_l h hn hl k _ (s_sticks c l) FU 0 _ (by omega) (by unfold FU; omega)]
  rfl
theorem C_gain (h : CoA f q cap c) (hn : 1 ≤ cN c) {l : Nat} (hl : l < 7) (k : Int32) : p_X2_gain V g f q (nn l) k = some (s_gain k c l) := by
  unfold p_X2_gain
  simp only [h.me, C_len h hn (show l < 8 by omega), nn_s, C_len h hn (show l + 1 < 8 by omega), ob_s]
  rfl
/-- the first level, from l down, at which the length reaches z; none: -1 -/
def s_coarsest (k : Int32) (c : CS) (z : Int32) : Nat → Int32
  | 0 => if s_len k c 0 < z then -1 else nn 0
  | l + 1 => if s_len k c (l + 1) < z then s_coarsest k c z l else nn (l + 1)
theorem C_coarsest_l (h : CoA f q cap c) (hn : 1 ≤ cN c) (z k : Int32) : ∀ (l N : Nat), l < 8 → l + 1 < N → p_X2_coarsestReaching_l3 V g f (fun x => some x) (some (-1 : Int32)) N q z k (nn l) = some (s_coarsest k c z l) := by
  intro l
  induction l with
  | zero =>
    intro N hl hN
    obtain ⟨N, rfl⟩ : ∃ M, N = M + 2 := ⟨N - 2, by omega⟩
    rw [p_X2_coarsestReaching_l3, if_neg (nn_nl 0 (by decide)), C_len h hn hl, ob_s, s_coarsest]
    split
    · rw [p_X2_coarsestReaching_l3, if_pos (by decide +kernel)]
    · rfl
  | succ l ih =>
    intro N hl hN
    obtain ⟨N, rfl⟩ : ∃ M, N = M + 1 := ⟨N - 1, by omega⟩
    rw [p_X2_coarsestReaching_l3, if_neg (nn_nl _ (by omega)), C_len h hn hl, ob_s, s_coarsest]
    split
    · rw [nn_pm]
      exact ih N (by omega) (by omega)
    · rfl
theorem C_coarsest (h : CoA f q cap c) (hn : 1 ≤ cN c) (z k : Int32) : p_X2_coarsestReaching V g f q z k = some (s_coarsest k c z 7) := by
  unfold p_X2_coarsestReaching
  rw [h.me, n_7]
  exact C_coarsest_l h hn z k 7 FU (by decide) (by decide)
end CO


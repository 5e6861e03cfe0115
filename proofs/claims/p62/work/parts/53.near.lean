/-! ===== the nearest point; what is left without a point ===== -/
theorem upA_u (A : Nat → Nat → Int32) (j : Nat) (r s : Nat → Int32) : upA (upA A j r) j s = upA A j s := by
  funext i
  by_cases h : i = j
  · subst h
    rw [upA_s, upA_s]
  · rw [upA_n _ _ h, upA_n _ _ h, upA_n _ _ h]
theorem upA_e (A : Nat → Nat → Int32) (j : Nat) : upA A j (A j) = A := by
  funext i
  by_cases h : i = j
  · subst h
    rw [upA_s]
  · rw [upA_n _ _ h]
theorem nn_ne {k : Nat} (h : k < 2147483648) : ¬ nn k = (-1 : Int32) := by
  intro q
  have := nn_nl k h
  rw [q] at this
  exact this (by decide)
def s_far (w : Int32) (c : CS) (x y : Int32) (i : Nat) : Int32 := s_dist w (cX c i - x) (cY c i - y)
def s_nearS (w : Int32) (c : CS) (x y : Int32) (i b : Nat) : Nat := if s_far w c x y i < s_far w c x y b then i else b
def s_near (w : Int32) (c : CS) (x y : Int32) : Nat := itr (s_nearS w c x y) (cN c - 1) 1 0
section NE
variable {V : Nat → Nat} {g f : GH} {q cap : Nat} {c : CS}
theorem C_near_l (h : CoA f q cap c) (x y w : Int32) : ∀ (d N i b : Nat), i + d = cN c → d < N → b < cN c → p_X2_nearestTo_l6 V g f (fun x4 => some x4) N q x y w (nn b) (nn i) = some (nn (itr (s_nearS w c x y) d i b)) := by
  have hb := h.nb
  intro d
  induction d with
  | zero =>
    intro N i b he hN h2
    obtain ⟨N, rfl⟩ : ∃ M, N = M + 1 := ⟨N - 1, by omega⟩
    rw [p_X2_nearestTo_l6, h.n, ob_s, if_pos (by rw [nn_le (by omega) (by omega)]; omega)]
    rfl
  | succ d ih =>
    intro N i b he hN h2
    obtain ⟨N, rfl⟩ : ∃ M, N = M + 1 := ⟨N - 1, by omega⟩
    have hlt : i < cN c := by omega
    rw [p_X2_nearestTo_l6, h.n, ob_s, if_neg (by rw [nn_le (by omega) (by omega)]; omega), C_dTo h hlt, ob_s, C_dTo h h2, ob_s, nn_s, itr]
    by_cases k : s_far w c x y i < s_far w c x y b
    · rw [if_neg (show ¬ s_dist w (cX c b - x) (cY c b - y) ≤ s_dist w (cX c i - x) (cY c i - y) from i_not_le.mpr k), show s_nearS w c x y i b = i by unfold s_nearS; rw [if_pos k]]
      exact ih N (i + 1) i (by omega) (by omega) (by omega)
    · rw [if_pos (show s_dist w (cX c b - x) (cY c b - y) ≤ s_dist w (cX c i - x) (cY c i - y) from i_not_lt.mp k), show s_nearS w c x y i b = b by unfold s_nearS; rw [if_neg k]]
      exact ih N (i + 1) b (by omega) (by omega) (by omega)
theorem C_near (h : CoA f q cap c) (hn : 1 ≤ cN c) (x y w : Int32) : p_X2_nearestTo V g f q x y w = some (nn (s_near w c x y)) := by
  have hb := h.nb
  unfold p_X2_nearestTo
  rw [h.me]
  exact C_near_l h x y w (cN c - 1) FU 1 0 (by omega) (by unfold FU; omega) (by omega)
variable {f0 : GH} {m b : Nat} {z : Nat → Int32} {A : Nat → Nat → Int32} {i : Nat}
end NE
/-! without a point -/
def s_cut (c : CS) (p : Nat) : CS := (cI c, cN c - 1, fun i => if i < p then cX c i else cX c (i + 1), fun i => if i < p then cY c i else cY c (i + 1))
def s_need (c : CS) : Nat := if cI c = 0 then 2 else 3
def s_wo (w : Int32) (c : CS) (p : Nat) : Int32 :=
  if cI c = 0 then
    (if p = 0 then s_len w c 0 - s_d w c p (s_next (cN c) p)
     else if p = cN c - 1 then s_len w c 0 - s_d w c (p - 1) p
     else s_len w c 0 - s_d w c (p - 1) p - s_d w c p (s_next (cN c) p) + s_d w c (p - 1) (s_next (cN c) p))
  else s_len w c 0 - s_d w c (if p = 0 then cN c - 1 else p - 1) p - s_d w c p (s_next (cN c) p) + s_d w c (if p = 0 then cN c - 1 else p - 1) (s_next (cN c) p)
section WO
variable {V : Nat → Nat} {g f : GH} {q cap : Nat} {c : CS}
theorem C_need (h : CoA f q cap c) : p_X2_neededPoints V g f q = some (nn (s_need c)) := by
  unfold p_X2_neededPoints s_need
  simp only [h.me, h.i, ob_s]
  split <;> rfl
theorem C_wo (h : CoA f q cap c) (hn : 2 ≤ cN c) {p : Nat} (hp : p < cN c) (w : Int32) : p_X2_measureWithout V g f q (nn p) w = some (if s_need c ≤ cN c - 1 then s_wo w c p else -1) := by
  have hb := h.nb
  have hl := C_len (V := V) (g := g) h (by omega) (show 0 < 8 by omega) w
  rw [← n_0] at hl
  have h2 := s_next_lt (i := p) (show 0 < cN c by omega)
  have hs := C_segEnd (V := V) (g := g) h hp
  have hneed : s_need c ≤ 3 := by unfold s_need; split <;> omega
  unfold p_X2_measureWithout
  rw [h.me, h.n, ob_s, C_need h, ob_s, nn_p (by omega)]
  by_cases hk : s_need c ≤ cN c - 1
  · rw [if_pos (by rw [nn_le (by omega) (by omega)]; exact hk), if_pos hk, h.i, ob_s]
    unfold s_wo
    have e10 : ¬ (1 : Int32) = 0 := by decide
    by_cases h0 : cI c = 0
    · rw [if_pos h0, if_pos h0]
      by_cases hp0 : p = 0
      · rw [if_pos (by rw [hp0]; rfl), if_pos hp0]
        unfold p_X2_measureWithout_j31 p_X2_measureWithout_j53
        rw [h.i, ob_s, if_pos h0, h.n, ob_s, nn_p (by omega), if_neg (by rw [nn_eq (by omega) (by omega)]; omega)]
        unfold p_X2_measureWithout_j54
        rw [if_pos (by rw [hp0]; rfl), h.n, ob_s, nn_p (by omega)]
        unfold p_X2_measureWithout_j72
        rw [hs, ob_s, hl, ob_s, if_neg e10]
        unfold p_X2_measureWithout_j106
        rw [if_pos rfl, C_dist h hp h2, ob_s]
        unfold p_X2_measureWithout_j124
        rw [if_neg e10]
      · rw [if_neg (by rw [n_0, nn_eq (by omega) (by omega)]; exact hp0), if_neg hp0]
        unfold p_X2_measureWithout_j30 p_X2_measureWithout_j31 p_X2_measureWithout_j53
        rw [h.i, ob_s, if_pos h0, h.n, ob_s, nn_p (by omega)]
        by_cases hp1 : p = cN c - 1
        · rw [if_pos (by rw [hp1]), if_pos hp1]
          unfold p_X2_measureWithout_j54
          rw [if_neg (by rw [n_0, nn_eq (by omega) (by omega)]; exact hp0), nn_p (by omega)]
          unfold p_X2_measureWithout_j72
          rw [hs, ob_s, hl, ob_s, if_pos rfl, C_dist h (show p - 1 < cN c by omega) hp, ob_s]
          unfold p_X2_measureWithout_j106
          rw [if_neg e10]
          unfold p_X2_measureWithout_j124
          rw [if_pos rfl, if_neg e10]
        · rw [if_neg (by rw [nn_eq (by omega) (by omega)]; exact hp1), if_neg hp1]
          unfold p_X2_measureWithout_j54
          rw [if_neg (by rw [n_0, nn_eq (by omega) (by omega)]; exact hp0), nn_p (by omega)]
          unfold p_X2_measureWithout_j72
          rw [hs, ob_s, hl, ob_s, if_pos rfl, C_dist h (show p - 1 < cN c by omega) hp, ob_s]
          unfold p_X2_measureWithout_j106
          rw [if_pos rfl, C_dist h hp h2, ob_s]
          unfold p_X2_measureWithout_j124
          rw [if_pos rfl, if_pos rfl, C_dist h (show p - 1 < cN c by omega) h2, ob_s]
    · rw [if_neg h0, if_neg h0]
      unfold p_X2_measureWithout_j30 p_X2_measureWithout_j31 p_X2_measureWithout_j53
      rw [h.i, ob_s, if_neg h0]
      unfold p_X2_measureWithout_j54
      have hbf : (if p = 0 then cN c - 1 else p - 1) < cN c := by split <;> omega
      have e : (if nn p = (0 : Int32) then (h_gi f q 5 2).bind fun v16 => p_X2_measureWithout_j72 V g f q (nn p) w 0 0 (v16 - (1 : Int32)) else p_X2_measureWithout_j72 V g f q (nn p) w 0 0 (nn p - (1 : Int32))) = p_X2_measureWithout_j72 V g f q (nn p) w 0 0 (nn (if p = 0 then cN c - 1 else p - 1)) := by
        by_cases hp0 : p = 0
        · rw [if_pos (by rw [hp0]; rfl), if_pos hp0, h.n, ob_s, nn_p (by omega)]
        · rw [if_neg (by rw [n_0, nn_eq (by omega) (by omega)]; exact hp0), if_neg hp0, nn_p (by omega)]
      rw [e]
      unfold p_X2_measureWithout_j72
      rw [hs, ob_s, hl, ob_s, if_pos rfl, C_dist h hbf hp, ob_s]
      unfold p_X2_measureWithout_j106
      rw [if_pos rfl, C_dist h hp h2, ob_s]
      unfold p_X2_measureWithout_j124
      rw [if_pos rfl, if_pos rfl, C_dist h hbf h2, ob_s]
  · rw [if_neg (by rw [nn_le (by omega) (by omega)]; exact hk), if_neg hk]
end WO
/-! the sum without it -/
def s_sm (E : Nat → Int32) (n : Nat) : Int32 := itr (fun s a => a + E s) n 0 0
theorem s_sm_s (E : Nat → Int32) (n : Nat) : s_sm E (n + 1) = s_sm E n + E n := by
  unfold s_sm
  rw [itr_last, Nat.zero_add]
theorem s_sm_c {E F : Nat → Int32} (n : Nat) (h : ∀ k, k < n → E k = F k) : s_sm E n = s_sm F n := itr_congr n 0 0 (fun k s _ hk => by rw [h k (by omega)])
theorem s_len_sh (w : Int32) (c : CS) (hn : 2 ≤ cN c) (h0 : cI c = 0) : s_len w c 0 = s_sm (fun s => s_d w c s (s + 1)) (cN c - 1) := by
  have e : s_sticks c 0 = cN c - 1 := by
    unfold s_sticks
    rw [if_pos ⟨h0, by omega⟩]
    omega
  unfold s_len s_sm
  rw [e]
  refine itr_congr _ _ _ (fun k s _ hk => ?_)
  unfold s_span s_end
  rw [Nat.pow_zero, Nat.mul_one, Nat.mul_one, if_pos (by omega)]
theorem s_len_is (w : Int32) (c : CS) (hn : 2 ≤ cN c) (h0 : cI c ≠ 0) : s_len w c 0 = s_sm (fun s => s_d w c s (s + 1)) (cN c - 1) + s_d w c (cN c - 1) 0 := by
  have e : s_sticks c 0 = cN c - 1 + 1 := by
    unfold s_sticks
    rw [if_neg (fun q => h0 q.1)]
    omega
  unfold s_len
  rw [e]
  show s_sm (fun s => s_span w c 0 s) (cN c - 1 + 1) = _
  rw [s_sm_s]
  congr 1
  · refine s_sm_c _ (fun k hk => ?_)
    unfold s_span s_end
    rw [Nat.pow_zero, Nat.mul_one, Nat.mul_one, if_pos (by omega)]
  · unfold s_span s_end
    rw [Nat.pow_zero, Nat.mul_one, Nat.mul_one, if_neg (by omega), if_neg h0]
theorem s_cut_lo (w : Int32) (c : CS) {p k : Nat} (h : k + 1 < p) : s_d w (s_cut c p) k (k + 1) = s_d w c k (k + 1) := by
  simp only [s_d, s_cut, cX, cY, if_pos h, if_pos (show k < p by omega)]
theorem s_cut_mid (w : Int32) (c : CS) {p : Nat} (h : 1 ≤ p) : s_d w (s_cut c p) (p - 1) (p - 1 + 1) = s_d w c (p - 1) (p + 1) := by
  have e : p - 1 + 1 = p := by omega
  simp only [s_d, s_cut, cX, cY, e, if_pos (show p - 1 < p by omega), if_neg (show ¬ p < p by omega)]
theorem s_cut_hi (w : Int32) (c : CS) {p k : Nat} (h : p ≤ k) : s_d w (s_cut c p) k (k + 1) = s_d w c (k + 1) (k + 2) := by
  simp only [s_d, s_cut, cX, cY, if_neg (show ¬ k < p by omega), if_neg (show ¬ k + 1 < p by omega)]
theorem s_cut_A (w : Int32) (c : CS) {p m : Nat} (h : m + 1 ≤ p) : s_sm (fun s => s_d w (s_cut c p) s (s + 1)) m = s_sm (fun s => s_d w c s (s + 1)) m :=
  s_sm_c m (fun k hk => s_cut_lo w c (by omega))
theorem i_r1 (a x y z : Int32) : a + z = a + x + y - x - y + z := by grind
theorem i_r2 (a x y z t : Int32) : a - x - y + z + t = a + t - x - y + z := by grind
theorem s_cut_B (w : Int32) (c : CS) {p : Nat} (hp : 1 ≤ p) (d : Nat) : s_sm (fun s => s_d w (s_cut c p) s (s + 1)) (p + d) = s_sm (fun s => s_d w c s (s + 1)) (p + d + 1) - s_d w c (p - 1) p - s_d w c p (p + 1) + s_d w c (p - 1) (p + 1) := by
  induction d with
  | zero =>
    obtain ⟨k, rfl⟩ : ∃ k, p = k + 1 := ⟨p - 1, by omega⟩
    have e2 := s_cut_mid w c (p := k + 1) (by omega)
    simp only [Nat.add_sub_cancel] at e2
    simp only [Nat.add_zero, Nat.add_sub_cancel]
    rw [s_sm_s, s_cut_A w c (by omega), e2, s_sm_s, s_sm_s]
    exact i_r1 _ _ _ _
  | succ d ih =>
    rw [show p + (d + 1) = p + d + 1 by omega, s_sm_s, ih, s_cut_hi w c (by omega), s_sm_s _ (p + d + 1)]
    exact i_r2 _ _ _ _ _
theorem i_r3 (x : Int32) : (0 : Int32) = 0 + x - x := by grind
theorem i_r4 (a x t : Int32) : a - x + t = a + t - x := by grind
theorem s_cut_C (w : Int32) (c : CS) (d : Nat) : s_sm (fun s => s_d w (s_cut c 0) s (s + 1)) d = s_sm (fun s => s_d w c s (s + 1)) (d + 1) - s_d w c 0 1 := by
  induction d with
  | zero =>
    rw [s_sm_s]
    exact i_r3 _
  | succ d ih =>
    rw [s_sm_s, ih, s_cut_hi w c (by omega), s_sm_s _ (d + 1)]
    exact i_r4 _ _ _
theorem i_r5 (a x : Int32) : a + x - x = a := by grind
theorem i_r6 (a x y z : Int32) : a + x - x - y + z = a - y + z := by grind
theorem i_r7 (a x y z : Int32) : a + x + y - x - y + z = a + z := by grind
theorem i_r8 (a x y z t : Int32) : a + t - x - y + z = a - x - y + z + t := by grind
theorem s_wo_eq (w : Int32) (c : CS) {p : Nat} (hp : p < cN c) (hn : 3 ≤ cN c) : s_wo w c p = s_len w (s_cut c p) 0 := by
  have hn1 : cN (s_cut c p) = cN c - 1 := rfl
  have hi1 : cI (s_cut c p) = cI c := rfl
  unfold s_wo
  by_cases h0 : cI c = 0
  · rw [if_pos h0, s_len_sh w c (by omega) h0, s_len_sh w (s_cut c p) (by omega) h0, hn1]
    by_cases hp0 : p = 0
    · subst hp0
      rw [if_pos rfl, s_cut_C, show s_next (cN c) 0 = 1 by unfold s_next; rw [if_pos (by omega)], show cN c - 1 - 1 + 1 = cN c - 1 by omega]
    · rw [if_neg hp0]
      by_cases hp1 : p = cN c - 1
      · rw [if_pos hp1, s_cut_A w c (by omega)]
        obtain ⟨k, hk⟩ : ∃ k, cN c - 1 = k + 1 := ⟨cN c - 2, by omega⟩
        rw [hk, s_sm_s, hp1, hk, Nat.add_sub_cancel]
        exact i_r5 _ _
      · rw [if_neg hp1, show s_next (cN c) p = p + 1 by unfold s_next; rw [if_pos (by omega)]]
        have := s_cut_B w c (p := p) (by omega) (cN c - 1 - 1 - p)
        rw [show p + (cN c - 1 - 1 - p) = cN c - 1 - 1 by omega, show cN c - 1 - 1 + 1 = cN c - 1 by omega] at this
        rw [this]
  · rw [if_neg h0, s_len_is w c (by omega) h0, s_len_is w (s_cut c p) (by omega) h0, hn1]
    by_cases hp0 : p = 0
    · subst hp0
      rw [if_pos rfl, s_cut_C, show s_next (cN c) 0 = 1 by unfold s_next; rw [if_pos (by omega)], show cN c - 1 - 1 + 1 = cN c - 1 by omega]
      have e : s_d w (s_cut c 0) (cN c - 1 - 1) 0 = s_d w c (cN c - 1) 1 := by
        have e1 : cN c - 1 - 1 + 1 = cN c - 1 := by omega
        simp only [s_d, s_cut, cX, cY, Nat.not_lt_zero, if_false, e1]
      rw [e]
      exact i_r6 _ _ _ _
    · rw [if_neg hp0]
      by_cases hp1 : p = cN c - 1
      · rw [s_cut_A w c (by omega), show s_next (cN c) p = 0 by unfold s_next; rw [if_neg (by omega)]]
        have e : s_d w (s_cut c p) (cN c - 1 - 1) 0 = s_d w c (p - 1) 0 := by
          have e1 : cN c - 1 - 1 = p - 1 := by omega
          simp only [s_d, s_cut, cX, cY, e1, if_pos (show p - 1 < p by omega), if_pos (show 0 < p by omega)]
        rw [e]
        obtain ⟨k, hk⟩ : ∃ k, cN c - 1 = k + 1 := ⟨cN c - 2, by omega⟩
        rw [hp1, hk, Nat.add_sub_cancel, s_sm_s]
        exact i_r7 _ _ _ _
      · rw [show s_next (cN c) p = p + 1 by unfold s_next; rw [if_pos (by omega)]]
        have := s_cut_B w c (p := p) (by omega) (cN c - 1 - 1 - p)
        rw [show p + (cN c - 1 - 1 - p) = cN c - 1 - 1 by omega, show cN c - 1 - 1 + 1 = cN c - 1 by omega] at this
        have e : s_d w (s_cut c p) (cN c - 1 - 1) 0 = s_d w c (cN c - 1) 0 := by
          have e1 : cN c - 1 - 1 + 1 = cN c - 1 := by omega
          simp only [s_d, s_cut, cX, cY, if_neg (show ¬ cN c - 1 - 1 < p by omega), if_pos (show 0 < p by omega), e1]
        rw [this, e]
        exact i_r8 _ _ _ _ _


/-! ===== gains are not negative ===== -/
def s_top (c : CS) : Nat := if cI c = 0 then cN c - 1 else cN c
theorem stk_iff {c : CS} {l : Nat} (hn : 2 ≤ cN c) (s : Nat) : s < s_sticks c l ↔ s * 2 ^ l < s_top c := by
  have hP : 0 < 2 ^ l := Nat.pow_pos (by decide)
  unfold s_sticks s_top
  generalize 2 ^ l = P at hP ⊢
  by_cases hz : cI c = 0
  · rw [if_pos hz]
    by_cases he : (cN c - 1) / P * P = cN c - 1
    · rw [if_pos ⟨hz, he⟩]
      constructor
      · intro h
        rw [← he]
        exact Nat.mul_lt_mul_of_pos_right h hP
      · intro h
        rw [← he] at h
        exact Nat.lt_of_mul_lt_mul_right h
    · rw [if_neg (fun q => he q.2)]
      constructor
      · intro h
        have h1 := (Nat.le_div_iff_mul_le hP).mp (Nat.le_of_lt_succ h)
        refine Nat.lt_of_le_of_ne h1 (fun e => he ?_)
        rw [← e, Nat.mul_div_cancel _ hP]
      · intro h
        exact Nat.lt_succ_of_le ((Nat.le_div_iff_mul_le hP).mpr (Nat.le_of_lt h))
  · rw [if_neg hz, if_neg (fun q => hz q.1)]
    constructor
    · intro h
      have h1 := (Nat.le_div_iff_mul_le hP).mp (Nat.le_of_lt_succ h)
      omega
    · intro h
      exact Nat.lt_succ_of_le ((Nat.le_div_iff_mul_le hP).mpr (by omega))
def zs (g : Nat → Int) : Nat → Int
  | 0 => 0
  | n + 1 => zs g n + g n
theorem zs_s (g : Nat → Int) (n : Nat) : zs g (n + 1) = zs g n + g n := rfl
theorem zs_mono {g : Nat → Int} {n m : Nat} (h : n ≤ m) (hg : ∀ k, n ≤ k → k < m → 0 ≤ g k) : zs g n ≤ zs g m := by
  induction m with
  | zero => rw [show n = 0 by omega]; exact Int.le_refl _
  | succ m ih =>
    by_cases e : n = m + 1
    · rw [e]; exact Int.le_refl _
    · have h1 := ih (by omega) (fun k q1 q2 => hg k q1 (by omega))
      have h2 := hg m (by omega) (by omega)
      show _ ≤ zs g m + g m
      omega
theorem zs_len {G : Nat → Int32} (d : Nat) (hd : d ≤ 200) (h : ∀ k, k < d → 0 ≤ (G k).toInt ∧ (G k).toInt ≤ 4000) : (itr (fun s a => a + G s) d 0 0).toInt = zs (fun s => (G s).toInt) d ∧ 0 ≤ zs (fun s => (G s).toInt) d ∧ zs (fun s => (G s).toInt) d ≤ 4000 * d := by
  induction d with
  | zero => exact ⟨rfl, Int.le_refl _, Int.le_refl _⟩
  | succ d ih =>
    obtain ⟨h1, h2, h3⟩ := ih (by omega) (fun k q => h k (by omega))
    have hd2 := h d (by omega)
    rw [itr_last, Nat.zero_add]
    have e : zs (fun s => (G s).toInt) (d + 1) = zs (fun s => (G s).toInt) d + (G d).toInt := rfl
    rw [i_add (by omega) (by omega), h1, e]
    exact ⟨rfl, by omega, by omega⟩
theorem s_from_eq (l t : Nat) : t * 2 ^ (l + 1) = 2 * t * 2 ^ l := by
  rw [Nat.pow_succ, Nat.mul_comm (2 ^ l) 2, ← Nat.mul_assoc, Nat.mul_comm t 2]
theorem s_span_two {k : Int32} {c : CS} {l t : Nat} (cv : CoV c) (ht : t < s_sticks c (l + 1)) : (s_span k c (l + 1) t).toInt ≤ (s_span k c l (2 * t)).toInt + (if 2 * t + 1 < s_sticks c l then (s_span k c l (2 * t + 1)).toInt else 0) := by
  have n1 := cv.n1
  have h0 := (stk_iff n1 t).mp ht
  rw [s_from_eq] at h0
  have hE : s_end c (l + 1) t = if (2 * t + 2) * 2 ^ l < cN c then (2 * t + 2) * 2 ^ l else if cI c = 0 then cN c - 1 else 0 := by
    unfold s_end
    rw [s_from_eq, show 2 * (t + 1) = 2 * t + 2 by omega]
  have hPp : 0 < 2 ^ l := Nat.pow_pos (by decide)
  have hlt : 2 * t * 2 ^ l < cN c := by
    unfold s_top at h0
    split at h0 <;> omega
  unfold s_span
  rw [s_from_eq, hE]
  by_cases hq : 2 * t + 1 < s_sticks c l
  · rw [if_pos hq]
    have h2 := s_from_lt (c := c) (l := l) (show 1 ≤ cN c by omega) hq
    have e1 : s_end c l (2 * t) = (2 * t + 1) * 2 ^ l := by unfold s_end; rw [if_pos h2]
    have e2 : s_end c l (2 * t + 1) = if (2 * t + 2) * 2 ^ l < cN c then (2 * t + 2) * 2 ^ l else if cI c = 0 then cN c - 1 else 0 := by unfold s_end; rfl
    rw [e1, e2]
    have h3 : (if (2 * t + 2) * 2 ^ l < cN c then (2 * t + 2) * 2 ^ l else if cI c = 0 then cN c - 1 else 0) < cN c := by
      split
      · assumption
      · split <;> omega
    have b1 := cv.2.2 _ hlt
    have b2 := cv.2.2 _ h2
    have b3 := cv.2.2 _ h3
    exact s_dist_tri b1.1 b1.2 b2.1 b2.2 b3.1 b3.2
  · rw [if_neg hq, Int.add_zero]
    have h2 : ¬ (2 * t + 1) * 2 ^ l < s_top c := fun q => hq ((stk_iff n1 _).mpr q)
    have e0 : (2 * t + 2) * 2 ^ l = (2 * t + 1) * 2 ^ l + 2 ^ l := by rw [show 2 * t + 2 = 2 * t + 1 + 1 by omega, Nat.succ_mul (2 * t + 1)]
    have e1 : (if (2 * t + 2) * 2 ^ l < cN c then (2 * t + 2) * 2 ^ l else if cI c = 0 then cN c - 1 else 0) = s_end c l (2 * t) := by
      unfold s_end
      unfold s_top at h2
      by_cases hz : cI c = 0
      · rw [if_pos hz] at h2
        rw [if_neg (show ¬ (2 * t + 2) * 2 ^ l < cN c by omega), if_pos hz]
        by_cases h4 : (2 * t + 1) * 2 ^ l < cN c
        · rw [if_pos h4]; omega
        · rw [if_neg h4]
      · rw [if_neg hz] at h2
        rw [if_neg (show ¬ (2 * t + 2) * 2 ^ l < cN c by omega), if_neg h2]
    rw [e1]
    exact Int.le_refl _
theorem zs_pair {g g1 : Nat → Int} {S S1 : Nat} (h3 : ∀ t, t < S1 → 2 * t < S) (h2 : ∀ t, t < S1 → g1 t ≤ g (2 * t) + (if 2 * t + 1 < S then g (2 * t + 1) else 0)) : ∀ t, t ≤ S1 → zs g1 t ≤ zs g (min (2 * t) S) := by
  intro t
  induction t with
  | zero => intro _; rw [show min (2 * 0) S = 0 by omega]; exact Int.le_refl _
  | succ t ih =>
    intro ht
    have h1 := ih (by omega)
    have h2 := h2 t (by omega)
    have h3 := h3 t (by omega)
    rw [show min (2 * t) S = 2 * t by omega] at h1
    rw [zs_s]
    by_cases hq : 2 * t + 1 < S
    · rw [if_pos hq] at h2
      rw [show min (2 * (t + 1)) S = 2 * t + 1 + 1 by omega, zs_s, zs_s]
      omega
    · rw [if_neg hq] at h2
      rw [show min (2 * (t + 1)) S = 2 * t + 1 by omega, zs_s]
      omega
theorem zs_two {k : Int32} {c : CS} {l : Nat} (cv : CoV c) : zs (fun s => (s_span k c (l + 1) s).toInt) (s_sticks c (l + 1)) ≤ zs (fun s => (s_span k c l s).toInt) (min (2 * s_sticks c (l + 1)) (s_sticks c l)) :=
  zs_pair (g := fun s => (s_span k c l s).toInt) (g1 := fun s => (s_span k c (l + 1) s).toInt) (S := s_sticks c l) (S1 := s_sticks c (l + 1)) (fun t ht => (stk_iff cv.n1 _).mpr (by have h := (stk_iff cv.n1 t).mp ht; rw [s_from_eq] at h; exact h)) (fun t ht => s_span_two cv ht) _ (Nat.le_refl _)
theorem s_len_le {k : Int32} {c : CS} (cv : CoV c) (l : Nat) : (s_len k c (l + 1)).toInt ≤ (s_len k c l).toInt := by
  have g0 := zs_len (G := s_span k c l) (s_sticks c l) (by have := s_sticks_200 (l := l) cv; omega) (fun j hj => s_span_b cv hj)
  have g1 := zs_len (G := s_span k c (l + 1)) (s_sticks c (l + 1)) (by have := s_sticks_200 (l := l + 1) cv; omega) (fun j hj => s_span_b cv hj)
  have h := zs_two (k := k) (l := l) cv
  have hm := zs_mono (g := fun s => (s_span k c l s).toInt) (n := min (2 * s_sticks c (l + 1)) (s_sticks c l)) (m := s_sticks c l) (by omega) (fun j _ hj => (s_span_b cv hj).1)
  unfold s_len
  rw [g0.1, g1.1]
  exact Int.le_trans h hm
theorem s_gain_b {k : Int32} {c : CS} (cv : CoV c) (l : Nat) : 0 ≤ (s_gain k c l).toInt := by
  have h0 := s_len_b (k := k) (l := l) cv
  have h1 := s_len_b (k := k) (l := l + 1) cv
  have h2 := s_len_le (k := k) cv l
  unfold s_gain
  rw [i_sub (by omega) (by omega)]
  omega
section GG
variable {V : Nat → Nat} {g f f0 : GH} {x m b : Nat} {T : TS} {z : Nat → Int32} {A : Nat → Nat → Int32} {hs pc pn : Int32}
theorem P_lg_l (X : XoA f x hs pc pn) (C : ChA f (x + 1) T) {q : Nat} {c : CS} (q2 : CoA f q 129 c) (hn : 1 ≤ cN c) (K : Int32 → Option (Nat ⊕ Int32)) :
    ∀ (d N i : Nat), 1 ≤ i → i + d = 7 → d < N → p_X7_levelOfGreatestGain_l14 V g f K N x q (nn (s_am (s_gain (tK T) c) (i - 1))) (s_gain (tK T) c (s_am (s_gain (tK T) c) (i - 1))) (nn i) = K (nn (s_am (s_gain (tK T) c) 6)) := by
  intro d
  induction d with
  | zero =>
    intro N i h1 he hN
    obtain ⟨N, rfl⟩ : ∃ M, N = M + 1 := ⟨N - 1, by omega⟩
    rw [p_X7_levelOfGreatestGain_l14, if_pos (by rw [show (7 : Int32) = nn 7 from rfl, nn_le (by omega) (by omega)]; omega), show i - 1 = 6 by omega]
  | succ d ih =>
    intro N i h1 he hN
    obtain ⟨N, rfl⟩ : ∃ M, N = M + 1 := ⟨N - 1, by omega⟩
    rw [p_X7_levelOfGreatestGain_l14, if_neg (by rw [show (7 : Int32) = nn 7 from rfl, nn_le (by omega) (by omega)]; omega), X.ch, ob_s, C.k, ob_s, C_gain q2 hn (by omega), ob_s, nn_s]
    have e := s_am_s (s_gain (tK T) c) h1
    have h := ih N (i + 1) (by omega) (by omega) (by omega)
    rw [Nat.add_sub_cancel, e] at h
    by_cases hc : s_gain (tK T) c i ≤ s_gain (tK T) c (s_am (s_gain (tK T) c) (i - 1))
    · rw [if_pos hc] at h ⊢
      exact h
    · rw [if_neg hc] at h ⊢
      exact h
theorem P_levelOfGreatestGain (X : XoA f x hs pc pn) (C : ChA f (x + 1) T) (hv : TV T) (a : Int32) : p_X7_levelOfGreatestGain V g f x a = some (sCo T a fun c => .inr (nn (s_am (s_gain (tK T) c) 6))) := by
  unfold p_X7_levelOfGreatestGain
  rw [X.me]
  unfold sCo
  cases ha : inC (tN T) a with
  | false => rw [P_atN X C ha, xb_l, if_neg b_ff]
  | true =>
    obtain ⟨q, q1, q2, q3, q4⟩ := P_at (V := V) (g := g) X C ha
    have cv := hv.2.2 _ (inC_t (by have := hv.1; omega) ha).2
    have n1 := cv.n1
    rw [q1, xb_r, if_pos rfl]
    obtain ⟨N, hN⟩ : ∃ N, FU = N + 1 := ⟨999999, rfl⟩
    have hbig : 199 < N := by unfold FU at hN; omega
    rw [hN, p_X7_levelOfGreatestGain_l14, if_neg (by decide), X.ch, ob_s, C.k, ob_s, n_0, C_gain q2 (by omega) (by omega), ob_s, if_neg (s_nonneg (s_gain_b cv 0)), nn_s]
    exact P_lg_l X C q2 (by omega) _ 6 N 1 (by omega) (by omega) (by omega)
end GG


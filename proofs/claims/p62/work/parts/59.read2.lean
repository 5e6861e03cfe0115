/-! ===== more reading methods ===== -/
section RE
variable {V : Nat → Nat} {g f f0 : GH} {x m b : Nat} {T : TS} {z : Nat → Int32} {A : Nat → Nat → Int32} {hs pc pn : Int32}
theorem P_pt2 (X : XoA f x hs pc pn) (C : ChA f (x + 1) T) (hv : TV T) {a : Int32} (ha : inC (tN T) a = true) (u v : Int32) : ∃ q, p_X7_coastWithPoint V g f x a u = some (if inC (cN (tC T (ix a))) u = true then .inr q else .inl 0) ∧ p_X7_coastWithPoint V g f x a v = some (if inC (cN (tC T (ix a))) v = true then .inr q else .inl 0) ∧ CoA f q 129 (tC T (ix a)) := by
  obtain ⟨q, q1, q0, q2⟩ := P_pt (V := V) (g := g) X C hv ha u
  obtain ⟨q', r1, r0, r2⟩ := P_pt (V := V) (g := g) X C hv ha v
  have e : q' = q := Sum.inr.inj (Option.some.inj (r0.symm.trans q0))
  subst e
  exact ⟨q', q1, r1, q2⟩
theorem P_pointDistance (X : XoA f x hs pc pn) (C : ChA f (x + 1) T) (hv : TV T) (a u v : Int32) : p_X7_pointDistance V g f x a u v = some (sCo T a fun c => sPt (cN c) u (sPt (cN c) v (.inr (s_d (tK T) c (ix u) (ix v))))) := by
  unfold p_X7_pointDistance
  rw [X.me]
  unfold sCo
  cases ha : inC (tN T) a with
  | false => rw [P_ptN X C ha, xb_l, if_neg b_ff]
  | true =>
    obtain ⟨q, q1, r1, q2⟩ := P_pt2 (V := V) (g := g) X C hv ha u v
    have cv := hv.2.2 _ (inC_t (by have := hv.1; omega) ha).2
    have n2 := cv.n2
    rw [q1, if_pos rfl]
    unfold sPt
    dsimp only
    cases hu : inC (cN (tC T (ix a))) u with
    | false => rw [if_neg b_ff, xb_l, if_neg b_ff]
    | true =>
      rw [if_pos rfl, xb_r, if_pos rfl, r1]
      cases hw : inC (cN (tC T (ix a))) v with
      | false => rw [if_neg b_ff, xb_l, if_neg b_ff]
      | true =>
        rw [if_pos rfl, xb_r, if_pos rfl]
        obtain ⟨j, hj, rfl⟩ := inC_ex (by omega) hu
        obtain ⟨k, hk, rfl⟩ := inC_ex (by omega) hw
        rw [X.ch, ob_s, C.k, ob_s, C_dist q2 hj hk, ob_s, ix_nn (show j < 2147483648 by omega), ix_nn (show k < 2147483648 by omega)]
/-! sticks -/
theorem s_sticks_pos {c : CS} {l : Nat} (h : CoV c) : 1 ≤ s_sticks c l := by
  have := h.n1
  unfold s_sticks
  split
  · rename_i h1
    rcases Nat.eq_zero_or_pos ((cN c - 1) / 2 ^ l) with h2 | h2
    · rw [h2] at h1
      omega
    · exact h2
  · exact Nat.le_add_left 1 _
theorem s_sticks_200 {c : CS} {l : Nat} (h : CoV c) : s_sticks c l < 200 := by
  have := h.n2
  have := s_sticks_le c l
  omega
def sStk (T : TS) (a l s : Int32) (k : CS → Nat → Nat → Int32) : Nat ⊕ Int32 := sCo T a fun c => sIn 0 7 l (sSt (s_sticks c (ix l)) s (.inr (k c (ix l) (ix s))))
theorem P_stk (X : XoA f x hs pc pn) (C : ChA f (x + 1) T) (hv : TV T) {a : Int32} (ha : inC (tN T) a = true) (l s : Int32) {q : Nat} (q2 : CoA f q 129 (tC T (ix a))) : p_X7_requireStick V g f q l s = some (sIn 0 7 l (sSt (s_sticks (tC T (ix a)) (ix l)) s (.inr ()))) := by
  have cv := hv.2.2 _ (inC_t (by have := hv.1; omega) ha).2
  have n1 := cv.n1
  unfold p_X7_requireStick
  rw [P_within]
  unfold sIn sSt
  cases hl : s_in 0 7 l with
  | false => rw [if_neg b_ff, xb_l, if_neg b_ff]
  | true =>
    obtain ⟨j, hj, rfl⟩ := lvl7 hl
    have := s_sticks_200 (l := j) cv
    rw [if_pos rfl, xb_r, if_pos rfl, C_sticks q2 (by omega) hj, ob_s, P_within, inC_pred (by omega), ix_nn (show j < 2147483648 by omega)]
    cases hs : inC (s_sticks (tC T (ix a)) j) s with
    | false => rw [if_neg b_ff, xb_l]
    | true => rw [if_pos rfl, xb_r]
theorem P_stickStart (X : XoA f x hs pc pn) (C : ChA f (x + 1) T) (hv : TV T) (a l s : Int32) : p_X7_stickStart V g f x a l s = some (sStk T a l s fun _ l s => nn (s * 2 ^ l)) := by
  unfold p_X7_stickStart sStk
  rw [X.me]
  unfold sCo
  cases ha : inC (tN T) a with
  | false => rw [P_atN X C ha, xb_l, if_neg b_ff]
  | true =>
    obtain ⟨q, q1, q2, q3, q4⟩ := P_at (V := V) (g := g) X C ha
    have cv := hv.2.2 _ (inC_t (by have := hv.1; omega) ha).2
    rw [q1, xb_r, if_pos rfl, P_stk X C hv ha l s q2]
    unfold sIn sSt
    dsimp only
    cases hl : s_in 0 7 l with
    | false => rw [if_neg b_ff, xb_l, if_neg b_ff]
    | true =>
      obtain ⟨j, hj, rfl⟩ := lvl7 hl
      have := s_sticks_200 (l := j) cv
      rw [if_pos rfl, if_pos rfl, ix_nn (show j < 2147483648 by omega)]
      cases hs : inC (s_sticks (tC T (ix a)) j) s with
      | false => rw [if_neg b_ff, xb_l, if_neg b_ff]
      | true =>
        obtain ⟨k, hk, rfl⟩ := inC_ex (by omega) hs
        rw [if_pos rfl, xb_r, if_pos rfl, C_from q2 hj, ob_s, ix_nn (show k < 2147483648 by omega)]
theorem P_stickLength (X : XoA f x hs pc pn) (C : ChA f (x + 1) T) (hv : TV T) (a l s : Int32) : p_X7_stickLength V g f x a l s = some (sStk T a l s fun c l s => s_span (tK T) c l s) := by
  unfold p_X7_stickLength sStk
  rw [X.me]
  unfold sCo
  cases ha : inC (tN T) a with
  | false => rw [P_atN X C ha, xb_l, if_neg b_ff]
  | true =>
    obtain ⟨q, q1, q2, q3, q4⟩ := P_at (V := V) (g := g) X C ha
    have cv := hv.2.2 _ (inC_t (by have := hv.1; omega) ha).2
    have n1 := cv.n1
    rw [q1, xb_r, if_pos rfl, P_stk X C hv ha l s q2]
    unfold sIn sSt
    dsimp only
    cases hl : s_in 0 7 l with
    | false => rw [if_neg b_ff, xb_l, if_neg b_ff]
    | true =>
      obtain ⟨j, hj, rfl⟩ := lvl7 hl
      have := s_sticks_200 (l := j) cv
      rw [if_pos rfl, if_pos rfl, ix_nn (show j < 2147483648 by omega)]
      cases hs : inC (s_sticks (tC T (ix a)) j) s with
      | false => rw [if_neg b_ff, xb_l, if_neg b_ff]
      | true =>
        obtain ⟨k, hk, rfl⟩ := inC_ex (by omega) hs
        rw [if_pos rfl, xb_r, if_pos rfl, X.ch, ob_s, C.k, ob_s, C_span q2 (by omega) hj hk, ob_s, ix_nn (show k < 2147483648 by omega)]
end RE


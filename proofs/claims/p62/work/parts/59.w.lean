/-! ===== counts, ledgers, the other metric, a point left out ===== -/
section RW
variable {V : Nat → Nat} {g f f0 : GH} {x m b : Nat} {T : TS} {z : Nat → Int32} {A : Nat → Nat → Int32} {hs pc pn : Int32}
theorem m_told (v : Int32) : h_pt (mH V m b z A f0) m 10 7 (.int v) = some (mH V m b (upd z 7 v) A f0) := m_pt (k := 7) (by decide)
theorem P_coastCount (X : XoA f x hs pc pn) (C : ChA f (x + 1) T) : p_X7_coastCount V g f x = some (nn (tN T)) := by
  unfold p_X7_coastCount
  rw [X.me, X.ch, ob_s, C.n, ob_s]
theorem P_usesKingMetric (X : XoA f x hs pc pn) (C : ChA f (x + 1) T) (hv : TV T) : p_X7_usesKingMetric V g f x = some (tK T) := by
  unfold p_X7_usesKingMetric
  rw [X.me, X.ch, ob_s, C.k, ob_s, hbz01 hv.2.1, ob_s]
theorem P_loadedPoints (X : XoA f x hs pc pn) (C : ChA f (x + 1) T) : p_X7_loadedPoints V g f x = some (tL T) := by
  unfold p_X7_loadedPoints
  rw [X.me, X.ch, ob_s, C.l, ob_s]
theorem P_addedPoints (X : XoA f x hs pc pn) (C : ChA f (x + 1) T) : p_X7_addedPoints V g f x = some (tA T) := by
  unfold p_X7_addedPoints
  rw [X.me, X.ch, ob_s, C.a, ob_s]
theorem P_removedPoints (X : XoA f x hs pc pn) (C : ChA f (x + 1) T) : p_X7_removedPoints V g f x = some (tR T) := by
  unfold p_X7_removedPoints
  rw [X.me, X.ch, ob_s, C.r, ob_s]
theorem M_led (hb : b < 2) (R : RT (A b) T) : h_li (mH V m b z A f0) (m + 1 + b) 0 (2 : Int32) = some (tL T) ∧ h_li (mH V m b z A f0) (m + 1 + b) 0 (3 : Int32) = some (tA T) ∧ h_li (mH V m b z A f0) (m + 1 + b) 0 (4 : Int32) = some (tR T) := by
  have := mL_row hb
  refine ⟨?_, ?_, ?_⟩
  · rw [show (2 : Int32) = nn 2 from rfl, m_li (by omega) (by omega), R.2.2.1]
  · rw [show (3 : Int32) = nn 3 from rfl, m_li (by omega) (by omega), R.2.2.2.1]
  · rw [show (4 : Int32) = nn 4 from rfl, m_li (by omega) (by omega), R.2.2.2.2.1]
def s_other (T : TS) (c : CS) (l : Nat) : Int32 := if tK T = 0 then s_len 1 c l else s_len 0 c l
theorem P_lengthInOtherMetric (X : XoA f x hs pc pn) (C : ChA f (x + 1) T) (hv : TV T) (a l : Int32) : p_X7_lengthInOtherMetric V g f x a l = some (sCo T a fun c => sIn 0 7 l (.inr (s_other T c (ix l)))) := by
  unfold p_X7_lengthInOtherMetric
  rw [X.me]
  unfold sCo
  cases ha : inC (tN T) a with
  | false => rw [P_atN X C ha, xb_l, if_neg b_ff]
  | true =>
    obtain ⟨q, q1, q2, q3, q4⟩ := P_at (V := V) (g := g) X C ha
    have cv := hv.2.2 _ (inC_t (by have := hv.1; omega) ha).2
    have n1 := cv.n1
    rw [q1, xb_r, if_pos rfl, P_within]
    unfold sIn s_other
    dsimp only
    cases hl : s_in 0 7 l with
    | false => rw [if_neg b_ff, xb_l, if_neg b_ff]
    | true =>
      obtain ⟨j, hj, rfl⟩ := lvl7 hl
      rw [if_pos rfl, xb_r, if_pos rfl, X.ch, ob_s, C.k, ob_s, C_len q2 (by omega) hj, ob_s, C_len q2 (by omega) hj, ob_s, ix_nn (show j < 2147483648 by omega)]
      split <;> rfl
end RW


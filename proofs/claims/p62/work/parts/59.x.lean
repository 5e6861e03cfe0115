/-! ===== the reference's scratch coastline (place 6) ===== -/
def SC (b : Nat) (A A1 : Nat → Nat → Int32) : Prop := ∀ r k, r ≠ b ∨ k < 1565 → A1 r k = A r k
theorem SC.rf (b : Nat) (A : Nat → Nat → Int32) : SC b A A := fun _ _ _ => rfl
theorem SC.tr {b : Nat} {A A1 A2 : Nat → Nat → Int32} (h : SC b A A1) (h2 : SC b A1 A2) : SC b A A2 := fun r k q => (h2 r k q).trans (h r k q)
theorem SC.up {b : Nat} {A : Nat → Nat → Int32} {r1 : Nat → Int32} (h : ∀ k, k < 1565 → r1 k = A b k) : SC b A (upA A b r1) := by
  intro r k q
  by_cases e : r = b
  · subst e
    rw [upA_s]
    exact h k (q.resolve_left (fun z => z rfl))
  · rw [upA_n _ _ e]
theorem SC.rt {b : Nat} {A A1 : Nat → Nat → Int32} {T : TS} (h : SC b A A1) (R : RT (A b) T) (hv : TV T) : RT (A1 b) T := by
  have h6 := hv.1
  obtain ⟨h0, h1, h2, h3, h4, h5⟩ := R
  refine ⟨by rw [h b 0 (Or.inr (by omega))]; exact h0, by rw [h b 1 (Or.inr (by omega))]; exact h1, by rw [h b 2 (Or.inr (by omega))]; exact h2, by rw [h b 3 (Or.inr (by omega))]; exact h3, by rw [h b 4 (Or.inr (by omega))]; exact h4, fun i hi => ?_⟩
  exact (h5 i hi).frame (hv.2.2 i hi).n2 (fun k q1 q2 => h b k (Or.inr (by omega)))
def s_but (w : Int32) (c : CS) (p : Nat) : Int32 := if s_need c ≤ cN c - 1 then s_wo w c p else -1
section RX
variable {V : Nat → Nat} {g f f0 : GH} {x m b : Nat} {T : TS} {z : Nat → Int32} {A : Nat → Nat → Int32} {hs pc pn : Int32}
theorem P_lengthWithoutPoint (X : XoA f x hs pc pn) (C : ChA f (x + 1) T) (hv : TV T) (a u : Int32) : p_X7_lengthWithoutPoint V g f x a u = some (sCo T a fun c => sPt (cN c) u (.inr (s_but (tK T) c (ix u)))) := by
  unfold p_X7_lengthWithoutPoint
  rw [X.me]
  unfold sCo
  cases ha : inC (tN T) a with
  | false => rw [P_ptN X C ha, xb_l, if_neg b_ff]
  | true =>
    obtain ⟨q, q1, q0, q2⟩ := P_pt (V := V) (g := g) X C hv ha u
    have cv := hv.2.2 _ (inC_t (by have := hv.1; omega) ha).2
    have n1 := cv.n1
    have n2 := cv.n2
    rw [q1, if_pos rfl]
    unfold sPt
    dsimp only
    cases hu : inC (cN (tC T (ix a))) u with
    | false => rw [if_neg b_ff, xb_l, if_neg b_ff]
    | true =>
      obtain ⟨k, hk, rfl⟩ := inC_ex (by omega) hu
      rw [if_pos rfl, xb_r, if_pos rfl, X.ch, ob_s, C.k, ob_s, C_wo q2 n1 hk, ob_s, ix_nn (show k < 2147483648 by omega)]
      rfl
theorem P_lip_l (X : XoA f x hs pc pn) (C : ChA f (x + 1) T) {q : Nat} {c : CS} (q2 : CoA f q 129 c) (cv : CoV c) (K : Int32 → Option (Nat ⊕ Int32)) :
    ∀ (d N i : Nat) (v w : Int32), i + d = cN c → d < N → p_X7_leastImportantPoint_l14 V g f K N x q v w (nn i) = K (itr (fun i (a : Int32 × Int32) => if s_but (tK T) c i ≤ a.2 then a else (nn i, s_but (tK T) c i)) d i (v, w)).1 := by
  have n1 := cv.n1
  have n2 := cv.n2
  intro d
  induction d with
  | zero =>
    intro N i v w he hN
    obtain ⟨N, rfl⟩ : ∃ M, N = M + 1 := ⟨N - 1, by omega⟩
    rw [p_X7_leastImportantPoint_l14, q2.n, ob_s, if_pos (by rw [nn_le (by omega) (by omega)]; omega)]
    rfl
  | succ d ih =>
    intro N i v w he hN
    obtain ⟨N, rfl⟩ : ∃ M, N = M + 1 := ⟨N - 1, by omega⟩
    rw [p_X7_leastImportantPoint_l14, q2.n, ob_s, if_neg (by rw [nn_le (by omega) (by omega)]; omega), X.ch, ob_s, C.k, ob_s, C_wo q2 n1 (by omega), ob_s, nn_s, ih N (i + 1) _ _ (by omega) (by omega), ih N (i + 1) _ _ (by omega) (by omega)]
    show (if s_but (tK T) c i ≤ w then _ else _) = K (itr _ d (i + 1) (if s_but (tK T) c i ≤ w then (v, w) else (nn i, s_but (tK T) c i))).1
    by_cases hq : s_but (tK T) c i ≤ w
    · rw [if_pos hq, if_pos hq]
    · rw [if_neg hq, if_neg hq]
      rfl
def s_lip (T : TS) (c : CS) : Int32 := (itr (fun i (a : Int32 × Int32) => if s_but (tK T) c i ≤ a.2 then a else (nn i, s_but (tK T) c i)) (cN c) 0 (-1, -1)).1
theorem P_leastImportantPoint (X : XoA f x hs pc pn) (C : ChA f (x + 1) T) (hv : TV T) (a : Int32) : p_X7_leastImportantPoint V g f x a = some (sCo T a fun c => .inr (s_lip T c)) := by
  unfold p_X7_leastImportantPoint
  rw [X.me]
  unfold sCo
  cases ha : inC (tN T) a with
  | false => rw [P_atN X C ha, xb_l, if_neg b_ff]
  | true =>
    obtain ⟨q, q1, q2, q3, q4⟩ := P_at (V := V) (g := g) X C ha
    have cv := hv.2.2 _ (inC_t (by have := hv.1; omega) ha).2
    have n2 := cv.n2
    rw [q1, xb_r, if_pos rfl]
    exact P_lip_l X C q2 cv _ (cN (tC T (ix a))) FU 0 (-1) (-1) (by omega) (by unfold FU; omega)
end RX


/-! ===== the reference's scratch coastline (place 6) ===== -/
def SC (b : Nat) (A A1 : Nat → Nat → Int32) : Prop := ∀ r k, r ≠ b ∨ k < 1565 → A1 r k = A r k
theorem SC.rf (b : Nat) (A : Nat → Nat → Int32) : SC b A A := fun _ _ _ => rfl
theorem SC.tr {b : Nat} {A A1 A2 : Nat → Nat → Int32} (h : SC b A A1) (h2 : SC b A1 A2) : SC b A A2 := fun r k q => (h2 r k q).trans (h r k q)
theorem SC.up {b : Nat} {A : Nat → Nat → Int32} {r1 : Nat → Int32} (h : ∀ k, k < 1565 → r1 k = A b k) : SC b A (upA A b r1) := by
  intro r k q
  by_cases e : r = b
  · subst e
    rw [upA_s]
    exact h k (q.resolve_left (fun z => z rfl))
  · rw [upA_n _ _ e]
theorem SC.rt {b : Nat} {A A1 : Nat → Nat → Int32} {T : TS} (h : SC b A A1) (R : RT (A b) T) (hv : TV T) : RT (A1 b) T := by
  have h6 := hv.1
  obtain ⟨h0, h1, h2, h3, h4, h5⟩ := R
  refine ⟨by rw [h b 0 (Or.inr (by omega))]; exact h0, by rw [h b 1 (Or.inr (by omega))]; exact h1, by rw [h b 2 (Or.inr (by omega))]; exact h2, by rw [h b 3 (Or.inr (by omega))]; exact h3, by rw [h b 4 (Or.inr (by omega))]; exact h4, fun i hi => ?_⟩
  exact (h5 i hi).frame (hv.2.2 i hi).n2 (fun k q1 q2 => h b k (Or.inr (by omega)))
def s_but (w : Int32) (c : CS) (p : Nat) : Int32 := if s_need c ≤ cN c - 1 then s_wo w c p else -1
section RX
variable {V : Nat → Nat} {g f f0 : GH} {x m b : Nat} {T : TS} {z : Nat → Int32} {A : Nat → Nat → Int32} {hs pc pn : Int32}
theorem M_but (hb : b < 2) {i : Nat} {c : CS} (hi : i < 6) (h : RC (A b) i c) (cv : CoV c) (k01 : A b 0 = 0 ∨ A b 0 = 1) {p : Nat} (hp : p < cN c) : ∃ A1, p_X8_lengthBut V g (mH V m b z A f0) m (nn i) (nn p) = some (s_but (A b 0) c p, mH V m b z A1 f0) ∧ SC b A A1 := by
  have n1 := cv.n1
  have n2 := cv.n2
  have hn3 : s_need c ≤ cN c := by
    unfold s_need
    rcases cv.1 with q | q
    · rw [if_pos q.1]; exact q.2
    · rw [if_neg (by rw [q.1]; decide)]; exact q.2
  have hn2 : 2 ≤ s_need c ∧ s_need c ≤ 3 := by unfold s_need; split <;> omega
  unfold p_X8_lengthBut s_but
  rw [m_me, M_count hb (by omega) h, ob_s, M_fewest hb (by omega) h cv.i01, ob_s]
  by_cases hc : cN c = s_need c
  · refine ⟨A, ?_, SC.rf b A⟩
    rw [if_pos (by rw [hc]; rfl), if_neg (by omega)]
  · rw [if_neg (show ¬ nn (cN c) = nn (if cI c = 0 then 2 else 3) from fun e => hc ((nn_eq (by omega) (by show s_need c < _; omega)).mp e)), if_pos (by omega)]
    rw [show (6 : Int32) = nn 6 from rfl, M_copyCoast hb (by omega) (by omega), ob_s]
    have r6 : RC (upA A b (va_cpy (A b) (A b) (5 + 260 * i) (5 + 260 * 6) 260) b) 6 c := by
      rw [upA_s]
      exact RC_cpy h n2
    obtain ⟨r1, e1, h1, o1⟩ := M_cut (V := V) (g := g) (m := m) (z := z) (f0 := f0) hb (by omega) r6 (by omega) n2 hp
    rw [e1, ob_s]
    have hz : ∀ k, k < 1565 → r1 k = A b k := fun k hk => by
      rw [o1 k (Or.inl (by omega)), upA_s]
      show (if 5 + 260 * 6 ≤ k ∧ k < 5 + 260 * 6 + 260 then _ else _) = _
      rw [if_neg (by omega)]
    have k01' : upA (upA A b (va_cpy (A b) (A b) (5 + 260 * i) (5 + 260 * 6) 260)) b r1 b 0 = 0 ∨ upA (upA A b (va_cpy (A b) (A b) (5 + 260 * i) (5 + 260 * 6) 260)) b r1 b 0 = 1 := by
      rw [upA_s, hz 0 (by omega)]
      exact k01
    have h1' : RC (upA (upA A b (va_cpy (A b) (A b) (5 + 260 * i) (5 + 260 * 6) 260)) b r1 b) 6 (s_cut c p) := by
      rw [upA_s]
      exact h1
    have hcn : cN (s_cut c p) = cN c - 1 := rfl
    rw [n_0, M_lenNow hb (by omega) h1' cv.i01 (by omega) (by omega) k01' (by omega), ob_s, upA_s, hz 0 (by omega)]
    have sc : SC b A (upA (upA A b (va_cpy (A b) (A b) (5 + 260 * i) (5 + 260 * 6) 260)) b r1) := by
      intro r k q
      by_cases e : r = b
      · subst e
        rw [upA_s]
        exact hz k (q.resolve_left (fun z => z rfl))
      · rw [upA_n _ _ e, upA_n _ _ e]
    exact ⟨_, by rw [s_wo_eq _ c hp (by omega)], sc⟩
theorem P_lengthWithoutPoint (X : XoA f x hs pc pn) (C : ChA f (x + 1) T) (hv : TV T) (a u : Int32) : p_X7_lengthWithoutPoint V g f x a u = some (sCo T a fun c => sPt (cN c) u (.inr (s_but (tK T) c (ix u)))) := by
  unfold p_X7_lengthWithoutPoint
  rw [X.me]
  unfold sCo
  cases ha : inC (tN T) a with
  | false => rw [P_ptN X C ha, xb_l, if_neg b_ff]
  | true =>
    obtain ⟨q, q1, q0, q2⟩ := P_pt (V := V) (g := g) X C hv ha u
    have cv := hv.2.2 _ (inC_t (by have := hv.1; omega) ha).2
    have n1 := cv.n1
    have n2 := cv.n2
    rw [q1, if_pos rfl]
    unfold sPt
    dsimp only
    cases hu : inC (cN (tC T (ix a))) u with
    | false => rw [if_neg b_ff, xb_l, if_neg b_ff]
    | true =>
      obtain ⟨k, hk, rfl⟩ := inC_ex (by omega) hu
      rw [if_pos rfl, xb_r, if_pos rfl, X.ch, ob_s, C.k, ob_s, C_wo q2 n1 hk, ob_s, ix_nn (show k < 2147483648 by omega)]
      rfl
theorem Q_lengthWithoutPoint (hb : b < 2) (R : RT (A b) T) (hv : TV T) (a u : Int32) : ∃ A1, p_X8_lengthWithoutPoint V g (mH V m b z A f0) m a u = some (sv (sCo T a fun c => sPt (cN c) u (.inr (s_but (tK T) c (ix u)))), mH V m b (upd z 7 (st cdT (sCo T a fun c => sPt (cN c) u (.inr (s_but (tK T) c (ix u)) : Nat ⊕ Int32)))) A1 f0) ∧ SC b A A1 := by
  have k01 := R.k01 hv
  have h6 := hv.1
  unfold p_X8_lengthWithoutPoint
  rw [m_me, M_isPoint hb R hv, ob_s, M_lacks, ob_s]
  unfold sCo sPt
  cases ha : inC (tN T) a with
  | false =>
    refine ⟨A, ?_, SC.rf b A⟩
    rw [Bool.false_and, if_neg (show ¬ bz (!false) = (0 : Int32) by decide), if_neg b_ff]; rfl
  | true =>
    rw [Bool.true_and, if_pos (rfl : true = true)]
    dsimp only
    cases hu : inC (cN (tC T (ix a))) u with
    | false =>
      refine ⟨A, ?_, SC.rf b A⟩
      rw [if_neg (show ¬ bz (!false) = (0 : Int32) by decide), if_neg b_ff]; rfl
    | true =>
      obtain ⟨i, hi, rfl⟩ := inC_ex (by omega) ha
      have cv := hv.2.2 i hi
      have n2 := cv.n2
      rw [ix_nn (show i < 2147483648 by omega)] at hu ⊢
      obtain ⟨k, hk, rfl⟩ := inC_ex (by omega) hu
      obtain ⟨A1, e1, s1⟩ := M_but (V := V) (g := g) (m := m) (z := upd z 7 (bz (!true))) (f0 := f0) hb (show i < 6 by omega) (R.2.2.2.2.2 i hi) cv k01 hk
      refine ⟨A1, ?_, s1⟩
      rw [if_pos (show bz (!true) = (0 : Int32) by decide), if_pos rfl, e1, ob_s, ix_nn (show k < 2147483648 by omega), R.1]
      rfl
theorem P_lip_l (X : XoA f x hs pc pn) (C : ChA f (x + 1) T) {q : Nat} {c : CS} (q2 : CoA f q 129 c) (cv : CoV c) (K : Int32 → Option (Nat ⊕ Int32)) :
    ∀ (d N i : Nat) (v w : Int32), i + d = cN c → d < N → p_X7_leastImportantPoint_l14 V g f K N x q v w (nn i) = K (itr (fun i (a : Int32 × Int32) => if s_but (tK T) c i ≤ a.2 then a else (nn i, s_but (tK T) c i)) d i (v, w)).1 := by
  have n1 := cv.n1
  have n2 := cv.n2
  intro d
  induction d with
  | zero =>
    intro N i v w he hN
    obtain ⟨N, rfl⟩ : ∃ M, N = M + 1 := ⟨N - 1, by omega⟩
    rw [p_X7_leastImportantPoint_l14, q2.n, ob_s, if_pos (by rw [nn_le (by omega) (by omega)]; omega)]
    rfl
  | succ d ih =>
    intro N i v w he hN
    obtain ⟨N, rfl⟩ : ∃ M, N = M + 1 := ⟨N - 1, by omega⟩
    rw [p_X7_leastImportantPoint_l14, q2.n, ob_s, if_neg (by rw [nn_le (by omega) (by omega)]; omega), X.ch, ob_s, C.k, ob_s, C_wo q2 n1 (by omega), ob_s, nn_s, ih N (i + 1) _ _ (by omega) (by omega), ih N (i + 1) _ _ (by omega) (by omega)]
    show (if s_but (tK T) c i ≤ w then _ else _) = K (itr _ d (i + 1) (if s_but (tK T) c i ≤ w then (v, w) else (nn i, s_but (tK T) c i))).1
    by_cases hq : s_but (tK T) c i ≤ w
    · rw [if_pos hq, if_pos hq]
    · rw [if_neg hq, if_neg hq]
      rfl
def s_lip (T : TS) (c : CS) : Int32 := (itr (fun i (a : Int32 × Int32) => if s_but (tK T) c i ≤ a.2 then a else (nn i, s_but (tK T) c i)) (cN c) 0 (-1, -1)).1
theorem P_leastImportantPoint (X : XoA f x hs pc pn) (C : ChA f (x + 1) T) (hv : TV T) (a : Int32) : p_X7_leastImportantPoint V g f x a = some (sCo T a fun c => .inr (s_lip T c)) := by
  unfold p_X7_leastImportantPoint
  rw [X.me]
  unfold sCo
  cases ha : inC (tN T) a with
  | false => rw [P_atN X C ha, xb_l, if_neg b_ff]
  | true =>
    obtain ⟨q, q1, q2, q3, q4⟩ := P_at (V := V) (g := g) X C ha
    have cv := hv.2.2 _ (inC_t (by have := hv.1; omega) ha).2
    have n2 := cv.n2
    rw [q1, xb_r, if_pos rfl]
    exact P_lip_l X C q2 cv _ (cN (tC T (ix a))) FU 0 (-1) (-1) (by omega) (by unfold FU; omega)
theorem Q_lip_l (hb : b < 2) {i : Nat} {c : CS} (hi : i < 6) (cv : CoV c) (k : Int32) (k01 : k = 0 ∨ k = 1) (K : Int32 → GH → Option (Int32 × GH)) :
    ∀ (d N j : Nat) (v w : Int32) (A : Nat → Nat → Int32), RC (A b) i c → A b 0 = k → j + d = cN c → d < N → ∃ A1, p_X8_leastImportantPoint_l21 V g K N m (nn i) v w (nn j) (mH V m b z A f0) = K (itr (fun i (a : Int32 × Int32) => if s_but k c i ≤ a.2 then a else (nn i, s_but k c i)) d j (v, w)).1 (mH V m b z A1 f0) ∧ SC b A A1 := by
  have n1 := cv.n1
  have n2 := cv.n2
  intro d
  induction d with
  | zero =>
    intro N j v w A h hk he hN
    obtain ⟨N, rfl⟩ : ∃ M, N = M + 1 := ⟨N - 1, by omega⟩
    refine ⟨A, ?_, SC.rf b A⟩
    rw [p_X8_leastImportantPoint_l21, M_count hb (by omega) h, ob_s, if_pos (by rw [nn_le (by omega) (by omega)]; omega)]
    rfl
  | succ d ih =>
    intro N j v w A h hk he hN
    obtain ⟨N, rfl⟩ : ∃ M, N = M + 1 := ⟨N - 1, by omega⟩
    obtain ⟨A1, e1, s1⟩ := M_but (V := V) (g := g) (m := m) (z := z) (f0 := f0) hb hi h cv (by rw [hk]; exact k01) (show j < cN c by omega)
    have h1 : RC (A1 b) i c := h.frame n2 (fun k q1 q2 => s1 b k (Or.inr (by omega)))
    have hk1 : A1 b 0 = k := by rw [s1 b 0 (Or.inr (by omega))]; exact hk
    rw [p_X8_leastImportantPoint_l21, M_count hb (by omega) h, ob_s, if_neg (by rw [nn_le (by omega) (by omega)]; omega), e1, ob_s, nn_s, hk]
    dsimp only
    by_cases hq : s_but k c j ≤ w
    · obtain ⟨A2, e2, s2⟩ := ih N (j + 1) v w A1 h1 hk1 (by omega) (by omega)
      refine ⟨A2, ?_, s1.tr s2⟩
      rw [if_pos hq, e2]
      show _ = K (itr _ d (j + 1) (if s_but k c j ≤ w then (v, w) else (nn j, s_but k c j))).1 _
      rw [if_pos hq]
    · obtain ⟨A2, e2, s2⟩ := ih N (j + 1) (nn j) (s_but k c j) A1 h1 hk1 (by omega) (by omega)
      refine ⟨A2, ?_, s1.tr s2⟩
      rw [if_neg hq, e2]
      show _ = K (itr _ d (j + 1) (if s_but k c j ≤ w then (v, w) else (nn j, s_but k c j))).1 _
      rw [if_neg hq]
theorem Q_leastImportantPoint (hb : b < 2) (R : RT (A b) T) (hv : TV T) (a : Int32) : ∃ A1, p_X8_leastImportantPoint V g (mH V m b z A f0) m a = some (sv (sCo T a fun c => .inr (s_lip T c)), mH V m b (upd z 7 (st cdT (sCo T a fun c => (.inr (s_lip T c) : Nat ⊕ Int32)))) A1 f0) ∧ SC b A A1 := by
  have k01 := hv.2.1
  have h6 := hv.1
  unfold p_X8_leastImportantPoint
  rw [m_me, M_isCoast hb R hv.1, ob_s, M_lacks, ob_s]
  unfold sCo
  cases ha : inC (tN T) a with
  | false =>
    refine ⟨A, ?_, SC.rf b A⟩
    rw [if_neg (show ¬ bz (!false) = (0 : Int32) by decide), if_neg b_ff]; rfl
  | true =>
    obtain ⟨i, hi, rfl⟩ := inC_ex (by omega) ha
    have cv := hv.2.2 i hi
    have n2 := cv.n2
    rw [if_pos (show bz (!true) = (0 : Int32) by decide), if_pos rfl, ix_nn (show i < 2147483648 by omega)]
    exact Q_lip_l hb (by omega) cv (tK T) k01 _ (cN (tC T i)) FU 0 (-1) (-1) A (R.2.2.2.2.2 i hi) R.1 (by omega) (by unfold FU; omega)
end RX

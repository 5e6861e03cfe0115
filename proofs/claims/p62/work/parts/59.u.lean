/-! ===== islands ===== -/
section RI
variable {V : Nat → Nat} {g f f0 : GH} {x m b : Nat} {T : TS} {z : Nat → Int32} {A : Nat → Nat → Int32} {hs pc pn : Int32}
theorem P_isl (X : XoA f x hs pc pn) (C : ChA f (x + 1) T) {a : Int32} (ha : inC (tN T) a = true) : ∃ q, p_X7_islandAt V g f x a = some (if cI (tC T (ix a)) = 0 then .inl 2 else .inr q) ∧ p_X7_coastAt V g f x a = some (.inr q) ∧ CoA f q 129 (tC T (ix a)) := by
  obtain ⟨q, q1, q2, q3, q4⟩ := P_at (V := V) (g := g) X C ha
  refine ⟨q, ?_, q1, q2⟩
  unfold p_X7_islandAt
  rw [X.me, q1, xb_r, q2.i, ob_s]
  split <;> rfl
theorem P_islN (X : XoA f x hs pc pn) (C : ChA f (x + 1) T) {a : Int32} (ha : inC (tN T) a = false) : p_X7_islandAt V g f x a = some (.inl 0) := by
  unfold p_X7_islandAt
  rw [X.me, P_atN X C ha, xb_l]
theorem P_doubledArea (X : XoA f x hs pc pn) (C : ChA f (x + 1) T) (hv : TV T) (a : Int32) : p_X7_doubledArea V g f x a = some (sCo T a fun c => sIs c (.inr (s_abs (s_area c)))) := by
  unfold p_X7_doubledArea
  rw [X.me]
  unfold sCo
  cases ha : inC (tN T) a with
  | false => rw [P_islN X C ha, xb_l, if_neg b_ff]
  | true =>
    obtain ⟨q, q1, q0, q2⟩ := P_isl (V := V) (g := g) X C ha
    have cv := hv.2.2 _ (inC_t (by have := hv.1; omega) ha).2
    have n1 := cv.n1
    rw [q1, if_pos rfl]
    unfold sIs
    dsimp only
    by_cases hz : cI (tC T (ix a)) = 0
    · rw [if_pos hz, if_pos hz, xb_l]
    · rw [if_neg hz, if_neg hz, xb_r, C_area q2 hz (by omega), ob_s, pm_absS, ob_s]
theorem P_contains (X : XoA f x hs pc pn) (C : ChA f (x + 1) T) (hv : TV T) (a u v : Int32) : p_X7_contains V g f x a u v = some (sCo T a fun c => sIs c (sIn (-1000) 1000 u (sIn (-1000) 1000 v (.inr (bz (s_covers c u v)))))) := by
  unfold p_X7_contains
  rw [X.me]
  unfold sCo
  cases ha : inC (tN T) a with
  | false => rw [P_islN X C ha, xb_l, if_neg b_ff]
  | true =>
    obtain ⟨q, q1, q0, q2⟩ := P_isl (V := V) (g := g) X C ha
    have cv := hv.2.2 _ (inC_t (by have := hv.1; omega) ha).2
    have n1 := cv.n1
    rw [q1, if_pos rfl]
    unfold sIs sIn
    dsimp only
    by_cases hz : cI (tC T (ix a)) = 0
    · rw [if_pos hz, if_pos hz, xb_l]
    · rw [if_neg hz, if_neg hz, xb_r, P_within]
      by_cases hu : s_in (-1000) 1000 u = true
      · rw [if_pos hu, if_pos hu, xb_r, P_within]
        by_cases hw : s_in (-1000) 1000 v = true
        · rw [if_pos hw, if_pos hw, xb_r, C_covers q2 hz (by omega), ob_s, hbz, ob_s]
        · rw [if_neg hw, if_neg hw, xb_l]
      · rw [if_neg hu, if_neg hu, xb_l]
def s_surr (T : TS) (i j : Nat) : Bool := if i = j ∨ cI (tC T i) = 0 then false else s_coversAll (tC T i) (tC T j)
theorem C_surr (C : ChA f x T) (hv : TV T) {i j : Nat} (hi : i < tN T) (hj : j < tN T) : p_X1_surrounds V g f x (nn i) (nn j) = some (bz (s_surr T i j)) := by
  have h6 := hv.1
  have cv := hv.2.2 i hi
  have n1 := cv.n1
  obtain ⟨q, q1, q2, -, -⟩ := C.co hi
  obtain ⟨r, r1, r2, -, -⟩ := C.co hj
  unfold p_X1_surrounds s_surr
  rw [C.me]
  by_cases h : i = j
  · rw [if_pos (by rw [h]), if_pos (Or.inl h)]; rfl
  · rw [if_neg (by rw [nn_eq (by omega) (by omega)]; exact h), C.arr, ob_s, q1, ob_s, q2.i, ob_s]
    by_cases hz : cI (tC T i) = 0
    · rw [if_pos hz, if_pos (Or.inr hz)]; rfl
    · rw [if_neg hz, if_neg (fun q => q.elim h hz), ob_s, q1, ob_s, ob_s, r1, ob_s, C_coversAll q2 r2 hz (by omega), ob_s]
      cases s_coversAll (tC T i) (tC T j) <;> rfl
theorem P_encloses (X : XoA f x hs pc pn) (C : ChA f (x + 1) T) (hv : TV T) (a u : Int32) : p_X7_encloses V g f x a u = some (sCo T u fun _ => sCo T a fun c => sIs c (.inr (bz (s_surr T (ix a) (ix u))))) := by
  have h6 := hv.1
  unfold p_X7_encloses
  rw [X.me]
  unfold sCo
  cases hu : inC (tN T) u with
  | false => rw [P_atN X C hu, xb_l, if_neg b_ff]
  | true =>
    obtain ⟨r, r1, r2, r3, r4⟩ := P_at (V := V) (g := g) X C hu
    rw [r1, xb_r, if_pos rfl]
    cases ha : inC (tN T) a with
    | false => rw [P_islN X C ha, xb_l, if_neg b_ff]
    | true =>
      obtain ⟨q, q1, q0, q2⟩ := P_isl (V := V) (g := g) X C ha
      have cv := hv.2.2 _ (inC_t (by omega) ha).2
      have n1 := cv.n1
      rw [q1, if_pos rfl]
      unfold sIs s_surr
      dsimp only
      by_cases hz : cI (tC T (ix a)) = 0
      · rw [if_pos hz, if_pos hz, xb_l]
      · rw [if_neg hz, if_neg hz, xb_r]
        obtain ⟨i, hi, rfl⟩ := inC_ex (by omega) ha
        obtain ⟨j, hj, rfl⟩ := inC_ex (by omega) hu
        rw [ix_nn (show i < 2147483648 by omega)] at hz q2 ⊢
        rw [ix_nn (show j < 2147483648 by omega)] at r2 ⊢
        by_cases h : i = j
        · rw [if_pos (by rw [h]), if_pos (Or.inl h)]; rfl
        · rw [if_neg (by rw [nn_eq (by omega) (by omega)]; exact h), if_neg (fun q => q.elim h hz), C_coversAll q2 r2 hz (by rw [ix_nn (show i < 2147483648 by omega)] at n1; omega), ob_s]
          cases s_coversAll (tC T i) (tC T j) <;> rfl
/-! how many islands surround it -/
def s_ring (T : TS) (j : Nat) : Int32 := itr (fun i a => if s_surr T i j = true then a + 1 else a) (tN T) 0 0
theorem P_ring_l (X : XoA f x hs pc pn) (C : ChA f (x + 1) T) (hv : TV T) {j : Nat} (hj : j < tN T) (K : Int32 → Option (Nat ⊕ Int32)) :
    ∀ (d N i : Nat) (a : Int32), i + d = tN T → d < N → p_X7_ringDepth_l10 V g f K N x (nn j) a (nn i) = K (itr (fun i a => if s_surr T i j = true then a + 1 else a) d i a) := by
  have h6 := hv.1
  intro d
  induction d with
  | zero =>
    intro N i a he hN
    obtain ⟨N, rfl⟩ : ∃ M, N = M + 1 := ⟨N - 1, by omega⟩
    rw [p_X7_ringDepth_l10, X.ch, ob_s, C.n, ob_s, if_pos (by rw [nn_le (by omega) (by omega)]; omega)]
    rfl
  | succ d ih =>
    intro N i a he hN
    obtain ⟨N, rfl⟩ : ∃ M, N = M + 1 := ⟨N - 1, by omega⟩
    rw [p_X7_ringDepth_l10, X.ch, ob_s, C.n, ob_s, if_neg (by rw [nn_le (by omega) (by omega)]; omega), ob_s, C_surr C hv (show i < tN T by omega) hj, ob_s, nn_s, ih N (i + 1) _ (by omega) (by omega), ih N (i + 1) _ (by omega) (by omega)]
    show _ = K (itr _ d (i + 1) (if s_surr T i j = true then a + 1 else a))
    cases s_surr T i j
    · rw [if_pos bz_f, if_neg b_ff]
    · rw [if_neg bz_tn, if_pos rfl]
theorem P_ringDepth (X : XoA f x hs pc pn) (C : ChA f (x + 1) T) (hv : TV T) (a : Int32) : p_X7_ringDepth V g f x a = some (sCo T a fun _ => .inr (s_ring T (ix a))) := by
  have h6 := hv.1
  unfold p_X7_ringDepth
  rw [X.me]
  unfold sCo
  cases ha : inC (tN T) a with
  | false => rw [P_atN X C ha, xb_l, if_neg b_ff]
  | true =>
    obtain ⟨q, q1, q2, q3, q4⟩ := P_at (V := V) (g := g) X C ha
    obtain ⟨i, hi, rfl⟩ := inC_ex (by omega) ha
    rw [q1, xb_r, if_pos rfl, ix_nn (show i < 2147483648 by omega)]
    exact P_ring_l X C hv hi _ (tN T) FU 0 0 (by omega) (by unfold FU; omega)
end RI


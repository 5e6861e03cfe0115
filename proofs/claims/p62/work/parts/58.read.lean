/-! ===== the reading methods: answers of a map, on both sides ===== -/
def sCo {α : Type} (T : TS) (a : Int32) (k : CS → Nat ⊕ α) : Nat ⊕ α := if inC (tN T) a = true then k (tC T (ix a)) else .inl 0
def sIn {α : Type} (lo hi v : Int32) (k : Nat ⊕ α) : Nat ⊕ α := if s_in lo hi v = true then k else .inl 1
def sPt {α : Type} (n : Nat) (p : Int32) (k : Nat ⊕ α) : Nat ⊕ α := if inC n p = true then k else .inl 0
def sSt {α : Type} (n : Nat) (p : Int32) (k : Nat ⊕ α) : Nat ⊕ α := if inC n p = true then k else .inl 1
def sIs {α : Type} (c : CS) (k : Nat ⊕ α) : Nat ⊕ α := if cI c = 0 then .inl 2 else k
def sv (s : Nat ⊕ Int32) : Int32 := match s with
  | .inl _ => 0
  | .inr v => v
def st {α : Type} (cd : Nat → Int32) (s : Nat ⊕ α) : Int32 := match s with
  | .inl e => cd e
  | .inr _ => 0
/-- which exception is told as which number: index, argument; index, state, argument; argument alone; one alone -/
def cdA (e : Nat) : Int32 := if e = 0 then 1 else 2
def cdI (e : Nat) : Int32 := if e = 0 then 1 else if e = 2 then 2 else 3
def cdT (_ : Nat) : Int32 := 1
theorem inC_ex {n : Nat} {a : Int32} (hn : n < 2147483648) (h : inC n a = true) : ∃ k, k < n ∧ a = nn k := ⟨ix a, (inC_t hn h).2, (inC_t hn h).1⟩
theorem lvl_ex {n : Nat} {a : Int32} (hn : n + 1 < 2147483648) (h : s_in 0 (nn n) a = true) : ∃ k, k < n + 1 ∧ a = nn k := inC_ex hn (by rw [← s_inL hn]; exact h)
theorem lvl7 {a : Int32} (h : s_in 0 7 a = true) : ∃ k, k < 8 ∧ a = nn k := lvl_ex (n := 7) (by decide) h
theorem lvl6 {a : Int32} (h : s_in 0 6 a = true) : ∃ k, k < 7 ∧ a = nn k := lvl_ex (n := 6) (by decide) h
theorem b_ff : ¬ false = true := Bool.false_ne_true
section RD
variable {V : Nat → Nat} {g f f0 : GH} {x m b : Nat} {T : TS} {z : Nat → Int32} {A : Nat → Nat → Int32} {hs pc pn : Int32}

theorem P_isIsland (X : XoA f x hs pc pn) (C : ChA f (x + 1) T) (hv : TV T) (a : Int32) : p_X7_isIsland V g f x a = some (sCo T a fun c => .inr (cI c)) := by
  unfold p_X7_isIsland
  rw [X.me]
  unfold sCo
  cases ha : inC (tN T) a with
  | false => rw [P_atN X C ha, xb_l, if_neg b_ff]
  | true =>
    obtain ⟨q, q1, q2, q3, q4⟩ := P_at (V := V) (g := g) X C ha
    have cv := hv.2.2 _ (inC_t (by have := hv.1; omega) ha).2
    have n1 := cv.n1
    have n2 := cv.n2
    rw [q1, xb_r, if_pos rfl]
    dsimp only
    rw [q2.i, ob_s, hbz01 cv.i01, ob_s]

theorem P_pointCount (X : XoA f x hs pc pn) (C : ChA f (x + 1) T) (hv : TV T) (a : Int32) : p_X7_pointCount V g f x a = some (sCo T a fun c => .inr (nn (cN c))) := by
  unfold p_X7_pointCount
  rw [X.me]
  unfold sCo
  cases ha : inC (tN T) a with
  | false => rw [P_atN X C ha, xb_l, if_neg b_ff]
  | true =>
    obtain ⟨q, q1, q2, q3, q4⟩ := P_at (V := V) (g := g) X C ha
    have cv := hv.2.2 _ (inC_t (by have := hv.1; omega) ha).2
    have n1 := cv.n1
    have n2 := cv.n2
    rw [q1, xb_r, if_pos rfl]
    dsimp only
    rw [q2.n, ob_s]

theorem P_lengthAt (X : XoA f x hs pc pn) (C : ChA f (x + 1) T) (hv : TV T) (a : Int32) (l : Int32) : p_X7_lengthAt V g f x a l = some (sCo T a fun c => sIn 0 7 l (.inr (s_len (tK T) c (ix l)))) := by
  unfold p_X7_lengthAt
  rw [X.me]
  unfold sCo
  cases ha : inC (tN T) a with
  | false => rw [P_atN X C ha, xb_l, if_neg b_ff]
  | true =>
    obtain ⟨q, q1, q2, q3, q4⟩ := P_at (V := V) (g := g) X C ha
    have cv := hv.2.2 _ (inC_t (by have := hv.1; omega) ha).2
    have n1 := cv.n1
    have n2 := cv.n2
    rw [q1, xb_r, if_pos rfl]
    dsimp only
    rw [P_within]
    unfold sIn
    cases hl : s_in (0) (7) l with
    | false => rw [if_neg b_ff, if_neg b_ff, xb_l]
    | true =>
      rw [if_pos rfl, if_pos rfl, xb_r]
      obtain ⟨k, hk, rfl⟩ := lvl7 hl
      rw [ix_nn (show k < 2147483648 by omega)]
      rw [X.ch, ob_s, C.k, ob_s, C_len q2 (by omega) hk, ob_s]

theorem P_stickCount (X : XoA f x hs pc pn) (C : ChA f (x + 1) T) (hv : TV T) (a : Int32) (l : Int32) : p_X7_stickCount V g f x a l = some (sCo T a fun c => sIn 0 7 l (.inr (nn (s_sticks c (ix l))))) := by
  unfold p_X7_stickCount
  rw [X.me]
  unfold sCo
  cases ha : inC (tN T) a with
  | false => rw [P_atN X C ha, xb_l, if_neg b_ff]
  | true =>
    obtain ⟨q, q1, q2, q3, q4⟩ := P_at (V := V) (g := g) X C ha
    have cv := hv.2.2 _ (inC_t (by have := hv.1; omega) ha).2
    have n1 := cv.n1
    have n2 := cv.n2
    rw [q1, xb_r, if_pos rfl]
    dsimp only
    rw [P_within]
    unfold sIn
    cases hl : s_in (0) (7) l with
    | false => rw [if_neg b_ff, if_neg b_ff, xb_l]
    | true =>
      rw [if_pos rfl, if_pos rfl, xb_r]
      obtain ⟨k, hk, rfl⟩ := lvl7 hl
      rw [ix_nn (show k < 2147483648 by omega)]
      rw [C_sticks q2 (by omega) hk, ob_s]

theorem P_lengthGain (X : XoA f x hs pc pn) (C : ChA f (x + 1) T) (hv : TV T) (a : Int32) (l : Int32) : p_X7_lengthGain V g f x a l = some (sCo T a fun c => sIn 0 6 l (.inr (s_gain (tK T) c (ix l)))) := by
  unfold p_X7_lengthGain
  rw [X.me]
  unfold sCo
  cases ha : inC (tN T) a with
  | false => rw [P_atN X C ha, xb_l, if_neg b_ff]
  | true =>
    obtain ⟨q, q1, q2, q3, q4⟩ := P_at (V := V) (g := g) X C ha
    have cv := hv.2.2 _ (inC_t (by have := hv.1; omega) ha).2
    have n1 := cv.n1
    have n2 := cv.n2
    rw [q1, xb_r, if_pos rfl]
    dsimp only
    rw [P_within]
    unfold sIn
    cases hl : s_in (0) (6) l with
    | false => rw [if_neg b_ff, if_neg b_ff, xb_l]
    | true =>
      rw [if_pos rfl, if_pos rfl, xb_r]
      obtain ⟨k, hk, rfl⟩ := lvl6 hl
      rw [ix_nn (show k < 2147483648 by omega)]
      rw [X.ch, ob_s, C.k, ob_s, C_gain q2 (by omega) hk, ob_s]

theorem P_boxWidth (X : XoA f x hs pc pn) (C : ChA f (x + 1) T) (hv : TV T) (a : Int32) : p_X7_boxWidth V g f x a = some (sCo T a fun c => .inr (s_box (cX c) (cN c))) := by
  unfold p_X7_boxWidth
  rw [X.me]
  unfold sCo
  cases ha : inC (tN T) a with
  | false => rw [P_atN X C ha, xb_l, if_neg b_ff]
  | true =>
    obtain ⟨q, q1, q2, q3, q4⟩ := P_at (V := V) (g := g) X C ha
    have cv := hv.2.2 _ (inC_t (by have := hv.1; omega) ha).2
    have n1 := cv.n1
    have n2 := cv.n2
    rw [q1, xb_r, if_pos rfl]
    dsimp only
    rw [q2.xs, ob_s, q2.n, ob_s, C_box (X := cX (tC T (ix a))) (by omega) (fun i hi => q2.x hi), ob_s]

theorem P_boxHeight (X : XoA f x hs pc pn) (C : ChA f (x + 1) T) (hv : TV T) (a : Int32) : p_X7_boxHeight V g f x a = some (sCo T a fun c => .inr (s_box (cY c) (cN c))) := by
  unfold p_X7_boxHeight
  rw [X.me]
  unfold sCo
  cases ha : inC (tN T) a with
  | false => rw [P_atN X C ha, xb_l, if_neg b_ff]
  | true =>
    obtain ⟨q, q1, q2, q3, q4⟩ := P_at (V := V) (g := g) X C ha
    have cv := hv.2.2 _ (inC_t (by have := hv.1; omega) ha).2
    have n1 := cv.n1
    have n2 := cv.n2
    rw [q1, xb_r, if_pos rfl]
    dsimp only
    rw [q2.ys, ob_s, q2.n, ob_s, C_box (X := cY (tC T (ix a))) (by omega) (fun i hi => q2.y hi), ob_s]

theorem P_coarsestExactLevel (X : XoA f x hs pc pn) (C : ChA f (x + 1) T) (hv : TV T) (a : Int32) : p_X7_coarsestExactLevel V g f x a = some (sCo T a fun c => .inr (s_coarsest (tK T) c (s_len (tK T) c 0) 7)) := by
  unfold p_X7_coarsestExactLevel
  rw [X.me]
  unfold sCo
  cases ha : inC (tN T) a with
  | false => rw [P_atN X C ha, xb_l, if_neg b_ff]
  | true =>
    obtain ⟨q, q1, q2, q3, q4⟩ := P_at (V := V) (g := g) X C ha
    have cv := hv.2.2 _ (inC_t (by have := hv.1; omega) ha).2
    have n1 := cv.n1
    have n2 := cv.n2
    rw [q1, xb_r, if_pos rfl]
    dsimp only
    rw [X.ch, ob_s, C.k, ob_s, n_0, C_len q2 (by omega) (by decide), ob_s, ob_s, C.k, ob_s, C_coarsest q2 (by omega), ob_s]

theorem P_nearestPoint (X : XoA f x hs pc pn) (C : ChA f (x + 1) T) (hv : TV T) (a : Int32) (u : Int32) (v : Int32) : p_X7_nearestPoint V g f x a u v = some (sCo T a fun c => sIn (-1000) 1000 u (sIn (-1000) 1000 v (.inr (nn (s_near (tK T) c u v))))) := by
  unfold p_X7_nearestPoint
  rw [X.me]
  unfold sCo
  cases ha : inC (tN T) a with
  | false => rw [P_atN X C ha, xb_l, if_neg b_ff]
  | true =>
    obtain ⟨q, q1, q2, q3, q4⟩ := P_at (V := V) (g := g) X C ha
    have cv := hv.2.2 _ (inC_t (by have := hv.1; omega) ha).2
    have n1 := cv.n1
    have n2 := cv.n2
    rw [q1, xb_r, if_pos rfl]
    dsimp only
    rw [P_within]
    unfold sIn
    cases hu : s_in (-1000) (1000) u with
    | false => rw [if_neg b_ff, if_neg b_ff, xb_l]
    | true =>
      rw [if_pos rfl, if_pos rfl, xb_r]
      rw [P_within]
      cases hv : s_in (-1000) (1000) v with
      | false => rw [if_neg b_ff, if_neg b_ff, xb_l]
      | true =>
        rw [if_pos rfl, if_pos rfl, xb_r]
        rw [X.ch, ob_s, C.k, ob_s, C_near q2 (by omega), ob_s]

theorem P_coarsestLevelFor (X : XoA f x hs pc pn) (C : ChA f (x + 1) T) (hv : TV T) (a : Int32) (l : Int32) : p_X7_coarsestLevelFor V g f x a l = some (sCo T a fun c => sIn 0 2147483647 l (.inr (s_coarsest (tK T) c l 7))) := by
  unfold p_X7_coarsestLevelFor
  rw [X.me]
  unfold sCo
  cases ha : inC (tN T) a with
  | false => rw [P_atN X C ha, xb_l, if_neg b_ff]
  | true =>
    obtain ⟨q, q1, q2, q3, q4⟩ := P_at (V := V) (g := g) X C ha
    have cv := hv.2.2 _ (inC_t (by have := hv.1; omega) ha).2
    have n1 := cv.n1
    have n2 := cv.n2
    rw [q1, xb_r, if_pos rfl]
    dsimp only
    rw [P_within]
    unfold sIn
    cases hl : s_in (0) (2147483647) l with
    | false => rw [if_neg b_ff, if_neg b_ff, xb_l]
    | true =>
      rw [if_pos rfl, if_pos rfl, xb_r]
      rw [X.ch, ob_s, C.k, ob_s, C_coarsest q2 (by omega), ob_s]

theorem P_pointX (X : XoA f x hs pc pn) (C : ChA f (x + 1) T) (hv : TV T) (a : Int32) (u : Int32) : p_X7_pointX V g f x a u = some (sCo T a fun c => sPt (cN c) u (.inr (cX c (ix u)))) := by
  unfold p_X7_pointX
  rw [X.me]
  unfold sCo
  cases ha : inC (tN T) a with
  | false => rw [P_ptN X C ha, xb_l, if_neg b_ff]
  | true =>
    obtain ⟨q, q1, q0, q2⟩ := P_pt (V := V) (g := g) X C hv ha u
    have cv := hv.2.2 _ (inC_t (by have := hv.1; omega) ha).2
    have n2 := cv.n2
    rw [q1, if_pos rfl]
    unfold sPt
    dsimp only
    cases hu : inC (cN (tC T (ix a))) u with
    | false => rw [if_neg b_ff, xb_l, if_neg b_ff]
    | true =>
      obtain ⟨k, hk, rfl⟩ := inC_ex (by omega) hu
      rw [if_pos rfl, xb_r, if_pos rfl]
      rw [q2.xs, ob_s, q2.x hk, ob_s, ix_nn (show k < 2147483648 by omega)]

theorem P_pointY (X : XoA f x hs pc pn) (C : ChA f (x + 1) T) (hv : TV T) (a : Int32) (u : Int32) : p_X7_pointY V g f x a u = some (sCo T a fun c => sPt (cN c) u (.inr (cY c (ix u)))) := by
  unfold p_X7_pointY
  rw [X.me]
  unfold sCo
  cases ha : inC (tN T) a with
  | false => rw [P_ptN X C ha, xb_l, if_neg b_ff]
  | true =>
    obtain ⟨q, q1, q0, q2⟩ := P_pt (V := V) (g := g) X C hv ha u
    have cv := hv.2.2 _ (inC_t (by have := hv.1; omega) ha).2
    have n2 := cv.n2
    rw [q1, if_pos rfl]
    unfold sPt
    dsimp only
    cases hu : inC (cN (tC T (ix a))) u with
    | false => rw [if_neg b_ff, xb_l, if_neg b_ff]
    | true =>
      obtain ⟨k, hk, rfl⟩ := inC_ex (by omega) hu
      rw [if_pos rfl, xb_r, if_pos rfl]
      rw [q2.ys, ob_s, q2.y hk, ob_s, ix_nn (show k < 2147483648 by omega)]

end RD


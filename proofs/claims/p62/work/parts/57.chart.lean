/-! ===== maps: how many coastlines, the metric, the ledgers, the coastlines ===== -/
abbrev TS : Type := Nat × Int32 × Int32 × Int32 × Int32 × (Nat → CS)
def tN (T : TS) : Nat := T.1
def tK (T : TS) : Int32 := T.2.1
def tL (T : TS) : Int32 := T.2.2.1
def tA (T : TS) : Int32 := T.2.2.2.1
def tR (T : TS) : Int32 := T.2.2.2.2.1
def tC (T : TS) : Nat → CS := T.2.2.2.2.2
/-- a sound map -/
def TV (T : TS) : Prop := tN T ≤ 6 ∧ (tK T = 0 ∨ tK T = 1) ∧ ∀ i, i < tN T → CoV (tC T i)
/-- a row that holds it -/
def RT (r : Nat → Int32) (T : TS) : Prop := r 0 = tK T ∧ r 1 = nn (tN T) ∧ r 2 = tL T ∧ r 3 = tA T ∧ r 4 = tR T ∧ ∀ i, i < tN T → RC r i (tC T i)
/-- a chart of the class that holds it -/
def ChA (f : GH) (h : Nat) (T : TS) : Prop := f h = some (.inr (4, [.ref (h + 1), .int (nn (tN T)), .int (tK T), .int (tL T), .int (tA T), .int (tR T)])) ∧ tN T ≤ 6 ∧
  ∃ (ra : Nat → Option Nat) (a : Nat → Nat), f (h + 1) = some (.inl (5, 6, .inr (.inr (.inr (.inr ra))))) ∧ (∀ i, i < 6 → ra i = some (a i) ∧ ∃ j, j < 6 ∧ a i = h + 2 + 3 * j) ∧ (∀ i j, i < 6 → j < 6 → a i = a j → i = j) ∧ (∀ i, i < tN T → CoA f (a i) 129 (tC T i)) ∧ ∀ i, i < 6 → ∃ c, CoA f (a i) 129 c
def ix (a : Int32) : Nat := a.toNatClampNeg
theorem ix_nn {k : Nat} (h : k < 2147483648) : ix (nn k) = k := nn_c h
/-- an index below n -/
def inC (n : Nat) (a : Int32) : Bool := decide (¬ a < 0 ∧ a < nn n)
theorem inC_t {n : Nat} {a : Int32} (hn : n < 2147483648) (h : inC n a = true) : a = nn (ix a) ∧ ix a < n := by
  simp only [inC, decide_eq_true_eq] at h
  have e : a = nn (ix a) := nn_of (i_not_lt.mp h.1)
  refine ⟨e, ?_⟩
  have h2 := h.2
  rw [e, nn_lt (show ix a < 2147483648 from Int32.toNatClampNeg_lt a) hn] at h2
  exact h2
theorem inC_nn {n k : Nat} (hn : n < 2147483648) (hk : k < n) : inC n (nn k) = true := by
  simp only [inC, decide_eq_true_eq]
  exact ⟨nn_nl k (by omega), (nn_lt (by omega) hn).mpr hk⟩
theorem inC_pred {n : Nat} (hn : n < 2147483648) (v : Int32) : s_in 0 (nn n - 1) v = inC n v := by
  unfold s_in inC
  rw [Bool.eq_iff_iff]
  simp only [decide_eq_true_eq]
  have e0 : (nn n).toInt = n := nn_i hn
  have e1 : (1 : Int32).toInt = 1 := rfl
  have e : (nn n - 1).toInt = n - 1 := by rw [i_sub (by omega) (by omega)]; omega
  rw [i_lt, i_lt, i_lt, e, e0]
  constructor <;> rintro ⟨h1, h2⟩ <;> exact ⟨h1, by omega⟩
theorem s_inL {n : Nat} (hn : n + 1 < 2147483648) (v : Int32) : s_in 0 (nn n) v = inC (n + 1) v := by
  rw [← inC_pred hn, nn_p (by omega), Nat.add_sub_cancel]
section CT
variable {V : Nat → Nat} {g f f1 f0 : GH} {h x m b : Nat} {T : TS} {z : Nat → Int32} {A : Nat → Nat → Int32}
theorem ChA.me {α : Type} (C : ChA f h T) (k : Option α) : h_me f h 4 k = k := hme_of C.1 k
theorem ChA.arr (C : ChA f h T) : h_gr f h 4 0 = some (h + 1) := hgr_of C.1 rfl
theorem ChA.n (C : ChA f h T) : h_gi f h 4 1 = some (nn (tN T)) := hgi_of C.1 rfl
theorem ChA.k (C : ChA f h T) : h_gi f h 4 2 = some (tK T) := hgi_of C.1 rfl
theorem ChA.l (C : ChA f h T) : h_gi f h 4 3 = some (tL T) := hgi_of C.1 rfl
theorem ChA.a (C : ChA f h T) : h_gi f h 4 4 = some (tA T) := hgi_of C.1 rfl
theorem ChA.r (C : ChA f h T) : h_gi f h 4 5 = some (tR T) := hgi_of C.1 rfl
theorem ChA.co (C : ChA f h T) {i : Nat} (hi : i < tN T) : ∃ q, h_lq f (h + 1) 5 (nn i) = some q ∧ CoA f q 129 (tC T i) ∧ h + 2 ≤ q ∧ q + 3 ≤ h + 20 := by
  obtain ⟨h1, h2, ra, a, h3, h4, h5, h6, h7⟩ := C
  obtain ⟨j, hj, e⟩ := (h4 i (by omega)).2
  exact ⟨a i, hlq_of h3 (by omega) (by omega) (h4 i (by omega)).1, h6 i hi, by omega, by omega⟩
theorem ChA.frame (C : ChA f h T) (e : ∀ a, h ≤ a → a < h + 20 → f1 a = f a) : ChA f1 h T := by
  obtain ⟨h1, h2, ra, a, h3, h4, h5, h6, h7⟩ := C
  refine ⟨by rw [e h (by omega) (by omega)]; exact h1, h2, ra, a, by rw [e (h + 1) (by omega) (by omega)]; exact h3, h4, h5, fun i hi => ?_, fun i hi => ?_⟩
  · obtain ⟨j, hj, e2⟩ := (h4 i (by omega)).2
    exact (h6 i hi).frame (fun b h8 h9 => e b (by omega) (by omega))
  · obtain ⟨j, hj, e2⟩ := (h4 i (by omega)).2
    obtain ⟨c, hc⟩ := h7 i hi
    exact ⟨c, hc.frame (fun b h8 h9 => e b (by omega) (by omega))⟩
theorem P_has (C : ChA f h T) (a : Int32) : p_X1_hasCoast V g f h a = some (bz (inC (tN T) a)) := by
  unfold p_X1_hasCoast inC
  rw [C.me, C.n]
  by_cases h1 : a < 0
  · rw [if_pos h1, decide_eq_false (fun q => q.1 h1)]
    rfl
  · rw [if_neg h1, ob_s]
    by_cases h2 : a < nn (tN T)
    · rw [if_neg (i_not_le.mpr h2), decide_eq_true ⟨h1, h2⟩]
      rfl
    · rw [if_pos (i_not_lt.mp h2), decide_eq_false (fun q => h2 q.2)]
      rfl
/-- the ruler's own object -/
def XoA (f : GH) (x : Nat) (hs pc pn : Int32) : Prop := f x = some (.inr (9, [.ref (x + 1), .ref (x + 21), .ref (x + 41), .int hs, .ref (x + 61), .int pc, .int pn, .ref (x + 62), .ref (x + 64), .ref (x + 65), .ref (x + 66), .ref (x + 70), .ref (x + 73)]))
variable {hs pc pn : Int32}
theorem XoA.me {α : Type} (X : XoA f x hs pc pn) (k : Option α) : h_me f x 9 k = k := hme_of X k
theorem XoA.ch (X : XoA f x hs pc pn) : h_gr f x 9 0 = some (x + 1) := hgr_of X rfl
theorem XoA.ld (X : XoA f x hs pc pn) : h_gr f x 9 1 = some (x + 21) := hgr_of X rfl
theorem XoA.sn (X : XoA f x hs pc pn) : h_gr f x 9 2 = some (x + 41) := hgr_of X rfl
theorem XoA.hS (X : XoA f x hs pc pn) : h_gi f x 9 3 = some hs := hgi_of X rfl
theorem XoA.pa (X : XoA f x hs pc pn) : h_gr f x 9 4 = some (x + 61) := hgr_of X rfl
theorem XoA.pC (X : XoA f x hs pc pn) : h_gi f x 9 5 = some pc := hgi_of X rfl
theorem XoA.pN (X : XoA f x hs pc pn) : h_gi f x 9 6 = some pn := hgi_of X rfl
theorem XoA.tk (X : XoA f x hs pc pn) : h_gr f x 9 7 = some (x + 62) := hgr_of X rfl
theorem XoA.gr (X : XoA f x hs pc pn) : h_gr f x 9 8 = some (x + 64) := hgr_of X rfl
theorem XoA.sc (X : XoA f x hs pc pn) : h_gr f x 9 9 = some (x + 65) := hgr_of X rfl
theorem XoA.sg (X : XoA f x hs pc pn) : h_gr f x 9 10 = some (x + 66) := hgr_of X rfl
theorem XoA.sp (X : XoA f x hs pc pn) : h_gr f x 9 11 = some (x + 70) := hgr_of X rfl
theorem XoA.ou (X : XoA f x hs pc pn) : h_gr f x 9 12 = some (x + 73) := hgr_of X rfl
theorem xb_r {ξ ξ' α β : Type} (v : α) (c : ξ → ξ') (k : α → Option (ξ' ⊕ β)) : x_b (some (.inr v)) c k = k v := rfl
theorem xb_l {ξ ξ' α β : Type} (v : ξ) (c : ξ → ξ') (k : α → Option (ξ' ⊕ β)) : x_b (some (.inl v)) c k = some (.inl (c v)) := rfl
theorem P_at (X : XoA f x hs pc pn) (C : ChA f (x + 1) T) {a : Int32} (ha : inC (tN T) a = true) : ∃ q, p_X7_coastAt V g f x a = some (.inr q) ∧ CoA f q 129 (tC T (ix a)) ∧ x + 3 ≤ q ∧ q + 3 ≤ x + 21 := by
  have hn := C.2.1
  obtain ⟨e, hi⟩ := inC_t (by omega) ha
  obtain ⟨q, q1, q2, q3, q4⟩ := C.co hi
  refine ⟨q, ?_, q2, by omega, by omega⟩
  unfold p_X7_coastAt
  rw [X.me, X.ch, ob_s, P_has C, ob_s, ha, if_neg bz_tn, ob_s, C.arr, ob_s, e, q1, ob_s]
theorem P_atN (X : XoA f x hs pc pn) (C : ChA f (x + 1) T) {a : Int32} (ha : inC (tN T) a = false) : p_X7_coastAt V g f x a = some (.inl 0) := by
  unfold p_X7_coastAt
  rw [X.me, X.ch, ob_s, P_has C, ob_s, ha, if_pos bz_f]
theorem P_within (f : GH) (v lo hi : Int32) : p_X7_requireWithin V g f v lo hi = some (if s_in lo hi v = true then .inr () else .inl 1) := by
  unfold p_X7_requireWithin s_in
  by_cases h1 : v < lo
  · rw [if_pos h1, decide_eq_false (fun q => q.1 h1)]
    rfl
  · rw [if_neg h1]
    by_cases h2 : hi < v
    · rw [if_neg (i_not_le.mpr h2), decide_eq_false (fun q => q.2 h2)]
      rfl
    · rw [if_pos (i_not_lt.mp h2), decide_eq_true ⟨h1, h2⟩]
      rfl
theorem P_pt (X : XoA f x hs pc pn) (C : ChA f (x + 1) T) (hv : TV T) {a : Int32} (ha : inC (tN T) a = true) (p : Int32) : ∃ q, p_X7_coastWithPoint V g f x a p = some (if inC (cN (tC T (ix a))) p = true then .inr q else .inl 0) ∧ p_X7_coastAt V g f x a = some (.inr q) ∧ CoA f q 129 (tC T (ix a)) := by
  obtain ⟨q, q1, q2, q3, q4⟩ := P_at (V := V) (g := g) X C ha
  refine ⟨q, ?_, q1, q2⟩
  unfold p_X7_coastWithPoint inC
  rw [X.me, q1, xb_r, q2.n]
  by_cases h1 : p < 0
  · rw [if_pos h1, decide_eq_false (fun q => q.1 h1), if_neg Bool.false_ne_true]
  · rw [if_neg h1, ob_s]
    by_cases h2 : p < nn (cN (tC T (ix a)))
    · rw [if_pos h2, decide_eq_true ⟨h1, h2⟩, if_pos rfl]
    · rw [if_neg h2, decide_eq_false (fun q => h2 q.2), if_neg Bool.false_ne_true]
theorem P_ptN (X : XoA f x hs pc pn) (C : ChA f (x + 1) T) {a : Int32} (ha : inC (tN T) a = false) (p : Int32) : p_X7_coastWithPoint V g f x a p = some (.inl 0) := by
  unfold p_X7_coastWithPoint
  rw [X.me, P_atN X C ha, xb_l]
/-! the reference's side -/
theorem M_n (hb : b < 2) (R : RT (A b) T) : h_li (mH V m b z A f0) (m + 1 + b) 0 (1 : Int32) = some (nn (tN T)) := by
  have := mL_row hb
  rw [n_1, m_li (by omega) (by omega), R.2.1]
theorem RT.k01 (R : RT (A b) T) (hv : TV T) : A b 0 = 0 ∨ A b 0 = 1 := by rw [R.1]; exact hv.2.1
end CT


/-! ===== the innermost island around ===== -/
/-- behind the first d coastlines -/
def s_inn (T : TS) (j : Nat) : Nat → Int32
  | 0 => -1
  | d + 1 => if s_surr T d j = true then (if s_inn T j d = -1 then nn d else if s_abs (s_area (tC T (ix (s_inn T j d)))) ≤ s_abs (s_area (tC T d)) then s_inn T j d else nn d) else s_inn T j d
theorem s_inn_s (T : TS) (j d : Nat) : s_inn T j (d + 1) = if s_surr T d j = true then (if s_inn T j d = -1 then nn d else if s_abs (s_area (tC T (ix (s_inn T j d)))) ≤ s_abs (s_area (tC T d)) then s_inn T j d else nn d) else s_inn T j d := rfl
theorem s_inn_c (T : TS) (j d : Nat) (h6 : d ≤ 6) : s_inn T j d = -1 ∨ ∃ k, k < d ∧ s_inn T j d = nn k := by
  induction d with
  | zero => exact Or.inl rfl
  | succ d ih =>
    have ih := ih (by omega)
    unfold s_inn
    split
    · split
      · exact Or.inr ⟨d, by omega, rfl⟩
      · split
        · rcases ih with h | ⟨k, hk, h⟩
          · exact Or.inl h
          · exact Or.inr ⟨k, by omega, h⟩
        · exact Or.inr ⟨d, by omega, rfl⟩
    · rcases ih with h | ⟨k, hk, h⟩
      · exact Or.inl h
      · exact Or.inr ⟨k, by omega, h⟩
def s_innA (T : TS) (v : Int32) : Int32 := if v = -1 then 0 else s_abs (s_area (tC T (ix v)))
section RV
variable {V : Nat → Nat} {g f f0 : GH} {x m b : Nat} {T : TS} {z : Nat → Int32} {A : Nat → Nat → Int32} {hs pc pn : Int32}
theorem s_surr_i {i j : Nat} (h : s_surr T i j = true) : cI (tC T i) ≠ 0 := by
  unfold s_surr at h
  split at h
  · cases h
  · rename_i q
    exact fun e => q (Or.inr e)
theorem P_inn_l (X : XoA f x hs pc pn) (C : ChA f (x + 1) T) (hv : TV T) {j : Nat} (hj : j < tN T) (K : Int32 → Option (Nat ⊕ Int32)) :
    ∀ (d N i : Nat), i + d = tN T → d < N → p_X7_innermostIslandAround_l13 V g f K N x (nn j) (s_inn T j i) (s_innA T (s_inn T j i)) (nn i) = K (s_inn T j (tN T)) := by
  have h6 := hv.1
  intro d
  induction d with
  | zero =>
    intro N i he hN
    obtain ⟨N, rfl⟩ : ∃ M, N = M + 1 := ⟨N - 1, by omega⟩
    rw [p_X7_innermostIslandAround_l13, X.ch, ob_s, C.n, ob_s, if_pos (by rw [nn_le (by omega) (by omega)]; omega), show i = tN T by omega]
  | succ d ih =>
    intro N i he hN
    obtain ⟨N, rfl⟩ : ∃ M, N = M + 1 := ⟨N - 1, by omega⟩
    have cv := hv.2.2 i (by omega)
    have n1 := cv.n1
    obtain ⟨q, q1, q2, -, -⟩ := C.co (show i < tN T by omega)
    have h := ih N (i + 1) (by omega) (by omega)
    have hs := s_inn_c T j i (by omega)
    rw [p_X7_innermostIslandAround_l13, X.ch, ob_s, C.n, ob_s, if_neg (by rw [nn_le (by omega) (by omega)]; omega), ob_s, C_surr C hv (show i < tN T by omega) hj, ob_s, nn_s]
    rw [s_inn_s] at h
    cases hc : s_surr T i j with
    | false =>
      rw [hc, if_neg b_ff] at h
      rw [if_pos bz_f]
      exact h
    | true =>
      rw [hc, if_pos rfl] at h
      rw [if_neg bz_tn, ob_s, C.arr, ob_s, q1, ob_s, C_area q2 (s_surr_i hc) (by omega), ob_s, pm_absS, ob_s]
      rcases hs with hs | ⟨k, hk, hs⟩
      · rw [hs, if_pos rfl] at h
        rw [hs, if_pos (by decide)]
        unfold s_innA at h
        rw [if_neg (nn_nm (by omega)), ix_nn (show i < 2147483648 by omega)] at h
        exact h
      · rw [hs, if_neg (nn_nm (by omega))] at h
        rw [hs, if_neg (nn_nl _ (by omega))]
        unfold s_innA at h ⊢
        rw [if_neg (nn_nm (by omega))]
        by_cases hq : s_abs (s_area (tC T (ix (nn k)))) ≤ s_abs (s_area (tC T i))
        · rw [if_pos hq] at h ⊢
          rw [if_neg (nn_nm (by omega))] at h
          exact h
        · rw [if_neg hq] at h ⊢
          rw [if_neg (nn_nm (by omega)), ix_nn (show i < 2147483648 by omega)] at h
          exact h
theorem P_innermostIslandAround (X : XoA f x hs pc pn) (C : ChA f (x + 1) T) (hv : TV T) (a : Int32) : p_X7_innermostIslandAround V g f x a = some (sCo T a fun _ => .inr (s_inn T (ix a) (tN T))) := by
  have h6 := hv.1
  unfold p_X7_innermostIslandAround
  rw [X.me]
  unfold sCo
  cases ha : inC (tN T) a with
  | false => rw [P_atN X C ha, xb_l, if_neg b_ff]
  | true =>
    obtain ⟨q, q1, q2, q3, q4⟩ := P_at (V := V) (g := g) X C ha
    obtain ⟨i, hi, rfl⟩ := inC_ex (by omega) ha
    rw [q1, xb_r, if_pos rfl, ix_nn (show i < 2147483648 by omega)]
    exact P_inn_l X C hv hi _ (tN T) FU 0 (by omega) (by unfold FU; omega)
end RV


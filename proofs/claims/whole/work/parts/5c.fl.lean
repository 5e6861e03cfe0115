/-! ===== quotients are no NaN ===== -/
theorem fl_n64 {a : UInt64} (h : FP.Core.dIsNaN a = false) : a &&& 0x7fffffffffffffff ≤ 0x7ff0000000000000 := by
  have h1 : ¬ 9218868437227405312 < a.toNat % 2 ^ 63 := fun q => by
    rw [(FP.Core.isNaN_bits a).mpr q] at h
    cases h
  rw [UInt64.le_iff_toNat_le, UInt64.toNat_and, show UInt64.toNat 9223372036854775807 = 2 ^ 63 - 1 by decide, Nat.and_two_pow_sub_one_eq_mod, show UInt64.toNat 9218868437227405312 = 9218868437227405312 by decide]
  omega
theorem fl_n32 {a : UInt32} (h : FP.Core.fIsNaN a = false) : a &&& 0x7fffffff ≤ 0x7f800000 := by
  have h1 : ¬ 2139095040 < a.toNat % 2 ^ 31 := fun q => by
    rw [(FP.Core.isNaN_bits32 a).mpr q] at h
    cases h
  rw [UInt32.le_iff_toNat_le, UInt32.toNat_and, show UInt32.toNat 2147483647 = 2 ^ 31 - 1 by decide, Nat.and_two_pow_sub_one_eq_mod, show UInt32.toNat 2139095040 = 2139095040 by decide]
  omega
theorem fl_i2d (v : Int32) : FP.Core.dIsNaN (FP.Core.i2d v) = false := by
  have h := FP.Core.i2d_mag v
  cases hq : FP.Core.dIsNaN (FP.Core.i2d v)
  · rfl
  · have := (FP.Core.isNaN_bits _).mp hq
    omega
theorem fl_i2f (v : Int32) : FP.Core.fIsNaN (FP.Core.i2f v) = false := by
  have h := FP.Core.i2f_mag v
  cases hq : FP.Core.fIsNaN (FP.Core.i2f v)
  · rfl
  · have := (FP.Core.isNaN_bits32 _).mp hq
    omega
theorem fl_ddiv (a : Int32) {b : Int32} (h : b ≠ 0) : h_ddiv (FP.i2d a) (FP.i2d b) = some (FP.ddiv (FP.i2d a) (FP.i2d b)) := by
  unfold h_ddiv
  exact if_pos (fl_n64 (a := FP.Core.ddiv (FP.Core.i2d a) (FP.Core.i2d b)) (FP.Core.ddiv_out (fl_i2d a) (FP.Core.i2d_fin b) (fun q => FP.Core.i2d_ne_zero h ((FP.Core.zero_bits2 _).mp q))))
theorem fl_fq (a : Int32) {b : Int32} (h : b ≠ 0) : FP.Core.fIsNaN (FP.Core.fdiv (FP.Core.i2f a) (FP.Core.i2f b)) = false :=
  FP.Core.fdiv_out (fl_i2f a) (FP.Core.i2f_fin b) (fun q => FP.Core.i2f_ne_zero h ((FP.Core.zero_bits232 _).mp q))
theorem fl_fdiv (a : Int32) {b : Int32} (h : b ≠ 0) : h_fdiv (FP.i2f a) (FP.i2f b) = some (FP.fdiv (FP.i2f a) (FP.i2f b)) := by
  unfold h_fdiv
  exact if_pos (fl_n32 (a := FP.Core.fdiv (FP.Core.i2f a) (FP.Core.i2f b)) (fl_fq a h))
theorem fl_f2d (a : Int32) {b : Int32} (h : b ≠ 0) : h_f2d (FP.fdiv (FP.i2f a) (FP.i2f b)) = some (FP.f2d (FP.fdiv (FP.i2f a) (FP.i2f b))) := by
  have e : FP.f2d (FP.fdiv (FP.i2f a) (FP.i2f b)) = FP.Core.f2d (FP.Core.fdiv (FP.Core.i2f a) (FP.Core.i2f b)) := by
    rw [FP.f2d_core (show FP.fIsNaN (FP.fdiv (FP.i2f a) (FP.i2f b)) = false by rw [FP.fIsNaN_core]; exact fl_fq a h)]
  unfold h_f2d
  rw [e]
  exact if_pos (fl_n64 (FP.Core.f2d_out (fl_fq a h)))
section FL
variable {V : Nat → Nat} {g f f0 : GH} {x m b : Nat} {T : TS} {z : Nat → Int32} {A : Nat → Nat → Int32} {hs pc pn : Int32}
def s_ratio (T : TS) (c : CS) (l : Nat) : UInt64 := if s_len (tK T) c (l + 1) = 0 then FP.dconst0 else FP.ddiv (FP.i2d (s_len (tK T) c l)) (FP.i2d (s_len (tK T) c (l + 1)))
def s_mean (T : TS) (c : CS) (l : Nat) : UInt32 := FP.fdiv (FP.i2f (s_len (tK T) c l)) (FP.i2f (nn (s_sticks c l)))
def svd (s : Nat ⊕ UInt64) : UInt64 := match s with
  | .inl _ => FP.dconst0
  | .inr v => v
def svf (s : Nat ⊕ UInt32) : UInt32 := match s with
  | .inl _ => FP.fconst0
  | .inr v => v
theorem P_refinementRatio (X : XoA f x hs pc pn) (C : ChA f (x + 1) T) (hv : TV T) (a l : Int32) : p_X7_refinementRatio V g f x a l = some (sCo T a fun c => sIn 0 6 l (.inr (s_ratio T c (ix l)))) := by
  unfold p_X7_refinementRatio
  rw [X.me]
  unfold sCo
  cases ha : inC (tN T) a with
  | false => rw [P_atN X C ha, xb_l, if_neg b_ff]
  | true =>
    obtain ⟨q, q1, q2, q3, q4⟩ := P_at (V := V) (g := g) X C ha
    have cv := hv.2.2 _ (inC_t (by have := hv.1; omega) ha).2
    have n1 := cv.n1
    rw [q1, xb_r, if_pos rfl, P_within]
    unfold sIn s_ratio
    dsimp only
    cases hl : s_in 0 6 l with
    | false => rw [if_neg b_ff, xb_l, if_neg b_ff]
    | true =>
      obtain ⟨j, hj, rfl⟩ := lvl6 hl
      rw [if_pos rfl, xb_r, if_pos rfl, X.ch, ob_s, C.k, ob_s, nn_s, C_len q2 (by omega) (by omega), ob_s, ix_nn (show j < 2147483648 by omega)]
      by_cases h0 : s_len (tK T) (tC T (ix a)) (j + 1) = 0
      · rw [if_pos h0, if_pos h0]
      · rw [if_neg h0, if_neg h0, ob_s, C.k, ob_s, C_len q2 (by omega) (by omega), ob_s, fl_ddiv _ h0, ob_s]
theorem Q_refinementRatio (hb : b < 2) (R : RT (A b) T) (hv : TV T) (a l : Int32) : p_X8_refinementRatio V g (mH V m b z A f0) m a l = some (svd (sCo T a fun c => sIn 0 6 l (.inr (s_ratio T c (ix l)))), mH V m b (upd z 7 (st cdA (sCo T a fun c => sIn 0 6 l (.inr (s_ratio T c (ix l)) : Nat ⊕ UInt64)))) A f0) := by
  have k01 := R.k01 hv
  have h6 := hv.1
  unfold p_X8_refinementRatio
  rw [m_me, M_isCoast hb R hv.1, ob_s, M_fine, ob_s, M_lacksBoth, ob_s]
  dsimp only
  unfold sCo sIn s_ratio
  cases ha : inC (tN T) a with
  | false => rw [Bool.false_and, if_neg (show ¬ bz (!false) = (0 : Int32) by decide), if_neg b_ff]; rfl
  | true =>
    rw [if_pos (rfl : true = true)]
    dsimp only
    cases hl : s_in 0 6 l with
    | false => rw [if_neg (show ¬ bz (!(true && false)) = (0 : Int32) by decide), if_neg b_ff]; rfl
    | true =>
      obtain ⟨i, hi, rfl⟩ := inC_ex (by omega) ha
      obtain ⟨j, hj, rfl⟩ := lvl6 hl
      have cv := hv.2.2 i hi
      have n1 := cv.n1
      have rc := R.2.2.2.2.2 i hi
      rw [if_pos (show bz (!(true && true)) = (0 : Int32) by decide), if_pos rfl, ix_nn (show i < 2147483648 by omega), ix_nn (show j < 2147483648 by omega), nn_s, M_lenNow hb (by omega) rc cv.i01 (by omega) cv.n2 k01 (by omega), ob_s, M_lenNow hb (by omega) rc cv.i01 (by omega) cv.n2 k01 (by omega), ob_s, R.1]
      by_cases h0 : s_len (tK T) (tC T i) (j + 1) = 0
      · rw [if_pos h0, if_pos h0]; rfl
      · rw [if_neg h0, if_neg h0, fl_ddiv _ h0, ob_s]; rfl
theorem nn_nz {k : Nat} (h : 1 ≤ k) (h2 : k < 2147483648) : nn k ≠ 0 := fun e => by
  rw [n_0, nn_eq h2 (by omega)] at e
  omega
theorem P_meanStickLength (X : XoA f x hs pc pn) (C : ChA f (x + 1) T) (hv : TV T) (a l : Int32) : p_X7_meanStickLength V g f x a l = some (sCo T a fun c => sIn 0 7 l (.inr (s_mean T c (ix l)))) := by
  unfold p_X7_meanStickLength
  rw [X.me]
  unfold sCo
  cases ha : inC (tN T) a with
  | false => rw [P_atN X C ha, xb_l, if_neg b_ff]
  | true =>
    obtain ⟨q, q1, q2, q3, q4⟩ := P_at (V := V) (g := g) X C ha
    have cv := hv.2.2 _ (inC_t (by have := hv.1; omega) ha).2
    have n1 := cv.n1
    rw [q1, xb_r, if_pos rfl, P_within]
    unfold sIn s_mean
    dsimp only
    cases hl : s_in 0 7 l with
    | false => rw [if_neg b_ff, xb_l, if_neg b_ff]
    | true =>
      obtain ⟨j, hj, rfl⟩ := lvl7 hl
      have h0 := nn_nz (s_sticks_pos (l := j) cv) (by have := s_sticks_200 (l := j) cv; omega)
      rw [if_pos rfl, xb_r, if_pos rfl, C_sticks q2 (by omega) hj, ob_s, if_neg h0, X.ch, ob_s, C.k, ob_s, C_len q2 (by omega) hj, ob_s, fl_fdiv _ h0, ob_s, ix_nn (show j < 2147483648 by omega)]
theorem Q_meanStickLength (hb : b < 2) (R : RT (A b) T) (hv : TV T) (a l : Int32) : p_X8_meanStickLength V g (mH V m b z A f0) m a l = some (svf (sCo T a fun c => sIn 0 7 l (.inr (s_mean T c (ix l)))), mH V m b (upd z 7 (st cdA (sCo T a fun c => sIn 0 7 l (.inr (s_mean T c (ix l)) : Nat ⊕ UInt32)))) A f0) := by
  have k01 := R.k01 hv
  have h6 := hv.1
  unfold p_X8_meanStickLength p_X8_lacksLevel
  rw [m_me, m_me, M_isCoast hb R hv.1, ob_s, M_level, ob_s, M_lacksBoth, ob_s]
  dsimp only
  rw [hbz, ob_s, ob_s]
  dsimp only
  unfold sCo sIn s_mean
  cases ha : inC (tN T) a with
  | false => rw [Bool.false_and, if_neg (show ¬ bz (!false) = (0 : Int32) by decide), if_neg b_ff]; rfl
  | true =>
    rw [if_pos (rfl : true = true)]
    dsimp only
    cases hl : s_in 0 7 l with
    | false => rw [if_neg (show ¬ bz (!(true && false)) = (0 : Int32) by decide), if_neg b_ff]; rfl
    | true =>
      obtain ⟨i, hi, rfl⟩ := inC_ex (by omega) ha
      obtain ⟨j, hj, rfl⟩ := lvl7 hl
      have cv := hv.2.2 i hi
      have n1 := cv.n1
      have rc := R.2.2.2.2.2 i hi
      have h0 := nn_nz (s_sticks_pos (l := j) cv) (by have := s_sticks_200 (l := j) cv; omega)
      rw [if_pos (show bz (!(true && true)) = (0 : Int32) by decide), if_pos rfl, ix_nn (show i < 2147483648 by omega), ix_nn (show j < 2147483648 by omega), M_lenNow hb (by omega) rc cv.i01 (by omega) cv.n2 k01 hj, ob_s, M_sticks hb (by omega) rc cv.i01 (by omega) cv.n2 hj, ob_s, fl_fdiv _ h0, ob_s, R.1]
      rfl
end FL

/-! ===== numbers: whole numbers as Int32, their order, sums, products, shifts ===== -/
def nn (k : Nat) : Int32 := Int32.ofNat k
theorem nn_i {k : Nat} (h : k < 2147483648) : (nn k).toInt = (k : Int) := Int32.toInt_ofNat_of_lt h
theorem nn_c {k : Nat} (h : k < 2147483648) : (nn k).toNatClampNeg = k := Int32.toNatClampNeg_ofNat_of_lt h
theorem nn_add (a b : Nat) : nn a + nn b = nn (a + b) := (Int32.ofNat_add a b).symm
theorem nn_mul (a b : Nat) : nn a * nn b = nn (a * b) := (Int32.ofNat_mul a b).symm
theorem nn_sub {a b : Nat} (h : b ≤ a) : nn a - nn b = nn (a - b) := (Int32.ofNat_sub a b h).symm
theorem nn_lt {a b : Nat} (ha : a < 2147483648) (hb : b < 2147483648) : nn a < nn b ↔ a < b := Int32.ofNat_lt_iff_lt ha hb
theorem nn_le {a b : Nat} (ha : a < 2147483648) (hb : b < 2147483648) : nn a ≤ nn b ↔ a ≤ b := Int32.ofNat_le_iff_le ha hb
theorem nn_eq {a b : Nat} (ha : a < 2147483648) (hb : b < 2147483648) : nn a = nn b ↔ a = b := by
  constructor
  · intro h
    have := congrArg Int32.toInt h
    rw [nn_i ha, nn_i hb] at this
    omega
  · rintro rfl
    rfl
theorem n_0 : (0 : Int32) = nn 0 := rfl
theorem n_1 : (1 : Int32) = nn 1 := rfl
theorem n_2 : (2 : Int32) = nn 2 := rfl
theorem n_3 : (3 : Int32) = nn 3 := rfl
theorem n_5 : (5 : Int32) = nn 5 := rfl
theorem n_6 : (6 : Int32) = nn 6 := rfl
theorem n_7 : (7 : Int32) = nn 7 := rfl
theorem n_260 : (260 : Int32) = nn 260 := rfl
theorem nn_s (k : Nat) : nn k + (1 : Int32) = nn (k + 1) := by rw [n_1, nn_add]
theorem nn_p {k : Nat} (h : 1 ≤ k) : nn k - (1 : Int32) = nn (k - 1) := by rw [n_1, nn_sub h]
theorem nn_pm (k : Nat) : nn (k + 1) + (-1 : Int32) = nn k := by
  rw [show (-1 : Int32) = 0 - 1 from rfl, n_1, n_0, ← nn_add]
  rw [Int32.add_assoc, show nn 1 + (nn 0 - nn 1) = nn 0 from by decide +kernel, nn_add]
  rfl
theorem nn_d (k : Nat) : (2 : Int32) * nn k = nn (2 * k) := by rw [n_2, nn_mul]
theorem nn_ge (k : Nat) (h : k < 2147483648) : (0 : Int32) ≤ nn k := by
  rw [n_0, nn_le (by decide) h]
  omega
theorem nn_nl (k : Nat) (h : k < 2147483648) : ¬ nn k < (0 : Int32) := by
  rw [n_0, nn_lt h (by decide)]
  omega
/-- a number in a range that begins at 0 -/
theorem nn_of {a : Int32} (h : (0 : Int32) ≤ a) : a = nn a.toNatClampNeg := (Int32.ofNat_toNatClampNeg a h).symm
theorem nn_below {a : Int32} {n : Nat} (hn : n < 2147483648) (h0 : (0 : Int32) ≤ a) (h1 : a < nn n) : ∃ k, k < n ∧ a = nn k := by
  refine ⟨a.toNatClampNeg, ?_, nn_of h0⟩
  rw [nn_of h0, nn_lt (Int32.toNatClampNeg_lt a) hn] at h1
  exact h1
theorem i_not_lt {a b : Int32} : ¬ a < b ↔ b ≤ a := Int32.not_lt
theorem i_not_le {a b : Int32} : ¬ a ≤ b ↔ b < a := Int32.not_le
theorem i_lt {a b : Int32} : a < b ↔ a.toInt < b.toInt := Int32.lt_iff_toInt_lt
theorem i_le {a b : Int32} : a ≤ b ↔ a.toInt ≤ b.toInt := Int32.le_iff_toInt_le
theorem i_eq {a b : Int32} : a = b ↔ a.toInt = b.toInt := Int32.toInt_inj.symm
theorem bm_id {x : Int} (h0 : -2147483648 ≤ x) (h1 : x < 2147483648) : x.bmod (2 ^ 32) = x := by
  apply Int.bmod_eq_of_le <;> omega
theorem i_add {a b : Int32} (h0 : -2147483648 ≤ a.toInt + b.toInt) (h1 : a.toInt + b.toInt < 2147483648) : (a + b).toInt = a.toInt + b.toInt := by
  rw [Int32.toInt_add, bm_id h0 h1]
theorem i_sub {a b : Int32} (h0 : -2147483648 ≤ a.toInt - b.toInt) (h1 : a.toInt - b.toInt < 2147483648) : (a - b).toInt = a.toInt - b.toInt := by
  rw [Int32.toInt_sub, bm_id h0 h1]
theorem i_neg {a : Int32} (h0 : -2147483648 < a.toInt) : (-a).toInt = -a.toInt := by
  have := Int32.toInt_lt a
  rw [Int32.toInt_neg, bm_id (by omega) (by omega)]
theorem i_mul {a b : Int32} (h0 : -2147483648 ≤ a.toInt * b.toInt) (h1 : a.toInt * b.toInt < 2147483648) : (a * b).toInt = a.toInt * b.toInt := by
  rw [Int32.toInt_mul, bm_id h0 h1]
theorem i_lo (a : Int32) : -2147483648 ≤ a.toInt := Int32.le_toInt a
theorem i_hi (a : Int32) : a.toInt < 2147483648 := Int32.toInt_lt a
/-- shifts by a level -/
theorem nn_31 {l : Nat} (h : l < 8) : nn l &&& (31 : Int32) = nn l := by
  have : l = 0 ∨ l = 1 ∨ l = 2 ∨ l = 3 ∨ l = 4 ∨ l = 5 ∨ l = 6 ∨ l = 7 := by omega
  rcases this with rfl | rfl | rfl | rfl | rfl | rfl | rfl | rfl <;> decide +kernel
theorem nn_shl {a l : Nat} (h : l < 8) : nn a <<< nn l = nn (a * 2 ^ l) := by
  apply Int32.toBitVec_inj.mp
  rw [Int32.toBitVec_shiftLeft]
  have e : ((nn l).toBitVec.smod 32) = BitVec.ofNat 32 l := by
    have : l = 0 ∨ l = 1 ∨ l = 2 ∨ l = 3 ∨ l = 4 ∨ l = 5 ∨ l = 6 ∨ l = 7 := by omega
    rcases this with rfl | rfl | rfl | rfl | rfl | rfl | rfl | rfl <;> decide +kernel
  rw [e]
  apply BitVec.eq_of_toNat_eq
  show (BitVec.ofNat 32 a <<< (BitVec.ofNat 32 l).toNat).toNat = (BitVec.ofNat 32 (a * 2 ^ l)).toNat
  have hl : (BitVec.ofNat 32 l).toNat = l := by
    rw [BitVec.toNat_ofNat]
    exact Nat.mod_eq_of_lt (by omega)
  rw [hl, BitVec.toNat_shiftLeft, BitVec.toNat_ofNat, BitVec.toNat_ofNat, Nat.shiftLeft_eq, Nat.mod_mul_mod]
theorem nn_shr {a l : Nat} (ha : a < 2147483648) (h : l < 8) : nn a >>> nn l = nn (a / 2 ^ l) := by
  apply Int32.toBitVec_inj.mp
  rw [Int32.toBitVec_shiftRight]
  have e : ((nn l).toBitVec.smod 32) = BitVec.ofNat 32 l := by
    have : l = 0 ∨ l = 1 ∨ l = 2 ∨ l = 3 ∨ l = 4 ∨ l = 5 ∨ l = 6 ∨ l = 7 := by omega
    rcases this with rfl | rfl | rfl | rfl | rfl | rfl | rfl | rfl <;> decide +kernel
  rw [e]
  apply BitVec.eq_of_toInt_eq
  have hl : (BitVec.ofNat 32 l).toNat = l := by
    rw [BitVec.toNat_ofNat]
    exact Nat.mod_eq_of_lt (by omega)
  have hd : a / 2 ^ l < 2147483648 := Nat.lt_of_le_of_lt (Nat.div_le_self _ _) ha
  rw [BitVec.toInt_sshiftRight', hl]
  show (nn a).toInt >>> l = (nn (a / 2 ^ l)).toInt
  rw [nn_i ha, nn_i hd, Int.shiftRight_eq_div_pow]
  simp
/-- a loop's state by its steps -/
def itr {σ : Type} (step : Nat → σ → σ) : Nat → Nat → σ → σ
  | 0, _, s => s
  | d + 1, i, s => itr step d (i + 1) (step i s)
theorem itr_last {σ : Type} (step : Nat → σ → σ) (d i : Nat) (s : σ) : itr step (d + 1) i s = step (i + d) (itr step d i s) := by
  induction d generalizing i s with
  | zero => rfl
  | succ d ih =>
    rw [itr, ih (i + 1) (step i s), itr]
    congr 1
    omega
theorem itr_congr {σ : Type} {f g : Nat → σ → σ} (d i : Nat) (s : σ) (h : ∀ k s, i ≤ k → k < i + d → f k s = g k s) : itr f d i s = itr g d i s := by
  induction d generalizing i s with
  | zero => rfl
  | succ d ih =>
    rw [itr, itr, h i s (Nat.le_refl _) (by omega)]
    exact ih (i + 1) _ (fun k s h1 h2 => h k s (by omega) (by omega))
/-- what every step keeps -/
theorem itr_inv {σ : Type} {f : Nat → σ → σ} (P : Nat → σ → Prop) (d i : Nat) (s : σ) (h0 : P i s) (h : ∀ k s, i ≤ k → k < i + d → P k s → P (k + 1) (f k s)) : P (i + d) (itr f d i s) := by
  induction d generalizing i s with
  | zero => exact h0
  | succ d ih =>
    rw [itr]
    have := ih (i + 1) (f i s) (h i s (Nat.le_refl _) (by omega) h0) (fun k s h1 h2 => h k s (by omega) (by omega))
    rwa [show i + 1 + d = i + (d + 1) by omega] at this
/-- two loops step by step -/
theorem itr_rel {σ τ : Type} {f : Nat → σ → σ} {g : Nat → τ → τ} (P : Nat → σ → τ → Prop) (d i : Nat) (s : σ) (t : τ) (h0 : P i s t) (h : ∀ k s t, i ≤ k → k < i + d → P k s t → P (k + 1) (f k s) (g k t)) : P (i + d) (itr f d i s) (itr g d i t) := by
  induction d generalizing i s t with
  | zero => exact h0
  | succ d ih =>
    rw [itr, itr]
    have := ih (i + 1) (f i s) (g i t) (h i s t (Nat.le_refl _) (by omega) h0) (fun k s t h1 h2 => h k s t (by omega) (by omega))
    rwa [show i + 1 + d = i + (d + 1) by omega] at this


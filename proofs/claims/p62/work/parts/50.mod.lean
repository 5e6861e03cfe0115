/-! ===== the reference's object: one row of fields, nine arrays of numbers, one of words ===== -/
def mF (m b : Nat) (z : Nat → Int32) : List Value := [.ref (m + 1 + 0), .ref (m + 1 + 1), .ref (m + 1 + 2), .ref (m + 1 + 3), .ref (m + 1 + 4), .ref (m + 1 + b), .int (z 6), .int (z 7), .int (z 8), .int (z 9), .ref (m + 1 + 5), .int (z 11), .ref (m + 1 + 6), .int (z 13), .int (z 14), .int (z 15), .int (z 16), .int (z 17), .int (z 18), .int (z 19), .int (z 20), .int (z 21), .ref (m + 1 + 7), .ref (m + 1 + 8), .ref (m + 1 + 9), .int (z 25)]
def mL (j : Nat) : Nat := match j with
  | 4 => 14600
  | 5 => 100
  | 6 => 700
  | 7 => 68
  | 8 => 1460
  | _ => 1825
def mW (V : Nat → Nat) (k : Nat) : Option Nat := match k with
  | 0 => some (V 27)
  | 1 => some (V 40)
  | 2 => some (V 41)
  | 3 => some (V 42)
  | 4 => some (V 43)
  | 5 => some (V 44)
  | 6 => some (V 45)
  | 7 => some (V 46)
  | 8 => some (V 47)
  | 9 => some (V 48)
  | 10 => some (V 26)
  | _ => none
def mH (V : Nat → Nat) (m b : Nat) (z : Nat → Int32) (A : Nat → Nat → Int32) (f0 : GH) : GH := fun a =>
  if a = m then some (.inr (10, mF m b z)) else if m + 1 ≤ a ∧ a < m + 10 then some (.inl (0, mL (a - (m + 1)), .inl (A (a - (m + 1))))) else if a = m + 10 then some (.inl (7, 11, .inr (.inr (.inr (.inr (mW V)))))) else f0 a
def upA (A : Nat → Nat → Int32) (j : Nat) (r : Nat → Int32) : Nat → Nat → Int32 := fun i => if i = j then r else A i
theorem upA_s (A : Nat → Nat → Int32) (j : Nat) (r : Nat → Int32) : upA A j r j = r := by simp [upA]
theorem upA_n (A : Nat → Nat → Int32) {i j : Nat} (r : Nat → Int32) (h : i ≠ j) : upA A j r i = A i := by simp [upA, h]
theorem upd_s (r : Nat → Int32) (k : Nat) (v : Int32) : upd r k v k = v := by simp [upd]
theorem upd_n (r : Nat → Int32) {i k : Nat} (v : Int32) (h : i ≠ k) : upd r k v i = r i := by simp [upd, h]
theorem upd_u (r : Nat → Int32) (k : Nat) (v w : Int32) : upd (upd r k v) k w = upd r k w := by
  funext i
  by_cases h : i = k <;> simp [upd, h]
theorem upd_e (r : Nat → Int32) (k : Nat) : upd r k (r k) = r := by
  funext i
  by_cases h : i = k <;> simp [upd, h]
section MO
variable {V : Nat → Nat} {g f0 : GH} {m b : Nat} {z : Nat → Int32} {A : Nat → Nat → Int32}
theorem mH_o : mH V m b z A f0 m = some (.inr (10, mF m b z)) := by simp [mH]
theorem mH_a {j : Nat} (hj : j < 9) : mH V m b z A f0 (m + 1 + j) = some (.inl (0, mL j, .inl (A j))) := by
  unfold mH
  rw [if_neg (by omega), if_pos (by omega), Nat.add_sub_cancel_left]
theorem mH_w : mH V m b z A f0 (m + 1 + 9) = some (.inl (7, 11, .inr (.inr (.inr (.inr (mW V)))))) := by
  unfold mH
  rw [if_neg (by omega), if_neg (by omega), if_pos (by omega)]
theorem mH_out : h_out m (m + 11) f0 (mH V m b z A f0) := by
  intro a ha
  unfold mH
  rw [if_neg (by omega), if_neg (by omega), if_neg (by omega)]
theorem mH_upo {b1 : Nat} {z1 : Nat → Int32} : h_up (mH V m b z A f0) m (.inr (10, mF m b1 z1)) = mH V m b1 z1 A f0 := by
  funext a
  by_cases h : a = m
  · subst h
    rw [h_up_s, mH_o]
  · rw [h_up_n _ _ h]
    simp only [mH, if_neg h]
theorem mH_upa {j : Nat} {r : Nat → Int32} (hj : j < 9) : h_up (mH V m b z A f0) (m + 1 + j) (.inl (0, mL j, .inl r)) = mH V m b z (upA A j r) f0 := by
  funext a
  by_cases h : a = m + 1 + j
  · subst h
    rw [h_up_s, mH_a hj, upA_s]
  · rw [h_up_n _ _ h]
    simp only [mH]
    split
    · rfl
    · split
      · rw [upA_n _ _ (by omega)]
      · rfl
theorem m_me {α : Type} (q : Option α) : h_me (mH V m b z A f0) m 10 q = q := hme_of mH_o q
theorem m_row : h_gr (mH V m b z A f0) m 10 5 = some (m + 1 + b) := hgr_of mH_o rfl
theorem m_r0 : h_gr (mH V m b z A f0) m 10 0 = some (m + 1 + 0) := hgr_of mH_o rfl
theorem m_r1 : h_gr (mH V m b z A f0) m 10 1 = some (m + 1 + 1) := hgr_of mH_o rfl
theorem m_r2 : h_gr (mH V m b z A f0) m 10 2 = some (m + 1 + 2) := hgr_of mH_o rfl
theorem m_r3 : h_gr (mH V m b z A f0) m 10 3 = some (m + 1 + 3) := hgr_of mH_o rfl
theorem m_r4 : h_gr (mH V m b z A f0) m 10 4 = some (m + 1 + 4) := hgr_of mH_o rfl
theorem m_r10 : h_gr (mH V m b z A f0) m 10 10 = some (m + 1 + 5) := hgr_of mH_o rfl
theorem m_r12 : h_gr (mH V m b z A f0) m 10 12 = some (m + 1 + 6) := hgr_of mH_o rfl
theorem m_r22 : h_gr (mH V m b z A f0) m 10 22 = some (m + 1 + 7) := hgr_of mH_o rfl
theorem m_r23 : h_gr (mH V m b z A f0) m 10 23 = some (m + 1 + 8) := hgr_of mH_o rfl
theorem m_r24 : h_gr (mH V m b z A f0) m 10 24 = some (m + 1 + 9) := hgr_of mH_o rfl
/-- the fields that are numbers -/
def mZ (k : Nat) : Bool := k == 6 || k == 7 || k == 8 || k == 9 || k == 11 || k == 13 || k == 14 || k == 15 || k == 16 || k == 17 || k == 18 || k == 19 || k == 20 || k == 21 || k == 25
theorem m_gi {k : Nat} (h : mZ k = true) : h_gi (mH V m b z A f0) m 10 k = some (z k) := by
  refine hgi_of mH_o ?_
  simp only [mZ, Bool.or_eq_true, beq_iff_eq] at h
  rcases h with (((((((((((((h | h) | h) | h) | h) | h) | h) | h) | h) | h) | h) | h) | h) | h) | h <;> subst h <;> rfl
theorem m_pt {k : Nat} {v : Int32} (h : mZ k = true) : h_pt (mH V m b z A f0) m 10 k (.int v) = some (mH V m b (upd z k v) A f0) := by
  have e : k < (mF m b z).length ∧ (mF m b z).set k (.int v) = mF m b (upd z k v) := by
    simp only [mZ, Bool.or_eq_true, beq_iff_eq] at h
    rcases h with (((((((((((((h | h) | h) | h) | h) | h) | h) | h) | h) | h) | h) | h) | h) | h) | h <;> subst h <;> exact ⟨(Nat.le_of_ble_eq_true rfl : _ + 1 ≤ _), rfl⟩
  rw [hpt_of mH_o e.1, e.2, mH_upo]
theorem m_ptr {b1 : Nat} : h_pt (mH V m b z A f0) m 10 5 (.ref (m + 1 + b1)) = some (mH V m b1 z A f0) := by
  rw [hpt_of mH_o (by decide : 5 < 26)]
  exact congrArg some mH_upo
theorem mL_lt (j : Nat) : mL j < 2147483648 := by
  unfold mL
  split <;> decide
theorem m_li {j k : Nat} (hj : j < 9) (hk : k < mL j) : h_li (mH V m b z A f0) (m + 1 + j) 0 (nn k) = some (A j k) := by
  have := mL_lt j
  exact hli_of (mH_a hj) hk (by omega)
theorem m_si {j k : Nat} {v : Int32} (hj : j < 9) (hk : k < mL j) : h_si (mH V m b z A f0) (m + 1 + j) 0 (nn k) v = some (mH V m b z (upA A j (upd (A j) k v)) f0) := by
  have := mL_lt j
  rw [hsi_of (mH_a hj) hk (by omega), mH_upa hj]
theorem m_cp {i j sp dp n : Nat} (hi : i < 9) (hj : j < 9) (h0 : sp + n ≤ mL i) (h1 : dp + n ≤ mL j) : h_cp (mH V m b z A f0) 0 (m + 1 + i) (nn sp) (m + 1 + j) (nn dp) (nn n) = some (mH V m b z (upA A j (va_cpy (A i) (A j) sp dp n)) f0) := by
  rw [hcp_of (mH_a hi) (mH_a hj) h0 h1 (mL_lt i) (mL_lt j), mH_upa hj]
theorem m_al {j : Nat} (hj : j < 9) : h_al (mH V m b z A f0) (m + 1 + j) 0 = some (nn (mL j)) := hal_of (mH_a hj)
theorem mL_row {b : Nat} (hb : b < 2) : mL b = 1825 := by
  have : b = 0 ∨ b = 1 := by omega
  rcases this with rfl | rfl <;> rfl
/-! small ones -/
def s_thr (t u : Bool) : Int32 := if t then (if u then 0 else 2) else 1
end MO


/-! ===== areas, positions, boxes: the reference's side ===== -/
theorem i_addsub (a b : Int32) : a + b - b = a := by rw [Int32.sub_eq_add_neg, Int32.add_assoc, Int32.add_right_neg, Int32.add_zero]
theorem s_max_of (a b : Int32) : a + b - s_min a b = s_max a b := by
  unfold s_min s_max
  by_cases h : b < a
  · rw [if_pos h, if_neg (i_not_lt.mpr (Int32.le_of_lt h)), i_addsub]
  · rw [if_neg h, Int32.add_comm a b, i_addsub]
    by_cases k : a < b
    · rw [if_pos k]
    · rw [if_neg k]
      exact Int32.le_antisymm (i_not_lt.mp k) (i_not_lt.mp h)
def s_btw (v a b : Int32) : Bool := decide (¬ v < s_min a b ∧ ¬ s_max a b < v)
theorem s_on_eq (c : CS) (i : Nat) (x y : Int32) : s_on c i x y = (s_btw x (cX c i) (cX c (s_next (cN c) i)) && s_btw y (cY c i) (cY c (s_next (cN c) i)) && decide (s_side c i x y = 0)) := by
  unfold s_on s_btw
  rw [Bool.eq_iff_iff]
  simp only [Bool.and_eq_true, decide_eq_true_eq]
  constructor
  · rintro ⟨h1, h2, h3, h4, h5⟩
    exact ⟨⟨⟨h2, h3⟩, h4, h5⟩, h1⟩
  · rintro ⟨⟨⟨h2, h3⟩, h4, h5⟩, h1⟩
    exact ⟨h1, h2, h3, h4, h5⟩
theorem bz_xor (a b : Bool) : bz a ^^^ bz b = bz (a ^^ b) := by cases a <;> cases b <;> decide
section MX
variable {V : Nat → Nat} {g f0 : GH} {m b : Nat} {z : Nat → Int32} {A : Nat → Nat → Int32} {i : Nat} {c : CS}
theorem s_min_le (a v : Int32) : (if a ≤ v then a else v) = s_min a v := by
  unfold s_min
  by_cases h : v < a
  · rw [if_neg (i_not_le.mpr h), if_pos h]
  · rw [if_pos (i_not_lt.mp h), if_neg h]
theorem s_max_le (a v : Int32) : (if v ≤ a then a else v) = s_max a v := by
  unfold s_max
  by_cases h : a < v
  · rw [if_neg (i_not_le.mpr h), if_pos h]
  · rw [if_pos (i_not_lt.mp h), if_neg h]
end MX


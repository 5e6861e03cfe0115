/-! ===== what a coastline is, and what is asked of it, in numbers alone ===== -/
/-- whether it is an island (1) or a shore (0); how many points; their coordinates -/
abbrev CS : Type := Int32 × Nat × (Nat → Int32) × (Nat → Int32)
def cI (c : CS) : Int32 := c.1
def cN (c : CS) : Nat := c.2.1
def cX (c : CS) : Nat → Int32 := c.2.2.1
def cY (c : CS) : Nat → Int32 := c.2.2.2
def bd (v : Int32) : Prop := -1000 ≤ v.toInt ∧ v.toInt ≤ 1000
def CoV (c : CS) : Prop := (cI c = 0 ∧ 2 ≤ cN c ∨ cI c = 1 ∧ 3 ≤ cN c) ∧ cN c ≤ 129 ∧ ∀ i, i < cN c → bd (cX c i) ∧ bd (cY c i)
theorem CoV.n1 {c : CS} (h : CoV c) : 2 ≤ cN c := by
  rcases h.1 with h | h <;> omega
theorem CoV.n2 {c : CS} (h : CoV c) : cN c ≤ 129 := h.2.1
theorem CoV.i01 {c : CS} (h : CoV c) : cI c = 0 ∨ cI c = 1 := by
  rcases h.1 with h | h
  · exact Or.inl h.1
  · exact Or.inr h.1
def s_abs (v : Int32) : Int32 := if (0 : Int32) ≤ v then v else -v
def s_max (a b : Int32) : Int32 := if a < b then b else a
def s_min (a b : Int32) : Int32 := if b < a then b else a
def s_dist (k dx dy : Int32) : Int32 := if k = 0 then s_abs dx + s_abs dy else s_max (s_abs dx) (s_abs dy)
def s_d (k : Int32) (c : CS) (i j : Nat) : Int32 := s_dist k (cX c i - cX c j) (cY c i - cY c j)
def s_next (n i : Nat) : Nat := if i + 1 < n then i + 1 else 0
theorem s_next_lt {n i : Nat} (h : 0 < n) : s_next n i < n := by
  unfold s_next
  split <;> omega
def s_sticks (c : CS) (l : Nat) : Nat := if cI c = 0 ∧ (cN c - 1) / 2 ^ l * 2 ^ l = cN c - 1 then (cN c - 1) / 2 ^ l else (cN c - 1) / 2 ^ l + 1
def s_end (c : CS) (l s : Nat) : Nat := if (s + 1) * 2 ^ l < cN c then (s + 1) * 2 ^ l else if cI c = 0 then cN c - 1 else 0
def s_span (k : Int32) (c : CS) (l s : Nat) : Int32 := s_d k c (s * 2 ^ l) (s_end c l s)
def s_len (k : Int32) (c : CS) (l : Nat) : Int32 := itr (fun s a => a + s_span k c l s) (s_sticks c l) 0 0
theorem s_pow {l : Nat} (h : l < 8) : 1 ≤ 2 ^ l ∧ 2 ^ l ≤ 128 := by
  have : l = 0 ∨ l = 1 ∨ l = 2 ∨ l = 3 ∨ l = 4 ∨ l = 5 ∨ l = 6 ∨ l = 7 := by omega
  rcases this with rfl | rfl | rfl | rfl | rfl | rfl | rfl | rfl <;> decide
theorem s_sticks_le (c : CS) (l : Nat) : s_sticks c l ≤ (cN c - 1) + 1 := by
  have := Nat.div_le_self (cN c - 1) (2 ^ l)
  unfold s_sticks
  split <;> omega
theorem s_from_lt {c : CS} {l s : Nat} (hn : 1 ≤ cN c) (hs : s < s_sticks c l) : s * 2 ^ l < cN c := by
  have h1 : s ≤ (cN c - 1) / 2 ^ l := by
    unfold s_sticks at hs
    split at hs <;> omega
  have h2 := Nat.mul_le_mul_right (2 ^ l) h1
  have h3 := Nat.div_mul_le_self (cN c - 1) (2 ^ l)
  omega
theorem s_end_lt {c : CS} {l s : Nat} (hn : 1 ≤ cN c) : s_end c l s < cN c := by
  unfold s_end
  split
  · assumption
  · split <;> omega
theorem s_to_small {l s : Nat} (hl : l < 8) (hs : s < 2000) : (s + 1) * 2 ^ l < 2147483648 := by
  have h1 := (s_pow hl).2
  have h2 : (s + 1) * 2 ^ l ≤ 2000 * 128 := Nat.mul_le_mul (by omega) h1
  omega
/-- sizes, as whole numbers -/
theorem s_abs_i {v : Int32} (h : -2147483648 < v.toInt) : (s_abs v).toInt = v.toInt.natAbs := by
  unfold s_abs
  split
  · rename_i h0
    rw [i_le] at h0
    have e0 : (0 : Int32).toInt = 0 := rfl
    omega
  · rename_i h0
    rw [i_le] at h0
    have e0 : (0 : Int32).toInt = 0 := rfl
    rw [i_neg h]
    omega
theorem s_max_i (a b : Int32) : (s_max a b).toInt = max a.toInt b.toInt := by
  unfold s_max
  split <;> rename_i h0 <;> rw [i_lt] at h0 <;> omega
theorem s_min_i (a b : Int32) : (s_min a b).toInt = min a.toInt b.toInt := by
  unfold s_min
  split <;> rename_i h0 <;> rw [i_lt] at h0 <;> omega
theorem bd_sub {a b : Int32} (ha : bd a) (hb : bd b) : (a - b).toInt = a.toInt - b.toInt := by
  unfold bd at ha hb
  exact i_sub (by omega) (by omega)
/-- a distance is neither negative nor large -/
theorem s_dist_b {k dx dy : Int32} (hx : -2000 ≤ dx.toInt ∧ dx.toInt ≤ 2000) (hy : -2000 ≤ dy.toInt ∧ dy.toInt ≤ 2000) : 0 ≤ (s_dist k dx dy).toInt ∧ (s_dist k dx dy).toInt ≤ 4000 := by
  have h1 := s_abs_i (v := dx) (by omega)
  have h2 := s_abs_i (v := dy) (by omega)
  unfold s_dist
  split
  · rw [i_add (by omega) (by omega)]
    omega
  · rw [s_max_i]
    omega
theorem s_d_b {k : Int32} {c : CS} {i j : Nat} (h : CoV c) (hi : i < cN c) (hj : j < cN c) : 0 ≤ (s_d k c i j).toInt ∧ (s_d k c i j).toInt ≤ 4000 := by
  obtain ⟨x1, y1⟩ := h.2.2 i hi
  obtain ⟨x2, y2⟩ := h.2.2 j hj
  have e1 := bd_sub x1 x2
  have e2 := bd_sub y1 y2
  unfold bd at x1 x2 y1 y2
  exact s_dist_b (by omega) (by omega)
theorem s_span_b {k : Int32} {c : CS} {l s : Nat} (h : CoV c) (hs : s < s_sticks c l) : 0 ≤ (s_span k c l s).toInt ∧ (s_span k c l s).toInt ≤ 4000 := by
  have := h.n1
  exact s_d_b h (s_from_lt (by omega) hs) (s_end_lt (by omega))
theorem s_sum_b {g : Nat → Int32} (d i : Nat) (a : Int32) (hd : i + d ≤ 200) (h : ∀ k, i ≤ k → k < i + d → 0 ≤ (g k).toInt ∧ (g k).toInt ≤ 4000) (ha : 0 ≤ a.toInt ∧ a.toInt ≤ 4000 * i) : 0 ≤ (itr (fun s a => a + g s) d i a).toInt ∧ (itr (fun s a => a + g s) d i a).toInt ≤ 4000 * (i + d : Nat) := by
  refine itr_inv (fun k (z : Int32) => 0 ≤ z.toInt ∧ z.toInt ≤ 4000 * (k : Nat)) d i a ha (fun k z h1 h2 hz => ?_)
  have h3 := h k h1 h2
  show 0 ≤ (z + g k).toInt ∧ (z + g k).toInt ≤ 4000 * ((k + 1 : Nat) : Int)
  rw [i_add (by omega) (by omega)]
  omega
theorem s_len_b {k : Int32} {c : CS} {l : Nat} (h : CoV c) : 0 ≤ (s_len k c l).toInt ∧ (s_len k c l).toInt ≤ 800000 := by
  have h1 := s_sticks_le c l
  have h2 := h.n2
  have := s_sum_b (g := s_span k c l) (s_sticks c l) 0 0 (by omega) (fun s _ hs => s_span_b h (by omega)) ⟨by decide, by decide⟩
  unfold s_len
  omega
/-- a coordinate, a level, .. in range -/
def s_in (lo hi v : Int32) : Bool := decide (¬ v < lo ∧ ¬ hi < v)
def s_gain (k : Int32) (c : CS) (l : Nat) : Int32 := s_len k c l - s_len k c (l + 1)


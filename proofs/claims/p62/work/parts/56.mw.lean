/-! ===== the reference's row: writes ===== -/
theorem nn_div {a b : Nat} (ha : a < 2147483648) (hb : b < 2147483648) : nn a / nn b = nn (a / b) := (Int32.ofNat_div ha hb).symm
theorem lay_x (r : Nat → Int32) (i k : Nat) (x y : Int32) : lay r i k x y (7 + 260 * i + 2 * k) = x := by
  unfold lay
  rw [upd_n _ _ (by omega), upd_s]
theorem lay_y (r : Nat → Int32) (i k : Nat) (x y : Int32) : lay r i k x y (8 + 260 * i + 2 * k) = y := by
  unfold lay
  rw [upd_s]
theorem lay_n (r : Nat → Int32) (i k : Nat) (x y : Int32) {j : Nat} (h1 : j ≠ 7 + 260 * i + 2 * k) (h2 : j ≠ 8 + 260 * i + 2 * k) : lay r i k x y j = r j := by
  unfold lay
  rw [upd_n _ _ h2, upd_n _ _ h1]
/-- the places from a on, k of them, hold the points P -/
def Pts (r : Nat → Int32) (i lo hi : Nat) (X Y : Nat → Int32) : Prop := ∀ k, lo ≤ k → k < hi → r (7 + 260 * i + 2 * k) = X k ∧ r (8 + 260 * i + 2 * k) = Y k
theorem Pts.lay_in {r : Nat → Int32} {i lo hi : Nat} {X Y : Nat → Int32} {k : Nat} {x y : Int32} (h : ∀ j, lo ≤ j → j < hi → j ≠ k → r (7 + 260 * i + 2 * j) = X j ∧ r (8 + 260 * i + 2 * j) = Y j) (hx : lo ≤ k → k < hi → x = X k ∧ y = Y k) : Pts (lay r i k x y) i lo hi X Y := by
  intro j h1 h2
  by_cases q : j = k
  · subst q
    rw [lay_x, lay_y]
    exact hx h1 h2
  · rw [lay_n _ _ _ _ _ (by omega) (by omega), lay_n _ _ _ _ _ (by omega) (by omega)]
    exact h j h1 h2 q
/-- nothing but the points of coastline i changed -/
def Oth (r r1 : Nat → Int32) (i : Nat) : Prop := ∀ j, j < 7 + 260 * i ∨ 265 + 260 * i ≤ j → r1 j = r j
theorem Oth.rf (r : Nat → Int32) (i : Nat) : Oth r r i := fun _ _ => rfl
theorem Oth.lay {r r1 : Nat → Int32} {i k : Nat} {x y : Int32} (h : Oth r r1 i) (hk : k < 129) : Oth r (lay r1 i k x y) i := fun j hj => by
  rw [lay_n _ _ _ _ _ (by omega) (by omega)]
  exact h j hj
section MW
variable {V : Nat → Nat} {g f0 : GH} {m b : Nat} {z : Nat → Int32} {A : Nat → Nat → Int32} {i : Nat} {c : CS}
theorem RC_cpy {r : Nat → Int32} {j : Nat} (h : RC r i c) (hn : cN c ≤ 129) : RC (va_cpy r r (5 + 260 * i) (5 + 260 * j) 260) j c := by
  obtain ⟨h1, h2, h3⟩ := h
  refine ⟨?_, ?_, fun k hk => ?_⟩
  · rw [cpy_in (by omega) (by omega), ← h1]
    congr 1
    omega
  · rw [cpy_in (by omega) (by omega), ← h2]
    congr 1
    omega
  · rw [cpy_in (by omega) (by omega), cpy_in (by omega) (by omega), ← (h3 k hk).1, ← (h3 k hk).2]
    exact ⟨by congr 1; omega, by congr 1; omega⟩
def cutR (r0 : Nat → Int32) (i p n : Nat) : Nat → Int32 := fun j => if 7 + 260 * i + 2 * p ≤ j ∧ j < 7 + 260 * i + 2 * n then r0 (j + 2) else r0 j
theorem cutR_in (r0 : Nat → Int32) {i p n j : Nat} (h : 7 + 260 * i + 2 * p ≤ j) (h2 : j < 7 + 260 * i + 2 * n) : cutR r0 i p n j = r0 (j + 2) := by
  unfold cutR
  rw [if_pos ⟨h, h2⟩]
theorem cutR_out (r0 : Nat → Int32) {i p n j : Nat} (h : j < 7 + 260 * i + 2 * p ∨ 7 + 260 * i + 2 * n ≤ j) : cutR r0 i p n j = r0 j := by
  unfold cutR
  rw [if_neg (by omega)]
/-- whether all points may be shifted -/
def s_may (c : CS) (dx dy : Int32) : Nat → Nat → Bool
  | 0, _ => true
  | d + 1, k => s_in (-1000) 1000 (cX c k + dx) && s_in (-1000) 1000 (cY c k + dy) && s_may c dx dy d (k + 1)
end MW


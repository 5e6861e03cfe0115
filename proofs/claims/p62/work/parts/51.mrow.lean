/-! ===== the reference's row: coastlines in it, what is read of them ===== -/
def RC (r : Nat → Int32) (i : Nat) (c : CS) : Prop := r (5 + 260 * i) = cI c ∧ r (6 + 260 * i) = nn (cN c) ∧ ∀ k, k < cN c → r (7 + 260 * i + 2 * k) = cX c k ∧ r (8 + 260 * i + 2 * k) = cY c k
theorem RC.frame {r r1 : Nat → Int32} {i : Nat} {c : CS} (h : RC r i c) (hn : cN c ≤ 129) (e : ∀ k, 5 + 260 * i ≤ k → k < 265 + 260 * i → r1 k = r k) : RC r1 i c := by
  obtain ⟨h1, h2, h3⟩ := h
  refine ⟨by rw [e _ (by omega) (by omega), h1], by rw [e _ (by omega) (by omega), h2], fun k hk => ?_⟩
  rw [e _ (by omega) (by omega), e _ (by omega) (by omega)]
  exact h3 k hk
theorem nn_a0 (k : Nat) : nn k + (0 : Int32) = nn k := by rw [n_0, nn_add]; rfl
theorem nn_a2 (k : Nat) : nn k + (2 : Int32) = nn (k + 2) := by rw [n_2, nn_add]
section MR
variable {V : Nat → Nat} {g f0 : GH} {m b : Nat} {z : Nat → Int32} {A : Nat → Nat → Int32} {i : Nat} {c : CS}
/-- a point is laid: where it stands in the row -/
def lay (r : Nat → Int32) (i k : Nat) (x y : Int32) : Nat → Int32 := upd (upd r (7 + 260 * i + 2 * k) x) (8 + 260 * i + 2 * k) y
end MR


/-! ===== the constructors: the reference's, whole ===== -/
theorem tl_B {s : Nat → Int32} {isl : Int32} : ∀ j, j ≤ 33 → (∀ i, i < 2 * j → bd (s i)) → CoB (tl_c s isl j) := by
  intro j
  induction j with
  | zero => intro _ _; exact CoB.new isl
  | succ j ih =>
    intro hj hs
    exact (ih (by omega) (fun i hi => hs i (by omega))).app (by rw [(tl_n s isl j).1]; omega) (hs _ (by omega)) (hs _ (by omega))
theorem tl_V {s : Nat → Int32} {isl : Int32} {L : Nat} (hL : L ≤ 33) (hs : ∀ i, i < 2 * L → bd (s i)) (h : isl = 0 ∧ 2 ≤ L ∨ isl = 1 ∧ 3 ≤ L) : CoV (tl_c s isl L) ∧ cN (tl_c s isl L) ≤ 33 := by
  obtain ⟨n1, n2⟩ := tl_n s isl L
  obtain ⟨b1, b2⟩ := tl_B (isl := isl) L hL hs
  exact ⟨⟨by rw [n1, n2]; exact h, by omega, b2⟩, b1⟩
theorem MSV.ad {T : MS} {c : CS} (h : MSV T) (h6 : T.1 < 6) (hc : CoV c ∧ cN c ≤ 33) : MSV (ms_add T c) := by
  refine ⟨by show T.1 + 1 ≤ 6; omega, fun i hi => ?_⟩
  have hi : i < T.1 + 1 := hi
  show CoV (if i = T.1 then c else T.2 i) ∧ cN (if i = T.1 then c else T.2 i) ≤ 33
  by_cases e : i = T.1
  · rw [if_pos e]; exact hc
  · rw [if_neg e]; exact h.2 i (by omega)
theorem bd_0 : ∀ i, i < 2 * 5 → bd (al_f al_c0 i) := by unfold bd; decide
theorem bd_1 : ∀ i, i < 2 * 4 → bd (al_f al_c1 i) := by unfold bd; decide
theorem bd_2 : ∀ i, i < 2 * 3 → bd (al_f al_c2 i) := by unfold bd; decide
theorem M_0_V : MSV mp_0 := ⟨Nat.zero_le _, fun i hi => absurd hi (Nat.not_lt_zero i)⟩
theorem M_1_V : MSV M_1 := M_0_V.ad (by decide) (tl_V (by decide) bd_0 (Or.inl ⟨rfl, by decide⟩))
theorem M_2_V : MSV M_2 := M_1_V.ad (by decide) (tl_V (by decide) bd_1 (Or.inr ⟨rfl, by decide⟩))
theorem M_3_V : MSV M_3 := M_2_V.ad (by decide) (tl_V (by decide) bd_2 (Or.inr ⟨rfl, by decide⟩))
section KE
variable {V : Nat → Nat} {g f f0 f1 : GH} {x m n k j b : Nat} {z : Nat → Int32} {A : Nat → Nat → Int32} {T : TS}
end KE


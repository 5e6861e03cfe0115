/-! ===== the snapshot is taken ===== -/
section DS
variable {V : Nat → Nat} {g f f0 : GH} {x m b : Nat} {T T0 : TS} {z : Nat → Int32} {A : Nat → Nat → Int32} {hs pc pn : Int32}
theorem P_saveSnapshot (X : XoA f x hs pc pn) (C : ChA f (x + 1) T) (hv : TV T) (S : ChA f (x + 41) T0) : ∃ f1, p_X7_saveSnapshot V g f x = some f1 ∧ XoA f1 x 1 pc pn ∧ ChA f1 (x + 41) T ∧ ∀ a, a ≠ x → (a < x + 41 ∨ x + 61 ≤ a) → f1 a = f a := by
  obtain ⟨f1, e1, S1, o1⟩ := C_copyChart (V := V) (g := g) C hv S (by omega)
  have X1 : XoA f1 x hs pc pn := X.fr (o1 x (by omega))
  have hp : h_pt f1 x 9 3 (.int (1 : Int32)) = some (h_up f1 x (.inr (9, [.ref (x + 1), .ref (x + 21), .ref (x + 41), .int 1, .ref (x + 61), .int pc, .int pn, .ref (x + 62), .ref (x + 64), .ref (x + 65), .ref (x + 66), .ref (x + 70), .ref (x + 73)]))) := hpt_of X1 (by decide : 3 < 13)
  refine ⟨_, ?_, h_up_s _ _ _, S1.frame (fun a h1 h2 => h_up_n f1 _ (by omega)), fun a h1 h2 => (h_up_n f1 _ h1).trans (o1 a (by omega))⟩
  unfold p_X7_saveSnapshot
  rw [X.me, X.sn, ob_s, X.ch, ob_s, e1, ob_s, hp, ob_s]
theorem RT.cg {r r1 : Nat → Int32} (R : RT r T) (hv : TV T) (h : ∀ k, k < 1565 → r1 k = r k) : RT r1 T := by
  have h6 := hv.1
  obtain ⟨h0, h1, h2, h3, h4, h5⟩ := R
  refine ⟨by rw [h 0 (by omega)]; exact h0, by rw [h 1 (by omega)]; exact h1, by rw [h 2 (by omega)]; exact h2, by rw [h 3 (by omega)]; exact h3, by rw [h 4 (by omega)]; exact h4, fun i hi => ?_⟩
  exact (h5 i hi).frame (hv.2.2 i hi).n2 (fun k q1 q2 => h k (by omega))
theorem RT.cp {r s : Nat → Int32} (R : RT r T) (hv : TV T) : RT (va_cpy r s 0 0 1825) T := R.cg hv (fun k hk => by rw [cpy_in (by omega) (by omega), Nat.zero_add, Nat.sub_zero])
end DS


/-! ===== changes: the reference's side ===== -/
/-- nothing but row b changed -/
def RB (b : Nat) (A A1 : Nat → Nat → Int32) : Prop := ∀ r, r ≠ b → A1 r = A r
theorem RB.rf (b : Nat) (A : Nat → Nat → Int32) : RB b A A := fun _ _ => rfl
theorem RB.tr {b : Nat} {A A1 A2 : Nat → Nat → Int32} (h : RB b A A1) (k : RB b A1 A2) : RB b A A2 := fun r hr => (k r hr).trans (h r hr)
theorem RB.up {b : Nat} {A A1 : Nat → Nat → Int32} (h : RB b A A1) (r : Nat → Int32) : RB b A (upA A1 b r) := fun j hj => (upA_n A1 r hj).trans (h j hj)
theorem SC.rb {b : Nat} {A A1 : Nat → Nat → Int32} (h : SC b A A1) : RB b A A1 := fun r hr => funext (fun k => h r k (Or.inl hr))
theorem RT.set {r r1 : Nat → Int32} {T : TS} {i : Nat} {c : CS} {A' R' : Int32} (R : RT r T) (hv : TV T) (h0 : r1 0 = r 0) (h1 : r1 1 = r 1) (h2 : r1 2 = r 2) (h3 : r1 3 = A') (h4 : r1 4 = R') (hc : RC r1 i c) (ho : ∀ k, 5 ≤ k → k < 1565 → (k < 5 + 260 * i ∨ 265 + 260 * i ≤ k) → r1 k = r k) : RT r1 (tN T, tK T, tL T, A', R', fun j => if j = i then c else tC T j) := by
  obtain ⟨q0, q1, q2, q3, q4, q5⟩ := R
  refine ⟨h0.trans q0, h1.trans q1, h2.trans q2, h3, h4, fun j hj => ?_⟩
  have hj : j < tN T := hj
  have h6 := hv.1
  show RC r1 j (if j = i then c else tC T j)
  by_cases e : j = i
  · rw [if_pos e, e]; exact hc
  · rw [if_neg e]
    exact (q5 j hj).frame (hv.2.2 j hj).n2 (fun k k1 k2 => ho k (by omega) (by omega) (by omega))
section MD
variable {V : Nat → Nat} {g f0 : GH} {m b : Nat} {z : Nat → Int32} {A : Nat → Nat → Int32} {T : TS} {i : Nat} {c : CS}
theorem m_lr (hb : b < 2) {k : Nat} (hk : k < 1825) : h_li (mH V m b z A f0) (m + 1 + b) 0 (nn k) = some (A b k) := m_li (by omega) (by rw [mL_row hb]; exact hk)
theorem m_sr (hb : b < 2) {k : Nat} (hk : k < 1825) (v : Int32) : h_si (mH V m b z A f0) (m + 1 + b) 0 (nn k) v = some (mH V m b z (upA A b (upd (A b) k v)) f0) := m_si (by omega) (by rw [mL_row hb]; exact hk)
theorem m_l0 (hb : b < 2) : h_li (mH V m b z A f0) (m + 1 + b) 0 (0 : Int32) = some (A b 0) := m_lr hb (k := 0) (by decide)
theorem m_l1 (hb : b < 2) : h_li (mH V m b z A f0) (m + 1 + b) 0 (1 : Int32) = some (A b 1) := m_lr hb (k := 1) (by decide)
theorem m_l2 (hb : b < 2) : h_li (mH V m b z A f0) (m + 1 + b) 0 (2 : Int32) = some (A b 2) := m_lr hb (k := 2) (by decide)
theorem m_l3 (hb : b < 2) : h_li (mH V m b z A f0) (m + 1 + b) 0 (3 : Int32) = some (A b 3) := m_lr hb (k := 3) (by decide)
theorem m_l4 (hb : b < 2) : h_li (mH V m b z A f0) (m + 1 + b) 0 (4 : Int32) = some (A b 4) := m_lr hb (k := 4) (by decide)
theorem m_s0 (hb : b < 2) (v : Int32) : h_si (mH V m b z A f0) (m + 1 + b) 0 (0 : Int32) v = some (mH V m b z (upA A b (upd (A b) 0 v)) f0) := m_sr hb (k := 0) (by decide) v
theorem m_s1 (hb : b < 2) (v : Int32) : h_si (mH V m b z A f0) (m + 1 + b) 0 (1 : Int32) v = some (mH V m b z (upA A b (upd (A b) 1 v)) f0) := m_sr hb (k := 1) (by decide) v
theorem m_s2 (hb : b < 2) (v : Int32) : h_si (mH V m b z A f0) (m + 1 + b) 0 (2 : Int32) v = some (mH V m b z (upA A b (upd (A b) 2 v)) f0) := m_sr hb (k := 2) (by decide) v
theorem m_s3 (hb : b < 2) (v : Int32) : h_si (mH V m b z A f0) (m + 1 + b) 0 (3 : Int32) v = some (mH V m b z (upA A b (upd (A b) 3 v)) f0) := m_sr hb (k := 3) (by decide) v
theorem m_s4 (hb : b < 2) (v : Int32) : h_si (mH V m b z A f0) (m + 1 + b) 0 (4 : Int32) v = some (mH V m b z (upA A b (upd (A b) 4 v)) f0) := m_sr hb (k := 4) (by decide) v
theorem at_1 (i : Nat) : nn (5 + 260 * i) + (1 : Int32) = nn (6 + 260 * i) := by rw [nn_s]; congr 1; omega
theorem RC.pts {r : Nat → Int32} (h : RC r i c) : Pts r i 0 (cN c) (cX c) (cY c) := fun k _ hk => h.2.2 k hk
theorem lay_out (r : Nat → Int32) {i k j : Nat} (hk : k < 129) (x y : Int32) (hj : j < 7 + 260 * i ∨ 265 + 260 * i ≤ j) : lay r i k x y j = r j := lay_n r i k x y (by omega) (by omega)
end MD


/-! ===== act: a coastline added ===== -/
section AA
variable {V : Nat → Nat} {g f : GH} {x y u p bl L n : Nat} {T S : TS} {H : Nat → TS} {hs cc : Int32} {bs B : Nat → Int32}
theorem BR_nn {a : Nat} (h : a < 128) : BR (nn a) (nn a) := Or.inl ⟨by rw [nn_i (by omega)]; omega, by rw [nn_i (by omega)]; omega, rfl⟩
theorem TG.add (h : TG T) (h6 : tN T < 6) {c : CS} (hc : CoV c) : TG (ts_add T c) := by
  refine ⟨⟨by show tN T + 1 ≤ 6; omega, h.1.2.1, fun i hi => ?_⟩, h.2.add c⟩
  have hi : i < tN T + 1 := hi
  show CoV (if i = tN T then c else tC T i)
  by_cases e : i = tN T
  · rw [if_pos e]; exact hc
  · rw [if_neg e]; exact h.1.2.2 i (by omega)
theorem J_add (S0 : StOK V g) (I : JV V f x T hs u p H S bl bs cc) (h6 : tN T < 6) (hL : L ≤ bl) (hB : ∀ i, i < L → BR (bs i) (B i)) (h0 : pE (ps_lone B L) = 0) : ∃ f9 bs9, p_X7_addCoast V g f x (nn L) = some (.inr (nn (tN T), f9)) ∧ JV V f9 x (ts_add T (c_lone B L)) hs (h_pu u) (h_pp p) (h_pH u H T) S 0 bs9 0 ∧ ∀ b, b < x ∨ x + 235 ≤ b → f9 b = f b := by
  obtain ⟨⟨i1, i2, i3, ⟨T0, i4⟩, ⟨T1, i5⟩, i6⟩, ⟨v0, a0, q0, r0, w0, k, c0, i7⟩, ⟨c1, i8⟩, i9, ⟨len, kd, st, nx, t1, t2⟩, ⟨oo, it, kg, g1, g2⟩, i12, i13, i14, i15, i16, i17⟩ := I
  obtain ⟨f9, it1, e1, e2, e3, e4, e5, -⟩ := P_add (V := V) (g := g) S0 i1 i2 i12.1 i3 i15 i16 h6 i7 i9 hL t1 t2 g1 hB
  obtain ⟨e6, e7, e8⟩ := e5 h0
  rw [if_pos h0] at e1
  refine ⟨f9, bs, e1, ⟨⟨e6, e7, e8, ⟨T0, i4.frame (fun a h1 h2 => e4 a (by omega) (by omega))⟩, ⟨T1, i5.frame (fun a h1 h2 => e4 a (by omega) (by omega))⟩, fun h => (i6 h).frame (fun a h1 h2 => e4 a (by omega) (by omega))⟩, e3, ⟨c1, i8.frame (fun a h1 h2 => e4 a (by omega) (by omega))⟩, by omega, ⟨_, _, _, _, e2.1, e2.2.1⟩, ⟨pO (ps_adv B L (ps_lone B L)), it1, kg, ?_, g2⟩, i12.add h6 (lone_0 h0).1, pH_all i12 i13, i14, pu_8 i15, pp_8 i16, i17⟩, fun b hb => e4 b (by omega) (by omega)⟩
  have := e2.2.2
  rw [adv_EO.1, h0] at this
  exact this
end AA

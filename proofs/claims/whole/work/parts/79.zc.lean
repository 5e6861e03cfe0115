/-! ===== the law's constructors ===== -/
section KF
variable {V : Nat → Nat} {g f f0 f1 : GH} {x m n k j b : Nat} {z : Nat → Int32} {A : Nat → Nat → Int32} {T : TS}
def mN : List Value := [.null, .null, .null, .null, .null, .null, .int 0, .int 0, .int 0, .int 0, .null, .int 0, .null, .int 0, .int 0, .int 0, .int 0, .int 0, .int 0, .int 0, .int 0, .int 0, .null, .null, .null, .int 0]
theorem I_X8 (S : StOK V g) (f : GH) (m : Nat) : ∃ A1 f1, p_X8_init V g (h_up f m (.inr (10, [.null, .null, .null, .null, .null, .null, .int 0, .int 0, .int 0, .int 0, .null, .int 0, .null, .int 0, .int 0, .int 0, .int 0, .int 0, .int 0, .int 0, .int 0, .int 0, .null, .null, .null, .int 0]))) (m + 1) m = some (f1, m + 11) ∧ MR V m 0 z_0 A1 f1 ∧ RT (A1 0) (T_new M_3 0) ∧ ∀ a, (a < m ∨ m + 11 ≤ a) → f1 a = f a := by
  have c0 : h_up f m (.inr (10, [.null, .null, .null, .null, .null, .null, .int 0, .int 0, .int 0, .int 0, .null, .int 0, .null, .int 0, .int 0, .int 0, .int 0, .int 0, .int 0, .int 0, .int 0, .int 0, .null, .null, .null, .int 0])) m = some (.inr (10, [.null, .null, .null, .null, .null, .null, .int 0, .int 0, .int 0, .int 0, .null, .int 0, .null, .int 0, .int 0, .int 0, .int 0, .int 0, .int 0, .int 0, .int 0, .int 0, .null, .null, .null, .int 0])) := h_up_s _ _ _
  have o0 : ∀ a, a ≠ m → h_up f m (.inr (10, [.null, .null, .null, .null, .null, .null, .int 0, .int 0, .int 0, .int 0, .null, .int 0, .null, .int 0, .int 0, .int 0, .int 0, .int 0, .int 0, .int 0, .int 0, .int 0, .null, .null, .null, .int 0])) a = f a := fun a ha => h_up_n f _ ha
  generalize h_up f m (.inr (10, [.null, .null, .null, .null, .null, .null, .int 0, .int 0, .int 0, .int 0, .null, .int 0, .null, .int 0, .int 0, .int 0, .int 0, .int 0, .int 0, .int 0, .int 0, .int 0, .null, .null, .null, .int 0])) = F0 at *
  have up : ∀ (F : GH) (n L : Nat) (l : List Value), F m = some (.inr (10, l)) → n ≠ m → ∃ G, h_up F n (.inl (0, L, .inl fun _ => 0)) = G ∧ G m = some (.inr (10, l)) ∧ G n = some (.inl (0, L, .inl fun _ => 0)) ∧ ∀ a, a ≠ n → G a = F a := fun F n L l h hn => ⟨_, rfl, (h_up_n F _ (Ne.symm hn)).trans h, h_up_s _ _ _, fun a ha => h_up_n F _ ha⟩
  obtain ⟨G1, u1, g1, k1, w1⟩ := up F0 (m + 1) 1825 _ c0 (by omega)
  obtain ⟨F1, e1, c1, o1⟩ := I_pt g1 0 (by simp) (.ref (m + 1))
  obtain ⟨G2, u2, g2, k2, w2⟩ := up F1 (m + 1 + 1) 1825 _ c1 (by omega)
  obtain ⟨F2, e2, c2, o2⟩ := I_pt g2 1 (by simp) (.ref (m + 1 + 1))
  obtain ⟨G3, u3, g3, k3, w3⟩ := up F2 (m + 1 + 2) 1825 _ c2 (by omega)
  obtain ⟨F3, e3, c3, o3⟩ := I_pt g3 2 (by simp) (.ref (m + 1 + 2))
  obtain ⟨G4, u4, g4, k4, w4⟩ := up F3 (m + 1 + 3) 1825 _ c3 (by omega)
  obtain ⟨F4, e4, c4, o4⟩ := I_pt g4 3 (by simp) (.ref (m + 1 + 3))
  obtain ⟨G5, u5, g5, k5, w5⟩ := up F4 (m + 1 + 4) 14600 _ c4 (by omega)
  obtain ⟨F5, e5, c5, o5⟩ := I_pt g5 4 (by simp) (.ref (m + 1 + 4))
  obtain ⟨F6, e6, c6, o6⟩ := I_pt c5 5 (by simp) (.ref (m + 1))
  obtain ⟨G7, u7, g7, k7, w7⟩ := up F6 (m + 1 + 5) 100 _ c6 (by omega)
  obtain ⟨F7, e7, c7, o7⟩ := I_pt g7 10 (by simp) (.ref (m + 1 + 5))
  obtain ⟨G8, u8, g8, k8, w8⟩ := up F7 (m + 1 + 5 + 1) 700 _ c7 (by omega)
  obtain ⟨F8, e8, c8, o8⟩ := I_pt g8 12 (by simp) (.ref (m + 1 + 5 + 1))
  obtain ⟨F9, e9, c9, o9⟩ := I_pt c8 20 (by simp) (.int (-1))
  obtain ⟨G10, u10, g10, k10, w10⟩ := up F9 (m + 1 + 5 + 2) 68 _ c9 (by omega)
  obtain ⟨F10, e10, c10, o10⟩ := I_pt g10 22 (by simp) (.ref (m + 1 + 5 + 2))
  obtain ⟨G11, u11, g11, k11, w11⟩ := up F10 (m + 1 + 5 + 3) 1460 _ c10 (by omega)
  obtain ⟨F11, e11, c11, o11⟩ := I_pt g11 23 (by simp) (.ref (m + 1 + 5 + 3))
  obtain ⟨G12, e12, k12, w12⟩ := I_words (V := V) (g := g) S F11 (m + 1 + 5 + 4)
  have g12 := (w12 m (by omega)).trans c11
  obtain ⟨F12, e13, c13, o13⟩ := I_pt g12 24 (by simp) (.ref (m + 1 + 5 + 4))
  have hM : MR V m 0 z_0 (fun _ _ => 0) F12 := by
    unfold MR
    funext a
    unfold mH
    by_cases h : a = m
    · rw [if_pos h, h]; exact c13
    · rw [if_neg h]
      by_cases h1 : m + 1 ≤ a ∧ a < m + 10
      · rw [if_pos h1]
        have ha : a = m + 1 ∨ a = m + 1 + 1 ∨ a = m + 1 + 2 ∨ a = m + 1 + 3 ∨ a = m + 1 + 4 ∨ a = m + 1 + 5 ∨ a = m + 1 + 5 + 1 ∨ a = m + 1 + 5 + 2 ∨ a = m + 1 + 5 + 3 := by omega
        rcases ha with q | q | q | q | q | q | q | q | q
        · rw [q, Nat.sub_self, o13 _ (by omega), w12 _ (by omega), o11 _ (by omega), w11 _ (by omega), o10 _ (by omega), w10 _ (by omega), o9 _ (by omega), o8 _ (by omega), w8 _ (by omega), o7 _ (by omega), w7 _ (by omega), o6 _ (by omega), o5 _ (by omega), w5 _ (by omega), o4 _ (by omega), w4 _ (by omega), o3 _ (by omega), w3 _ (by omega), o2 _ (by omega), w2 _ (by omega), o1 _ (by omega), k1]; rfl
        · rw [show a - (m + 1) = 1 by omega, q, o13 _ (by omega), w12 _ (by omega), o11 _ (by omega), w11 _ (by omega), o10 _ (by omega), w10 _ (by omega), o9 _ (by omega), o8 _ (by omega), w8 _ (by omega), o7 _ (by omega), w7 _ (by omega), o6 _ (by omega), o5 _ (by omega), w5 _ (by omega), o4 _ (by omega), w4 _ (by omega), o3 _ (by omega), w3 _ (by omega), o2 _ (by omega), k2]; rfl
        · rw [show a - (m + 1) = 2 by omega, q, o13 _ (by omega), w12 _ (by omega), o11 _ (by omega), w11 _ (by omega), o10 _ (by omega), w10 _ (by omega), o9 _ (by omega), o8 _ (by omega), w8 _ (by omega), o7 _ (by omega), w7 _ (by omega), o6 _ (by omega), o5 _ (by omega), w5 _ (by omega), o4 _ (by omega), w4 _ (by omega), o3 _ (by omega), k3]; rfl
        · rw [show a - (m + 1) = 3 by omega, q, o13 _ (by omega), w12 _ (by omega), o11 _ (by omega), w11 _ (by omega), o10 _ (by omega), w10 _ (by omega), o9 _ (by omega), o8 _ (by omega), w8 _ (by omega), o7 _ (by omega), w7 _ (by omega), o6 _ (by omega), o5 _ (by omega), w5 _ (by omega), o4 _ (by omega), k4]; rfl
        · rw [show a - (m + 1) = 4 by omega, q, o13 _ (by omega), w12 _ (by omega), o11 _ (by omega), w11 _ (by omega), o10 _ (by omega), w10 _ (by omega), o9 _ (by omega), o8 _ (by omega), w8 _ (by omega), o7 _ (by omega), w7 _ (by omega), o6 _ (by omega), o5 _ (by omega), k5]; rfl
        · rw [show a - (m + 1) = 5 by omega, q, o13 _ (by omega), w12 _ (by omega), o11 _ (by omega), w11 _ (by omega), o10 _ (by omega), w10 _ (by omega), o9 _ (by omega), o8 _ (by omega), w8 _ (by omega), o7 _ (by omega), k7]; rfl
        · rw [show a - (m + 1) = 6 by omega, q, o13 _ (by omega), w12 _ (by omega), o11 _ (by omega), w11 _ (by omega), o10 _ (by omega), w10 _ (by omega), o9 _ (by omega), o8 _ (by omega), k8]; rfl
        · rw [show a - (m + 1) = 7 by omega, q, o13 _ (by omega), w12 _ (by omega), o11 _ (by omega), w11 _ (by omega), o10 _ (by omega), k10]; rfl
        · rw [show a - (m + 1) = 8 by omega, q, o13 _ (by omega), w12 _ (by omega), o11 _ (by omega), k11]; rfl
      · rw [if_neg h1]
        by_cases h2 : a = m + 10
        · rw [if_pos h2, o13 _ (by omega), show a = m + 1 + 5 + 4 by omega]; exact k12
        · rw [if_neg h2]
  obtain ⟨A1, e14, R14⟩ := I_t3 (V := V) (g := g) (m := m) (n := m + 1 + 5 + 4 + 1) (z := z_0) (fun _ _ => 0) F12 ⟨rfl, rfl, rfl, rfl, rfl, fun i hi => absurd hi (Nat.not_lt_zero i)⟩
  rw [← (show F12 = mH V m 0 z_0 (fun _ _ => 0) F12 from hM)] at e14
  refine ⟨A1, mH V m 0 z_0 A1 F12, ?_, MR.mk, R14, fun a ha => ?_⟩
  · unfold p_X8_init
    rw [hme_of c0, ob_s, u1, e1, ob_s, ob_s, u2, e2, ob_s, ob_s]
    rw [show m + 1 + 2 = m + 1 + 2 from rfl, u3, e3, ob_s, ob_s, u4, e4, ob_s, ob_s, u5, e5, ob_s]
    unfold p_X8_init_s1
    rw [hgr_of c5 rfl, ob_s, e6, ob_s, ob_s, u7, e7, ob_s, ob_s, u8, e8, ob_s, e9, ob_s, ob_s, u10, e10, ob_s, ob_s, u11, e11, ob_s]
    unfold p_X8_init_s2
    simp only [← Option.bind_assoc] at e12 ⊢
    rw [e12, ob_s, e13, ob_s]
    exact e14
  · rw [mH_out a (by omega), o13 a (by omega), w12 a (by omega), o11 a (by omega), w11 a (by omega), o10 a (by omega), w10 a (by omega), o9 a (by omega), o8 a (by omega), w8 a (by omega), o7 a (by omega), w7 a (by omega), o6 a (by omega), o5 a (by omega), w5 a (by omega), o4 a (by omega), w4 a (by omega), o3 a (by omega), w3 a (by omega), o2 a (by omega), w2 a (by omega), o1 a (by omega), w1 a (by omega), o0 a (by omega)]
end KF

/-! ===== the constructors: the class's beginning ===== -/
section KC
variable {V : Nat → Nat} {g f f1 : GH} {x n k j : Nat}
theorem I_sb (f : GH) (q : Nat) : ∃ f1, p_J4_init_da8c8 V g (h_up f q (.inr (1, [.null, .int 0, .int 0, .int 0]))) (q + 1) q = some (f1, q + 2) ∧ f1 q = some (.inr (1, [.ref (q + 1), .int 0, .int 0, .int 0])) ∧ f1 (q + 1) = some (.inl (1, 16, .inl fun _ => 0)) ∧ h_out q (q + 2) f f1 := by
  have c0 : h_up f q (.inr (1, [.null, .int 0, .int 0, .int 0])) q = some (.inr (1, [.null, .int 0, .int 0, .int 0])) := h_up_s _ _ _
  have o0 : ∀ a, a ≠ q → h_up f q (.inr (1, [.null, .int 0, .int 0, .int 0])) a = f a := fun a ha => h_up_n f _ ha
  generalize h_up f q (.inr (1, [.null, .int 0, .int 0, .int 0])) = F0 at *
  have c1 : h_up F0 (q + 1) (.inl (1, 16, .inl fun _ => 0)) q = _ := (h_up_n _ _ (by omega)).trans c0
  obtain ⟨F2, e2, c2, o2⟩ := I_pt c1 0 (by simp) (.ref (q + 1))
  obtain ⟨F3, e3, c3, o3⟩ := I_pt c2 1 (by simp) (.int 0)
  have hnv : h_nv F0 (q + 1) 1 (16 : Int32) 200 = some (h_up F0 (q + 1) (.inl (1, 16, .inl fun _ => 0))) := by
    unfold h_nv
    rw [show (16 : Int32).toNatClampNeg = 16 from rfl, if_pos ⟨by decide, by decide⟩]
  refine ⟨F3, ?_, c3, by rw [o3 _ (by omega), o2 _ (by omega), h_up_s], fun a ha => by rw [o3 _ (by omega), o2 _ (by omega), h_up_n _ _ (by omega), o0 _ (by omega)]⟩
  unfold p_J4_init_da8c8 p_J5_init_d00df
  rw [hme_of c0, hme_of c0, hnv, ob_s, e2, ob_s, e3, ob_s, ob_s]
theorem I_tok (f : GH) (q : Nat) : ∃ f1, p_X5_init V g (h_up f q (.inr (8, [.null, .int 0, .int 0, .int 0, .int 0, .int 0]))) (q + 1) q = some (f1, q + 2) ∧ f1 q = some (.inr (8, [.ref (q + 1), .int 0, .int 0, .int 0, .int 0, .int 0])) ∧ f1 (q + 1) = some (.inl (1, 700, .inl fun _ => 0)) ∧ h_out q (q + 2) f f1 := by
  have c0 : h_up f q (.inr (8, [.null, .int 0, .int 0, .int 0, .int 0, .int 0])) q = some (.inr (8, [.null, .int 0, .int 0, .int 0, .int 0, .int 0])) := h_up_s _ _ _
  have o0 : ∀ a, a ≠ q → h_up f q (.inr (8, [.null, .int 0, .int 0, .int 0, .int 0, .int 0])) a = f a := fun a ha => h_up_n f _ ha
  generalize h_up f q (.inr (8, [.null, .int 0, .int 0, .int 0, .int 0, .int 0])) = F0 at *
  have c1 : h_up F0 (q + 1) (.inl (1, 700, .inl fun _ => 0)) q = _ := (h_up_n _ _ (by omega)).trans c0
  obtain ⟨F2, e2, c2, o2⟩ := I_pt c1 0 (by simp) (.ref (q + 1))
  refine ⟨F2, ?_, c2, by rw [o2 _ (by omega), h_up_s], fun a ha => by rw [o2 _ (by omega), h_up_n _ _ (by omega), o0 _ (by omega)]⟩
  unfold p_X5_init
  rw [hme_of c0, ob_s, e2, ob_s]
theorem I_gr (f : GH) (q t : Nat) : ∃ f1, p_X4_init V g (h_up f q (.inr (7, [.null, .int 0, .int 0, .int 0, .int 0]))) q t = some f1 ∧ f1 q = some (.inr (7, [.ref t, .int 0, .int (-1), .int 0, .int 0])) ∧ ∀ a, a ≠ q → f1 a = f a := by
  have c0 : h_up f q (.inr (7, [.null, .int 0, .int 0, .int 0, .int 0])) q = some (.inr (7, [.null, .int 0, .int 0, .int 0, .int 0])) := h_up_s _ _ _
  have o0 : ∀ a, a ≠ q → h_up f q (.inr (7, [.null, .int 0, .int 0, .int 0, .int 0])) a = f a := fun a ha => h_up_n f _ ha
  generalize h_up f q (.inr (7, [.null, .int 0, .int 0, .int 0, .int 0])) = F0 at *
  obtain ⟨F2, e2, c2, o2⟩ := I_pt c0 2 (by simp) (.int (-1))
  obtain ⟨F3, e3, c3, o3⟩ := I_pt c2 0 (by simp) (.ref t)
  refine ⟨F3, ?_, c3, fun a ha => by rw [o3 _ ha, o2 _ ha, o0 _ ha]⟩
  unfold p_X4_init
  rw [hme_of c0, e2, ob_s, e3, ob_s]
def BA (f : GH) (x : Nat) (l : List Value) : Prop := f x = some (.inr (9, l)) ∧ ChF f (x + 1) mp_0 ∧ ChF f (x + 21) mp_0 ∧ ChF f (x + 41) mp_0 ∧ f (x + 61) = some (.inl (4, 8, .inr (.inr (.inr (.inr fun _ => none))))) ∧ f (x + 62) = some (.inr (8, [.ref (x + 63), .int 0, .int 0, .int 0, .int 0, .int 0])) ∧ f (x + 63) = some (.inl (1, 700, .inl fun _ => 0))
theorem BA.fr {l l1 : List Value} (B : BA f x l) (hx : f1 x = some (.inr (9, l1))) (e : ∀ a, x + 1 ≤ a → a < x + 64 → f1 a = f a) : BA f1 x l1 := by
  obtain ⟨_, b2, b3, b4, b5, b6, b7⟩ := B
  exact ⟨hx, b2.frame (fun a h1 h2 => e a (by omega) (by omega)), b3.frame (fun a h1 h2 => e a (by omega) (by omega)), b4.frame (fun a h1 h2 => e a (by omega) (by omega)), (e _ (by omega) (by omega)).trans b5, (e _ (by omega) (by omega)).trans b6, (e _ (by omega) (by omega)).trans b7⟩
def BB (V : Nat → Nat) (f : GH) (x : Nat) (l : List Value) : Prop := BA f x l ∧ f (x + 64) = some (.inr (7, [.ref (x + 62), .int 0, .int (-1), .int 0, .int 0])) ∧ f (x + 65) = some (.inl (6, 20, .inr (.inr (.inr (.inr fun _ => none))))) ∧ CmA f (x + 66) V 11 0 0 0 0 0 (c_new 0) ∧ CoA f (x + 70) 129 (c_new 0)
theorem I_s2 (S : StOK V g) (B : BB V f x [.ref (x + 1), .ref (x + 21), .ref (x + 41), .int 0, .ref (x + 61), .int 0, .int 0, .ref (x + 62), .ref (x + 64), .ref (x + 65), .ref (x + 66), .ref (x + 70), .null]) : ∃ f1, p_X7_init_s2 V g x f (x + 73) = some (f1, x + 315) ∧ FIN V f1 x ∧ ∀ c, (c < x ∨ x + 315 ≤ c) → f1 c = f c := by
  obtain ⟨⟨b1, b2, b3, b4, b5, b6, b7⟩, b8, b9, b10, b11⟩ := B
  obtain ⟨F1, e1, k1, k2, o1⟩ := I_sb (V := V) (g := g) f (x + 73)
  have c1 := (o1 x (by omega)).trans b1
  obtain ⟨F2, e2, c2, o2⟩ := I_pt c1 12 (by simp) (.ref (x + 73))
  have e : ∀ a, a ≠ x → (a < x + 73 ∨ x + 75 ≤ a) → F2 a = f a := fun a h1 h2 => (o2 a h1).trans (o1 a (by omega))
  have R : RD V F2 x mp_0 0 0 := ⟨c2, b2.frame (fun a h1 h2 => e a (by omega) (by omega)), ⟨b3.frame (fun a h1 h2 => e a (by omega) (by omega)), b4.frame (fun a h1 h2 => e a (by omega) (by omega)), (e _ (by omega) (by omega)).trans b6, (e _ (by omega) (by omega)).trans b7, (e _ (by omega) (by omega)).trans b8, b10.frame (fun a h1 h2 => e a (by omega) (by omega)), b11.frame (fun a h1 h2 => e a (by omega) (by omega)), (o2 _ (by omega)).trans k1, (o2 _ (by omega)).trans k2⟩, ⟨_, (e _ (by omega) (by omega)).trans b5, fun j hj => absurd hj (Nat.not_lt_zero j)⟩, ⟨_, (e _ (by omega) (by omega)).trans b9, fun j hj => absurd hj (Nat.not_lt_zero j)⟩⟩
  obtain ⟨r1, a1, d1, s1, t1, P1, q1⟩ := R.pa (g := g) (n := x + 73 + 2) (c := 0) (by decide) rfl rfl
  obtain ⟨f3, e3, F3, o3⟩ := I_s3 S P1
  refine ⟨f3, ?_, F3, fun c hc => by rw [o3 c hc, q1 c hc, e c (by omega) (by omega)]⟩
  unfold p_X7_init_s2
  rw [ob_s, e1, ob_s]
  dsimp only
  rw [e2, ob_s, r1, ob_s, ob_s, s1, ob_s]
  dsimp only
  rw [t1, ob_s]
  exact e3
theorem I_s1 (S : StOK V g) (B : BA f x [.ref (x + 1), .ref (x + 21), .ref (x + 41), .int 0, .ref (x + 61), .int 0, .int 0, .ref (x + 62), .null, .null, .null, .null, .null]) : ∃ f1, p_X7_init_s1 V g x f (x + 64) = some (f1, x + 315) ∧ FIN V f1 x ∧ ∀ c, (c < x ∨ x + 315 ≤ c) → f1 c = f c := by
  obtain ⟨F1, e1, k1, o1⟩ := I_gr (V := V) (g := g) f (x + 64) (x + 62)
  have x1 : F1 x = _ := (o1 x (by omega)).trans B.1
  obtain ⟨F2, e2, x2, o2⟩ := I_pt x1 8 (by simp) (.ref (x + 64))
  have x3 : h_up F2 (x + 64 + 1) (.inl (6, 20, .inr (.inr (.inr (.inr fun _ => none))))) x = _ := (h_up_n _ _ (by omega)).trans x2
  obtain ⟨F4, e4, x4, o4⟩ := I_pt x3 9 (by simp) (.ref (x + 64 + 1))
  obtain ⟨F5, e5, k5, o5⟩ := I_cm (V := V) (g := g) F4 (x + 64 + 2)
  have x5 := (o5 x (by omega)).trans x4
  obtain ⟨F6, e6, x6, o6⟩ := I_pt x5 10 (by simp) (.ref (x + 64 + 2))
  obtain ⟨F7, e7, k7, o7⟩ := I_co (V := V) (g := g) F6 (x + 64 + 2 + 4) (cap := 129) (by decide)
  have x7 := (o7 x (by omega)).trans x6
  obtain ⟨F8, e8, x8, o8⟩ := I_pt x7 11 (by simp) (.ref (x + 64 + 2 + 4))
  have hg : h_gr (h_up f (x + 64) (.inr (7, [.null, .int 0, .int 0, .int 0, .int 0]))) x 9 7 = some (x + 62) := hgr_of ((h_up_n _ _ (by omega)).trans B.1) rfl
  have eA : ∀ a, a ≠ x → a ≠ x + 64 → (a < x + 65 ∨ x + 73 ≤ a) → F8 a = f a := fun a h1 h2 h3 => by
    rw [o8 a h1, o7 a (by omega), o6 a h1, o5 a (by omega), o4 a h1, h_up_n _ _ (by omega), o2 a h1, o1 a h2]
  have BB8 : BB V F8 x [.ref (x + 1), .ref (x + 21), .ref (x + 41), .int 0, .ref (x + 61), .int 0, .int 0, .ref (x + 62), .ref (x + 64), .ref (x + 65), .ref (x + 66), .ref (x + 70), .null] := by
    refine ⟨B.fr x8 (fun a h1 h2 => eA a (by omega) (by omega) (by omega)), ?_, ?_, k5.frame (fun a h1 h2 => ?_), k7.frame (fun a h1 h2 => o8 a (by omega))⟩
    · rw [o8 _ (by omega), o7 _ (by omega), o6 _ (by omega), o5 _ (by omega), o4 _ (by omega), h_up_n _ _ (by omega), o2 _ (by omega)]; exact k1
    · rw [o8 _ (by omega), o7 _ (by omega), o6 _ (by omega), o5 _ (by omega), o4 _ (by omega)]; exact h_up_s _ _ _
    · rw [o8 _ (by omega), o7 _ (by omega), o6 _ (by omega)]
  obtain ⟨f3, e9, F9, o9⟩ := I_s2 S BB8
  refine ⟨f3, ?_, F9, fun c hc => by rw [o9 c hc, eA c (by omega) (by omega) (by omega)]⟩
  unfold p_X7_init_s1
  rw [ob_s, hg, ob_s, e1, ob_s, e2, ob_s, ob_s, e4, ob_s, ob_s, show x + 64 + 3 = x + 64 + 2 + 1 from rfl, e5, ob_s]
  dsimp only
  rw [e6, ob_s, ob_s, show (129 : Int32) = nn 129 from rfl, e7, ob_s]
  dsimp only
  rw [e8, ob_s]
  exact e9
theorem I_X7 (S : StOK V g) (f : GH) (x : Nat) : ∃ f1, p_X7_init V g (h_up f x (.inr (9, [.null, .null, .null, .int 0, .null, .int 0, .int 0, .null, .null, .null, .null, .null, .null]))) (x + 1) x = some (f1, x + 315) ∧ FIN V f1 x ∧ ∀ c, (c < x ∨ x + 315 ≤ c) → f1 c = f c := by
  have c0 : h_up f x (.inr (9, [.null, .null, .null, .int 0, .null, .int 0, .int 0, .null, .null, .null, .null, .null, .null])) x = some (.inr (9, [.null, .null, .null, .int 0, .null, .int 0, .int 0, .null, .null, .null, .null, .null, .null])) := h_up_s _ _ _
  have o0 : ∀ a, a ≠ x → h_up f x (.inr (9, [.null, .null, .null, .int 0, .null, .int 0, .int 0, .null, .null, .null, .null, .null, .null])) a = f a := fun a ha => h_up_n f _ ha
  generalize h_up f x (.inr (9, [.null, .null, .null, .int 0, .null, .int 0, .int 0, .null, .null, .null, .null, .null, .null])) = F0 at *
  obtain ⟨F1, e1, k1, o1⟩ := I_ch (V := V) (g := g) F0 (x + 1)
  have x1 := (o1 x (by omega)).trans c0
  obtain ⟨F2, e2, x2, o2⟩ := I_pt x1 0 (by simp) (.ref (x + 1))
  obtain ⟨F3, e3, k3, o3⟩ := I_ch (V := V) (g := g) F2 (x + 1 + 20)
  have x3 := (o3 x (by omega)).trans x2
  obtain ⟨F4, e4, x4, o4⟩ := I_pt x3 1 (by simp) (.ref (x + 1 + 20))
  obtain ⟨F5, e5, k5, o5⟩ := I_ch (V := V) (g := g) F4 (x + 1 + 20 + 20)
  have x5 := (o5 x (by omega)).trans x4
  obtain ⟨F6, e6, x6, o6⟩ := I_pt x5 2 (by simp) (.ref (x + 1 + 20 + 20))
  have x7 : h_up F6 (x + 1 + 20 + 20 + 20) (.inl (4, 8, .inr (.inr (.inr (.inr fun _ => none))))) x = _ := (h_up_n _ _ (by omega)).trans x6
  obtain ⟨F8, e8, x8, o8⟩ := I_pt x7 4 (by simp) (.ref (x + 1 + 20 + 20 + 20))
  obtain ⟨F9, e9, k9, k9', o9⟩ := I_tok (V := V) (g := g) F8 (x + 1 + 20 + 20 + 20 + 1)
  have x9 := (o9 x (by omega)).trans x8
  obtain ⟨F10, e10, x10, o10⟩ := I_pt x9 7 (by simp) (.ref (x + 1 + 20 + 20 + 20 + 1))
  have B : BA F10 x [.ref (x + 1), .ref (x + 21), .ref (x + 41), .int 0, .ref (x + 61), .int 0, .int 0, .ref (x + 62), .null, .null, .null, .null, .null] := by
    refine ⟨x10, k1.frame (fun a h1 h2 => ?_), (show ChF F3 (x + 21) mp_0 from k3).frame (fun a h1 h2 => ?_), (show ChF F5 (x + 41) mp_0 from k5).frame (fun a h1 h2 => ?_), ?_, (o10 _ (by omega)).trans k9, (o10 _ (by omega)).trans k9'⟩
    · rw [o10 a (by omega), o9 a (by omega), o8 a (by omega), h_up_n _ _ (by omega), o6 a (by omega), o5 a (by omega), o4 a (by omega), o3 a (by omega), o2 a (by omega)]
    · rw [o10 a (by omega), o9 a (by omega), o8 a (by omega), h_up_n _ _ (by omega), o6 a (by omega), o5 a (by omega), o4 a (by omega)]
    · rw [o10 a (by omega), o9 a (by omega), o8 a (by omega), h_up_n _ _ (by omega), o6 a (by omega)]
    · rw [o10 _ (by omega), o9 _ (by omega), o8 _ (by omega)]; exact h_up_s _ _ _
  obtain ⟨f3, e11, F11, o11⟩ := I_s1 S B
  refine ⟨f3, ?_, F11, fun c hc => by rw [o11 c hc, o10 c (by omega), o9 c (by omega), o8 c (by omega), h_up_n _ _ (by omega), o6 c (by omega), o5 c (by omega), o4 c (by omega), o3 c (by omega), o2 c (by omega), o1 c (by omega), o0 c (by omega)]⟩
  unfold p_X7_init
  rw [hme_of c0, ob_s, e1, ob_s]
  dsimp only
  rw [e2, ob_s, ob_s, e3, ob_s]
  dsimp only
  rw [e4, ob_s, ob_s, e5, ob_s]
  dsimp only
  rw [e6, ob_s, ob_s, e8, ob_s, ob_s, show x + 1 + 20 + 20 + 20 + 2 = x + 1 + 20 + 20 + 20 + 1 + 1 from rfl, e9, ob_s]
  dsimp only
  rw [e10, ob_s]
  exact e11
end KC


/-! ===== the constructors: the class's ===== -/
section KA
variable {V : Nat → Nat} {g f : GH} {q h x n cap k : Nat}
theorem I_pt {a ci : Nat} {fs : List Value} (h : f a = some (.inr (ci, fs))) (k : Nat) (hk : k < fs.length) (v : Value) : ∃ f2, h_pt f a ci k v = some f2 ∧ f2 a = some (.inr (ci, fs.set k v)) ∧ ∀ b, b ≠ a → f2 b = f b :=
  ⟨_, hpt_of h hk, h_up_s _ _ _, fun _ hb => h_up_n f _ hb⟩
theorem I_co (f : GH) (q : Nat) {cap : Nat} (hc : cap ≤ 200) : ∃ f1, p_X2_init V g (h_up f q (.inr (5, [.null, .null, .int 0, .int 0]))) (q + 1) q (nn cap) = some (f1, q + 3) ∧ CoA f1 q cap (c_new 0) ∧ h_out q (q + 3) f f1 := by
  have hnv : ∀ (f : GH) (n : Nat), h_nv f n 0 (nn cap) 200 = some (h_up f n (.inl (0, cap, .inl fun _ => 0))) := fun f n => by
    unfold h_nv
    rw [nn_c (by omega), if_pos ⟨nn_nl cap (by omega), hc⟩]
  have c0 : h_up f q (.inr (5, [.null, .null, .int 0, .int 0])) q = some (.inr (5, [.null, .null, .int 0, .int 0])) := h_up_s _ _ _
  have o0 : ∀ a, a ≠ q → h_up f q (.inr (5, [.null, .null, .int 0, .int 0])) a = f a := fun a ha => h_up_n f _ ha
  generalize h_up f q (.inr (5, [.null, .null, .int 0, .int 0])) = F0 at *
  have c1 : h_up F0 (q + 1) (.inl (0, cap, .inl fun _ => 0)) q = some (.inr (5, [.null, .null, .int 0, .int 0])) := (h_up_n _ _ (by omega)).trans c0
  obtain ⟨F2, e2, c2, o2⟩ := I_pt c1 0 (by simp) (.ref (q + 1))
  have c3 : h_up F2 (q + 1 + 1) (.inl (0, cap, .inl fun _ => 0)) q = _ := (h_up_n _ _ (by omega)).trans c2
  obtain ⟨F4, e4, c4, o4⟩ := I_pt c3 1 (by simp) (.ref (q + 1 + 1))
  refine ⟨F4, ?_, ⟨c4, ⟨fun _ => 0, ?_, fun k hk => absurd hk (Nat.not_lt_zero k)⟩, ⟨fun _ => 0, ?_, fun k hk => absurd hk (Nat.not_lt_zero k)⟩, Nat.zero_le _, hc⟩, fun a ha => ?_⟩
  · unfold p_X2_init
    rw [hme_of c0, hnv, ob_s, e2, ob_s, hnv, ob_s, e4, ob_s]
  · rw [o4 _ (by omega), h_up_n _ _ (by omega), o2 _ (by omega), h_up_s]
  · rw [o4 _ (by omega)]; exact h_up_s _ _ _
  · rw [o4 _ (by omega), h_up_n _ _ (by omega), o2 _ (by omega), h_up_n _ _ (by omega), o0 _ (by omega)]
/-- a chart whose coastlines lie in their order -/
def ChF (f : GH) (h : Nat) (T : MS) : Prop := f h = some (.inr (4, [.ref (h + 1), .int (nn T.1), .int 0, .int 0, .int 0, .int 0])) ∧ (∃ ra : Nat → Option Nat, f (h + 1) = some (.inl (5, 6, .inr (.inr (.inr (.inr ra))))) ∧ ∀ i, i < 6 → ra i = some (h + 2 + 3 * i)) ∧ ∀ i, i < 6 → CoA f (h + 2 + 3 * i) 129 (T.2 i)
theorem ChF.ch {T : MS} (C : ChF f h T) (h6 : T.1 ≤ 6) : ChA f h (T.1, 0, 0, 0, 0, T.2) := by
  obtain ⟨c1, ⟨ra, c2, c3⟩, c4⟩ := C
  exact ⟨c1, h6, ra, fun i => h + 2 + 3 * i, c2, fun i hi => ⟨c3 i hi, i, hi, rfl⟩, fun i j _ _ e => by have e : h + 2 + 3 * i = h + 2 + 3 * j := e; omega, fun i hi => c4 i (by have hi : i < T.1 := hi; omega), fun i hi => ⟨_, c4 i hi⟩⟩
theorem ChF.frame {f1 : GH} {T : MS} (C : ChF f h T) (e : ∀ a, h ≤ a → a < h + 20 → f1 a = f a) : ChF f1 h T := by
  obtain ⟨c1, ⟨ra, c2, c3⟩, c4⟩ := C
  exact ⟨(e _ (by omega) (by omega)).trans c1, ⟨ra, (e _ (by omega) (by omega)).trans c2, c3⟩, fun i hi => (c4 i hi).frame (fun a h1 h2 => e a (by omega) (by omega))⟩
def ChI (f : GH) (h k : Nat) : Prop := f h = some (.inr (4, [.ref (h + 1), .int 0, .int 0, .int 0, .int 0, .int 0])) ∧ ∃ ra : Nat → Option Nat, f (h + 1) = some (.inl (5, 6, .inr (.inr (.inr (.inr ra))))) ∧ ∀ i, i < k → ra i = some (h + 2 + 3 * i) ∧ CoA f (h + 2 + 3 * i) 129 (c_new 0)
theorem I_ch_s {c : Int32} (P : ChI f h k) (hk : k < 6) (hn : n = h + 2 + 3 * k) (hc : c = nn k) : h_gr f h 4 0 = some (h + 1) ∧ ∃ f1 f2, p_X2_init V g (h_up f n (.inr (5, [.null, .null, .int 0, .int 0]))) (n + 1) n (129 : Int32) = some (f1, n + 3) ∧ h_sq f1 (h + 1) 5 5 c n = some f2 ∧ ChI f2 h (k + 1) ∧ h_out h (h + 20) f f2 := by
  obtain ⟨p1, ra, p2, p3⟩ := P
  obtain ⟨f1, e1, C1, o1⟩ := I_co (V := V) (g := g) f n (cap := 129) (by decide)
  have q2 : f1 (h + 1) = some (.inl (5, 6, .inr (.inr (.inr (.inr ra))))) := (o1 _ (by omega)).trans p2
  refine ⟨hgr_of p1 rfl, f1, _, e1, by rw [hc]; exact hsq_of q2 C1.1 hk (by omega), ⟨?_, _, h_up_s _ _ _, fun i hi => ⟨?_, ?_⟩⟩, fun a ha => ?_⟩
  · rw [h_up_n _ _ (by omega), o1 _ (by omega)]; exact p1
  · by_cases e : i = k
    · rw [e, hn]; simp [va_up]
    · simp only [va_up]
      rw [if_neg e]
      exact (p3 i (by omega)).1
  · by_cases e : i = k
    · rw [e, ← hn]; exact C1.frame (fun a h1 h2 => h_up_n _ _ (by omega))
    · exact (p3 i (by omega)).2.frame (fun a h1 h2 => by rw [h_up_n _ _ (by omega), o1 _ (by omega)])
  · rw [h_up_n _ _ (by omega), o1 _ (by omega)]
theorem I_ch (f : GH) (h : Nat) : ∃ f1, p_X1_init V g (h_up f h (.inr (4, [.null, .int 0, .int 0, .int 0, .int 0, .int 0]))) (h + 1) h = some (f1, h + 20) ∧ ChF f1 h mp_0 ∧ h_out h (h + 20) f f1 := by
  have c0 : h_up f h (.inr (4, [.null, .int 0, .int 0, .int 0, .int 0, .int 0])) h = some (.inr (4, [.null, .int 0, .int 0, .int 0, .int 0, .int 0])) := h_up_s _ _ _
  have o0 : ∀ a, a ≠ h → h_up f h (.inr (4, [.null, .int 0, .int 0, .int 0, .int 0, .int 0])) a = f a := fun a ha => h_up_n f _ ha
  generalize h_up f h (.inr (4, [.null, .int 0, .int 0, .int 0, .int 0, .int 0])) = F0 at *
  have c1 : h_up F0 (h + 1) (.inl (5, 6, .inr (.inr (.inr (.inr fun _ => none))))) h = _ := (h_up_n _ _ (by omega)).trans c0
  obtain ⟨F2, e2, c2, o2⟩ := I_pt c1 0 (by simp) (.ref (h + 1))
  have P0 : ChI F2 h 0 := ⟨c2, _, by rw [o2 _ (by omega), h_up_s], fun i hi => absurd hi (Nat.not_lt_zero i)⟩
  obtain ⟨r1, a1, b1, s1, t1, P1, q1⟩ := I_ch_s (V := V) (g := g) (n := h + 1 + 1) (c := 0) P0 (by decide) rfl rfl
  obtain ⟨r2, a2, b2, s2, t2, P2, q2⟩ := I_ch_s (V := V) (g := g) (n := h + 1 + 1 + 3) (c := 1) P1 (by decide) rfl rfl
  obtain ⟨r3, a3, b3, s3, t3, P3, q3⟩ := I_ch_s (V := V) (g := g) (n := h + 1 + 1 + 3 + 3) (c := 2) P2 (by decide) rfl rfl
  obtain ⟨r4, a4, b4, s4, t4, P4, q4⟩ := I_ch_s (V := V) (g := g) (n := h + 1 + 1 + 3 + 3 + 3) (c := 3) P3 (by decide) rfl rfl
  obtain ⟨r5, a5, b5, s5, t5, P5, q5⟩ := I_ch_s (V := V) (g := g) (n := h + 1 + 1 + 3 + 3 + 3 + 3) (c := 4) P4 (by decide) rfl rfl
  obtain ⟨r6, a6, b6, s6, t6, P6, q6⟩ := I_ch_s (V := V) (g := g) (n := h + 1 + 1 + 3 + 3 + 3 + 3 + 3) (c := 5) P5 (by decide) rfl rfl
  obtain ⟨d1, ra, d2, d3⟩ := P6
  refine ⟨b6, ?_, ⟨d1, ⟨ra, d2, fun i hi => (d3 i hi).1⟩, fun i hi => (d3 i hi).2⟩, fun a ha => ?_⟩
  · unfold p_X1_init
    rw [hme_of c0, ob_s, e2, ob_s, r1, ob_s, ob_s]
    rw [show h + 2 = h + 1 + 1 from rfl, s1, ob_s]
    dsimp only
    rw [t1, ob_s]
    unfold p_X1_init_s1
    rw [r2, ob_s, ob_s, s2, ob_s]
    dsimp only
    rw [t2, ob_s, r3, ob_s, ob_s, s3, ob_s]
    dsimp only
    rw [t3, ob_s]
    unfold p_X1_init_s2
    rw [r4, ob_s, ob_s, s4, ob_s]
    dsimp only
    rw [t4, ob_s, r5, ob_s, ob_s, s5, ob_s]
    dsimp only
    rw [t5, ob_s]
    unfold p_X1_init_s3
    rw [r6, ob_s, ob_s, s6, ob_s]
    dsimp only
    rw [t6, ob_s]
  · rw [q6 a ha, q5 a ha, q4 a ha, q3 a ha, q2 a ha, q1 a ha, o2 a (by omega), h_up_n _ _ (by omega), o0 a (by omega)]
theorem I_cm (f : GH) (q : Nat) : ∃ f1, p_X3_init V g (h_up f q (.inr (6, [.null, .int 0, .int 0, .int 0, .int 0, .int 0, .null]))) (q + 1) q = some (f1, q + 4) ∧ CmA f1 q V 11 0 0 0 0 0 (c_new 0) ∧ h_out q (q + 4) f f1 := by
  have c0 : h_up f q (.inr (6, [.null, .int 0, .int 0, .int 0, .int 0, .int 0, .null])) q = some (.inr (6, [.null, .int 0, .int 0, .int 0, .int 0, .int 0, .null])) := h_up_s _ _ _
  have o0 : ∀ a, a ≠ q → h_up f q (.inr (6, [.null, .int 0, .int 0, .int 0, .int 0, .int 0, .null])) a = f a := fun a ha => h_up_n f _ ha
  generalize h_up f q (.inr (6, [.null, .int 0, .int 0, .int 0, .int 0, .int 0, .null])) = F0 at *
  obtain ⟨F1, e1, c1, o1⟩ := I_pt c0 0 (by simp) (.ref (V 11))
  obtain ⟨F2, e2, C2, o2⟩ := I_co (V := V) (g := g) F1 (q + 1) (cap := 33) (by decide)
  have c2 := (o2 q (by omega)).trans c1
  obtain ⟨F3, e3, c3, o3⟩ := I_pt c2 6 (by simp) (.ref (q + 1))
  refine ⟨F3, ?_, ⟨c3, C2.frame (fun a h1 h2 => o3 a (by omega))⟩, fun a ha => ?_⟩
  · unfold p_X3_init
    rw [hme_of c0, e1, ob_s, ob_s, show (33 : Int32) = nn 33 from rfl, e2, ob_s]
    dsimp only
    rw [e3, ob_s]
  · rw [o3 a (by omega), o2 a (by omega), o1 a (by omega), o0 a (by omega)]
def PaI (f : GH) (x k : Nat) : Prop := ∃ ra : Nat → Option Nat, f (x + 61) = some (.inl (4, 8, .inr (.inr (.inr (.inr ra))))) ∧ ∀ j, j < k → ra j = some (x + 75 + 20 * j) ∧ ChF f (x + 75 + 20 * j) mp_0
theorem I_pa {c : Int32} (P : PaI f x k) (hk : k < 8) (hn : n = x + 75 + 20 * k) (hc : c = nn k) : ∃ f1 f2, p_X1_init V g (h_up f n (.inr (4, [.null, .int 0, .int 0, .int 0, .int 0, .int 0]))) (n + 1) n = some (f1, n + 20) ∧ h_sq f1 (x + 61) 4 4 c n = some f2 ∧ PaI f2 x (k + 1) ∧ ∀ b, b ≠ x + 61 → (b < x + 75 ∨ x + 235 ≤ b) → f2 b = f b := by
  obtain ⟨ra, p2, p3⟩ := P
  obtain ⟨f1, e1, C1, o1⟩ := I_ch (V := V) (g := g) f n
  have q2 : f1 (x + 61) = some (.inl (4, 8, .inr (.inr (.inr (.inr ra))))) := (o1 _ (by omega)).trans p2
  refine ⟨f1, _, e1, by rw [hc]; exact hsq_of q2 C1.1 hk (by omega), ⟨_, h_up_s _ _ _, fun i hi => ⟨?_, ?_⟩⟩, fun a h1 h2 => ?_⟩
  · by_cases e : i = k
    · rw [e, hn]; simp [va_up]
    · simp only [va_up]
      rw [if_neg e]
      exact (p3 i (by omega)).1
  · by_cases e : i = k
    · rw [e, ← hn]; exact C1.frame (fun a h1 h2 => h_up_n _ _ (by omega))
    · exact (p3 i (by omega)).2.frame (fun a h1 h2 => by rw [h_up_n _ _ (by omega), o1 _ (by omega)])
  · rw [h_up_n _ _ (by omega), o1 _ (by omega)]
def ScI (V : Nat → Nat) (f : GH) (x k : Nat) : Prop := ∃ ra : Nat → Option Nat, f (x + 65) = some (.inl (6, 20, .inr (.inr (.inr (.inr ra))))) ∧ ∀ j, j < k → ra j = some (x + 235 + 4 * j) ∧ CmA f (x + 235 + 4 * j) V 11 0 0 0 0 0 (c_new 0)
theorem I_sc {c : Int32} (P : ScI V f x k) (hk : k < 20) (hn : n = x + 235 + 4 * k) (hc : c = nn k) : ∃ f1 f2, p_X3_init V g (h_up f n (.inr (6, [.null, .int 0, .int 0, .int 0, .int 0, .int 0, .null]))) (n + 1) n = some (f1, n + 4) ∧ h_sq f1 (x + 65) 6 6 c n = some f2 ∧ ScI V f2 x (k + 1) ∧ ∀ b, b ≠ x + 65 → (b < x + 235 ∨ x + 315 ≤ b) → f2 b = f b := by
  obtain ⟨ra, p2, p3⟩ := P
  obtain ⟨f1, e1, C1, o1⟩ := I_cm (V := V) (g := g) f n
  have q2 : f1 (x + 65) = some (.inl (6, 20, .inr (.inr (.inr (.inr ra))))) := (o1 _ (by omega)).trans p2
  refine ⟨f1, _, e1, by rw [hc]; exact hsq_of q2 C1.1 hk (by omega), ⟨_, h_up_s _ _ _, fun i hi => ⟨?_, ?_⟩⟩, fun a h1 h2 => ?_⟩
  · by_cases e : i = k
    · rw [e, hn]; simp [va_up]
    · simp only [va_up]
      rw [if_neg e]
      exact (p3 i (by omega)).1
  · by_cases e : i = k
    · rw [e, ← hn]; exact C1.frame (fun a h1 h2 => h_up_n _ _ (by omega))
    · exact (p3 i (by omega)).2.frame (fun a h1 h2 => by rw [h_up_n _ _ (by omega), o1 _ (by omega)])
  · rw [h_up_n _ _ (by omega), o1 _ (by omega)]
/-- the points of a list, told -/
def tl_c (s : Nat → Int32) (isl : Int32) : Nat → CS
  | 0 => c_new isl
  | j + 1 => s_app (tl_c s isl j) (s (2 * j)) (s (2 * j + 1))
theorem tl_n (s : Nat → Int32) (isl : Int32) : ∀ j, cN (tl_c s isl j) = j ∧ cI (tl_c s isl j) = isl := by
  intro j
  induction j with
  | zero => exact ⟨rfl, rfl⟩
  | succ j ih => exact ⟨by show cN (tl_c s isl j) + 1 = j + 1; rw [ih.1], ih.2⟩
theorem I_place_l {b L : Nat} {r s : Nat → Int32} {isl : Int32} (hb : gA g b = some (.inl (0, 2 * L, .inl r))) (hr : ∀ j, j < 2 * L → r j = s j) (hL : L ≤ 33) (K : Nat → GH → Option GH) : ∀ (d N j : Nat) (f : GH), j + d = L → d < N → CoA f q 129 (tl_c s isl j) → ∃ f1, p_X1_place_l18 V g K N h b q (nn (2 * j)) f = K h f1 ∧ CoA f1 q 129 (tl_c s isl L) ∧ h_out q (q + 3) f f1 := by
  intro d
  induction d with
  | zero =>
    intro N j f hd hN C
    obtain ⟨N, rfl⟩ : ∃ M, N = M + 1 := ⟨N - 1, by omega⟩
    rw [p_X1_place_l18, hal_of hb, ob_s]
    dsimp only
    rw [nn_s, if_pos (by rw [nn_le (by omega) (by omega)]; omega)]
    rw [show j = L by omega] at C
    exact ⟨f, rfl, C, h_out.rf _ _ _⟩
  | succ d ih =>
    intro N j f hd hN C
    obtain ⟨N, rfl⟩ : ∃ M, N = M + 1 := ⟨N - 1, by omega⟩
    have hn := tl_n s isl j
    obtain ⟨f1, e1, C1, o1⟩ := C_ins (V := V) (g := g) C (p := cN (tl_c s isl j)) (Nat.le_refl _) (by omega) (s (2 * j)) (s (2 * j + 1))
    obtain ⟨f2, e2, C2, o2⟩ := ih N (j + 1) f1 (by omega) (by omega) C1
    rw [p_X1_place_l18, hal_of hb, ob_s]
    dsimp only
    rw [nn_s, if_neg (by rw [nn_le (by omega) (by omega)]; omega), hgi_of C.1 rfl, ob_s, hli_of hb (show 2 * j < 2 * L by omega) (by omega), ob_s, hli_of hb (show 2 * j + 1 < 2 * L by omega) (by omega), ob_s, hr _ (by omega), hr _ (by omega), e1, ob_s, nn_a2, show 2 * j + 2 = 2 * (j + 1) by omega]
    exact ⟨f2, e2, C2, fun a ha => (o2 a ha).trans (o1 a ha)⟩
theorem I_place {b L : Nat} {r s : Nat → Int32} {isl : Int32} {T : MS} (hb : gA g b = some (.inl (0, 2 * L, .inl r))) (hr : ∀ j, j < 2 * L → r j = s j) (hL : L ≤ 33) (C : ChF f h T) (h6 : T.1 < 6) (hz : T.2 T.1 = c_new 0) (hi : isl = 0 ∨ isl = 1) : ∃ f1, p_X1_place V g f h b isl = some f1 ∧ ChF f1 h (ms_add T (tl_c s isl L)) ∧ h_out h (h + 20) f f1 := by
  obtain ⟨c1, ⟨ra, c2, c3⟩, c4⟩ := C
  have cT := c4 T.1 h6
  rw [hz] at cT
  obtain ⟨f2, e2, k2, o2⟩ := I_pt cT.1 3 (by simp) (.int isl)
  have C2 : CoA f2 (h + 2 + 3 * T.1) 129 (tl_c s isl 0) := by
    obtain ⟨w1, ⟨xa, w2, w3⟩, ⟨ya, w4, w5⟩, w6, w7⟩ := cT
    exact ⟨k2, ⟨xa, (o2 _ (by omega)).trans w2, w3⟩, ⟨ya, (o2 _ (by omega)).trans w4, w5⟩, w6, w7⟩
  obtain ⟨f3, e3, C3, o3⟩ := I_place_l (V := V) (g := g) (q := h + 2 + 3 * T.1) (h := h) hb hr hL (fun x0 f => (h_gi f x0 4 1).bind fun v12 => (h_pt f x0 4 1 (.int (v12 + (1 : Int32)))).bind fun f13 => some f13) L FU 0 f2 (by omega) (by unfold FU; omega) C2
  have c5 : f3 h = some (.inr (4, [.ref (h + 1), .int (nn T.1), .int 0, .int 0, .int 0, .int 0])) := (o3 h (by omega)).trans ((o2 h (by omega)).trans c1)
  obtain ⟨f4, e4, k4, o4⟩ := I_pt c5 1 (by simp) (.int (nn (T.1 + 1)))
  refine ⟨f4, ?_, ⟨k4, ⟨ra, by rw [o4 _ (by omega), o3 _ (by omega), o2 _ (by omega)]; exact c2, c3⟩, fun i hi => ?_⟩, fun a ha => ?_⟩
  · unfold p_X1_place
    rw [hme_of c1, hgr_of c1 rfl, ob_s, hgi_of c1 rfl, ob_s, hlq_of c2 h6 (by omega) (c3 _ h6), ob_s, hbz01 hi, ob_s, e2, ob_s]
    rw [show (0 : Int32) = nn (2 * 0) from rfl, e3, hgi_of c5 rfl, ob_s, nn_s, e4, ob_s]
  · show CoA f4 (h + 2 + 3 * i) 129 (if i = T.1 then tl_c s isl L else T.2 i)
    by_cases e : i = T.1
    · rw [if_pos e, e]; exact C3.frame (fun a h1 h2 => o4 a (by omega))
    · rw [if_neg e]; exact (c4 i hi).frame (fun a h1 h2 => by rw [o4 a (by omega), o3 a (by omega), o2 a (by omega)])
  · rw [o4 a (by omega), o3 a (by omega), o2 a (by omega)]
end KA


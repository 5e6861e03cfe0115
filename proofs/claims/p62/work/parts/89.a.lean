/-! ===== the law: its beginning, a map loaded, one turn ===== -/
section MA
variable {V : Nat → Nat} {g f : GH} {x y u p bl L n : Nat} {T S : TS} {H : Nat → TS} {hs cc : Int32} {bs B : Nat → Int32}
theorem LG.new (R : MS) (k : Int32) : LG (T_new R k) := by
  show s_pts (R.1, k, 0, 0, 0, R.2) = s_pts (R.1, k, 0, 0, 0, R.2) + 0 - 0
  rw [Int32.add_zero, Int32.sub_zero]
theorem J_fin (F : FIN V f x) : JV V f x (T_new M_3 0) 0 0 0 (fun _ => T_new M_3 0) (T_new M_3 0) 0 (fun _ => 0) 0 := by
  obtain ⟨i1, i2, ⟨r1, r2, r3, r4, r5, r6, r7, -, -⟩, ⟨ra, p1, p2⟩, -⟩ := F
  exact ⟨⟨i1, i2, ⟨⟨ra, p1, fun j hj => (p2 j hj).1⟩, fun j hj => ⟨_, (p2 j hj).2.ch (by decide)⟩, fun k hk => absurd hk (by omega)⟩, ⟨_, r1.ch (by decide)⟩, ⟨_, r2.ch (by decide)⟩, fun h => absurd h (by decide)⟩, ⟨_, _, _, _, _, _, _, r6⟩, ⟨_, r7⟩, by omega, ⟨0, 0, 0, 0, r3, r4⟩, ⟨-1, 0, 0, r5, Or.inl rfl⟩, ⟨T_new_v M_3_V (Or.inl rfl), LG.new _ _⟩, fun k hk => absurd hk (by omega), fun h => absurd h (by decide), by omega, by omega, Or.inl rfl⟩
theorem J_load (S0 : StOK V g) (I : JV V f x T hs u p H S bl bs cc) (hL : L ≤ bl) (hB : ∀ i, i < L → BR (bs i) (B i)) (h0 : pE (ps_whole B L).2 = 0) : ∃ f9 bs9, p_X7_loadMap V g f x (nn L) = some (.inr (nn (ps_whole B L).1.1, f9)) ∧ JV V f9 x (T_new (ps_whole B L).1 (ps_king B L)) 0 0 p H S 0 bs9 0 ∧ ∀ b, b < x ∨ x + 235 ≤ b → f9 b = f b := by
  obtain ⟨⟨i1, i2, i3, ⟨T0, i4⟩, ⟨T1, i5⟩, i6⟩, ⟨v0, a0, q0, r0, w0, k, c0, i7⟩, ⟨c1, i8⟩, i9, ⟨len, kd, st, nx, t1, t2⟩, ⟨oo, it, kg, g1, g2⟩, i12, i13, i14, i15, i16, i17⟩ := I
  obtain ⟨f9, it1, kg1, e1, e2, e3, e4, e5, e6, -⟩ := P_load (V := V) (g := g) S0 i1 i2 i4 i9 hL t1 t2 g1 g2 hB
  obtain ⟨e7, e8⟩ := e6 h0
  rw [if_pos h0] at e1
  have hP : PaA f9 x 0 p H := by
    obtain ⟨⟨ra, p1, p2⟩, p3, p4⟩ := i3
    exact ⟨⟨ra, (e5 _ (by omega)).trans p1, p2⟩, fun j hj => by
      obtain ⟨T2, h2⟩ := p3 j hj
      exact ⟨T2, h2.frame (fun b h1 h2 => e5 b (by omega))⟩, fun k hk => absurd hk (by omega)⟩
  refine ⟨f9, bs, e1, ⟨⟨e7, e8, hP, e4, ⟨T1, i5.frame (fun a h1 h2 => e5 a (by omega))⟩, fun h => absurd h (by decide)⟩, ⟨v0, a0, q0, r0, w0, k, c0, i7.frame (fun a h1 h2 => e5 a (by omega))⟩, ⟨c1, i8.frame (fun a h1 h2 => e5 a (by omega))⟩, by omega, ⟨_, _, _, _, e2.1, e2.2.1⟩, ⟨pO (ps_whole B L).2, it1, kg1, ?_, e3⟩, ⟨T_new_v MSV.whole (bz_i01 _), LG.new _ _⟩, fun k hk => absurd hk (by omega), fun h => absurd h (by decide), by omega, i16, Or.inl rfl⟩, fun b hb => e5 b (by omega)⟩
  have := e2.2.2
  rw [h0] at this
  exact this
/-- the script's cells -/
theorem L_cell {b L j : Nat} {r : Nat → Int32} (h : gA g b = some (.inl (0, L, .inl r))) (hL : L ≤ 260) (hj : j < 2147483648) : ∃ v, ∀ f, p_L_cell V g f b (nn j) = some v := by
  by_cases c : L ≤ j
  · refine ⟨(37 : Int32) * nn j, fun f => ?_⟩
    unfold p_L_cell
    rw [hal_of h, ob_s]
    dsimp only
    rw [if_pos (by rw [nn_le (by omega) (by omega)]; exact c)]
  · refine ⟨r j, fun f => ?_⟩
    unfold p_L_cell
    rw [hal_of h, ob_s]
    dsimp only
    rw [if_neg (by rw [nn_le (by omega) (by omega)]; exact c), hli_of h (by omega) hj, ob_s]
/-- the state between the turns -/
def JT (V : Nat → Nat) (f : GH) (x y n : Nat) (hs : Int32) (S : TS) : Prop := (∃ T u p H, JW V f x T hs u p H S) ∧ WZ f y ∧ x + 235 ≤ y ∧ y < n
theorem T_457 {T1 : TS} {u1 u : Nat} {a0 a1 : Nat} {K : Nat → Nat → Nat → Int32 → GH → Nat → Option (Int32 × GH × Nat)} {K4 : GH → Nat → Option (Int32 × GH × Nat)} {x0 : Nat} {x6 : Int32} (I : JV V f x T1 hs u1 p H S bl bs cc) (hu : u ≤ 8) (h : u1 = u → u < 8 → AA f a0 T1 ∧ AA f a1 T1) : p_L_law_j457 V g K K4 x0 x y x6 a0 (nn u) a1 f n = K x0 x y (x6 + (1 : Int32)) f n := by
  have hu1 : u1 ≤ 8 := I.2.2.2.2.2.2.2.2.2.1
  unfold p_L_law_j457
  rw [J_und I, ob_s]
  by_cases c : u1 = u
  · rw [if_pos (by rw [c])]
    by_cases c8 : u < 8
    · obtain ⟨q1, q2⟩ := h c c8
      rw [if_neg (by rw [show (8 : Int32) = nn 8 from rfl, nn_le (by omega) (by omega)]; omega), L_alike q1 q2 (TE.rf T1) I.tv, ob_s, if_neg (by decide)]
    · rw [if_pos (by rw [show (8 : Int32) = nn 8 from rfl, nn_le (by omega) (by omega)]; omega)]
  · rw [if_neg (fun e => c (by rw [nn_eq (by omega) (by omega)] at e; exact e))]
theorem T_364 (S0 : StOK V g) {K : Nat → Nat → Nat → Int32 → GH → Nat → Option (Int32 × GH × Nat)} {K1 K2 K4 : GH → Nat → Option (Int32 × GH × Nat)} {x0 : Nat} {x6 x7 : Int32} (J : JT V f x y n hs S) : ∃ f1 n1, p_L_law_j364 V g K K1 K2 K4 x0 x y x6 x7 f n = K x0 x y (x6 + (1 : Int32)) f1 n1 ∧ JT V f1 x y n1 hs S := by
  obtain ⟨⟨T, u, p, H, bs, cc, I⟩, hW, hy1, hy2⟩ := J
  have hu : u ≤ 8 := I.2.2.2.2.2.2.2.2.2.1
  obtain ⟨f1, c1, A1, o1⟩ := L_all (g := g) I.jr (n := n) (by omega)
  have I1 := I.frame (f1 := f1) (fun a h1 h2 => o1 a (by omega))
  obtain ⟨T1, b, hact⟩ := L_act (g := g) S0 I.tv x7
  dsimp only at hact
  obtain ⟨f2, n2, c2, R2⟩ := hact f1 x y (n + 1) hs u p H S hy1 (by omega) (hW.fr (o1 y (by omega))) ⟨bs, cc, I1⟩
  obtain ⟨r2, W2, o2, l2⟩ := R2
  have A2 : AA f2 n T := A1.fr (o2 n (by omega) (by omega) (by omega))
  unfold p_L_law_j364
  rw [c1, ob_s]
  dsimp only
  rw [J_und I1, ob_s, c2, ob_s]
  dsimp only
  rw [if_neg (by decide)]
  -- what stands after act
  have key : ∃ u1 p1 H1 bs1 cc1, JV V f2 x T1 hs u1 p1 H1 S 0 bs1 cc1 ∧ (u1 = u + 1 → b = true ∧ u < 8 ∧ u1 = h_pu u ∧ p1 = h_pp p ∧ H1 = h_pH u H T) ∧ (u1 = u → u < 8 → T1 = T) := by
    rcases r2 with ⟨hb, bs1, cc1, J1⟩ | ⟨hb, hT, bs1, cc1, J1⟩
    · refine ⟨_, _, _, bs1, cc1, J1, fun e => ⟨hb, ?_, rfl, rfl, rfl⟩, fun e h8 => ?_⟩
      · unfold h_pu at e
        split at e <;> omega
      · unfold h_pu at e
        split at e <;> omega
    · rw [← hT] at J1
      exact ⟨_, _, _, bs1, cc1, J1, fun e => absurd e (by omega), fun _ _ => hT⟩
  obtain ⟨u1, p1, H1, bs1, cc1, I2, k1, k2⟩ := key
  have hu1 : u1 ≤ 8 := I2.2.2.2.2.2.2.2.2.2.1
  obtain ⟨f3, c3, A3, o3⟩ := L_all (g := g) I2.jr (n := n2) (by omega)
  have I3 := I2.frame (f1 := f3) (fun a h1 h2 => o3 a (by omega))
  have W3 : WZ f3 y := W2.fr (o3 y (by omega))
  have A23 : AA f3 n T := A2.fr (o3 n (by omega))
  rw [c3, ob_s]
  dsimp only
  rw [J_und I3, ob_s, nn_s]
  have no : p_L_law_j457 V g K K4 x0 x y x6 n (nn u) n2 f3 (n2 + 1) = K x0 x y (x6 + (1 : Int32)) f3 (n2 + 1) := T_457 I3 hu (fun e h8 => ⟨by rw [k2 e h8]; exact A23, A3⟩)
  by_cases c : u1 = u + 1
  · obtain ⟨hb, h8, e1, e2, e3⟩ := k1 c
    rw [if_pos (by rw [c])]
    by_cases d : x6 - x6 / (3 : Int32) * (3 : Int32) = 0
    · rw [if_pos d]
      obtain ⟨f4, c4, I4, o4⟩ := J_undo (g := g) I3 (by omega)
      have hH : H1 (u1 - 1) = T := by rw [e3, e1]; exact pH_top u H T hu
      rw [hH] at I4
      rw [c4, nt_r, ob_s]
      dsimp only
      rw [if_pos (by rw [show u1 - 1 = u by omega])]
      obtain ⟨f5, c5, A5, o5⟩ := L_all (g := g) I4.jr (n := n2 + 1) (by omega)
      have I5 := I4.frame (f1 := f5) (fun a h1 h2 => o5 a (by omega))
      have W5 : WZ f5 y := W3.fr ((o5 y (by omega)).trans (o4 y (by omega)))
      have A05 : AA f5 n T := A23.fr ((o5 n (by omega)).trans (o4 n (by omega)))
      have A15 : AA f5 n2 T1 := A3.fr ((o5 n2 (by omega)).trans (o4 n2 (by omega)))
      rw [c5, ob_s]
      dsimp only
      rw [L_alike A5 A05 (TE.rf T) I.tv, ob_s, if_neg (by decide)]
      obtain ⟨f6, n6, c6, R6⟩ := hact f5 x y (n2 + 1 + 1) hs _ _ _ S hy1 (by omega) W5 ⟨_, _, I5⟩
      obtain ⟨r6, W6, o6, l6⟩ := R6
      rw [c6, ob_s]
      dsimp only
      rw [if_neg (by decide)]
      obtain ⟨bs6, cc6, I6⟩ : ∃ bs6 cc6, JV V f6 x T1 hs (h_pu (u1 - 1)) (h_pp ((p1 + 7) % 8)) (h_pH (u1 - 1) H1 T) S 0 bs6 cc6 := by
        rcases r6 with ⟨-, bs6, cc6, J6⟩ | ⟨hb6, -⟩
        · exact ⟨bs6, cc6, J6⟩
        · rw [hb] at hb6
          exact absurd hb6 (by decide)
      obtain ⟨f7, c7, A7, o7⟩ := L_all (g := g) I6.jr (n := n6) (by omega)
      have I7 := I6.frame (f1 := f7) (fun a h1 h2 => o7 a (by omega))
      have A17 : AA f7 n2 T1 := A15.fr ((o7 n2 (by omega)).trans (o6 n2 (by omega) (by omega) (by omega)))
      rw [c7, ob_s]
      dsimp only
      rw [L_alike A7 A17 (TE.rf T1) I6.tv, ob_s, if_neg (by decide)]
      refine ⟨f7, n6 + 1, T_457 I7 hu (fun e _ => absurd e ?_), ⟨T1, _, _, _, _, _, I7⟩, W6.fr (o7 y (by omega)), hy1, by omega⟩
      rw [show u1 - 1 = u by omega, ← e1]
      omega
    · rw [if_neg d]
      exact ⟨f3, n2 + 1, no, ⟨T1, u1, p1, H1, _, _, I3⟩, W3, hy1, by omega⟩
  · rw [if_neg (fun e => c (by rw [nn_eq (by omega) (by omega)] at e; exact e))]
    exact ⟨f3, n2 + 1, no, ⟨T1, u1, p1, H1, _, _, I3⟩, W3, hy1, by omega⟩
theorem T_317 (S0 : StOK V g) {K : Nat → Nat → Nat → Int32 → GH → Nat → Option (Int32 × GH × Nat)} {K0 K1 K2 K4 : GH → Nat → Option (Int32 × GH × Nat)} {x0 : Nat} {x6 x7 : Int32} (J : JT V f x y n hs S) : ∃ T, (∃ u p H bs cc, JV V f x T hs u p H S 0 bs cc) ∧ ∃ f1 n1, p_L_law_j317 V g K K0 K1 K2 K4 x0 x y x6 x7 (nn (tN T)) f n = K x0 x y (x6 + (1 : Int32)) f1 n1 ∧ JT V f1 x y n1 hs S := by
  obtain ⟨⟨T, u, p, H, bs, cc, I⟩, hW, hy1, hy2⟩ := id J
  refine ⟨T, ⟨u, p, H, bs, cc, I⟩, ?_⟩
  have h6 := I.tv.1
  unfold p_L_law_j317
  by_cases c : tN T = 0
  · rw [if_pos (by rw [n_0, nn_le (by omega) (by omega)]; omega)]
    exact T_364 S0 J
  · have hk := mo_lt x7 (show 1 ≤ tN T by omega)
    rw [if_neg (by rw [n_0, nn_le (by omega) (by omega)]; omega), L_most V g f _ (b := tN T) (by omega) (by omega), ob_s, L_areSticks I.jr hk, ob_s, if_neg (by decide)]
    by_cases d : x6 - x6 / (4 : Int32) * (4 : Int32) = 1
    · have hk2 := mo_lt (x7 >>> ((1 : Int32) &&& 31)) (show 1 ≤ tN T by omega)
      obtain ⟨f1, n1, c1, ⟨u1, p1, H1, I1⟩, o1, l1⟩ := L_isFold (g := g) S0 I (n := n) (by omega) hk2 x7
      rw [if_pos d, L_most V g f _ (b := tN T) (by omega) (by omega), ob_s, c1, ob_s]
      dsimp only
      rw [if_neg (by decide)]
      exact T_364 S0 ⟨⟨T, u1, p1, H1, bs, cc, I1⟩, hW.fr (o1 y (by omega) (by omega)), hy1, by omega⟩
    · rw [if_neg d]
      exact T_364 S0 J
end MA

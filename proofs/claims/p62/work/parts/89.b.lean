/-! ===== the law: its turns, the snapshot ===== -/
section MB
variable {V : Nat → Nat} {g f : GH} {x y n b L a : Nat} {T S : TS} {hs : Int32} {r : Nat → Int32}
theorem T_279 (S0 : StOK V g) (hb : gA g b = some (.inl (0, L, .inl r))) (hL : L ≤ 260) {K0 K1 K2 K4 : GH → Nat → Option (Int32 × GH × Nat)} {K5 : Nat → Nat → Nat → GH → Nat → Option (Int32 × GH × Nat)} : ∀ (d N i : Nat) (f : GH) (n : Nat), i + d = 24 → d < N → JT V f x y n hs S → ∃ f1 n1, p_L_law_l279 V g K0 K1 K2 K4 K5 N b x y (nn i) f n = K5 b x y f1 n1 ∧ JT V f1 x y n1 hs S := by
  intro d
  induction d with
  | zero =>
    intro N i f n he hN J
    obtain ⟨N, rfl⟩ : ∃ M, N = M + 1 := ⟨N - 1, by omega⟩
    refine ⟨f, n, ?_, J⟩
    rw [p_L_law_l279, if_pos (by rw [show (24 : Int32) = nn 24 from rfl, nn_le (by omega) (by omega)]; omega)]
  | succ d ih =>
    intro N i f n he hN J
    obtain ⟨N, rfl⟩ : ∃ M, N = M + 1 := ⟨N - 1, by omega⟩
    obtain ⟨v, hv⟩ := L_cell (j := 6 + i) hb hL (by omega)
    obtain ⟨T, ⟨u, p, H, bs, cc, I⟩, f1, n1, e1, J1⟩ := T_317 (x0 := b) (x6 := nn i) (x7 := v) (K := p_L_law_l279 V g K0 K1 K2 K4 K5 N) (K0 := K0) (K1 := K1) (K2 := K2) (K4 := K4) S0 J
    obtain ⟨f2, n2, e2, J2⟩ := ih N (i + 1) f1 n1 (by omega) (by omega) J1
    refine ⟨f2, n2, ?_, J2⟩
    rw [← e2, ← nn_s, ← e1, p_L_law_l279, if_neg (by rw [show (24 : Int32) = nn 24 from rfl, nn_le (by omega) (by omega)]; omega), show (6 : Int32) + nn i = nn (6 + i) from nn_add 6 i, hv, ob_s, R_n I.jr, ob_s]
    by_cases c : nn i - nn i / (3 : Int32) * (3 : Int32) = 0
    · rw [if_pos c, L_areMaps I.jr I.lg, ob_s, if_neg (by decide)]
    · rw [if_neg c]
theorem T_504 (S0 : StOK V g) (hb : gA g b = some (.inl (0, L, .inl r))) (hL : L ≤ 260) {K0 : GH → Nat → Option (Int32 × GH × Nat)} {K5 : Nat → Nat → GH → Nat → Option (Int32 × GH × Nat)} (ha : x + 235 ≤ a) (hay : a ≠ y) : ∀ (d N i : Nat) (f : GH) (n : Nat), i + d = 5 → d < N → JT V f x y n hs S → AA f a S → a < n → ∃ f1 n1, p_L_law_l504 V g K0 K5 N b x y a (nn i) f n = K5 x a f1 n1 ∧ JT V f1 x y n1 hs S ∧ AA f1 a S ∧ a < n1 := by
  intro d
  induction d with
  | zero =>
    intro N i f n he hN J A h
    obtain ⟨N, rfl⟩ : ∃ M, N = M + 1 := ⟨N - 1, by omega⟩
    refine ⟨f, n, ?_, J, A, h⟩
    rw [p_L_law_l504, if_pos (by rw [show (5 : Int32) = nn 5 from rfl, nn_le (by omega) (by omega)]; omega)]
  | succ d ih =>
    intro N i f n he hN J A h
    obtain ⟨N, rfl⟩ : ∃ M, N = M + 1 := ⟨N - 1, by omega⟩
    obtain ⟨v, hv⟩ := L_cell (j := 36 + i) hb hL (by omega)
    obtain ⟨⟨T, u, p, H, bs, cc, I⟩, hW, hy1, hy2⟩ := J
    obtain ⟨T1, t, hact⟩ := L_act (g := g) S0 I.tv v
    dsimp only at hact
    obtain ⟨f1, n1, e1, R1⟩ := hact f x y n hs u p H S hy1 hy2 hW ⟨bs, cc, I⟩
    obtain ⟨r1, W1, o1, l1⟩ := R1
    have J1 : JT V f1 x y n1 hs S := by
      refine ⟨?_, W1, hy1, by omega⟩
      rcases r1 with ⟨-, J1⟩ | ⟨-, -, J1⟩
      · exact ⟨_, _, _, _, J1⟩
      · exact ⟨_, _, _, _, J1⟩
    obtain ⟨f2, n2, e2, J2⟩ := ih N (i + 1) f1 n1 (by omega) (by omega) J1 (A.fr (o1 a (by omega) h hay)) (by omega)
    refine ⟨f2, n2, ?_, J2⟩
    rw [← e2, p_L_law_l504, if_neg (by rw [show (5 : Int32) = nn 5 from rfl, nn_le (by omega) (by omega)]; omega), show (36 : Int32) + nn i = nn (36 + i) from nn_add 36 i, hv, ob_s, e1, ob_s]
    dsimp only
    rw [if_neg (by decide), nn_s]
def kEnd (V : Nat → Nat) (g : GH) (x1 x6 : Nat) (f : GH) (n : Nat) : Option (Int32 × GH × Nat) :=
  (h_nt (p_X7_restoreSnapshot V g f x1)).bind fun v80 =>
  (h_li v80.2 x6 0 (0 : Int32)).bind fun v81 =>
  (if v80.1 = v81 then
    (p_L_all V g v80.2 n x1).bind fun v83 =>
    (p_L_alike V g v83.2.1 v83.1 x6).bind fun v84 =>
    (if v84 = (0 : Int32) then
      some ((0 : Int32), v83.2.1, v83.2.2)
    else
      (p_X7_undoableCount V g v83.2.1 x1).bind fun v86 =>
      (if v86 = (0 : Int32) then
        some ((1 : Int32), v83.2.1, v83.2.2)
      else
        some ((0 : Int32), v83.2.1, v83.2.2)))
  else
    some ((0 : Int32), v80.2, n))
theorem T_end (J : JT V f x y n 1 S) (ha : x + 235 ≤ a) (A : AA f a S) (h : a < n) : ∃ f1 n1, kEnd V g x a f n = some ((1 : Int32), f1, n1) := by
  obtain ⟨⟨T, u, p, H, bs, cc, I⟩, hW, hy1, hy2⟩ := J
  obtain ⟨f1, e1, I1, o1⟩ := J_restore (g := g) I
  have A1 := A.fr (o1 a (by omega))
  obtain ⟨f2, e2, A2, o2⟩ := L_all (g := g) I1.jr (n := n) (by omega)
  have I2 := I1.frame (f1 := f2) (fun a h1 h2 => o2 a (by omega))
  refine ⟨f2, n + 1, ?_⟩
  unfold kEnd
  rw [e1, nt_r, ob_s]
  dsimp only
  obtain ⟨q, q1, q2⟩ := id A1
  have hlen : 0 < aL S := by
    have := off_5 S (tN S)
    unfold aL
    omega
  rw [show h_li f1 a 0 (0 : Int32) = some (nn (tN S)) by rw [← q2.1]; exact hli_of q1 (i := 0) hlen (by omega), ob_s, if_pos rfl, e2, ob_s]
  dsimp only
  rw [L_alike A2 (A1.fr (o2 a (by omega))) (TE.rf S) I1.tv, ob_s, if_neg (by decide), J_und I2, ob_s, if_pos (show nn 0 = (0 : Int32) from rfl)]
def kSave (V : Nat → Nat) (g : GH) (x0 x1 x2 : Nat) (f : GH) (n : Nat) : Option (Int32 × GH × Nat) :=
  (p_X7_saveSnapshot V g f x1).bind fun v74 =>
  (p_L_all V g v74 n x1).bind fun v75 =>
  p_L_law_l504 V g (fun f n =>
    some ((0 : Int32), f, n)) (kEnd V g) 6 x0 x1 x2 v75.1 (0 : Int32) v75.2.1 v75.2.2
theorem T_save (S0 : StOK V g) (hb : gA g b = some (.inl (0, L, .inl r))) (hL : L ≤ 260) (J : JT V f x y n hs S) : ∃ f1 n1, kSave V g b x y f n = some ((1 : Int32), f1, n1) := by
  obtain ⟨⟨T, u, p, H, bs, cc, I⟩, hW, hy1, hy2⟩ := J
  obtain ⟨f1, e1, I1, o1⟩ := J_save (g := g) I
  obtain ⟨f2, e2, A2, o2⟩ := L_all (g := g) I1.jr (n := n) (by omega)
  have I2 := I1.frame (f1 := f2) (fun a h1 h2 => o2 a (by omega))
  have J2 : JT V f2 x y (n + 1) 1 T := ⟨⟨T, u, p, H, bs, cc, I2⟩, hW.fr ((o2 y (by omega)).trans (o1 y (by omega))), hy1, by omega⟩
  obtain ⟨f3, n3, e3, J3, A3, h3⟩ := T_504 (K0 := fun f n => some ((0 : Int32), f, n)) (K5 := kEnd V g) S0 hb hL (show x + 235 ≤ n by omega) (show n ≠ y by omega) 5 6 0 f2 (n + 1) (by omega) (by omega) J2 A2 (by omega)
  obtain ⟨f4, n4, e4⟩ := T_end (g := g) J3 (by omega) A3 h3
  refine ⟨f4, n4, ?_⟩
  unfold kSave
  rw [e1, ob_s, e2, ob_s]
  exact e3.trans e4
end MB

/-! ===== the law: the map's text ===== -/
theorem rs_ap (P : List PN) (r : List Nat) : rs_t P r = rs_t P [] ++ r := by
  induction P with
  | nil => rfl
  | cons q P ih =>
    show 44 :: pn_t q (rs_t P r) = 44 :: pn_t q (rs_t P []) ++ r
    rw [ih]
    unfold pn_t
    simp only [List.append_assoc, List.cons_append]
theorem pn_ap (q : PN) (r : List Nat) : pn_t q r = pn_t q [] ++ r := by
  unfold pn_t
  simp only [List.append_assoc, List.cons_append, List.append_nil, List.nil_append]
section MC
variable {V : Nat → Nat} {g f : GH} {x y n b L q0 : Nat} {r : Nat → Int32}
theorem B_em (S : StOK V g) {s : List Nat} (B : BU f n q0 s) (ho : s.length + 20 ≤ 290) : ∃ f1 n1, p_J4_append_15ec4 V g f n q0 (V 57) = some (q0, f1, n1) ∧ BDo f f1 n n1 q0 (s ++ []) := B_str S B (i := 21) (by omega) (w := []) (by decide) ho
theorem B_ms (S : StOK V g) {s : List Nat} (B : BU f n q0 s) (ho : s.length + 20 ≤ 290) : ∃ f1 n1, p_J4_append_15ec4 V g f n q0 (V 58) = some (q0, f1, n1) ∧ BDo f f1 n n1 q0 (s ++ [45]) := B_str S B (i := 22) (by omega) (w := [45]) (by decide) ho
theorem M_167 (S : StOK V g) {s : List Nat} (B : BU f n q0 s) {m : Bool} {t0 : Nat} (ht : ∀ f n, BU f n q0 s → ∃ f1 n1, p_J4_append_15ec4 V g f n q0 t0 = some (q0, f1, n1) ∧ BDo f f1 n n1 q0 (s ++ sg m)) (ho : s.length + 26 ≤ 290) {K : Nat → Nat → Nat → Nat → Int32 → Int32 → Int32 → Int32 → Int32 → GH → Nat → Option (Int32 × GH × Nat)} {x0 x1 x2 x4 : Nat} {x5 x6 x7 x9 x10 : Int32} :
    ∃ (a c : Nat) (f1 : GH) (n1 : Nat), a < 80 ∧ c < 80 ∧ p_L_law_j167 V g K x0 x1 x2 x4 x5 x6 x7 x9 x10 t0 q0 f n = K x0 x1 x2 x4 x5 x6 x7 x9 (x10 + (1 : Int32)) f1 n1 ∧ BDo f f1 n n1 q0 (s ++ pn_t (m, a, false, c) []) := by
  have hm : ∀ f v, p_L_most V g f v (80 : Int32) = some (nn (mo v 80)) := fun f v => L_most V g f v (b := 80) (by omega) (by omega)
  have hb : ∀ v, mo v 80 < 80 := fun v => mo_lt v (by omega)
  obtain ⟨f1, n1, c1, B1, s1, o1⟩ := ht f n B
  have ls : (sg m).length ≤ 1 := by cases m <;> decide
  unfold p_L_law_j167
  rw [c1, ob_s]
  dsimp only
  rw [hm, ob_s]
  have e1 := hb ((x7 >>> (x10 &&& 31)) + ((7 : Int32) * x10))
  have e2 := hb ((x7 >>> ((x10 + (3 : Int32)) &&& 31)) + ((11 : Int32) * x10))
  generalize mo ((x7 >>> (x10 &&& 31)) + ((7 : Int32) * x10)) 80 = a at *
  generalize hc : mo ((x7 >>> ((x10 + (3 : Int32)) &&& 31)) + ((11 : Int32) * x10)) 80 = c at *
  have la := dg_2 (show a < 100 by omega)
  obtain ⟨f2, n2, c2, B2, s2, o2⟩ := B_num S B1 (show a < 100 by omega) (by rw [List.length_append]; omega)
  rw [c2, ob_s]
  dsimp only
  obtain ⟨f3, n3, c3, B3, s3, o3⟩ := B_ch (V := V) (g := g) B2 (c := 32) (by omega) (by rw [List.length_append, List.length_append]; omega)
  rw [show (32 : Int32) = nn 32 from rfl, c3, ob_s]
  dsimp only
  rw [hm, ob_s, hc]
  obtain ⟨f4, n4, c4, B4, s4, o4⟩ := B_num S B3 (show c < 100 by omega) (by rw [List.length_append, List.length_append, List.length_append]; show _ + 1 + 2 ≤ _; omega)
  rw [c4, ob_s]
  refine ⟨a, c, f4, n4, e1, e2, rfl, ?_, by omega, fun z hz => by rw [o4 z hz, o3 z hz, o2 z hz, o1 z hz]⟩
  have : s ++ sg m ++ dg a ++ [32] ++ dg c = s ++ pn_t (m, a, false, c) [] := by
    show _ = s ++ (sg m ++ (dg a ++ 32 :: ([] ++ (dg c ++ []))))
    simp only [List.append_assoc, List.cons_append, List.nil_append, List.append_nil]
  rw [← this]
  exact B4
theorem M_143 (S : StOK V g) {s w : List Nat} (B : BU f n q0 s) {t0 : Nat} (ht : ∀ f n, BU f n q0 s → ∃ f1 n1, p_J4_append_15ec4 V g f n q0 t0 = some (q0, f1, n1) ∧ BDo f f1 n n1 q0 (s ++ w)) (hw : w.length ≤ 1) (ho : s.length + 27 ≤ 290) {K : Nat → Nat → Nat → Nat → Int32 → Int32 → Int32 → Int32 → Int32 → GH → Nat → Option (Int32 × GH × Nat)} {x0 x1 x2 : Nat} {x5 x6 x7 x9 x10 : Int32} :
    ∃ (q : PN) (f1 : GH) (n1 : Nat), pn_b q ∧ (pn_t q []).length ≤ 6 ∧ p_L_law_j143 V g K x0 x1 x2 q0 x5 x6 x7 x9 x10 t0 q0 f n = K x0 x1 x2 q0 x5 x6 x7 x9 (x10 + (1 : Int32)) f1 n1 ∧ BDo f f1 n n1 q0 (s ++ w ++ pn_t q []) := by
  have hm : ∀ f v, p_L_most V g f v (2 : Int32) = some (nn (mo v 2)) := fun f v => L_most V g f v (b := 2) (by omega) (by omega)
  have h2 := mo_lt (x7 >>> ((x10 + (2 : Int32)) &&& 31)) (show 1 ≤ 2 by omega)
  obtain ⟨f1, n1, c1, B1, s1, o1⟩ := ht f n B
  have hl : (s ++ w).length + 26 ≤ 290 := by rw [List.length_append]; omega
  have fin : ∀ (m : Bool) (t1 : Nat), (∀ f n, BU f n q0 (s ++ w) → ∃ f1 n1, p_J4_append_15ec4 V g f n q0 t1 = some (q0, f1, n1) ∧ BDo f f1 n n1 q0 (s ++ w ++ sg m)) → ∃ (q : PN) (f2 : GH) (n2 : Nat), pn_b q ∧ (pn_t q []).length ≤ 6 ∧ p_L_law_j167 V g K x0 x1 x2 q0 x5 x6 x7 x9 x10 t1 q0 f1 n1 = K x0 x1 x2 q0 x5 x6 x7 x9 (x10 + (1 : Int32)) f2 n2 ∧ BDo f f2 n n2 q0 (s ++ w ++ pn_t q []) := by
    intro m t1 h1
    obtain ⟨a, c, f2, n2, ha, hc, e1, B2, s2, o2⟩ := M_167 S B1 h1 hl (K := K) (x0 := x0) (x1 := x1) (x2 := x2) (x4 := q0) (x5 := x5) (x6 := x6) (x7 := x7) (x9 := x9) (x10 := x10)
    refine ⟨(m, a, false, c), f2, n2, ⟨by show a < 100; omega, by show c < 100; omega⟩, ?_, e1, B2, by omega, fun z hz => (o2 z hz).trans (o1 z hz)⟩
    have la := dg_2 (show a < 100 by omega)
    have lc := dg_2 (show c < 100 by omega)
    have ls : (sg m).length ≤ 1 := by cases m <;> decide
    show (sg m ++ (dg a ++ 32 :: ([] ++ (dg c ++ [])))).length ≤ 6
    simp only [List.length_append, List.length_cons, List.length_nil]
    omega
  unfold p_L_law_j143
  rw [c1, ob_s]
  dsimp only
  rw [hm, ob_s]
  by_cases c : mo (x7 >>> ((x10 + (2 : Int32)) &&& 31)) 2 = 0
  · rw [c, if_pos (show nn 0 = (0 : Int32) from rfl)]
    exact fin true (V 58) (fun f n h => B_ms S h (by omega))
  · rw [if_neg (fun e => c (by rw [n_0, nn_eq (by omega) (by omega)] at e; exact e))]
    exact fin false (V 57) (fun f n h => B_em S h (by omega))
/-- the points behind the first -/
theorem M_122 (S : StOK V g) {K : Nat → Nat → Nat → Nat → Int32 → Int32 → GH → Nat → Option (Int32 × GH × Nat)} {x0 x1 x2 : Nat} {x5 x6 x7 : Int32} {m : Nat} (hm : m ≤ 8) : ∀ (d N j : Nat) (f : GH) (n : Nat) (s : List Nat), j + d = m → 1 ≤ j → d < N → BU f n q0 s → s.length + 7 * d + 20 ≤ 290 → ∃ (P : List PN) (f1 : GH) (n1 : Nat), P.length = d ∧ (∀ p ∈ P, pn_b p) ∧ (rs_t P []).length ≤ 7 * d ∧ p_L_law_l122 V g K N x0 x1 x2 q0 x5 x6 x7 (nn m) (nn j) f n = K x0 x1 x2 q0 x5 x6 f1 n1 ∧ BDo f f1 n n1 q0 (s ++ rs_t P []) := by
  intro d
  induction d with
  | zero =>
    intro N j f n s he h1 hN B hs
    obtain ⟨N, rfl⟩ : ∃ M, N = M + 1 := ⟨N - 1, by omega⟩
    refine ⟨[], f, n, rfl, (fun p hp => by cases hp), Nat.le_refl _, ?_, by rw [show rs_t [] [] = [] from rfl, List.append_nil]; exact B, Nat.le_refl _, fun _ _ => rfl⟩
    rw [p_L_law_l122, if_pos (by rw [nn_le (by omega) (by omega)]; omega)]
  | succ d ih =>
    intro N j f n s he h1 hN B hs
    obtain ⟨N, rfl⟩ : ∃ M, N = M + 1 := ⟨N - 1, by omega⟩
    obtain ⟨q, f1, n1, hq, hl, e1, B1, s1, o1⟩ := M_143 S B (fun f n h => B_cm S h (by omega)) (w := [44]) (by show 1 ≤ 1; omega) (by omega) (K := p_L_law_l122 V g K N) (x0 := x0) (x1 := x1) (x2 := x2) (x5 := x5) (x6 := x6) (x7 := x7) (x9 := nn m) (x10 := nn j)
    obtain ⟨P, f2, n2, hP, hb, hl2, e2, B2, s2, o2⟩ := ih N (j + 1) f1 n1 _ (by omega) (by omega) (by omega) B1 (by rw [List.length_append, List.length_append]; show _ + 1 + _ + _ + _ ≤ _; omega)
    refine ⟨q :: P, f2, n2, by rw [List.length_cons, hP], fun p hp => ?_, ?_, ?_, ?_, by omega, fun z hz => (o2 z hz).trans (o1 z hz)⟩
    · rcases List.mem_cons.mp hp with h | h
      · rw [h]; exact hq
      · exact hb p h
    · show (44 :: pn_t q (rs_t P [])).length ≤ _
      rw [pn_ap, List.length_cons, List.length_append]
      omega
    · rw [← e2, p_L_law_l122, if_neg (by rw [nn_le (by omega) (by omega)]; omega), if_neg (by rw [n_0, nn_le (by omega) (by omega)]; omega), e1, nn_s]
    · have : s ++ [44] ++ pn_t q [] ++ rs_t P [] = s ++ rs_t (q :: P) [] := by
        show _ = s ++ 44 :: pn_t q (rs_t P [])
        rw [pn_ap q (rs_t P [])]
        simp only [List.append_assoc, List.cons_append, List.nil_append]
      rw [← this]
      exact B2
/-- a coastline's text -/
theorem M_115 (S : StOK V g) {K : Nat → Nat → Nat → Nat → Int32 → Int32 → GH → Nat → Option (Int32 × GH × Nat)} {x0 x1 x2 : Nat} {x5 x6 x7 : Int32} {m : Nat} (hm : m ≤ 8) (h3 : 3 ≤ m) {s : List Nat} (B : BU f n q0 s) (hs : s.length ≤ 205) (t : Bool) : ∃ (c : CT) (f1 : GH) (n1 : Nat), ct_b c ∧ (co_t c.1 c.2.1 c.2.2 [59]).length ≤ 63 ∧ p_L_law_j115 V g K x0 x1 x2 q0 x5 x6 x7 (nn m) (cwU V t) q0 f n = K x0 x1 x2 q0 x5 (x6 + (1 : Int32)) f1 n1 ∧ BDo f f1 n n1 q0 (s ++ co_t c.1 c.2.1 c.2.2 [59]) := by
  have lc : (cwt t).length ≤ 6 := by cases t <;> decide
  obtain ⟨f1, n1, c1, B1, s1, o1⟩ := B_cw S B t (by omega)
  have l1 : (s ++ (cwt t ++ [32])).length ≤ s.length + 7 := by
    rw [List.length_append, List.length_append]
    show _ + (_ + 1) ≤ _
    omega
  obtain ⟨q, f2, n2, hq, hl, c2, B2, s2, o2⟩ := M_143 S B1 (fun f n h => B_em S h (by omega)) (w := []) (Nat.zero_le _) (by omega) (K := p_L_law_l122 V g (fun x0 x1 x2 x4 x5 x6 f n =>
    (p_J4_append_cf468 V g f n x4 (59 : Int32)).bind fun v25 =>
    K x0 x1 x2 x4 x5 (x6 + (1 : Int32)) v25.2.1 v25.2.2) 8) (x0 := x0) (x1 := x1) (x2 := x2) (x5 := x5) (x6 := x6) (x7 := x7) (x9 := nn m) (x10 := nn 0)
  have l2 : (s ++ (cwt t ++ [32]) ++ [] ++ pn_t q []).length ≤ s.length + 13 := by
    rw [List.length_append, List.append_nil]
    omega
  obtain ⟨P, f3, n3, hP, hb, hl3, c3, B3, s3, o3⟩ := M_122 S (K := fun x0 x1 x2 x4 x5 x6 f n =>
    (p_J4_append_cf468 V g f n x4 (59 : Int32)).bind fun v25 =>
    K x0 x1 x2 x4 x5 (x6 + (1 : Int32)) v25.2.1 v25.2.2) (x0 := x0) (x1 := x1) (x2 := x2) (x5 := x5) (x6 := x6) (x7 := x7) hm (m - 1) 8 1 f2 n2 _ (by omega) (by omega) (by omega) B2 (by omega)
  have l3 : (s ++ (cwt t ++ [32]) ++ [] ++ pn_t q [] ++ rs_t P []).length ≤ s.length + 62 := by
    rw [List.length_append]
    omega
  obtain ⟨f4, n4, c4, B4, s4, o4⟩ := B_ch (V := V) (g := g) B3 (c := 59) (by omega) (by omega)
  have ht : s ++ (cwt t ++ [32]) ++ [] ++ pn_t q [] ++ rs_t P [] ++ [59] = s ++ co_t t q P [59] := by
    show _ = s ++ (cwt t ++ 32 :: pn_t q (rs_t P [59]))
    rw [pn_ap q (rs_t P [59]), rs_ap P [59]]
    simp only [List.append_assoc, List.cons_append, List.nil_append, List.append_nil]
  rw [ht] at B4
  refine ⟨(t, q, P), f4, n4, ⟨fun p hp => ?_, by show 2 ≤ P.length; omega, by show P.length ≤ 30; omega⟩, ?_, ?_, B4, by omega, fun z hz => by rw [o4 z hz, o3 z hz, o2 z hz, o1 z hz]⟩
  · rcases List.mem_cons.mp hp with h | h
    · rw [h]; exact hq
    · exact hb p h
  · have e := congrArg List.length ht
    rw [List.length_append] at e
    rw [List.length_append (as := s)] at e
    have : ([59] : List Nat).length = 1 := rfl
    show (co_t t q P [59]).length ≤ 63
    omega
  · unfold p_L_law_j115
    rw [c1, ob_s]
    dsimp only
    rw [p_L_law_l122, if_neg (by rw [n_0, nn_le (by omega) (by omega)]; omega), if_pos (by decide)]
    refine (c2.trans ?_)
    rw [nn_s]
    refine c3.trans ?_
    rw [show (59 : Int32) = nn 59 from rfl, c4, ob_s]
/-- the coastlines' texts -/
theorem ma_ap (c : CT) (C : List CT) : ma_t (c :: C) = co_t c.1 c.2.1 c.2.2 [59] ++ ma_t C := by
  show cwt c.1 ++ 32 :: pn_t c.2.1 (rs_t c.2.2 (59 :: ma_t C)) = (cwt c.1 ++ 32 :: pn_t c.2.1 (rs_t c.2.2 [59])) ++ ma_t C
  rw [rs_ap c.2.2 (59 :: ma_t C), rs_ap c.2.2 [59], pn_ap c.2.1 (_ ++ _), pn_ap c.2.1 (_ ++ [59])]
  simp only [List.append_assoc, List.cons_append, List.nil_append]
theorem M_55 (S : StOK V g) (hb : gA g b = some (.inl (0, L, .inl r))) (hL : L ≤ 260) {K : Nat → Nat → Nat → Nat → Int32 → GH → Nat → Option (Int32 × GH × Nat)} {x1 x2 m : Nat} (hm : m ≤ 4) : ∀ (d N i : Nat) (f : GH) (n : Nat) (s : List Nat), i + d = m → d < N → BU f n q0 s → s.length ≤ 12 + 63 * i → ∃ (C : List CT) (f1 : GH) (n1 : Nat), C.length = d ∧ (∀ c ∈ C, ct_b c) ∧ (ma_t C).length ≤ 63 * d ∧ p_L_law_l55 V g K N b x1 x2 q0 (nn m) (nn i) f n = K b x1 x2 q0 (nn m) f1 n1 ∧ BDo f f1 n n1 q0 (s ++ ma_t C) := by
  intro d
  induction d with
  | zero =>
    intro N i f n s he hN B hs
    obtain ⟨N, rfl⟩ : ∃ M, N = M + 1 := ⟨N - 1, by omega⟩
    refine ⟨[], f, n, rfl, (fun p hp => by cases hp), Nat.le_refl _, ?_, by rw [show ma_t [] = [] from rfl, List.append_nil]; exact B, Nat.le_refl _, fun _ _ => rfl⟩
    rw [p_L_law_l55, if_pos (by rw [nn_le (by omega) (by omega)]; omega)]
  | succ d ih =>
    intro N i f n s he hN B hs
    obtain ⟨N, rfl⟩ : ∃ M, N = M + 1 := ⟨N - 1, by omega⟩
    obtain ⟨v, hv⟩ := L_cell (j := 1 + i) hb hL (by omega)
    have h2 := mo_lt v (show 1 ≤ 2 by omega)
    have h6 := mo_lt (v >>> ((1 : Int32) &&& 31)) (show 1 ≤ 6 by omega)
    have hm2 : p_L_most V g f v (2 : Int32) = some (nn (mo v 2)) := L_most V g f v (b := 2) (by omega) (by omega)
    have hm6 : p_L_most V g f (v >>> ((1 : Int32) &&& 31)) (6 : Int32) = some (nn (mo (v >>> ((1 : Int32) &&& 31)) 6)) := L_most V g f _ (b := 6) (by omega) (by omega)
    generalize mo (v >>> ((1 : Int32) &&& 31)) 6 = w at *
    obtain ⟨c, f1, n1, hc, hl, c1, B1, s1, o1⟩ := M_115 S (K := p_L_law_l55 V g K N) (x0 := b) (x1 := x1) (x2 := x2) (x5 := nn m) (x6 := nn i) (x7 := v) (m := 3 + w) (by omega) (by omega) B (by omega) (decide (mo v 2 = 0))
    obtain ⟨C, f2, n2, hC, hcb, hl2, c2, B2, s2, o2⟩ := ih N (i + 1) f1 n1 _ (by omega) (by omega) B1 (by rw [List.length_append]; omega)
    refine ⟨c :: C, f2, n2, by rw [List.length_cons, hC], fun p hp => ?_, ?_, ?_, ?_, by omega, fun z hz => (o2 z hz).trans (o1 z hz)⟩
    · rcases List.mem_cons.mp hp with h | h
      · rw [h]; exact hc
      · exact hcb p h
    · rw [ma_ap, List.length_append]
      omega
    · rw [← c2, ← nn_s, ← c1, p_L_law_l55, if_neg (by rw [nn_le (by omega) (by omega)]; omega), show (1 : Int32) + nn i = nn (1 + i) from nn_add 1 i, hv, ob_s, hm2, ob_s]
      by_cases z : mo v 2 = 0
      · rw [z, if_pos (show nn 0 = (0 : Int32) from rfl)]
        unfold p_L_law_j86
        rw [hm6, ob_s, show (3 : Int32) + nn w = nn (3 + w) from nn_add 3 w, if_neg (by decide)]
        rfl
      · rw [if_neg (fun e => z (by rw [n_0, nn_eq (by omega) (by omega)] at e; exact e))]
        unfold p_L_law_j86
        rw [hm6, ob_s, show (3 : Int32) + nn w = nn (3 + w) from nn_add 3 w, if_pos rfl, decide_eq_false z]
        rfl
    · rw [ma_ap, ← List.append_assoc]
      exact B2
end MC

/-! ===== a coastline is read: the class's side ===== -/
section SI
variable {B : Nat → Int32} {L : Nat} {σ : PS} {c : CS}
theorem pt_err1 (h0 : pE σ = 0) (hn : cN c < 33) (h1 : pE (ps_sgn B L 1000 σ).2 ≠ 0) : ps_pt B L c σ = (c, (ps_sgn B L 1000 σ).2) := by
  have e := (pt3_sgn (B := B) (L := L) h0 hn).1
  have e2 : ps_ptE B L (cN c) σ = (ps_sgn B L 1000 σ).2 := by
    unfold ps_ptE
    rw [e, ps_sgn_e h1]
  unfold ps_pt
  rw [e2, if_neg h1]
theorem pt_2 (h0 : pE σ = 0) (hn : cN c < 33) (h1 : pE (ps_sgn B L 1000 σ).2 = 0) : ps_pt3 B (cN c) σ = σ ∧ ps_ptE B L (cN c) σ = (ps_sgn B L 1000 (ps_sgn B L 1000 σ).2).2 := by
  have e := (pt3_sgn (B := B) (L := L) h0 hn).2 h1
  refine ⟨e, ?_⟩
  unfold ps_ptE
  rw [e]
theorem pt_err2 (h0 : pE σ = 0) (hn : cN c < 33) (h1 : pE (ps_sgn B L 1000 σ).2 = 0) (h2 : pE (ps_sgn B L 1000 (ps_sgn B L 1000 σ).2).2 ≠ 0) : ps_pt B L c σ = (c, (ps_sgn B L 1000 (ps_sgn B L 1000 σ).2).2) := by
  obtain ⟨a1, a2⟩ := pt_2 (c := c) h0 hn h1
  unfold ps_pt
  rw [a2, if_neg h2]
theorem pt_ok (h0 : pE σ = 0) (hn : cN c < 33) (h1 : pE (ps_sgn B L 1000 σ).2 = 0) (h2 : pE (ps_sgn B L 1000 (ps_sgn B L 1000 σ).2).2 = 0) : ps_pt B L c σ = (s_app c (ps_sgn B L 1000 σ).1 (ps_sgn B L 1000 (ps_sgn B L 1000 σ).2).1, (ps_sgn B L 1000 (ps_sgn B L 1000 σ).2).2) := by
  obtain ⟨a1, a2⟩ := pt_2 (c := c) h0 hn h1
  unfold ps_pt
  rw [a2, if_pos h2, a1]
theorem pt3_33 (h0 : pE σ = 0) {n : Nat} (hn : ¬ n < 33) : ps_pt3 B n σ = if kD (pT σ) = 5 then ps_chk false 3 σ else if kD (pT σ) = 2 then (if s_val B (pT σ) ≤ 1000 then ps_chk false 3 σ else ps_chk false 2 σ) else ps_chk false 1 σ := by
  unfold ps_pt3
  rw [decide_eq_false hn]
  by_cases h5 : kD (pT σ) = 5
  · rw [if_pos h5, decide_eq_true h5, Bool.or_true, ps_chk_t, decide_eq_false (show ¬ kD (pT σ) = 2 by omega)]
    show ps_chk false 3 (ps_chk true 2 σ) = _
    rw [ps_chk_t]
  · rw [if_neg h5]
    by_cases h2 : kD (pT σ) = 2
    · rw [if_pos h2, decide_eq_true h2, Bool.true_or, ps_chk_t]
      by_cases hv : s_val B (pT σ) ≤ 1000
      · rw [if_pos hv, decide_eq_true hv, Bool.or_true, ps_chk_t]
      · have hne : pE (ps_chk false 2 σ) ≠ 0 := by rw [ps_chk_f h0]; show (2 : Int32) ≠ 0; decide
        rw [if_neg hv, decide_eq_false hv]
        exact ps_chk_e hne
    · have hne : pE (ps_chk false 1 σ) ≠ 0 := by rw [ps_chk_f h0]; show (1 : Int32) ≠ 0; decide
      rw [if_neg h2, decide_eq_false h2, decide_eq_false h5]
      show ps_chk false 3 (ps_chk true 2 (ps_chk false 1 σ)) = _
      rw [ps_chk_t]
      exact ps_chk_e hne
theorem chk_ne (h0 : pE σ = 0) {k : Int32} (hk : k ≠ 0) : pE (ps_chk false k σ) ≠ 0 := by
  rw [ps_chk_f h0]
  exact hk
theorem pt_33 (h0 : pE σ = 0) (hn : ¬ cN c < 33) : pE (ps_pt3 B (cN c) σ) ≠ 0 ∧ ps_pt B L c σ = (c, ps_pt3 B (cN c) σ) := by
  have hne : pE (ps_pt3 B (cN c) σ) ≠ 0 := fun h => hn (pt3_0 h).2.1
  refine ⟨hne, ?_⟩
  have e2 : ps_ptE B L (cN c) σ = ps_pt3 B (cN c) σ := by
    unfold ps_ptE
    rw [ps_sgn_e hne, ps_sgn_e hne]
  unfold ps_pt
  rw [e2, if_neg hne]
end SI
section CR
variable {V : Nat → Nat} {g f : GH} {x bl L q cap : Nat} {bs B : Nat → Int32} {σ : PS} {it kg : Int32} {c : CS}
def kc108 (V : Nat → Nat) (g : GH) (x0 x1 : Nat) (f : GH) : Option (Int32 × GH) :=
  (h_gi f x1 5 2).bind fun v23 =>
  (p_X2_neededPoints V g f x1).bind fun v24 =>
  (if v24 ≤ v23 then
    some ((1 : Int32), f)
  else
    (p_X4_fail V g f x0 (1 : Int32)).bind fun v26 =>
    (if v26.1 = (0 : Int32) then
      some ((0 : Int32), v26.2)
    else
      some ((1 : Int32), v26.2)))
def kc146 (V : Nat → Nat) (g : GH) (x0 : Nat) (f : GH) : Option (Int32 × GH) :=
  (p_X4_refusePoint V g f x0).bind fun v28 =>
  (h_bz v28.1).bind fun _ =>
  some (v28.1, v28.2)
def kc0 (f : GH) : Option (Int32 × GH) := some ((0 : Int32), f)
theorem G_refuse (P : PG x bl L bs σ it kg f) (hL : L ≤ 700) (hB : ∀ i, i < L → BR (bs i) (B i)) (hv : PV B L σ) (h0 : pE σ = 0) {n : Nat} (hn : ¬ n < 33) : ∃ f1, p_X4_refusePoint V g f (x + 64) = some (0, f1) ∧ PG x bl L bs (ps_pt3 B n σ) it kg f1 ∧ h_out (x + 62) (x + 65) f f1 := by
  have hk := hv.2.2.1
  rw [pt3_33 h0 hn]
  unfold p_X4_refusePoint
  rw [P.me, P.tk, ob_s, P.kd, ob_s]
  by_cases h5 : kD (pT σ) = 5
  · obtain ⟨f1, e1, e2, e3⟩ := G_fail (V := V) (g := g) P h0 (c := 3) (by decide)
    refine ⟨f1, ?_, by rw [if_pos h5]; exact e2, e3⟩
    rw [if_pos (by rw [h5]; rfl), e1, ob_s, hbz01 (Or.inl rfl), ob_s]
  · rw [if_neg (fun e => h5 (by rw [n_5, nn_eq (by omega) (by omega)] at e; exact e)), ob_s, P.kd, ob_s]
    by_cases h2 : kD (pT σ) = 2
    · obtain ⟨w, w1, w2⟩ := G_val (V := V) (g := g) P hL hB hv h2
      have hw := w2.1
      have hle := w2.le (show 1000 ≤ 2000 by decide)
      rw [if_pos (by rw [h2]; rfl), ob_s, w1, ob_s]
      by_cases hv1 : s_val B (pT σ) ≤ 1000
      · obtain ⟨f1, e1, e2, e3⟩ := G_fail (V := V) (g := g) P h0 (c := 3) (by decide)
        refine ⟨f1, ?_, by rw [if_neg h5, if_pos h2, if_pos hv1]; exact e2, e3⟩
        rw [if_pos (by rw [show (1000 : Int32) = nn 1000 from rfl, nn_le (by omega) (by omega)]; omega), e1, ob_s, hbz01 (Or.inl rfl), ob_s]
      · obtain ⟨f1, e1, e2, e3⟩ := G_fail (V := V) (g := g) P h0 (c := 2) (by decide)
        refine ⟨f1, ?_, by rw [if_neg h5, if_pos h2, if_neg hv1]; exact e2, e3⟩
        rw [if_neg (by rw [show (1000 : Int32) = nn 1000 from rfl, nn_le (by omega) (by omega)]; omega), e1, ob_s, hbz01 (Or.inl rfl), ob_s]
    · obtain ⟨f1, e1, e2, e3⟩ := G_fail (V := V) (g := g) P h0 (c := 1) (by decide)
      refine ⟨f1, ?_, by rw [if_neg h5, if_neg h2]; exact e2, e3⟩
      rw [if_neg (fun e => h2 (by rw [n_2, nn_eq (by omega) (by omega)] at e; exact e)), e1, ob_s, hbz01 (Or.inl rfl), ob_s]
/-- a coastline's end -/
def ps_fin (r : CS × PS) : PS := ps_chk (decide (s_need r.1 ≤ cN r.1)) 1 r.2
theorem C_ptsL (hL : L ≤ 700) (hB : ∀ i, i < L → BR (bs i) (B i)) (hcap : 33 ≤ cap) (hq : q + 3 ≤ x + 62 ∨ x + 65 ≤ q) : ∀ (d N : Nat) (c : CS) (σ : PS) (f : GH) (it : Int32), cN c + d = 33 → d < N → PG x bl L bs σ it kg f → CoA f q cap c → pE σ = 0 → PV B L σ → CoB c →
    ∃ f1 it1 c1, p_X4_readCoast_l43 V g kc0 kc0 (kc108 V g) (kc146 V g) N (x + 64) q (nn (cN c)) f = some (bz (decide (pE (ps_fin (ps_pts B L d c σ)) = 0)), f1) ∧ PG x bl L bs (ps_fin (ps_pts B L d c σ)) it1 kg f1 ∧ CoA f1 q cap c1 ∧ (pE (ps_fin (ps_pts B L d c σ)) = 0 → c1 = (ps_pts B L d c σ).1) ∧ ∀ a, (a < x + 62 ∨ x + 65 ≤ a) → (a < q ∨ q + 3 ≤ a) → f1 a = f a := by
  intro d
  induction d with
  | zero =>
    intro N c σ f it hc hN P D h0 hv hcb
    obtain ⟨N, rfl⟩ : ∃ M, N = M + 1 := ⟨N - 1, by omega⟩
    obtain ⟨hne, hpt⟩ := pt_33 (B := B) (L := L) (c := c) h0 (by omega)
    obtain ⟨f1, e1, e2, e3⟩ := G_refuse (V := V) (g := g) P hL hB hv h0 (n := cN c) (by omega)
    rw [ps_pts, hpt]
    have hf : ps_fin (c, ps_pt3 B (cN c) σ) = ps_pt3 B (cN c) σ := ps_chk_e hne
    rw [hf]
    refine ⟨f1, it, c, ?_, e2, D.frame (fun a h1 h2 => e3 a (by omega)), fun h => absurd h hne, fun a h1 _ => e3 a h1⟩
    rw [p_X4_readCoast_l43, if_pos (by rw [show (33 : Int32) = nn 33 from rfl, nn_le (by omega) (by omega)]; omega)]
    unfold kc146
    rw [e1, ob_s, hbz01 (Or.inl rfl), ob_s, bz_e1 hne]
  | succ d ih =>
    intro N c σ f it hc hN P D h0 hv hcb
    obtain ⟨N, rfl⟩ : ∃ M, N = M + 1 := ⟨N - 1, by omega⟩
    have hn : cN c < 33 := by omega
    obtain ⟨f1, i1, e1, e2, e3, e4⟩ := G_sgn (V := V) (g := g) P hL hB hv h0 (hi := 1000) (by decide) (by decide)
    have hlit : p_X4_readInteger V g f (x + 64) (-1000 : Int32) (1000 : Int32) = some (bz (decide (pE (ps_sgn B L 1000 σ).2 = 0)), f1) := by
      rw [show (-1000 : Int32) = -(nn 1000) by decide, show (1000 : Int32) = nn 1000 from rfl]
      exact e1
    rw [p_X4_readCoast_l43, if_neg (by rw [show (33 : Int32) = nn 33 from rfl, nn_le (by omega) (by omega)]; omega), hlit, ob_s, ps_pts]
    by_cases h1 : pE (ps_sgn B L 1000 σ).2 = 0
    · obtain ⟨f2, i2, g1, g2, g3, g4⟩ := G_sgn (V := V) (g := g) e2 hL hB hv.sgn h1 (hi := 1000) (by decide) (by decide)
      have hlit2 : p_X4_readInteger V g f1 (x + 64) (-1000 : Int32) (1000 : Int32) = some (bz (decide (pE (ps_sgn B L 1000 (ps_sgn B L 1000 σ).2).2 = 0)), f2) := by
        rw [show (-1000 : Int32) = -(nn 1000) by decide, show (1000 : Int32) = nn 1000 from rfl]
        exact g1
      rw [bz_e0 h1]
      show ∃ f1' it1 c1, (if (1 : Int32) = 0 then kc0 f1 else _) = _ ∧ _
      rw [if_neg (by decide), e2.gi, ob_s, hlit2, ob_s]
      have D2 : CoA f2 q cap c := D.frame (fun a h1 h2 => (g3 a (by omega)).trans (e3 a (by omega)))
      by_cases h2 : pE (ps_sgn B L 1000 (ps_sgn B L 1000 σ).2).2 = 0
      · obtain ⟨f3, k1, k2, k3⟩ := C_ins (V := V) (g := g) D2 (p := cN c) (Nat.le_refl _) (by omega) (ps_sgn B L 1000 σ).1 (ps_sgn B L 1000 (ps_sgn B L 1000 σ).2).1
        have P3 : PG x bl L bs (ps_sgn B L 1000 (ps_sgn B L 1000 σ).2).2 i2 kg f3 := g2.fr (fun a h1 h2 => k3 a (by omega))
        have hfr : ∀ a, (a < x + 62 ∨ x + 65 ≤ a) → (a < q ∨ q + 3 ≤ a) → f3 a = f a := fun a a1 a2 => (k3 a a2).trans ((g3 a a1).trans (e3 a a1))
        have hpt := pt_ok (B := B) (L := L) (c := c) h0 hn h1 h2
        have hcb2 := hcb.pt (B := B) (L := L) (σ := σ)
        rw [hpt] at hcb2
        rw [bz_e0 h2]
        show ∃ f1' it1 c1, (if (1 : Int32) = 0 then kc0 f2 else _) = _ ∧ _
        rw [if_neg (by decide), D2.n, ob_s, g2.gi, ob_s, e4 h1, g4 h2, k1, ob_s, P3.tk, ob_s, P3.kd, ob_s, hpt]
        have hk : kD (pT (ps_sgn B L 1000 (ps_sgn B L 1000 σ).2).2) ≤ 6 := (hv.sgn.sgn).2.2.1
        by_cases h4 : kD (pT (ps_sgn B L 1000 (ps_sgn B L 1000 σ).2).2) = 4
        · obtain ⟨f4, m1, m2, m3⟩ := G_adv (V := V) (g := g) P3 hL hB hv.sgn.sgn h2
          obtain ⟨f5, i5, c5, n1, n2, n3, n4, n5⟩ := ih N (s_app c (ps_sgn B L 1000 σ).1 (ps_sgn B L 1000 (ps_sgn B L 1000 σ).2).1) (ps_adv B L (ps_sgn B L 1000 (ps_sgn B L 1000 σ).2).2) f4 i2 (by show cN c + 1 + d = 33; omega) (by omega) m2 (k2.frame (fun a h1 h2 => m3 a (by omega))) (by rw [ps_adv_0 h2]; rfl) hv.sgn.sgn.adv hcb2.1
          rw [if_pos (show pE (ps_sgn B L 1000 (ps_sgn B L 1000 σ).2).2 = 0 ∧ kD (pT (ps_sgn B L 1000 (ps_sgn B L 1000 σ).2).2) = 4 from ⟨h2, h4⟩), if_pos (show nn (kD (pT (ps_sgn B L 1000 (ps_sgn B L 1000 σ).2).2)) = (4 : Int32) by rw [h4]; rfl), ob_s, m1, ob_s, nn_s]
          exact ⟨f5, i5, c5, n1, n2, n3, n4, fun a a1 a2 => (n5 a a1 a2).trans ((m3 a a1).trans (hfr a a1 a2))⟩
        · rw [if_neg (show ¬ (pE (ps_sgn B L 1000 (ps_sgn B L 1000 σ).2).2 = 0 ∧ kD (pT (ps_sgn B L 1000 (ps_sgn B L 1000 σ).2).2) = 4) from fun z => h4 z.2), if_neg (fun e => h4 (by rw [show (4 : Int32) = nn 4 from rfl, nn_eq (by omega) (by omega)] at e; exact e))]
          unfold kc108
          have hnl := s_need_lt (s_app c (ps_sgn B L 1000 σ).1 (ps_sgn B L 1000 (ps_sgn B L 1000 σ).2).1)
          rw [show h_gi f3 q 5 2 = some (nn (cN (s_app c (ps_sgn B L 1000 σ).1 (ps_sgn B L 1000 (ps_sgn B L 1000 σ).2).1))) from k2.n, ob_s, show p_X2_neededPoints V g f3 q = some (nn (s_need (s_app c (ps_sgn B L 1000 σ).1 (ps_sgn B L 1000 (ps_sgn B L 1000 σ).2).1))) from C_need k2, ob_s]
          have hc33 := hcb2.1.1
          dsimp only at hc33
          by_cases hne : s_need (s_app c (ps_sgn B L 1000 σ).1 (ps_sgn B L 1000 (ps_sgn B L 1000 σ).2).1) ≤ cN (s_app c (ps_sgn B L 1000 σ).1 (ps_sgn B L 1000 (ps_sgn B L 1000 σ).2).1)
          · have hf : ps_fin (s_app c (ps_sgn B L 1000 σ).1 (ps_sgn B L 1000 (ps_sgn B L 1000 σ).2).1, (ps_sgn B L 1000 (ps_sgn B L 1000 σ).2).2) = (ps_sgn B L 1000 (ps_sgn B L 1000 σ).2).2 := by
              unfold ps_fin
              dsimp only
              rw [decide_eq_true hne, ps_chk_t]
            rw [hf, if_pos (by rw [nn_le (by omega) (by omega)]; exact hne), bz_e0 h2]
            exact ⟨f3, i2, _, rfl, P3, k2, fun _ => rfl, hfr⟩
          · obtain ⟨f4, m1, m2, m3⟩ := G_fail (V := V) (g := g) P3 h2 (c := 1) (by decide)
            have hne2 := chk_ne h2 (k := 1) (by decide)
            have hf : ps_fin (s_app c (ps_sgn B L 1000 σ).1 (ps_sgn B L 1000 (ps_sgn B L 1000 σ).2).1, (ps_sgn B L 1000 (ps_sgn B L 1000 σ).2).2) = ps_chk false 1 (ps_sgn B L 1000 (ps_sgn B L 1000 σ).2).2 := by
              unfold ps_fin
              dsimp only
              rw [decide_eq_false hne]
            rw [hf, if_neg (by rw [nn_le (by omega) (by omega)]; exact hne), m1, ob_s, if_pos rfl, bz_e1 hne2]
            exact ⟨f4, i2, _, rfl, m2, k2.frame (fun a h1 h2 => m3 a (by omega)), fun h => absurd h hne2, fun a a1 a2 => (m3 a a1).trans (hfr a a1 a2)⟩
      · rw [pt_err2 h0 hn h1 h2, if_neg (show ¬ (pE (ps_sgn B L 1000 (ps_sgn B L 1000 σ).2).2 = 0 ∧ kD (pT (ps_sgn B L 1000 (ps_sgn B L 1000 σ).2).2) = 4) from fun z => h2 z.1), show ps_fin (c, (ps_sgn B L 1000 (ps_sgn B L 1000 σ).2).2) = (ps_sgn B L 1000 (ps_sgn B L 1000 σ).2).2 from ps_chk_e h2, bz_e1 h2]
        refine ⟨f2, i2, c, ?_, g2, D2, fun h => absurd h h2, fun a a1 a2 => (g3 a a1).trans (e3 a a1)⟩
        show (if (0 : Int32) = 0 then kc0 f2 else _) = _
        rw [if_pos rfl]
        rfl
    · rw [pt_err1 h0 hn h1, if_neg (show ¬ (pE (ps_sgn B L 1000 σ).2 = 0 ∧ kD (pT (ps_sgn B L 1000 σ).2) = 4) from fun z => h1 z.1), show ps_fin (c, (ps_sgn B L 1000 σ).2) = (ps_sgn B L 1000 σ).2 from ps_chk_e h1, bz_e1 h1]
      refine ⟨f1, i1, c, ?_, e2, D.frame (fun a h1 h2 => e3 a (by omega)), fun h => absurd h h1, fun a a1 a2 => e3 a a1⟩
      show (if (0 : Int32) = 0 then kc0 f1 else _) = _
      rw [if_pos rfl]
      rfl
theorem body_fin (isl : Int32) : (ps_body B L isl σ).2 = ps_fin (ps_pts B L n33 (c_new isl) σ) := by
  rw [body_2]
  generalize ps_pts B L n33 (c_new isl) σ = r
  rfl
theorem G_coast (S : StOK V g) (P : PG x bl L bs σ it kg f) (hL : L ≤ 700) (hB : ∀ i, i < L → BR (bs i) (B i)) (hv : PV B L σ) (h0 : pE σ = 0) (hcap : 33 ≤ cap) (hq : q + 3 ≤ x + 62 ∨ x + 65 ≤ q) (D : CoA f q cap c) : ∃ f1 it1 c1, p_X4_readCoast V g f (x + 64) q = some (bz (decide (pE (ps_coast B L σ).2 = 0)), f1) ∧ PG x bl L bs (ps_coast B L σ).2 it1 kg f1 ∧ CoA f1 q cap c1 ∧ (pE (ps_coast B L σ).2 = 0 → c1 = (ps_coast B L σ).1) ∧ ∀ a, (a < x + 62 ∨ x + 65 ≤ a) → (a < q ∨ q + 3 ≤ a) → f1 a = f a := by
  have hcap2 : cap ≤ 200 := D.2.2.2.2
  have w4 := G_isWord S P hL hB hv (i := 4) (by decide)
  generalize hy : bz (s_word B (pT σ) 4) = y at w4
  have hy01 : y = 0 ∨ y = 1 := by rw [← hy]; exact bz_i01 _
  -- the cell with its island and no point
  have hD : ∃ f2, (h_pt f q 5 3 (.int y)).bind (fun f4 => h_pt f4 q 5 2 (.int (0 : Int32))) = some f2 ∧ CoA f2 q cap (c_new y) ∧ h_out q (q + 3) f f2 := by
    obtain ⟨d1, ⟨xa, d2, d3⟩, ⟨ya, d4, d5⟩, d6, d7⟩ := id D
    refine ⟨h_up f q (.inr (5, [.ref (q + 1), .ref (q + 2), .int 0, .int y])), ?_, ⟨h_up_s _ _ _, ⟨xa, (h_up_n _ _ (by omega)).trans d2, fun k hk => absurd hk (Nat.not_lt_zero k)⟩, ⟨ya, (h_up_n _ _ (by omega)).trans d4, fun k hk => absurd hk (Nat.not_lt_zero k)⟩, Nat.zero_le _, d7⟩, (h_out.rf _ _ _).up (Nat.le_refl _) (by omega)⟩
    rw [hpt_of d1 (by decide : 3 < 4), ob_s, hpt_of (h_up_s _ _ _) (by simp), up_up]
    rfl
  obtain ⟨f2, k1, k2, k3⟩ := hD
  obtain ⟨f4, k4, k5⟩ := Option.bind_eq_some_iff.mp k1
  have P2 : PG x bl L bs σ it kg f2 := P.fr (fun a h1 h2 => k3 a (by omega))
  have hi5 : h_gi f2 q 5 3 = some y := k2.i
  -- the first word, then the points
  have main : ∀ (i : Nat), i < 14 → (s_word B (pT σ) i = s_cw B (pT σ)) → y = ps_cisl B σ ∨ s_cw B (pT σ) = false → ∃ f1 it1 c1, p_X4_readCoast_j33 V g (x + 64) q (V (st_wi.getD i 0)) (x + 64) f2 = some (bz (decide (pE (ps_coast B L σ).2 = 0)), f1) ∧ PG x bl L bs (ps_coast B L σ).2 it1 kg f1 ∧ CoA f1 q cap c1 ∧ (pE (ps_coast B L σ).2 = 0 → c1 = (ps_coast B L σ).1) ∧ ∀ a, (a < x + 62 ∨ x + 65 ≤ a) → (a < q ∨ q + 3 ≤ a) → f1 a = f a := by
    intro i hi hw hyi
    obtain ⟨f3, e1, e2, e3⟩ := G_takeWord (V := V) (g := g) S P2 hL hB hv h0 hi
    rw [hw] at e1 e2
    have D3 : CoA f3 q cap (c_new y) := k2.frame (fun a h1 h2 => e3 a (by omega))
    unfold p_X4_readCoast_j33
    rw [e1, ob_s]
    cases hcw : s_cw B (pT σ) with
    | false =>
      rw [hcw] at e2
      have hne := chk_ne h0 (k := 1) (by decide)
      rw [ps_coast_n h0 hcw]
      rw [ps_adv_e hne] at e2 ⊢
      rw [bz_e1 hne]
      refine ⟨f3, it, _, ?_, e2, D3, fun h => absurd h hne, fun a a1 a2 => (e3 a a1).trans (k3 a a2)⟩
      show (if (0 : Int32) = 0 then _ else _) = _
      rw [if_pos rfl]
    | true =>
      rw [hcw, ps_chk_t] at e2
      have hyy : y = ps_cisl B σ := hyi.elim id (fun h => absurd (hcw.symm.trans h) (by decide))
      have h00 : pE (ps_adv B L σ) = 0 := by rw [ps_adv_0 h0]; rfl
      obtain ⟨f5, i5, c5, n1, n2, n3, n4, n5⟩ := C_ptsL (V := V) (g := g) hL hB hcap hq n33 FU (c_new y) (ps_adv B L σ) f3 it (by rw [n33_eq]; rfl) (by rw [n33_eq]; unfold FU; omega) e2 D3 h00 hv.adv (CoB.new y)
      have he : (ps_coast B L σ) = ps_body B L y (ps_adv B L σ) := by rw [coast_eq, hcw, ps_chk_t, ← hyy]
      rw [he, body_fin, body_1, ps_chk_t, bz_e0 h00]
      refine ⟨f5, i5, c5, ?_, n2, n3, n4, fun a a1 a2 => (n5 a a1 a2).trans ((e3 a a1).trans (k3 a a2))⟩
      show (if (1 : Int32) = 0 then _ else _) = _
      rw [if_neg (by decide)]
      exact n1
  unfold p_X4_readCoast
  rw [P.me, P.tk, ob_s, show p_X5_isWord V g f (x + 62) (V 26) = some y from w4, ob_s, hbz01 hy01, ob_s, k4, ob_s, k5, ob_s, hi5, ob_s]
  cases hw4 : s_word B (pT σ) 4 with
  | true =>
    have hcw : s_cw B (pT σ) = true := by unfold s_cw; rw [hw4, Bool.or_true]
    rw [if_neg (by rw [← hy, hw4]; decide)]
    refine main 4 (by decide) (by rw [hw4, hcw]) (Or.inl ?_)
    unfold ps_cisl
    rw [hcw, ps_chk_t, decide_eq_true h0, Bool.true_and]
    exact hy.symm
  | false =>
    rw [if_pos (by rw [← hy, hw4]; decide)]
    refine main 3 (by decide) (by unfold s_cw; rw [hw4, Bool.or_false]) ?_
    cases hcw : s_cw B (pT σ) with
    | false => exact Or.inr rfl
    | true =>
      refine Or.inl ?_
      unfold ps_cisl
      rw [hcw, ps_chk_t, decide_eq_true h0, Bool.true_and]
      exact hy.symm
end CR


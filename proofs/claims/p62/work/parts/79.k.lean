/-! ===== a map is read: the class's side ===== -/
section CK
variable {V : Nat → Nat} {g f : GH} {x bl L h : Nat} {bs B : Nat → Int32} {σ : PS} {it kg : Int32} {T : TS} {c : CS}
theorem G_begin {len kd st nx cc oo : Int32} (h1 : f (x + 62) = some (.inr (8, [.ref (x + 63), .int (nn bl), .int len, .int kd, .int st, .int nx]))) (h2 : f (x + 63) = some (.inl (1, 700, .inl bs))) (h3 : f (x + 64) = some (.inr (7, [.ref (x + 62), .int cc, .int oo, .int it, .int kg]))) (hL : L ≤ 700) (hB : ∀ i, i < L → BR (bs i) (B i)) : ∃ f1, p_X4_begin V g f (x + 64) (nn L) = some f1 ∧ PG x bl L bs (ps_0 B L) it kg f1 ∧ h_out (x + 62) (x + 65) f f1 := by
  have e1 : h_up f (x + 64) (.inr (7, [.ref (x + 62), .int 0, .int (-1), .int it, .int kg])) (x + 62) = some (.inr (8, [.ref (x + 62 + 1), .int (nn bl), .int len, .int kd, .int st, .int nx])) := by rw [h_up_n _ _ (by omega)]; exact h1
  have e2 : h_up f (x + 64) (.inr (7, [.ref (x + 62), .int 0, .int (-1), .int it, .int kg])) (x + 62 + 1) = some (.inl (1, 700, .inl bs)) := by rw [h_up_n _ _ (by omega)]; exact h2
  have hf := tH_id e1 e2
  have ha : p_X5_advance V g (tH (x + 62) (nn bl) (nn L) kd st (0 : Int32) bs (h_up f (x + 64) (.inr (7, [.ref (x + 62), .int 0, .int (-1), .int it, .int kg])))) (x + 62) = some (tH (x + 62) (nn bl) (nn L) (nn (kD (s_adv B L 0))) (nn (kS (s_adv B L 0))) (nn (kN (s_adv B L 0))) bs (h_up f (x + 64) (.inr (7, [.ref (x + 62), .int 0, .int (-1), .int it, .int kg])))) := C_adv (V := V) (g := g) (t := x + 62) (bl := bl) (kd := kd) (st := st) (i := 0) hL hB (Nat.zero_le L)
  refine ⟨tH (x + 62) (nn bl) (nn L) (nn (kD (s_adv B L 0))) (nn (kS (s_adv B L 0))) (nn (kN (s_adv B L 0))) bs (h_up f (x + 64) (.inr (7, [.ref (x + 62), .int 0, .int (-1), .int it, .int kg]))), ?_, ⟨tH_o, tH_b, ?_⟩, fun a hq => (tH_out a (by omega)).trans (h_up_n f _ (by omega))⟩
  · unfold p_X4_begin
    rw [hme_of h3, hpt_of h3 (by decide : 1 < 5), ob_s, hpt_of (h_up_s _ _ _) (by simp), up_up, ob_s]
    show ((h_gr (h_up f (x + 64) (.inr (7, [.ref (x + 62), .int 0, .int (-1), .int it, .int kg]))) (x + 64) 7 0).bind _) = _
    rw [hgr_of (h_up_s _ _ _) rfl, ob_s]
    have hb : p_X5_begin V g (h_up f (x + 64) (.inr (7, [.ref (x + 62), .int 0, .int (-1), .int it, .int kg]))) (x + 62) (nn L) = some (tH (x + 62) (nn bl) (nn L) (nn (kD (s_adv B L 0))) (nn (kS (s_adv B L 0))) (nn (kN (s_adv B L 0))) bs (h_up f (x + 64) (.inr (7, [.ref (x + 62), .int 0, .int (-1), .int it, .int kg])))) := by
      unfold p_X5_begin
      rw [hme_of e1]
      rw [hf, k_plen, ob_s, k_pnx, ob_s]
      rw [← hf]
      rw [ha, ob_s]
    show ((p_X5_begin V g (h_up f (x + 64) (.inr (7, [.ref (x + 62), .int 0, .int (-1), .int it, .int kg]))) (x + 62) (nn L)).bind _) = _
    rw [hb, ob_s]
  · rw [tH_out _ (by omega), h_up_s]
    rfl
theorem G_met (S : StOK V g) (P : PG x bl L bs σ it kg f) (hL : L ≤ 700) (hB : ∀ i, i < L → BR (bs i) (B i)) (hv : PV B L σ) (h0 : pE σ = 0) : ∃ f1, p_X4_readMetric V g f (x + 64) = some (bz (decide (pE (ps_met B L σ) = 0)), f1) ∧ PG x bl L bs (ps_met B L σ) it (ps_kg B σ) f1 ∧ h_out (x + 62) (x + 65) f f1 := by
  have w1 := G_isWord S P hL hB hv (i := 1) (by decide)
  have hk : ps_kg B σ = bz (s_word B (pT σ) 1) := by unfold ps_kg; rw [decide_eq_true h0, Bool.true_and]
  obtain ⟨f2, e2, P2, o2⟩ := G_sKing P (ps_kg B σ)
  have hr : ∀ i, i < 14 → s_word B (pT σ) i = s_mw B (pT σ) → ∃ f1, (p_X4_takeWord V g f2 (x + 64) (V (st_wi.getD i 0))).bind (fun v7 => (h_bz v7.1).bind fun _ => some (v7.1, v7.2)) = some (bz (decide (pE (ps_met B L σ) = 0)), f1) ∧ PG x bl L bs (ps_met B L σ) it (ps_kg B σ) f1 ∧ h_out (x + 62) (x + 65) f f1 := by
    intro i hi he
    obtain ⟨f3, e3, P3, o3⟩ := G_takeWord (V := V) (g := g) S P2 hL hB hv h0 hi
    rw [he] at e3 P3
    refine ⟨f3, ?_, P3, o2.tr o3⟩
    rw [e3, ob_s, hbz, ob_s]
    rfl
  unfold p_X4_readMetric
  rw [P.me, P.tk, ob_s, show p_X5_isWord V g f (x + 62) (V 24) = some (ps_kg B σ) by rw [hk]; exact w1, ob_s, show h_bz (ps_kg B σ) = some (ps_kg B σ) from hbz _, ob_s, e2, ob_s, P2.gk, ob_s]
  cases hw : s_word B (pT σ) 1 with
  | true =>
    rw [if_neg (by rw [hk, hw]; decide)]
    exact hr 1 (by decide) (by unfold s_mw; rw [hw, Bool.true_or])
  | false =>
    rw [if_pos (by rw [hk, hw]; decide)]
    exact hr 2 (by decide) (by unfold s_mw; rw [hw, Bool.false_or])
theorem StOK.al12 (S : StOK V g) : h_al (gA g) (V 12) 8 = some (nn 11) := hal_of S.2.1
theorem StOK.lq12 (S : StOK V g) {i : Nat} (hi : i < 11) : h_lq (gA g) (V 12) 8 (nn i) = some (V (1 + i)) := hlq_of S.2.1 hi (by omega) (if_pos hi)
theorem vl_wi : ∀ i, i < 11 → vl_ws.getD i 0 = st_wi.getD (3 + i) 0 := by decide
theorem G_verb (S : StOK V g) (P : PG x bl L bs σ it kg f) (hL : L ≤ 700) (hB : ∀ i, i < L → BR (bs i) (B i)) (hv : PV B L σ) : p_X4_verbHere V g f (x + 64) = some ((s_vb B (pT σ) 11 0).map fun i => V (1 + i)) := by
  have hl : ∀ (d N i : Nat), i + d = 11 → d < N → p_X4_verbHere_l2 V g f (fun x1 => (h_lq (gA g) (V 12) 8 x1).bind fun v8 => some (some v8)) (some none) N (x + 64) (nn i) = some ((s_vb B (pT σ) d i).map fun i => V (1 + i)) := by
    intro d
    induction d with
    | zero =>
      intro N i he hN
      obtain ⟨N, rfl⟩ : ∃ M, N = M + 1 := ⟨N - 1, by omega⟩
      rw [p_X4_verbHere_l2, S.al12, ob_s, if_pos (by rw [nn_le (by omega) (by omega)]; omega)]
      rfl
    | succ d ih =>
      intro N i he hN
      obtain ⟨N, rfl⟩ : ∃ M, N = M + 1 := ⟨N - 1, by omega⟩
      have hb := S.vb (v := 1 + i) (by omega) (by omega)
      rw [show 1 + i - 1 = i by omega, vl_wi i (by omega)] at hb
      rw [p_X4_verbHere_l2, S.al12, ob_s, if_neg (by rw [nn_le (by omega) (by omega)]; omega), P.tk, ob_s, S.lq12 (by omega), ob_s, hgr_of hb rfl, ob_s, G_isWord S P hL hB hv (by omega), ob_s, s_vb]
      cases hw : s_word B (pT σ) (3 + i) with
      | true => rw [if_neg bz_tn, if_pos rfl, ob_s]; rfl
      | false => rw [if_pos bz_f, nn_s, if_neg (by decide)]; exact ih N (i + 1) (by omega) (by omega)
  unfold p_X4_verbHere
  rw [P.me]
  exact hl 11 FU 0 rfl (by unfold FU; omega)
/-- the next coastline's place in a chart -/
theorem ChA.slot2 (C : ChA f h T) (h6 : tN T < 6) : ∃ r c, h_lq f (h + 1) 5 (nn (tN T)) = some r ∧ CoA f r 129 c ∧ h + 2 ≤ r ∧ r + 3 ≤ h + 20 ∧
    (∀ (f1 : GH) (c' : CS), CoA f1 r 129 c' → (∀ a, h ≤ a → a < h + 20 → (a < r ∨ r + 3 ≤ a) → f1 a = f a) → ChA f1 h T ∧ ChA (h_up f1 h (.inr (4, [.ref (h + 1), .int (nn (tN T + 1)), .int (tK T), .int (tL T), .int (tA T), .int (tR T)]))) h (tN T + 1, tK T, tL T, tA T, tR T, fun j => if j = tN T then c' else tC T j)) := by
  obtain ⟨r, c, q1, q2, q3, q4, q5, q6, q7⟩ := C.slot h6
  have C0 := C
  obtain ⟨p1, p2, ra, b, p3, p4, p5, p6, p7⟩ := C
  refine ⟨r, c, q1, q2, q3, q4, fun f1 c' hc ho => ?_⟩
  have hr : r = b (tN T) := by
    have := hlq_of p3 h6 (by omega) (p4 _ h6).1
    rw [q1] at this
    exact Option.some.inj this
  obtain ⟨j0, hj0, e0⟩ := (p4 _ h6).2
  have fr : ∀ (j : Nat) (d : CS), j < 6 → j ≠ tN T → CoA f (b j) 129 d → CoA f1 (b j) 129 d := by
    intro j d hj hne hd
    obtain ⟨jj, hjj, ej⟩ := (p4 j hj).2
    have : jj ≠ j0 := fun e => hne (p5 j _ hj h6 (by rw [ej, e0, e]))
    exact hd.frame (fun a h1 h2 => ho a (by omega) (by omega) (by omega))
  refine ⟨⟨by rw [ho h (by omega) (by omega) (by omega)]; exact p1, p2, ra, b, by rw [ho (h + 1) (by omega) (by omega) (by omega)]; exact p3, p4, p5, fun j hj => fr j _ (by omega) (by omega) (p6 j hj), fun j hj => ?_⟩, ?_⟩
  · by_cases e : j = tN T
    · exact ⟨c', by rw [e, ← hr]; exact hc⟩
    · obtain ⟨d, hd⟩ := p7 j hj
      exact ⟨d, fr j _ hj e hd⟩
  · -- the same over the chart's cells alone
    have k := q7 (fun a => if h ≤ a ∧ a < h + 20 then f1 a else f a) c' (tA T) (hc.frame (fun a h1 h2 => if_pos ⟨by omega, by omega⟩)) (fun a ha => by
      show (if h ≤ a ∧ a < h + 20 then f1 a else f a) = f a
      by_cases e : h ≤ a ∧ a < h + 20
      · rw [if_pos e]; exact ho a e.1 e.2 ha
      · rw [if_neg e]) rfl
    refine k.frame (fun a h1 h2 => ?_)
    by_cases e : a = h
    · rw [e, h_up_s, h_up_s]
    · rw [h_up_n _ _ e, h_up_n _ _ e]
      exact (if_pos ⟨h1, h2⟩).symm
/-- a chart that a map is read into -/
def ChM (f : GH) (h : Nat) (k : Int32) (T : MS) : Prop := ∃ l a r, ChA f h (T.1, k, l, a, r, T.2)
def kmK (V : Nat → Nat) (g : GH) (x0 : Nat) (f : GH) : Option (Int32 × GH) :=
  (h_gr f x0 7 0).bind fun v24 =>
  (h_gi f v24 8 3).bind fun v25 =>
  (if v25 = (0 : Int32) then
    some ((1 : Int32), f)
  else
    (p_X4_verbHere V g f x0).bind fun v27 =>
    (match v27 with
    | none =>
      (p_X4_fail V g f x0 (1 : Int32)).bind fun v35 =>
      (h_bz v35.1).bind fun _ =>
      some (v35.1, v35.2)
    | some v28 =>
      (h_gi (gO g) v28 50 2).bind fun v29 =>
      (if v29 = (0 : Int32) then
        (p_X4_fail V g f x0 (1 : Int32)).bind fun v31 =>
        (h_bz v31.1).bind fun _ =>
        some (v31.1, v31.2)
      else
        (p_X4_fail V g f x0 (3 : Int32)).bind fun v33 =>
        (h_bz v33.1).bind fun _ =>
        some (v33.1, v33.2))))
def km1 (f : GH) : Option (Int32 × GH) := some ((1 : Int32), f)
theorem C_map_l (S : StOK V g) (hL : L ≤ 700) (hB : ∀ i, i < L → BR (bs i) (B i)) {k : Int32} : ∀ (d N : Nat) (T : MS) (σ : PS) (f : GH) (it : Int32), T.1 + d = 6 → d < N → PG x bl L bs σ it kg f → ChM f (x + 21) k T → pE σ = 0 → PV B L σ →
    ∃ f1 it1, p_X4_readMap_l46 V g km1 kc0 (kmK V g) N (x + 64) (x + 21) (nn T.1) f = some (bz (decide (pE (ps_map B L d T σ).2 = 0)), f1) ∧ PG x bl L bs (ps_map B L d T σ).2 it1 kg f1 ∧ (∃ T0, ChA f1 (x + 21) T0) ∧ (pE (ps_map B L d T σ).2 = 0 → ChM f1 (x + 21) k (ps_map B L d T σ).1) ∧ ∀ a, (a < x + 21 ∨ x + 41 ≤ a ∧ a < x + 62 ∨ x + 65 ≤ a) → f1 a = f a := by
  intro d
  induction d with
  | zero =>
    intro N T σ f it hd hN P C h0 hv
    obtain ⟨N, rfl⟩ : ∃ M, N = M + 1 := ⟨N - 1, by omega⟩
    have hkd := hv.2.2.1
    rw [p_X4_readMap_l46, if_pos (by rw [n_6, nn_le (by omega) (by omega)]; omega), ps_map]
    unfold kmK
    rw [P.tk, ob_s, P.kd, ob_s]
    by_cases hk : kD (pT σ) = 0
    · rw [if_pos (by rw [hk]; rfl), if_neg (fun q => q.2 hk)]
      exact ⟨f, it, by rw [bz_e0 h0], P, by obtain ⟨l, a, r, h⟩ := C; exact ⟨_, h⟩, fun _ => C, fun _ _ => rfl⟩
    · rw [if_neg (fun e => hk (by rw [n_0, nn_eq (by omega) (by omega)] at e; exact e)), if_pos ⟨h0, hk⟩, G_verb S P hL hB hv, ob_s]
      have fin : ∀ (cc : Int32) (σ1 : PS), cc ≠ 0 → σ1 = ps_chk false cc σ → ∃ f1 it1, (p_X4_fail V g f (x + 64) cc).bind (fun v31 => (h_bz v31.1).bind fun _ => some (v31.1, v31.2)) = some (bz (decide (pE σ1 = 0)), f1) ∧ PG x bl L bs σ1 it1 kg f1 ∧ (∃ T0, ChA f1 (x + 21) T0) ∧ (pE σ1 = 0 → ChM f1 (x + 21) k T) ∧ ∀ a, (a < x + 21 ∨ x + 41 ≤ a ∧ a < x + 62 ∨ x + 65 ≤ a) → f1 a = f a := by
        intro cc σ1 hcc hs
        obtain ⟨f1, e1, P1, o1⟩ := G_fail (V := V) (g := g) P h0 hcc
        have hne := chk_ne h0 hcc
        rw [hs]
        refine ⟨f1, it, ?_, P1, ?_, fun h => absurd h hne, fun a ha => o1 a (by omega)⟩
        · rw [e1, ob_s, hbz01 (Or.inl rfl), ob_s, bz_e1 hne]
        · obtain ⟨l, a, r, h⟩ := C
          exact ⟨_, h.frame (fun a h1 h2 => o1 a (by omega))⟩
      cases hcw : s_cw B (pT σ) with
      | true =>
        obtain ⟨v, hv1, hv2⟩ := s_cw_vb.mp hcw
        have hb := S.vb (v := 1 + v) (by omega) (by omega)
        have hic : vl_isCoast.getD (1 + v - 1) 0 = 1 := by
          have : ∀ i, i < 2 → vl_isCoast.getD (1 + i - 1) 0 = 1 := by decide
          exact this v hv2
        rw [hv1]
        show ∃ f1 it1, ((h_gi (gO g) (V (1 + v)) 50 2).bind _) = _ ∧ _
        rw [hgi_of hb rfl, ob_s, if_neg (by rw [hic]; decide)]
        exact fin 3 _ (by decide) (by rw [ps_chk_t])
      | false =>
        have hne := chk_ne h0 (k := 1) (by decide)
        have hs : ps_chk false 3 (ps_chk false 1 σ) = ps_chk false 1 σ := ps_chk_e hne
        cases hvb : s_vb B (pT σ) 11 0 with
        | none => exact fin 1 _ (by decide) hs
        | some v =>
          obtain ⟨a1, a2, a3⟩ := s_vb_ge _ _ _ hvb
          have hv2 : ¬ v < 2 := fun q => by
            have := s_cw_vb.mpr ⟨v, hvb, q⟩
            rw [hcw] at this
            exact absurd this (by decide)
          have hb := S.vb (v := 1 + v) (by omega) (by omega)
          have hic : vl_isCoast.getD (1 + v - 1) 0 = 0 := by
            have : ∀ i, i < 11 → ¬ i < 2 → vl_isCoast.getD (1 + i - 1) 0 = 0 := by decide
            exact this v (by omega) hv2
          show ∃ f1 it1, ((h_gi (gO g) (V (1 + v)) 50 2).bind _) = _ ∧ _
          rw [hgi_of hb rfl, ob_s, if_pos hic]
          exact fin 1 _ (by decide) hs
  | succ d ih =>
    intro N T σ f it hd hN P C h0 hv
    obtain ⟨N, rfl⟩ : ∃ M, N = M + 1 := ⟨N - 1, by omega⟩
    have hkd := hv.2.2.1
    rw [p_X4_readMap_l46, if_neg (by rw [n_6, nn_le (by omega) (by omega)]; omega), P.tk, ob_s, P.kd, ob_s, ps_map]
    by_cases hk : kD (pT σ) = 0
    · rw [if_pos (by rw [hk]; rfl), if_neg (fun q => q.2 hk)]
      exact ⟨f, it, by rw [bz_e0 h0]; rfl, P, by obtain ⟨l, a, r, h⟩ := C; exact ⟨_, h⟩, fun _ => C, fun _ _ => rfl⟩
    · obtain ⟨l, a, r, C⟩ := C
      obtain ⟨q, cq, s1, s2, s3, s4, s5⟩ := C.slot2 (by show T.1 < 6; omega)
      obtain ⟨f1, i1, c1, e1, P1, D1, g1, o1⟩ := G_coast (V := V) (g := g) S P hL hB hv h0 (cap := 129) (by decide) (by omega) s2
      obtain ⟨C1, C2⟩ := s5 f1 c1 D1 (fun a h1 h2 h3 => o1 a (by omega) h3)
      rw [if_neg (fun e => hk (by rw [n_0, nn_eq (by omega) (by omega)] at e; exact e)), if_pos ⟨h0, hk⟩, C.arr, ob_s, show h_lq f (x + 21 + 1) 5 (nn T.1) = some q from s1, ob_s, e1, ob_s]
      by_cases h1 : pE (ps_coast B L σ).2 = 0
      · obtain ⟨f2, e2, P2, o2⟩ := G_take (V := V) (g := g) P1 hL hB hv.coast h1 (k := 3) (by decide)
        have e2' : p_X4_take V g f1 (x + 64) (3 : Int32) = some (bz (decide (pE (ps_ce B L σ) = 0)), f2) := e2
        have P2' : PG x bl L bs (ps_ce B L σ) i1 kg f2 := P2
        rw [bz_e0 h1]
        show ∃ f1' it1, (if (1 : Int32) = 0 then _ else _) = _ ∧ _
        rw [if_neg (by decide), e2', ob_s]
        by_cases h2 : pE (ps_ce B L σ) = 0
        · have C3 : ChA f2 (x + 21) (T.1, k, l, a, r, T.2) := C1.frame (fun a h1 h2 => o2 a (by omega))
          rw [bz_e0 h2, if_pos h2]
          show ∃ f1' it1, (if (1 : Int32) = 0 then _ else _) = _ ∧ _
          rw [if_neg (by decide), show h_gi f2 (x + 21) 4 1 = some (nn T.1) from C3.n, ob_s, nn_s, hpt_of C3.1 (by decide : 1 < 6), ob_s]
          have C4 : ChM (h_up f2 (x + 21) (.inr (4, [.ref (x + 21 + 1), .int (nn (T.1 + 1)), .int k, .int l, .int a, .int r]))) (x + 21) k (ms_add T (ps_coast B L σ).1) := by
            refine ⟨l, a, r, ?_⟩
            have := C2.frame (f1 := h_up f2 (x + 21) (.inr (4, [.ref (x + 21 + 1), .int (nn (T.1 + 1)), .int k, .int l, .int a, .int r]))) (fun b h1 h2 => by
              by_cases e : b = x + 21
              · rw [e, h_up_s, h_up_s]; rfl
              · rw [h_up_n _ _ e, h_up_n _ _ e]; exact o2 b (by omega))
            rw [g1 h1] at this
            exact this
          obtain ⟨f5, i5, n1, n2, n3, n4, n5⟩ := ih N (ms_add T (ps_coast B L σ).1) (ps_ce B L σ) _ i1 (by show T.1 + 1 + d = 6; omega) (by omega) (P2'.fr (fun b h1 h2 => h_up_n f2 _ (by omega))) C4 h2 hv.ce
          exact ⟨f5, i5, n1, n2, n3, n4, fun b hb => (n5 b hb).trans ((h_up_n f2 _ (by omega)).trans ((o2 b (by omega)).trans (o1 b (by omega) (by omega))))⟩
        · rw [bz_e1 h2, if_neg h2]
          refine ⟨f2, i1, ?_, P2', ⟨_, C1.frame (fun b h1 h2 => o2 b (by omega))⟩, fun h => absurd h h2, fun b hb => (o2 b (by omega)).trans (o1 b (by omega) (by omega))⟩
          show (if (0 : Int32) = 0 then kc0 f2 else _) = _
          rw [if_pos rfl, bz_e1 h2]
          rfl
      · have hce : ps_ce B L σ = (ps_coast B L σ).2 := ps_exp_e h1
        rw [bz_e1 h1, hce, if_neg h1]
        refine ⟨f1, i1, ?_, P1, ⟨_, C1⟩, fun h => absurd h h1, fun b hb => o1 b (by omega) (by omega)⟩
        show (if (0 : Int32) = 0 then kc0 f1 else _) = _
        rw [if_pos rfl, bz_e1 h1]
        rfl
set_option maxHeartbeats 300000 in
theorem C_map (S : StOK V g) {len kd st nx cc oo : Int32} (h1 : f (x + 62) = some (.inr (8, [.ref (x + 63), .int (nn bl), .int len, .int kd, .int st, .int nx]))) (h2 : f (x + 63) = some (.inl (1, 700, .inl bs))) (h3 : f (x + 64) = some (.inr (7, [.ref (x + 62), .int cc, .int oo, .int it, .int kg]))) (hL : L ≤ 700) (hB : ∀ i, i < L → BR (bs i) (B i)) (C : ChA f (x + 21) T) (hkg : kg = 0 ∨ kg = 1) :
    ∃ f1 it1 kg1, p_X4_readMap V g f (x + 64) (nn L) (x + 21) = some (bz (decide (pE (ps_whole B L).2 = 0)), f1) ∧ PG x bl L bs (ps_whole B L).2 it1 kg1 f1 ∧ (kg1 = 0 ∨ kg1 = 1) ∧ (∃ T0, ChA f1 (x + 21) T0) ∧ (pE (ps_whole B L).2 = 0 → ChM f1 (x + 21) (ps_king B L) (ps_whole B L).1) ∧ ∀ a, (a < x + 21 ∨ x + 41 ≤ a ∧ a < x + 62 ∨ x + 65 ≤ a) → f1 a = f a := by
  have hv : PV B L (ps_0 B L) := PV.p0
  obtain ⟨f1, e1, P1, o1⟩ := G_begin (V := V) (g := g) h1 h2 h3 hL hB
  obtain ⟨f2, e2, P2, o2⟩ := G_takeWord (V := V) (g := g) S P1 hL hB hv rfl (i := 0) (by decide)
  have e2' : p_X4_takeWord V g f1 (x + 64) (V 23) = some (bz (decide (pE (ps_wd B L 0 (ps_0 B L)) = 0)), f2) := e2
  have P2' : PG x bl L bs (ps_wd B L 0 (ps_0 B L)) it kg f2 := P2
  have stop : ∀ σ : PS, pE σ ≠ 0 → ps_map B L n6 mp_0 σ = (mp_0, σ) := fun σ h => ps_map_e h n6
  have hk01 : ps_king B L = 0 ∨ ps_king B L = 1 := bz_i01 _
  have hkg2 : ps_kg B (ps_wd B L 0 (ps_0 B L)) = ps_king B L := rfl
  have hv2 : PV B L (ps_wd B L 0 (ps_0 B L)) := PV.wd hv
  have oo2 : ∀ a, (a < x + 62 ∨ x + 65 ≤ a) → f2 a = f a := fun a ha => (o2 a ha).trans (o1 a ha)
  unfold p_X4_readMap ps_whole ps_m3
  rw [hme_of h3, e1, ob_s, e2', ob_s]
  clear e1 e2 P2 e2' hv
  generalize ps_wd B L 0 (ps_0 B L) = σ2 at *
  by_cases q2 : pE σ2 = 0
  · obtain ⟨f3, e3, P3, o3⟩ := G_met (V := V) (g := g) S P2' hL hB hv2 q2
    rw [hkg2] at P3
    have hv3 : PV B L (ps_met B L σ2) := PV.met hv2
    have oo3 : ∀ a, (a < x + 62 ∨ x + 65 ≤ a) → f3 a = f a := fun a ha => (o3 a ha).trans (oo2 a ha)
    rw [bz_e0 q2]
    show ∃ f1' it1 kg1, (if (1 : Int32) = 0 then _ else _) = _ ∧ _
    rw [if_neg (by decide), e3, ob_s]
    clear e3
    generalize ps_met B L σ2 = σ3 at *
    by_cases q3 : pE σ3 = 0
    · obtain ⟨f4, e4, P4, o4⟩ := G_take (V := V) (g := g) P3 hL hB hv3 q3 (k := 3) (by decide)
      have e4' : p_X4_take V g f3 (x + 64) (3 : Int32) = some (bz (decide (pE (ps_exp B L 3 σ3) = 0)), f4) := e4
      have P4' : PG x bl L bs (ps_exp B L 3 σ3) it (ps_king B L) f4 := P4
      have hv4 : PV B L (ps_exp B L 3 σ3) := PV.exp hv3
      have oo4 : ∀ a, (a < x + 62 ∨ x + 65 ≤ a) → f4 a = f a := fun a ha => (o4 a ha).trans (oo3 a ha)
      have C4 : ChA f4 (x + 21) T := C.frame (fun a h1 h2 => oo4 a (by omega))
      rw [bz_e0 q3]
      show ∃ f1' it1 kg1, (if (1 : Int32) = 0 then _ else _) = _ ∧ _
      rw [if_neg (by decide), e4', ob_s]
      clear e4 P4 e4'
      generalize ps_exp B L 3 σ3 = σ4 at *
      by_cases q4 : pE σ4 = 0
      · rw [bz_e0 q4]
        show ∃ f1' it1 kg1, (if (1 : Int32) = 0 then _ else _) = _ ∧ _
        rw [if_neg (by decide), P4'.gk, ob_s, hbz01 hk01, ob_s, hpt_of C4.1 (by decide : 2 < 6), ob_s, hpt_of (h_up_s _ _ _) (by simp), up_up, ob_s]
        have C5 : ChM (h_up f4 (x + 21) (.inr (4, [.ref (x + 21 + 1), .int 0, .int (ps_king B L), .int (tL T), .int (tA T), .int (tR T)]))) (x + 21) (ps_king B L) mp_0 := by
          obtain ⟨p1, p2, ra, b, p3, p4, p5, p6, p7⟩ := C4
          refine ⟨tL T, tA T, tR T, h_up_s _ _ _, Nat.zero_le _, ra, b, by rw [h_up_n _ _ (by omega)]; exact p3, p4, p5, fun i hi => absurd hi (Nat.not_lt_zero i), fun j hj => ?_⟩
          obtain ⟨jj, hjj, ej⟩ := (p4 j hj).2
          obtain ⟨d, hd⟩ := p7 j hj
          exact ⟨d, hd.frame (fun b h1 h2 => h_up_n f4 _ (by omega))⟩
        obtain ⟨f5, i5, n1, n2, n3, n4, n5⟩ := C_map_l (V := V) (g := g) (kg := ps_king B L) S hL hB n6 FU mp_0 σ4 _ it (by rw [n6_eq]; rfl) (by rw [n6_eq]; unfold FU; omega) (P4'.fr (fun b h1 h2 => h_up_n f4 _ (by omega))) C5 q4 hv4
        exact ⟨f5, i5, ps_king B L, n1, n2, hk01, n3, n4, fun a ha => (n5 a ha).trans ((h_up_n f4 _ (by omega)).trans (oo4 a (by omega)))⟩
      · rw [bz_e1 q4, stop _ q4]
        dsimp only
        rw [bz_e1 q4]
        refine ⟨f4, it, ps_king B L, ?_, P4', hk01, ⟨T, C4⟩, fun h => absurd h q4, fun a ha => oo4 a (by omega)⟩
        rw [if_pos rfl]
    · rw [bz_e1 q3, ps_exp_e q3, stop _ q3]
      dsimp only
      rw [bz_e1 q3]
      refine ⟨f3, it, ps_king B L, ?_, P3, hk01, ⟨T, C.frame (fun a h1 h2 => oo3 a (by omega))⟩, fun h => absurd h q3, fun a ha => oo3 a (by omega)⟩
      rw [if_pos rfl]
  · rw [bz_e1 q2, ps_met_e q2, ps_exp_e q2, stop _ q2]
    dsimp only
    rw [bz_e1 q2]
    refine ⟨f2, it, kg, ?_, P2', hkg, ⟨T, C.frame (fun a h1 h2 => oo2 a (by omega))⟩, fun h => absurd h q2, fun a ha => oo2 a (by omega)⟩
    rw [if_pos rfl]
end CK


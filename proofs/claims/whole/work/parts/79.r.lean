/-! ===== a script is read and run ===== -/
noncomputable def n20 : Nat := Classical.choose (⟨20, rfl⟩ : ∃ n : Nat, n = 20)
theorem n20_eq : n20 = 20 := Classical.choose_spec (⟨20, rfl⟩ : ∃ n : Nat, n = 20)
noncomputable def ps_sE (B : Nat → Int32) (L : Nat) (σ : PS) : PS := ps_exp B L 3 (ps_cmd B L σ).2
/-- what stands behind a full script -/
def ps_full (B : Nat → Int32) (σ : PS) : PS := ps_chk false 3 (ps_chk (s_vb B (pT σ) 11 0).isSome 1 σ)
noncomputable def ps_scr (B : Nat → Int32) (L : Nat) : Nat → Nat → (Nat → CMD) → PS → (Nat × (Nat → CMD)) × PS
  | 0, n, K, σ => ((n, K), if pE σ = 0 ∧ kD (pT σ) ≠ 0 then ps_full B σ else σ)
  | d + 1, n, K, σ => if pE σ = 0 ∧ kD (pT σ) ≠ 0 then (if pE (ps_sE B L σ) = 0 then ps_scr B L d (n + 1) (fun j => if j = n then (ps_cmd B L σ).1 else K j) (ps_sE B L σ) else ((n, K), ps_sE B L σ)) else ((n, K), σ)
def ts_run (K : Nat → CMD) : Nat → Nat → TS → Nat × TS
  | 0, i, T => (i, T)
  | d + 1, i, T => if s_refK (K i) T = 0 then ts_run K d (i + 1) (ts_doK (K i) T) else (i, T)
section SR
variable {V : Nat → Nat} {g f f0 f1 : GH} {x m L bl n : Nat} {z : Nat → Int32} {A : Nat → Nat → Int32} {bs B : Nat → Int32} {σ : PS} {it kg : Int32} {T : TS} {K : Nat → CMD}
theorem sE_0 (h : pE (ps_sE B L σ) = 0) : pE (ps_cmd B L σ).2 = 0 := (chk_0 (by decide) (adv_0 h)).1
theorem PV.sE (h : PV B L σ) : PV B L (ps_sE B L σ) := PV.exp h.cmd
theorem full_ne (h0 : pE σ = 0) : pE (ps_full B σ) ≠ 0 := by
  unfold ps_full
  cases (s_vb B (pT σ) 11 0).isSome with
  | false => rw [ps_chk_e (chk_ne h0 (by decide))]; exact chk_ne h0 (by decide)
  | true => rw [ps_chk_t]; exact chk_ne h0 (by decide)
theorem scr_V : ∀ (d n : Nat) (K : Nat → CMD) (σ : PS), (∀ j, j < n → CmV (K j)) → (∀ j, j < (ps_scr B L d n K σ).1.1 → CmV ((ps_scr B L d n K σ).1.2 j)) ∧ (ps_scr B L d n K σ).1.1 ≤ n + d := by
  intro d
  induction d with
  | zero => intro n K σ h; exact ⟨h, Nat.le_refl _⟩
  | succ d ih =>
    intro n K σ h
    rw [ps_scr]
    by_cases h0 : pE σ = 0 ∧ kD (pT σ) ≠ 0
    · rw [if_pos h0]
      by_cases h1 : pE (ps_sE B L σ) = 0
      · rw [if_pos h1]
        obtain ⟨i1, i2⟩ := ih (n + 1) (fun j => if j = n then (ps_cmd B L σ).1 else K j) (ps_sE B L σ) (fun j hj => by
          show CmV (if j = n then (ps_cmd B L σ).1 else K j)
          by_cases e : j = n
          · rw [if_pos e]; exact CmV.cmd (sE_0 h1) h0.1
          · rw [if_neg e]; exact h j (by omega))
        exact ⟨i1, by omega⟩
      · rw [if_neg h1]; exact ⟨h, Nat.le_add_right _ _⟩
    · rw [if_neg h0]; exact ⟨h, Nat.le_add_right _ _⟩
theorem M_scr_l (S : StOK V g) (hL : L ≤ 700) (Kf : Nat → GH → Option (Int32 × GH)) : ∀ (d N n : Nat) (K : Nat → CMD) (σ : PS) (z : Nat → Int32) (A : Nat → Nat → Int32), n + d = 20 → d + 2 < N → A 6 = B → PR z z L σ → PV B L σ → z 25 = nn n → (∀ j, j < n → OrR (A 8) (73 * j) (K j) ∧ CmV (K j)) → ∃ z1 A1, p_X8_runScript_l24 V g Kf N m (mH V m 0 z A f0) = Kf m (mH V m 0 z1 A1 f0) ∧ PR z1 z1 L (ps_scr B L d n K σ).2 ∧ (∀ k, k ≠ 15 → k ≠ 16 → k ≠ 17 → k ≠ 18 → k ≠ 19 → k ≠ 25 → z1 k = z k) ∧ (∀ j, j ≠ 7 → j ≠ 8 → A1 j = A j) ∧ (pE (ps_scr B L d n K σ).2 = 0 → z1 25 = nn (ps_scr B L d n K σ).1.1 ∧ ∀ j, j < (ps_scr B L d n K σ).1.1 → OrR (A1 8) (73 * j) ((ps_scr B L d n K σ).1.2 j)) := by
  have stop : ∀ (N : Nat) (z : Nat → Int32) (A : Nat → Nat → Int32) (σ : PS), 0 < N → PR z z L σ → PV B L σ → ¬ (pE σ = 0 ∧ kD (pT σ) ≠ 0) → p_X8_runScript_l24 V g Kf N m (mH V m 0 z A f0) = Kf m (mH V m 0 z A f0) := by
    intro N z A σ hN P hv h
    obtain ⟨N, rfl⟩ : ∃ M, N = M + 1 := ⟨N - 1, by omega⟩
    have hkd := hv.2.2.1
    rw [p_X8_runScript_l24, m_gi (k := 18) (by decide), P.2.2.1, ob_s]
    by_cases h1 : pE σ = 0
    · rw [if_pos h1, m_gi (k := 17) (by decide), P.2.1.2.2, ob_s, if_pos]
      rw [show kD (pT σ) = 0 from Classical.byContradiction fun q => h ⟨h1, q⟩]
      rfl
    · rw [if_neg h1]
  have go : ∀ (N : Nat) (z : Nat → Int32) (A : Nat → Nat → Int32) (σ : PS), PR z z L σ → PV B L σ → (pE σ = 0 ∧ kD (pT σ) ≠ 0) → p_X8_runScript_l24 V g Kf (N + 1) m (mH V m 0 z A f0) = (p_X8_readOrder V g (mH V m 0 z A f0) m).bind fun v10 => p_X8_runScript_l24 V g Kf N m v10 := by
    intro N z A σ P hv h
    have hkd := hv.2.2.1
    rw [p_X8_runScript_l24, m_gi (k := 18) (by decide), P.2.2.1, ob_s, if_pos h.1, m_gi (k := 17) (by decide), P.2.1.2.2, ob_s, if_neg (fun e => by rw [n_0, nn_eq (by omega) (by omega)] at e; have := h.2; omega)]
  intro d
  induction d with
  | zero =>
    intro N n K σ z A hd hN hA P hv h25 hK
    by_cases h0 : pE σ = 0 ∧ kD (pT σ) ≠ 0
    · obtain ⟨N, rfl⟩ : ∃ M, N = M + 1 := ⟨N - 1, by omega⟩
      have hn : n = 20 := by omega
      obtain ⟨z1, e1, P1⟩ := M_readOrder20 (V := V) (g := g) (m := m) (f0 := f0) S hL hA P hv h0.1 (by rw [h25, hn])
      have hne := full_ne (B := B) h0.1
      have hE : ps_scr B L 0 n K σ = ((n, K), ps_full B σ) := by rw [ps_scr, if_pos h0]
      rw [hE, go N z A σ P hv h0, e1, ob_s]
      refine ⟨z1, A, stop N z1 A (ps_full B σ) (by omega) P1.self ((hv.chk _ _).chk _ _) (fun h => hne h.1), P1.self, fun k a1 a2 a3 a4 a5 _ => P1.2.2.2.2 k a1 a2 a3 a4 a5, fun _ _ _ => rfl, fun h => absurd h hne⟩
    · have hE : ps_scr B L 0 n K σ = ((n, K), σ) := by rw [ps_scr, if_neg h0]
      rw [hE]
      exact ⟨z, A, stop N z A σ (by omega) P hv h0, P, fun _ _ _ _ _ _ _ => rfl, fun _ _ _ => rfl, fun _ => ⟨h25, fun j hj => (hK j hj).1⟩⟩
  | succ d ih =>
    intro N n K σ z A hd hN hA P hv h25 hK
    by_cases h0 : pE σ = 0 ∧ kD (pT σ) ≠ 0
    · obtain ⟨N, rfl⟩ : ∃ M, N = M + 1 := ⟨N - 1, by omega⟩
      obtain ⟨z1, A1, e1, P1, o1, a1, r1, c1⟩ := M_readOrder (V := V) (g := g) (m := m) (f0 := f0) S hL hA P hv h0.1 h25 (by omega)
      have P1 : PR z1 z1 L (ps_sE B L σ) := P1
      have c1 : pE (ps_sE B L σ) = 0 → z1 25 = nn (n + 1) ∧ OrR (A1 8) (73 * n) (ps_cmd B L σ).1 := c1
      have hA1 : A1 6 = B := (a1 6 (by decide) (by decide)).trans hA
      rw [go N z A σ P hv h0, e1, ob_s]
      by_cases h1 : pE (ps_sE B L σ) = 0
      · obtain ⟨c2, c3⟩ := c1 h1
        have hE : ps_scr B L (d + 1) n K σ = ps_scr B L d (n + 1) (fun j => if j = n then (ps_cmd B L σ).1 else K j) (ps_sE B L σ) := by rw [ps_scr, if_pos h0, if_pos h1]
        rw [hE]
        obtain ⟨z2, A2, e2, P2, o2, a2, r2⟩ := ih N (n + 1) (fun j => if j = n then (ps_cmd B L σ).1 else K j) (ps_sE B L σ) z1 A1 (by omega) (by omega) hA1 P1 hv.sE c2 (fun j hj => by
          show OrR (A1 8) (73 * j) (if j = n then (ps_cmd B L σ).1 else K j) ∧ CmV (if j = n then (ps_cmd B L σ).1 else K j)
          by_cases e : j = n
          · rw [if_pos e, e]; exact ⟨c3, CmV.cmd (sE_0 h1) h0.1⟩
          · rw [if_neg e]
            have hj' := hK j (by omega)
            exact ⟨hj'.1.frame hj'.2 (fun k k1 k2 => r1 k (by omega)), hj'.2⟩)
        exact ⟨z2, A2, e2, P2, fun k b1 b2 b3 b4 b5 b6 => (o2 k b1 b2 b3 b4 b5 b6).trans (o1 k b1 b2 b3 b4 b5 b6), fun j j7 j8 => (a2 j j7 j8).trans (a1 j j7 j8), r2⟩
      · have hE : ps_scr B L (d + 1) n K σ = ((n, K), ps_sE B L σ) := by rw [ps_scr, if_pos h0, if_neg h1]
        rw [hE]
        exact ⟨z1, A1, stop N z1 A1 _ (by omega) P1 hv.sE (fun h => h1 h.1), P1, o1, a1, fun h => absurd h h1⟩
    · have hE : ps_scr B L (d + 1) n K σ = ((n, K), σ) := by rw [ps_scr, if_neg h0]
      rw [hE]
      exact ⟨z, A, stop N z A σ (by omega) P hv h0, P, fun _ _ _ _ _ _ _ => rfl, fun _ _ _ => rfl, fun _ => ⟨h25, fun j hj => (hK j hj).1⟩⟩
/-! the class's side -/
theorem CmR.frame {q : Nat} {K : CMD} (h : CmR f q V K) (e : ∀ b, q ≤ b → b < q + 4 → f1 b = f b) : CmR f1 q V K := by
  obtain ⟨k, c, h1, h2⟩ := h
  exact ⟨k, c, h1.frame e, h2⟩
theorem ScR.cell (h : ScR V f x) {n : Nat} (e : ∀ b, x + 65 ≤ b → (b < x + 235 + 4 * n ∨ x + 235 + 4 * n + 4 ≤ b) → f1 b = f b) (hc : ∃ v a p u w k c, CmA f1 (x + 235 + 4 * n) V v a p u w k c) : ScR V f1 x := by
  obtain ⟨⟨ra, s1, s2⟩, s3⟩ := h
  refine ⟨⟨ra, (e _ (by omega) (by omega)).trans s1, s2⟩, fun j hj => ?_⟩
  by_cases q : j = n
  · rw [q]; exact hc
  · obtain ⟨v, a, p, u, w, k, c, h⟩ := s3 j hj
    exact ⟨v, a, p, u, w, k, c, h.frame (fun b h1 h2 => e b (by omega) (by omega))⟩
def ksK (V : Nat → Nat) (g : GH) (x0 x2 : Nat) (f : GH) : Option (Int32 × GH) :=
    (h_gr f x0 7 0).bind fun v12 =>
    (h_gi f v12 8 3).bind fun v13 =>
    (if v13 = (0 : Int32) then
      (h_al f x2 6).bind fun v19 =>
      some (v19, f)
    else
      (p_X4_verbHere V g f x0).bind fun v15 =>
      (match v15 with
      | none =>
        (p_X4_fail V g f x0 (1 : Int32)).bind fun v18 =>
        some ((-1 : Int32), v18.2)
      | some v16 =>
        (p_X4_fail V g f x0 (3 : Int32)).bind fun v17 =>
        some ((-1 : Int32), v17.2)))
theorem C_scr_l (S : StOK V g) (hL : L ≤ 700) (hB : ∀ i, i < L → BR (bs i) (B i)) : ∀ (d N n : Nat) (K : Nat → CMD) (σ : PS) (f : GH) (it kg : Int32), n + d = 20 → d + 2 < N → PG x bl L bs σ it kg f → PV B L σ → pE σ = 0 → (kg = 0 ∨ kg = 1) → ScR V f x → (∀ j, j < n → CmR f (x + 235 + 4 * j) V (K j)) → ∃ f1 it1 kg1, p_X4_readScript_l7 V g (fun x3 f => some (x3, f)) (fun f => some ((-1 : Int32), f)) (ksK V g) N (x + 64) (x + 65) (nn n) f = some (if pE (ps_scr B L d n K σ).2 = 0 then nn (ps_scr B L d n K σ).1.1 else -1, f1) ∧ PG x bl L bs (ps_scr B L d n K σ).2 it1 kg1 f1 ∧ (kg1 = 0 ∨ kg1 = 1) ∧ ScR V f1 x ∧ (pE (ps_scr B L d n K σ).2 = 0 → ∀ j, j < (ps_scr B L d n K σ).1.1 → CmR f1 (x + 235 + 4 * j) V ((ps_scr B L d n K σ).1.2 j)) ∧ ∀ b, (b < x + 62 ∨ x + 65 ≤ b) → (b < x + 235 ∨ x + 315 ≤ b) → f1 b = f b := by
  intro d
  induction d with
  | zero =>
    intro N n K σ f it kg hd hN P hv h0 hkg hs hK
    obtain ⟨N, rfl⟩ : ∃ M, N = M + 1 := ⟨N - 1, by omega⟩
    obtain ⟨⟨ra, s1, s2⟩, s3⟩ := id hs
    have hkd := hv.2.2.1
    have hn : n = 20 := by omega
    have hal : h_al f (x + 65) 6 = some (nn 20) := hal_of s1
    rw [p_X4_readScript_l7, hal, ob_s, if_pos (by rw [hn]; exact Int32.le_refl _)]
    unfold ksK
    rw [P.tk, ob_s, P.kd, ob_s]
    by_cases hk : kD (pT σ) = 0
    · have hE : ps_scr B L 0 n K σ = ((n, K), σ) := by rw [ps_scr, if_neg (fun h => h.2 hk)]
      rw [hE]
      dsimp only
      rw [if_pos (by rw [hk]; rfl), hal, ob_s, if_pos h0, hn]
      rw [hn] at hK
      exact ⟨f, it, kg, rfl, P, hkg, hs, fun _ => hK, fun _ _ _ => rfl⟩
    · have hE : ps_scr B L 0 n K σ = ((n, K), ps_full B σ) := by rw [ps_scr, if_pos ⟨h0, hk⟩]
      have hne := full_ne (B := B) h0
      rw [hE]
      dsimp only
      rw [if_neg (fun e => by rw [n_0, nn_eq (by omega) (by omega)] at e; exact hk e), G_verb S P hL hB hv, ob_s, if_neg hne]
      have fin : ∀ c : Int32, c ≠ 0 → ps_full B σ = ps_chk false c σ → ∃ f1 it1 kg1, ((p_X4_fail V g f (x + 64) c).bind fun v17 => some ((-1 : Int32), v17.2)) = some ((-1 : Int32), f1) ∧ PG x bl L bs (ps_full B σ) it1 kg1 f1 ∧ (kg1 = 0 ∨ kg1 = 1) ∧ ScR V f1 x ∧ (pE (ps_full B σ) = 0 → ∀ j, j < n → CmR f1 (x + 235 + 4 * j) V (K j)) ∧ ∀ b, (b < x + 62 ∨ x + 65 ≤ b) → (b < x + 235 ∨ x + 315 ≤ b) → f1 b = f b := by
        intro c hc he
        obtain ⟨f1, e1, P1, o1⟩ := G_fail (V := V) (g := g) P h0 hc
        refine ⟨f1, it, kg, by rw [e1, ob_s], by rw [he]; exact P1, hkg, hs.frame (fun b hb => o1 b (by omega)), fun h => absurd h hne, fun b h1 _ => o1 b h1⟩
      cases hvb : s_vb B (pT σ) 11 0 with
      | none =>
        refine fin 1 (by decide) ?_
        unfold ps_full
        rw [hvb]
        exact ps_chk_e (chk_ne h0 (by decide))
      | some i =>
        refine fin 3 (by decide) ?_
        unfold ps_full
        rw [hvb]
        show ps_chk false 3 (ps_chk true 1 σ) = _
        rw [ps_chk_t]
  | succ d ih =>
    intro N n K σ f it kg hd hN P hv h0 hkg hs hK
    obtain ⟨N, rfl⟩ : ∃ M, N = M + 1 := ⟨N - 1, by omega⟩
    obtain ⟨⟨ra, s1, s2⟩, s3⟩ := id hs
    have hkd := hv.2.2.1
    have hal : h_al f (x + 65) 6 = some (nn 20) := hal_of s1
    rw [p_X4_readScript_l7, hal, ob_s, if_neg (by rw [nn_le (by omega) (by omega)]; omega), P.tk, ob_s, P.kd, ob_s]
    by_cases hk : kD (pT σ) = 0
    · have hE : ps_scr B L (d + 1) n K σ = ((n, K), σ) := by rw [ps_scr, if_neg (fun h => h.2 hk)]
      rw [hE, if_pos (by rw [hk]; rfl)]
      dsimp only
      rw [if_pos h0]
      exact ⟨f, it, kg, rfl, P, hkg, hs, fun _ => hK, fun _ _ _ => rfl⟩
    · rw [if_neg (fun e => by rw [n_0, nn_eq (by omega) (by omega)] at e; exact hk e), hlq_of s1 (show n < 20 by omega) (by omega) (s2 n (by omega)), ob_s]
      obtain ⟨v0, a0, p0, u0, w0, k0, c0, C0⟩ := s3 n (by omega)
      obtain ⟨f2, i2, kg2, e2, P2, g2, K2, r2, o2⟩ := G_cmd (V := V) (g := g) S P hL hB hv h0 hkg (q := x + 235 + 4 * n) (by omega) C0
      have S2 : ScR V f2 x := hs.cell (fun b h1 h2 => o2 b (by omega) h2) K2
      rw [e2, ob_s]
      by_cases h1 : pE (ps_cmd B L σ).2 = 0
      · obtain ⟨f3, e3, P3, o3⟩ := G_take (V := V) (g := g) P2 hL hB hv.cmd h1 (k := 3) (by decide)
        have e3 : p_X4_take V g f2 (x + 64) (3 : Int32) = some (bz (decide (pE (ps_sE B L σ) = 0)), f3) := e3
        have P3 : PG x bl L bs (ps_sE B L σ) i2 kg2 f3 := P3
        have S3 : ScR V f3 x := S2.frame (fun b hb => o3 b (by omega))
        rw [bz_e0 h1]
        show ∃ f1 it1 kg1, (if (1 : Int32) = 0 then _ else _) = _ ∧ _
        rw [if_neg (by decide), e3, ob_s]
        by_cases h5 : pE (ps_sE B L σ) = 0
        · have hE : ps_scr B L (d + 1) n K σ = ps_scr B L d (n + 1) (fun j => if j = n then (ps_cmd B L σ).1 else K j) (ps_sE B L σ) := by rw [ps_scr, if_pos ⟨h0, hk⟩, if_pos h5]
          rw [hE, bz_e0 h5]
          show ∃ f1 it1 kg1, (if (1 : Int32) = 0 then _ else _) = _ ∧ _
          rw [if_neg (by decide), nn_s]
          obtain ⟨f4, i4, kg4, e4, P4, g4, S4, r4, o4⟩ := ih N (n + 1) (fun j => if j = n then (ps_cmd B L σ).1 else K j) (ps_sE B L σ) f3 i2 kg2 (by omega) (by omega) P3 hv.sE h5 g2 S3 (fun j hj => by
            show CmR f3 (x + 235 + 4 * j) V (if j = n then (ps_cmd B L σ).1 else K j)
            by_cases e : j = n
            · rw [if_pos e, e]; exact (r2 h1).frame (fun b q1 q2 => o3 b (by omega))
            · rw [if_neg e]; exact (hK j (by omega)).frame (fun b q1 q2 => (o3 b (by omega)).trans (o2 b (by omega) (by omega))))
          exact ⟨f4, i4, kg4, e4, P4, g4, S4, r4, fun b q1 q2 => (o4 b q1 q2).trans ((o3 b q1).trans (o2 b q1 (by omega)))⟩
        · have hE : ps_scr B L (d + 1) n K σ = ((n, K), ps_sE B L σ) := by rw [ps_scr, if_pos ⟨h0, hk⟩, if_neg h5]
          rw [hE, bz_e1 h5, if_pos rfl]
          dsimp only
          rw [if_neg h5]
          exact ⟨f3, i2, kg2, rfl, P3, g2, S3, fun h => absurd h h5, fun b q1 q2 => (o3 b q1).trans (o2 b q1 (by omega))⟩
      · have h5 : ps_sE B L σ = (ps_cmd B L σ).2 := ps_exp_e h1
        have hE : ps_scr B L (d + 1) n K σ = ((n, K), (ps_cmd B L σ).2) := by rw [ps_scr, if_pos ⟨h0, hk⟩, h5, if_neg h1]
        rw [hE, bz_e1 h1, if_pos rfl]
        dsimp only
        rw [if_neg h1]
        exact ⟨f2, i2, kg2, rfl, P2, g2, S2, fun h => absurd h h1, fun b q1 q2 => o2 b q1 (by omega)⟩
/-! the commands one after another -/
theorem TV.doK {K : CMD} (hv : TV T) (hK : CmV K) (hr : s_refK K T = 0) : TV (ts_doK K T) :=
  TV_do hv hK.1 hK.2.1 hr hK.2.2.2.1 (fun h => (hK.2.2.1 h).1)
theorem run_V : ∀ (d i : Nat) (T : TS), (∀ j, j < i + d → CmV (K j)) → TV T → TV (ts_run K d i T).2 := by
  intro d
  induction d with
  | zero => intro i T _ h; exact h
  | succ d ih =>
    intro i T hK h
    rw [ts_run]
    by_cases hr : s_refK (K i) T = 0
    · rw [if_pos hr]; exact ih (i + 1) _ (fun j hj => hK j (by omega)) (h.doK (hK i (by omega)) hr)
    · rw [if_neg hr]; exact h
theorem M_run_l {cnt : Nat} (hc : cnt ≤ 20) : ∀ (d N i : Nat) (T : TS) (A : Nat → Nat → Int32), i + d = cnt → d < N → RT (A 0) T → TV T → z 25 = nn cnt → (∀ j, j < cnt → OrR (A 8) (73 * j) (K j) ∧ CmV (K j)) → ∃ A1, p_X8_runScript_l64 V g (fun x2 f => some (x2, f)) N m (nn i) (mH V m 0 z A f0) = some (nn (ts_run K d i T).1, mH V m 0 z A1 f0) ∧ RT (A1 0) (ts_run K d i T).2 ∧ ∀ j, j ≠ 0 → j ≠ 7 → A1 j = A j := by
  intro d
  induction d with
  | zero =>
    intro N i T A hd hN R hv h25 hK
    obtain ⟨N, rfl⟩ : ∃ M, N = M + 1 := ⟨N - 1, by omega⟩
    rw [p_X8_runScript_l64, m_gi (k := 25) (by decide), h25, ob_s, if_pos (by rw [nn_le (by omega) (by omega)]; omega)]
    exact ⟨A, rfl, R, fun _ _ _ => rfl⟩
  | succ d ih =>
    intro N i T A hd hN R hv h25 hK
    obtain ⟨N, rfl⟩ : ∃ M, N = M + 1 := ⟨N - 1, by omega⟩
    obtain ⟨code, A1, e1, a1, y0, yN⟩ := M_does (V := V) (g := g) (f0 := f0) (m := m) (z := z) (n := i) (K := K i) (by omega) R hv (hK i (by omega)).1 (hK i (by omega)).2
    rw [p_X8_runScript_l64, m_gi (k := 25) (by decide), h25, ob_s, if_neg (by rw [nn_le (by omega) (by omega)]; omega), n_73, e1, ob_s, ts_run]
    by_cases hr : s_refK (K i) T = 0
    · obtain ⟨y1, y2⟩ := y0 hr
      obtain ⟨A2, e2, R2, a2⟩ := ih N (i + 1) (ts_doK (K i) T) A1 (by omega) (by omega) y2 (hv.doK (hK i (by omega)).2 hr) h25 (fun j hj => by rw [a1 8 (by decide) (by decide)]; exact hK j hj)
      rw [if_pos hr, if_pos y1, nn_s]
      exact ⟨A2, e2, R2, fun j j0 j7 => (a2 j j0 j7).trans (a1 j j0 j7)⟩
    · obtain ⟨y1, y2⟩ := yN hr
      rw [if_neg hr, if_neg y1]
      exact ⟨A1, rfl, y2, a1⟩
theorem C_script_l {cnt : Nat} {hs pc pn : Int32} (S : StOK V g) (hc : cnt ≤ 20) : ∀ (d N i : Nat) (T : TS) (f : GH), i + d = cnt → d < N → XoA f x hs pc pn → ChA f (x + 1) T → TV T → ScR V f x → (∀ j, j < cnt → CmR f (x + 235 + 4 * j) V (K j) ∧ CmV (K j)) → ∃ f1, p_X7_runScript_l38 V g (fun x3 f => some (.inr (x3, f))) (fun x2 f => some (.inr (x2, f))) N x (nn cnt) (nn i) f = some (.inr (nn (ts_run K d i T).1, f1)) ∧ ChA f1 (x + 1) (ts_run K d i T).2 ∧ h_out (x + 1) (x + 21) f f1 := by
  intro d
  induction d with
  | zero =>
    intro N i T f hd hN X C hv hs hK
    obtain ⟨N, rfl⟩ : ∃ M, N = M + 1 := ⟨N - 1, by omega⟩
    rw [p_X7_runScript_l38, if_pos (by rw [nn_le (by omega) (by omega)]; omega)]
    refine ⟨f, ?_, C, h_out.rf _ _ _⟩
    show some (Sum.inr (nn cnt, f)) = some (Sum.inr (nn i, f))
    rw [show i = cnt by omega]
  | succ d ih =>
    intro N i T f hd hN X C hv hs hK
    obtain ⟨N, rfl⟩ : ∃ M, N = M + 1 := ⟨N - 1, by omega⟩
    obtain ⟨⟨ra, s1, s2⟩, s3⟩ := id hs
    obtain ⟨⟨k, c, K1, kc, kk⟩, kv⟩ := hK i (by omega)
    have hq : h_lq f (x + 65) 6 (nn i) = some (x + 235 + 4 * i) := hlq_of s1 (show i < 20 by omega) (by omega) (s2 i (by omega))
    have hr : p_X1_refusalOf V g f (x + 1) (x + 235 + 4 * i) = some (s_refK (K i) T) := C_refusal S C hv K1 kv.1 kv.2.1
    rw [p_X7_runScript_l38, if_neg (by rw [nn_le (by omega) (by omega)]; omega), X.ch, ob_s, X.sc, ob_s, hq, ob_s, hr, ob_s, ts_run]
    by_cases h0 : s_refK (K i) T = 0
    · have hck : CoV c ∨ ¬ qV (K i) ≤ 2 := by
        by_cases e : qV (K i) ≤ 2
        · rw [kc e]; exact Or.inl (kv.2.2.1 e).1
        · exact Or.inr e
      obtain ⟨f2, e2, C2, o2⟩ := C_apply (V := V) (g := g) S C hv K1 kv.1 kv.2.1 (by omega) h0 (fun e => by rw [kk e]; exact kv.2.2.2.1 e) (fun e => hck.resolve_right (fun h => h e))
      have hT : ts_do (qV (K i)) T (qA (K i)) (qP (K i)) (qU (K i)) (qW (K i)) k c = ts_doK (K i) T := by
        unfold ts_doK ts_do
        by_cases e : qV (K i) ≤ 2
        · rw [if_pos e, if_pos e, kc e]
        · rw [if_neg e, if_neg e]
          by_cases e2 : qV (K i) = 11
          · rw [if_pos e2, if_pos e2, kk e2]
          · rw [if_neg e2, if_neg e2]
      rw [hT] at C2
      obtain ⟨f3, e3, C3, o3⟩ := ih N (i + 1) (ts_doK (K i) T) f2 (by omega) (by omega) (X.fr (o2 x (by omega))) C2 (hv.doK kv h0) (hs.frame (fun b hb => o2 b (by omega))) (fun j hj => ⟨(hK j hj).1.frame (fun b q1 q2 => o2 b (by omega)), (hK j hj).2⟩)
      rw [if_pos h0, if_pos h0, ob_s, ob_s, hq, ob_s, e2, ob_s, nn_s]
      exact ⟨f3, e3, C3, fun b hb => (o3 b hb).trans (o2 b (by omega))⟩
    · rw [if_neg h0, if_neg h0]
      exact ⟨f, rfl, C, h_out.rf _ _ _⟩
end SR

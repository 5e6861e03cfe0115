/-! ===== addCoast: the law's case 42 ===== -/
noncomputable def ps_lone (B : Nat → Int32) (L : Nat) : PS := ps_chk (decide (kD (pT (ps_coast B L (ps_0 B L)).2) = 0)) 1 (ps_coast B L (ps_0 B L)).2
noncomputable def c_lone (B : Nat → Int32) (L : Nat) : CS := (ps_coast B L (ps_0 B L)).1
theorem adv_EO {B : Nat → Int32} {L : Nat} {σ : PS} : pE (ps_adv B L σ) = pE σ ∧ pO (ps_adv B L σ) = pO σ := by
  by_cases h : pE σ = 0
  · rw [ps_adv_0 h]
    refine ⟨h.symm, ?_⟩
    unfold pO
    rw [if_pos h]
    rfl
  · rw [ps_adv_e h]
    exact ⟨rfl, rfl⟩
theorem lone_0 {B : Nat → Int32} {L : Nat} (h : pE (ps_lone B L) = 0) : CoV (c_lone B L) ∧ cN (c_lone B L) ≤ 33 ∧ pE (ps_coast B L (ps_0 B L)).2 = 0 := by
  have h1 := (chk_0 (by decide) h).1
  have h2 := CoV.coast h1
  exact ⟨h2.1, h2.2, h1⟩
section AD
variable {V : Nat → Nat} {g f f1 f2 : GH} {x m o d u p u1 p1 : Nat} {z z1 : Nat → Int32} {A A1 : Nat → Nat → Int32} {T T1 S S1 : TS} {H H1 : Nat → TS} {hs hs1 : Int32}
theorem M_add {bl L : Nat} (S0 : StOK V g) (hb : bl ≤ 700) (hL : L ≤ bl) (b2 : z 13 = nn bl) (R : RT (A 0) T) (hv : TV T) (hz : z 6 = nn u) (hu : u ≤ 8) (hH : HsA A u H) (hHv : ∀ k, k < u → TV (H k)) (h6 : tN T < 6) (f0 : GH) : ∃ w z4 A4, p_X8_addCoast V g (mH V m 0 z A f0) m (nn L) = some (w, mH V m 0 z4 A4 f0) ∧ z4 7 = 0 ∧ z4 13 = 0 ∧ z4 8 = pE (ps_lone (A 6) L) ∧ z4 20 = pO (ps_lone (A 6) L) ∧ z4 9 = z 9 ∧ z4 11 = z 11 ∧ (∀ j, j ≠ 0 → j ≠ 2 → j ≠ 4 → j ≠ 7 → A4 j = A j) ∧ (pE (ps_lone (A 6) L) = 0 → w = nn (tN T) ∧ RT (A4 0) (ts_add T (c_lone (A 6) L)) ∧ z4 6 = nn (h_pu u) ∧ HsA A4 (h_pu u) (h_pH u H T)) ∧ (pE (ps_lone (A 6) L) ≠ 0 → w = -1 ∧ A4 0 = A 0 ∧ z4 6 = z 6 ∧ A4 4 = A 4) := by
  have hlen : inC (bl + 1) (nn L) = true := inC_nn (by omega) (by omega)
  have hvv : PV (A 6) L (ps_0 (A 6) L) := PV.p0
  obtain ⟨z1, e1, P1, o1⟩ := M_start (V := V) (g := g) (m := m) (b := 0) (z := upd z 7 0) (f0 := f0) (by omega : L ≤ 700) (rfl : A 6 = A 6)
  obtain ⟨z2, A2, e2, P2, q2, o2⟩ := M_coast (V := V) (g := g) (m := m) (b := 0) (f0 := f0) S0 (by omega : L ≤ 700) rfl P1 hvv
  have hl0 := lone_0 (B := A 6) (L := L)
  have hvc := hvv.coast
  obtain ⟨z3, e3, P3⟩ := M_chk (V := V) (g := g) (m := m) (b := 0) (A := A2) (f0 := f0) P2 (decide (kD (pT (ps_coast (A 6) L (ps_0 (A 6) L)).2) = 0)) (c := 1) (by decide)
  have hlE : ps_chk (decide (kD (pT (ps_coast (A 6) L (ps_0 (A 6) L)).2) = 0)) 1 (ps_coast (A 6) L (ps_0 (A 6) L)).2 = ps_lone (A 6) L := rfl
  have hcL : (ps_coast (A 6) L (ps_0 (A 6) L)).1 = c_lone (A 6) L := rfl
  rw [hlE] at P3
  rw [hcL] at q2
  generalize ps_lone (A 6) L = σr at *
  generalize c_lone (A 6) L = cc at *
  generalize (ps_coast (A 6) L (ps_0 (A 6) L)).2 = σ2 at *
  obtain ⟨z4, e4, y1, y2, y3, y4⟩ := M_faulty (V := V) (g := g) (m := m) (b := 0) (A := A2) (f0 := f0) P3
  have hk2 : kD (pT σ2) ≤ 6 := hvc.2.2.1
  have zk : ∀ k, k < 13 → k ≠ 8 → k ≠ 7 → z4 k = z k := fun k k13 k8 k7 => by
    rw [y4 k (by omega) (by omega) k8, P3.2.2.2.2 k (by omega) (by omega) (by omega) (by omega) (by omega), o1 k (by omega) (by omega) (by omega) (by omega) (by omega) (by omega) (by omega), upd_n _ _ k7]
  have z47 : z4 7 = 0 := by rw [y4 7 (by decide) (by decide) (by decide), P3.2.2.2.2 7 (by decide) (by decide) (by decide) (by decide) (by decide), o1 7 (by decide) (by decide) (by decide) (by decide) (by decide) (by decide) (by decide), upd_s]
  have hj59 : ∀ t : Bool, ps_chk t 1 σ2 = σr → ∃ z5, p_X8_addCoast_j59 V g m (bz t) m (mH V m 0 z2 A2 f0) = (p_X8_isFaulty V g (mH V m 0 z5 A2 f0) m).bind (fun v10 => if v10.1 = (0 : Int32) then (p_X8_keep V g v10.2 m).bind fun v12 => (p_X8_doAdd V g v12 m).bind fun v13 => (p_X8_fails V g v13.2 m v13.1).bind fun v14 => (if v14.1 = (0 : Int32) then (h_gr v14.2 m 10 5).bind fun v16 => (h_li v14.2 v16 0 (1 : Int32)).bind fun v17 => some (v17 - (1 : Int32), v14.2) else some ((0 : Int32), v14.2)) else some ((-1 : Int32), v10.2)) ∧ PR z1 z5 L σr := by
    intro t ht
    obtain ⟨z5, e5, P5⟩ := M_chk (V := V) (g := g) (m := m) (b := 0) (A := A2) (f0 := f0) P2 t (c := 1) (by decide)
    rw [ht] at P5
    refine ⟨z5, ?_, P5⟩
    unfold p_X8_addCoast_j59
    rw [e5, ob_s]
  have hun : ∃ z5, p_X8_addCoast V g (mH V m 0 z A f0) m (nn L) = (p_X8_isFaulty V g (mH V m 0 z5 A2 f0) m).bind (fun v10 => if v10.1 = (0 : Int32) then (p_X8_keep V g v10.2 m).bind fun v12 => (p_X8_doAdd V g v12 m).bind fun v13 => (p_X8_fails V g v13.2 m v13.1).bind fun v14 => (if v14.1 = (0 : Int32) then (h_gr v14.2 m 10 5).bind fun v16 => (h_li v14.2 v16 0 (1 : Int32)).bind fun v17 => some (v17 - (1 : Int32), v14.2) else some ((0 : Int32), v14.2)) else some ((-1 : Int32), v10.2)) ∧ PR z1 z5 L σr := by
    unfold p_X8_addCoast
    rw [m_me, M_isLen hb b2, hlen, ob_s, m_row, ob_s, m_l1 (by decide), R.2.1, ob_s, if_neg (by rw [n_6, nn_le (by omega) (by omega)]; omega)]
    unfold p_X8_addCoast_j22
    rw [show (1 : Int32) = bz true from rfl, M_lacksBoth, ob_s]
    show ∃ z5, (if (0 : Int32) = 0 then (p_X8_startText V g (mH V m 0 (upd z 7 0) A f0) m (nn L)).bind _ else _) = _ ∧ _
    rw [if_pos rfl, e1, ob_s, e2, ob_s, m_gi (k := 18) (by decide), P2.2.2.1, ob_s]
    by_cases h0 : pE σ2 = 0
    · rw [if_pos h0, m_gi (k := 17) (by decide), P2.2.1.2.2, ob_s]
      by_cases hk : kD (pT σ2) = 0
      · rw [if_pos (by rw [hk]; rfl)]
        exact hj59 true (by rw [← hlE, decide_eq_true hk])
      · rw [if_neg (fun e => by rw [n_0, nn_eq (by omega) (by omega)] at e; omega)]
        exact hj59 false (by rw [← hlE, decide_eq_false hk])
    · rw [if_neg h0]
      exact hj59 true (by rw [← hlE, ps_chk_e h0, ps_chk_e h0])
  obtain ⟨z5, e5, P5⟩ := hun
  obtain ⟨z6, e6, w1, w2, w3, w4⟩ := M_faulty (V := V) (g := g) (m := m) (b := 0) (A := A2) (f0 := f0) P5
  have zk6 : ∀ k, k < 13 → k ≠ 8 → k ≠ 7 → z6 k = z k := fun k k13 k8 k7 => by
    rw [w4 k (by omega) (by omega) k8, P5.2.2.2.2 k (by omega) (by omega) (by omega) (by omega) (by omega), o1 k (by omega) (by omega) (by omega) (by omega) (by omega) (by omega) (by omega), upd_n _ _ k7]
  have z67 : z6 7 = 0 := by rw [w4 7 (by decide) (by decide) (by decide), P5.2.2.2.2 7 (by decide) (by decide) (by decide) (by decide) (by decide), o1 7 (by decide) (by decide) (by decide) (by decide) (by decide) (by decide) (by decide), upd_s]
  rw [e5, e6, ob_s]
  by_cases h0 : pE σr = 0
  · obtain ⟨cv, c33, hc0⟩ := hl0 h0
    have R2 : RT (A2 0) T := by rw [o2 0 (by decide)]; exact R
    have hH2 : HsA A2 u H := fun k hk => by rw [o2 4 (by decide)]; exact hH k hk
    have hd := M_doAdd (V := V) (g := g) (m := m) (b := 0) (z := z6) (A := kA A2) (f0 := f0) (c := cc) (by decide) (kA_rt R2) hv (by rw [show kA A2 7 = A2 7 from upA_n A2 _ (by decide)]; exact q2 hc0) c33
    rw [if_pos h6] at hd
    obtain ⟨A3, s3, d1, R3⟩ := hd
    have hy := QC.yes (V := V) (g := g) (m := m) (f0 := f0) (z := z6) (z2 := z6) (A := A2) (T := T) (u := u) (H := H) (ans := nn (tN T)) (K := fun v14 => (if v14.1 = (0 : Int32) then (h_gr v14.2 m 10 5).bind fun v16 => (h_li v14.2 v16 0 (1 : Int32)).bind fun v17 => some (v17 - (1 : Int32), v14.2) else some ((0 : Int32), v14.2))) hv R2 ((zk6 6 (by decide) (by decide) (by decide)).trans hz) (fun _ _ => rfl) hu hH2 hHv s3 R3 (fun z9 A9 R9 => by
      show (if (0 : Int32) = 0 then (h_gr (mH V m 0 z9 A9 f0) m 10 5).bind _ else _) = _
      rw [if_pos rfl, m_row, ob_s]
      show (h_li (mH V m 0 z9 A9 f0) (m + 1 + 0) 0 (1 : Int32)).bind _ = _
      rw [m_l1 (by decide), R9.2.1, ob_s]
      show some (nn (tN T + 1) - 1, _) = _
      rw [nn_p (by omega)]
      rfl)
    obtain ⟨w, z9, A9, x1, x2, x3, -⟩ := hy
    obtain ⟨x4, x5, x6, x7, x8, x9⟩ := x3 rfl
    refine ⟨w, z9, A9, ?_, x2, (x6 13 (by decide) (by decide)).trans w1, (x6 8 (by decide) (by decide)).trans w2, (x6 20 (by decide) (by decide)).trans w3, (x6 9 (by decide) (by decide)).trans (zk6 9 (by decide) (by decide) (by decide)), (x6 11 (by decide) (by decide)).trans (zk6 11 (by decide) (by decide) (by decide)), fun j j0 j2 j4 j7 => (x9 j j0 j2 j4).trans (o2 j j7), fun _ => ⟨x4, x7, x5, x8⟩, fun h => absurd h0 h⟩
    rw [decide_eq_false (fun q => q h0), if_pos bz_f, M_keepK, ob_s, d1, ob_s]
    exact x1
  · refine ⟨-1, z6, A2, ?_, z67, w1, w2, w3, zk6 9 (by decide) (by decide) (by decide), zk6 11 (by decide) (by decide) (by decide), fun j j0 j2 j4 j7 => o2 j j7, fun h => absurd h h0, fun _ => ⟨rfl, o2 0 (by decide), zk6 6 (by decide) (by decide) (by decide), o2 4 (by decide)⟩⟩
    rw [decide_eq_true h0, if_neg bz_tn]
theorem P_add {bl L v : Nat} {bs B : Nat → Int32} {len kd st nx cc oo it kg a q r w k : Int32} {c0 : CS} (S0 : StOK V g) (X : XoA f x hs (nn u) (nn p)) (C : ChA f (x + 1) T) (hv : TV T) (PA : PaA f x u p H) (hu : u ≤ 8) (hp : p < 8) (h6 : tN T < 6) (hK : CmA f (x + 66) V v a q r w k c0) (hb : bl ≤ 700) (hL : L ≤ bl) (b3 : f (x + 62) = some (.inr (8, [.ref (x + 63), .int (nn bl), .int len, .int kd, .int st, .int nx]))) (b4 : f (x + 63) = some (.inl (1, 700, .inl bs))) (g1 : f (x + 64) = some (.inr (7, [.ref (x + 62), .int cc, .int oo, .int it, .int kg]))) (hB : ∀ i, i < L → BR (bs i) (B i)) :
    ∃ f9 it1, p_X7_addCoast V g f x (nn L) = some (.inr (if pE (ps_lone B L) = 0 then nn (tN T) else -1, f9)) ∧ PG x 0 L bs (ps_adv B L (ps_lone B L)) it1 kg f9 ∧ (∃ v a q r w k c, CmA f9 (x + 66) V v a q r w k c) ∧ (∀ b, (b < x ∨ x + 21 ≤ b ∧ b < x + 62 ∨ x + 65 ≤ b ∧ b < x + 66 ∨ x + 70 ≤ b ∧ b < x + 75 ∨ x + 235 ≤ b) → (b < x + 61 ∨ x + 62 ≤ b) → f9 b = f b) ∧ (pE (ps_lone B L) = 0 → XoA f9 x hs (nn (h_pu u)) (nn (h_pp p)) ∧ ChA f9 (x + 1) (ts_add T (c_lone B L)) ∧ PaA f9 x (h_pu u) (h_pp p) (h_pH u H T)) ∧ (pE (ps_lone B L) ≠ 0 → XoA f9 x hs (nn u) (nn p) ∧ ChA f9 (x + 1) T ∧ PaA f9 x u p H) := by
  have hlen : inC (bl + 1) (nn L) = true := inC_nn (by omega) (by omega)
  have hvv : PV B L (ps_0 B L) := PV.p0
  have e3 : h_pt f (x + 66) 6 0 (.ref (V 1)) = some (h_up f (x + 66) (.inr (6, [.ref (V 1), .int a, .int q, .int r, .int w, .int k, .ref (x + 66 + 1)]))) := hpt_of hK.1 (by decide : 0 < 7)
  have K3 : CmA (h_up f (x + 66) (.inr (6, [.ref (V 1), .int a, .int q, .int r, .int w, .int k, .ref (x + 66 + 1)]))) (x + 66) V 1 a q r w k c0 := ⟨h_up_s _ _ _, hK.2.frame (fun y h1 h2 => h_up_n f _ (by omega))⟩
  have o3 : ∀ b, b ≠ x + 66 → h_up f (x + 66) (.inr (6, [.ref (V 1), .int a, .int q, .int r, .int w, .int k, .ref (x + 66 + 1)])) b = f b := fun b hb => h_up_n f _ hb
  generalize h_up f (x + 66) (.inr (6, [.ref (V 1), .int a, .int q, .int r, .int w, .int k, .ref (x + 66 + 1)])) = f3 at *
  have X3 : XoA f3 x hs (nn u) (nn p) := X.fr (o3 x (by omega))
  have C3 : ChA f3 (x + 1) T := C.frame (fun b h1 h2 => o3 b (by omega))
  have hr := C_refusal S0 C3 hv K3 (by decide) (by decide)
  have hr0 : s_ref 1 T a q r w = 0 := by unfold s_ref; rw [if_pos (by decide), if_pos h6]
  rw [hr0] at hr
  obtain ⟨f4, e4, P4, o4⟩ := G_begin (V := V) (g := g) (L := L) (B := B) ((o3 _ (by omega)).trans b3) ((o3 _ (by omega)).trans b4) ((o3 _ (by omega)).trans g1) (by omega) hB
  have D4 : CoA f4 (x + 66 + 1) 33 c0 := K3.2.frame (fun b h1 h2 => o4 b (by omega))
  obtain ⟨f5, i5, c5, e5, P5, D5, gc, o5⟩ := G_coast (V := V) (g := g) S0 P4 (by omega) hB hvv rfl (cap := 33) (by decide) (by omega) D4
  have hvc := hvv.coast
  have hl0 := lone_0 (B := B) (L := L)
  have hlE : ps_chk (decide (kD (pT (ps_coast B L (ps_0 B L)).2) = 0)) 1 (ps_coast B L (ps_0 B L)).2 = ps_lone B L := rfl
  have hcL : (ps_coast B L (ps_0 B L)).1 = c_lone B L := rfl
  rw [hcL] at gc
  have hlone : ∃ f6 i6, p_X4_readLoneCoast V g f3 (x + 64) (nn L) (x + 66 + 1) = some (bz (decide (pE (ps_lone B L) = 0)), f6) ∧ PG x bl L bs (ps_adv B L (ps_lone B L)) i6 kg f6 ∧ (∃ c6, CoA f6 (x + 66 + 1) 33 c6 ∧ (pE (ps_lone B L) = 0 → c6 = c_lone B L)) ∧ ∀ b, (b < x + 62 ∨ x + 65 ≤ b) → (b < x + 67 ∨ x + 70 ≤ b) → f6 b = f3 b := by
    unfold p_X4_readLoneCoast
    rw [hme_of ((o3 _ (by omega)).trans g1), e4, ob_s, e5, ob_s]
    generalize (ps_coast B L (ps_0 B L)).2 = σ2 at *
    by_cases h0 : pE σ2 = 0
    · obtain ⟨f6, e6, P6, o6⟩ := G_take (V := V) (g := g) P5 (by omega) hB hvc h0 (k := 0) (by decide)
      have e6' : p_X4_take V g f5 (x + 64) (0 : Int32) = some (bz (decide (pE (ps_lone B L) = 0)), f6) := by
        rw [← hlE, ← (adv_EO (B := B) (L := L)).1]
        exact e6
      rw [hlE] at P6
      rw [bz_e0 h0]
      show ∃ f6 i6, (if (1 : Int32) = 0 then _ else _) = _ ∧ _
      rw [if_neg (by decide), e6', ob_s]
      refine ⟨f6, i5, ?_, P6, ⟨c5, D5.frame (fun b h1 h2 => o6 b (by omega)), fun _ => gc h0⟩, fun b h1 h2 => (o6 b h1).trans ((o5 b h1 (by omega)).trans (o4 b h1))⟩
      by_cases h1 : pE (ps_lone B L) = 0
      · rw [bz_e0 h1]; rfl
      · rw [bz_e1 h1]; rfl
    · have hl : ps_lone B L = σ2 := by rw [← hlE, ps_chk_e h0]
      rw [hl, bz_e1 h0, ps_adv_e h0]
      exact ⟨f5, i5, rfl, P5, ⟨c5, D5, fun h => absurd h h0⟩, fun b h1 h2 => (o5 b h1 (by omega)).trans (o4 b h1)⟩
  obtain ⟨f6, i6, e6, P6, ⟨c6, D6, g6⟩, o6⟩ := hlone
  obtain ⟨f7, e7, P7, o7⟩ := P6.held
  have oo7 : ∀ b, (b < x + 62 ∨ x + 65 ≤ b) → (b < x + 66 ∨ x + 70 ≤ b) → f7 b = f b := fun b h1 h2 => (o7 b (by omega)).trans ((o6 b h1 (by omega)).trans (o3 b (by omega)))
  have X6 : XoA f6 x hs (nn u) (nn p) := X3.fr (o6 x (by omega) (by omega))
  have X7 : XoA f7 x hs (nn u) (nn p) := X.fr (oo7 x (by omega) (by omega))
  have C7 : ChA f7 (x + 1) T := C.frame (fun b h1 h2 => oo7 b (by omega) (by omega))
  have PA7 : PaA f7 x u p H := PA.frame (fun b hb => oo7 b (by omega) (by omega))
  have K7 : CmA f7 (x + 66) V 1 a q r w k c6 := ⟨(o7 _ (by omega)).trans ((o6 _ (by omega) (by omega)).trans K3.1), D6.frame (fun b h1 h2 => o7 b (by omega))⟩
  have hun : p_X7_addCoast V g f x (nn L) = if bz (decide (pE (ps_lone B L) = 0)) = (0 : Int32) then some (.inr ((-1 : Int32), f7)) else x_b (p_X7_change V g f7 x) (fun z => z) fun v15 => some (.inr (v15.1, v15.2)) := by
    unfold p_X7_addCoast
    rw [X.me, P_reqText X hb b3, hlen, if_pos rfl, xb_r, X.sg, ob_s, e3, ob_s, X3.ch, ob_s, X3.sg, ob_s, hr, ob_s]
    show x_b (some (.inr ())) _ _ = _
    rw [xb_r, X3.gr, ob_s, ob_s, K3.gs, ob_s, e6, ob_s, X6.tk, ob_s, e7, ob_s]
  rw [hun]
  generalize ps_lone B L = σr at *
  generalize c_lone B L = cl at *
  by_cases h0 : pE σr = 0
  · obtain ⟨cv, c33, -⟩ := hl0 h0
    have hc6 := g6 h0
    subst hc6
    obtain ⟨y1, -⟩ := P_change S0 X7 C7 hv PA7 hu hp K7 (by decide) (by decide) (fun h => absurd h (by decide)) (fun _ => cv)
    obtain ⟨f8, z1, z2, z3, z4, z5⟩ := y1 hr0
    rw [bz_e0 h0, if_neg (by decide), z1, xb_r, if_pos h0]
    refine ⟨f8, i6, rfl, P7.fr (fun b h1 h2 => z5 b (by omega)), ⟨1, a, q, r, w, k, c6, K7.frame (fun b h1 h2 => z5 b (by omega))⟩, fun b h1 h2 => ?_, fun _ => ⟨z2, z3, z4⟩, fun h => absurd h0 h⟩
    exact (z5 b (by omega)).trans (oo7 b (by omega) (by omega))
  · rw [bz_e1 h0, if_pos rfl, if_neg h0]
    exact ⟨f7, i6, rfl, P7, ⟨1, a, q, r, w, k, c6, K7⟩, fun b h1 h2 => oo7 b (by omega) (by omega), fun h => absurd h h0, fun _ => ⟨X7, C7, PA7⟩⟩
set_option maxHeartbeats 400000 in
theorem case_42 {n x0 : Nat} {x5 a : Int32} (S0 : StOK V g) (I : IV V x m o d f z A T hs u p H S) (h1 : h_li (gA g) x0 0 (x5 + (1 : Int32)) = some a) : ∃ f2, p_case_42 V g f n x0 x m o d x5 = some f2 ∧ ∃ z1 A1 T1 u1 p1 H1, IV V x m o d f2 z1 A1 T1 hs u1 p1 H1 S := by
  have I0 := I
  obtain ⟨F, ⟨r1, r2, r3⟩, ⟨t1, t2, t3, t4, t5, t6⟩, ⟨z6, z9⟩, ⟨x1, x2, x3, x4⟩, ⟨v, q1, q2, q3, q4, q5, cq, hK⟩, K⟩ := I
  have hm := F.2.2.2.1
  have hod := F.2.2.2.2
  have hN6 := t1.1
  obtain ⟨⟨T0, k1⟩, k2, ⟨bl, len, kd, st, nx, bs, b1, b2, b3, b4, b5⟩, ⟨it, kg, g1, g2⟩, hsc, -⟩ := id K
  have hun : p_case_42 V g f n x0 x m o d x5 = caseI V g m o (p_L_addCoast V g f x a o) (fun f => p_X8_addCoast V g f m a) := by
    unfold p_case_42 caseI
    simp only [h1, ob_s]
  rw [hun]
  -- a refused call
  have refused : ∀ (code : Int32) (f1 : GH) (e : Nat), code ≠ 0 → (∀ b, b ≠ x + 66 → f1 b = f b) → (∃ v a q r w k c, CmA f1 (x + 66) V v a q r w k c) → p_L_addCoast V g f x a o = some (code, f1) → (∀ f0, p_X8_addCoast V g (mH V m 0 z A f0) m a = some (0, mH V m 0 (upd z 7 code) A f0)) → ∃ f2, caseI V g m o (p_L_addCoast V g f x a o) (fun f => p_X8_addCoast V g f m a) = some f2 ∧ ∃ z1 A1 T1 u1 p1 H1, IV V x m o d f2 z1 A1 T1 hs u1 p1 H1 S := by
    intro code f1 e hc o1 hcm hl hq
    obtain ⟨f2, z1, A1, e1, e2, e3, e4⟩ := caseC_ok (V := V) (g := g) (x := x) (d := d) (code := code) (v := 0) (L := p_L_addCoast V g f x a o) (Q := fun f => p_X8_addCoast V g f m a) (Pr := fun z1 A1 => CP z A T u H z1 A1) (F.up (fun b h1 h2 => o1 b (by omega))) (by rw [if_neg hc]; exact hl) (fun f1 => ⟨0, upd z 7 code, A, hq f1, upd_s _ _ _, fun h => absurd h hc, ⟨(upd_n _ _ (by decide)).trans z6, fun k _ h => upd_n _ _ h, r1, r2, fun _ _ _ _ => rfl⟩⟩)
    exact ⟨f2, e1, z1, A1, _, _, _, _, I0.chg e2 e3 (x1.fr (o1 x (by omega))) (x2.frame (fun b h1 h2 => o1 b (by omega))) (x3.frame (fun b hb => o1 b (by omega))) hcm (fun b hb => o1 b (by omega)) e4 t1 t2 t4 t5⟩
  cases hlen : inC (bl + 1) a with
  | false =>
    refine refused 1 f 0 (by decide) (fun _ _ => rfl) ⟨v, q1, q2, q3, q4, q5, cq, hK⟩ ?_ (fun f0 => ?_)
    · have hp : p_X7_addCoast V g f x a = some (.inl (1, f)) := by
        unfold p_X7_addCoast
        rw [x1.me, P_reqText x1 b1 b3, hlen]
        rfl
      unfold p_L_addCoast
      rw [hp]
      rfl
    · unfold p_X8_addCoast
      rw [m_me, M_isLen b1 b2, hlen, ob_s, m_row, ob_s, m_l1 (by decide), ob_s]
      unfold p_X8_addCoast_j22
      have hl : ∀ t : Bool, p_X8_lacksBoth V g (mH V m 0 z A f0) m (bz false) (bz t) = some (1, mH V m 0 (upd z 7 1) A f0) := fun t => by rw [M_lacksBoth]; cases t <;> rfl
      split
      · rw [show (0 : Int32) = bz false from rfl, hl, ob_s]; rfl
      · rw [show (1 : Int32) = bz true from rfl, hl, ob_s]; rfl
  | true =>
    by_cases h6 : tN T < 6
    · obtain ⟨L, hLl, rfl⟩ := inC_ex (by omega) hlen
      have hB : ∀ i, i < L → BR (bs i) (A 6 i) := fun i hi => b5 i (by omega)
      obtain ⟨f9, it1, c1, c2, c3, c4, c5, c6⟩ := P_add (V := V) (g := g) (B := A 6) S0 x1 x2 t1 x3 t4 t5 h6 hK b1 (show L ≤ bl by omega) b3 b4 g1 hB
      have hM := M_add (V := V) (g := g) (m := m) (z := z) (A := A) S0 b1 (show L ≤ bl by omega) b2 r1 t1 z6 t4 r2 t2 h6
      have hl0 := lone_0 (B := A 6) (L := L)
      have hEO := adv_EO (B := A 6) (L := L) (σ := ps_lone (A 6) L)
      generalize ps_adv (A 6) L (ps_lone (A 6) L) = σc at *
      generalize ps_lone (A 6) L = σr at *
      generalize c_lone (A 6) L = cl at *
      have F9 : FR V x m o d f9 z A := F.up (fun b h1 h2 => c4 b (by omega) (by omega))
      obtain ⟨f2, z1, A1, e1, e2, e3, y7, y13, y8, y20, y9, y11, yA, y0, yN⟩ := caseC_ok (V := V) (g := g) (x := x) (d := d) (code := 0) (v := if pE σr = 0 then nn (tN T) else -1) (L := p_L_addCoast V g f x (nn L) o) (Q := fun f => p_X8_addCoast V g f m (nn L)) (Pr := fun z4 A4 => z4 7 = 0 ∧ z4 13 = 0 ∧ z4 8 = pE σr ∧ z4 20 = pO σr ∧ z4 9 = z 9 ∧ z4 11 = z 11 ∧ (∀ j, j ≠ 0 → j ≠ 2 → j ≠ 4 → j ≠ 7 → A4 j = A j) ∧ (pE σr = 0 → RT (A4 0) (ts_add T cl) ∧ z4 6 = nn (h_pu u) ∧ HsA A4 (h_pu u) (h_pH u H T)) ∧ (pE σr ≠ 0 → A4 0 = A 0 ∧ z4 6 = z 6 ∧ A4 4 = A 4)) F9 (by
        unfold p_L_addCoast
        rw [c1]
        rfl) (fun f1 => by
        obtain ⟨w, z4, A4, w1, w2, w3, w4, w5, w6, w7, w8, w9, w10⟩ := hM f1
        refine ⟨w, z4, A4, w1, w2, fun _ => ?_, w2, w3, w4, w5, w6, w7, w8, fun h => (w9 h).2, fun h => (w10 h).2⟩
        by_cases h0 : pE σr = 0
        · rw [if_pos h0]; exact (w9 h0).1
        · rw [if_neg h0]; exact (w10 h0).1)
      have hKR : KR V f9 x d z1 A1 := K.txt ⟨T0, k1.frame (fun b h1 h2 => c4 b (by omega) (by omega))⟩ (TkR.done c2 y13) (GrR.done c2 (y8.trans hEO.1.symm) (y20.trans hEO.2.symm) g2) (hsc.frame (fun b hb => c4 b (by omega) (by omega))) (fun b hb => c4 b (by omega) (by omega)) y11 (yA 5 (by decide) (by decide) (by decide) (by decide))
      have hS : hs = 1 → ChA f9 (x + 41) S := fun h => (x4 h).frame (fun b h1 h2 => c4 b (by omega) (by omega))
      have hA3 : A1 3 = A 3 := yA 3 (by decide) (by decide) (by decide) (by decide)
      refine ⟨f2, e1, ?_⟩
      by_cases h0 : pE σr = 0
      · obtain ⟨X9, C9, P9⟩ := c5 h0
        obtain ⟨w1, w2, w3⟩ := y0 h0
        refine ⟨z1, A1, _, _, _, _, IV.gen e2 e3 X9 C9 P9 hS c3 hKR ⟨w1, w3, fun h => by rw [hA3]; exact r3 h⟩ ⟨?_, h_pH_v t1 t2, t3, by unfold h_pu; split <;> omega, by unfold h_pp; split <;> omega, t6⟩ ⟨w2, y9.trans z9⟩⟩
        have := TV_do (T := T) (v := 1) (a := 0) (p := 0) (u := 0) (w := 0) (k := 0) (c := cl) t1 (by decide) (by decide) (by unfold s_ref; rw [if_pos (by decide), if_pos h6]) (fun h => absurd h (by decide)) (fun _ => (hl0 h0).1)
        exact this
      · obtain ⟨X9, C9, P9⟩ := c6 h0
        obtain ⟨w1, w2, w3⟩ := yN h0
        exact ⟨z1, A1, T, u, p, H, IV.gen e2 e3 X9 C9 P9 hS c3 hKR ⟨by rw [w1]; exact r1, fun k hk => by rw [w3]; exact r2 k hk, fun h => by rw [hA3]; exact r3 h⟩ ⟨t1, t2, t3, t4, t5, t6⟩ ⟨w2.trans z6, y9.trans z9⟩⟩
    · have e3 : h_pt f (x + 66) 6 0 (.ref (V 1)) = some (h_up f (x + 66) (.inr (6, [.ref (V 1), .int q1, .int q2, .int q3, .int q4, .int q5, .ref (x + 66 + 1)]))) := hpt_of hK.1 (by decide : 0 < 7)
      have K3 : CmA (h_up f (x + 66) (.inr (6, [.ref (V 1), .int q1, .int q2, .int q3, .int q4, .int q5, .ref (x + 66 + 1)]))) (x + 66) V 1 q1 q2 q3 q4 q5 cq := ⟨h_up_s _ _ _, hK.2.frame (fun y h1 h2 => h_up_n f _ (by omega))⟩
      have o3 : ∀ b, b ≠ x + 66 → h_up f (x + 66) (.inr (6, [.ref (V 1), .int q1, .int q2, .int q3, .int q4, .int q5, .ref (x + 66 + 1)])) b = f b := fun b hb => h_up_n f _ hb
      generalize h_up f (x + 66) (.inr (6, [.ref (V 1), .int q1, .int q2, .int q3, .int q4, .int q5, .ref (x + 66 + 1)])) = f3 at *
      have X3 : XoA f3 x hs (nn u) (nn p) := x1.fr (o3 x (by omega))
      have hr := C_refusal S0 (x2.frame (fun b h1 h2 => o3 b (by omega)) : ChA f3 (x + 1) T) t1 K3 (by decide) (by decide)
      have hr0 : s_ref 1 T q1 q2 q3 q4 = 3 := by unfold s_ref; rw [if_pos (by decide), if_neg h6]
      rw [hr0] at hr
      refine refused 2 f3 0 (by decide) o3 ⟨1, q1, q2, q3, q4, q5, cq, K3⟩ ?_ (fun f0 => ?_)
      · have hp : p_X7_addCoast V g f x a = some (.inl (2, f3)) := by
          unfold p_X7_addCoast
          rw [x1.me, P_reqText x1 b1 b3, hlen, if_pos rfl, xb_r, x1.sg, ob_s, e3, ob_s, X3.ch, ob_s, X3.sg, ob_s, hr, ob_s]
          rfl
        unfold p_L_addCoast
        rw [hp]
        rfl
      · unfold p_X8_addCoast
        rw [m_me, M_isLen b1 b2, hlen, ob_s, m_row, ob_s, m_l1 (by decide), r1.2.1, ob_s, if_pos (by rw [n_6, nn_le (by omega) (by omega)]; omega)]
        unfold p_X8_addCoast_j22
        rw [show (0 : Int32) = bz false from rfl, M_lacksBoth, ob_s]
        rfl
end AD

/-! ===== addCoast: the law's case 42 ===== -/
noncomputable def ps_lone (B : Nat → Int32) (L : Nat) : PS := ps_chk (decide (kD (pT (ps_coast B L (ps_0 B L)).2) = 0)) 1 (ps_coast B L (ps_0 B L)).2
noncomputable def c_lone (B : Nat → Int32) (L : Nat) : CS := (ps_coast B L (ps_0 B L)).1
theorem adv_EO {B : Nat → Int32} {L : Nat} {σ : PS} : pE (ps_adv B L σ) = pE σ ∧ pO (ps_adv B L σ) = pO σ := by
  by_cases h : pE σ = 0
  · rw [ps_adv_0 h]
    refine ⟨h.symm, ?_⟩
    unfold pO
    rw [if_pos h]
    rfl
  · rw [ps_adv_e h]
    exact ⟨rfl, rfl⟩
theorem lone_0 {B : Nat → Int32} {L : Nat} (h : pE (ps_lone B L) = 0) : CoV (c_lone B L) ∧ cN (c_lone B L) ≤ 33 ∧ pE (ps_coast B L (ps_0 B L)).2 = 0 := by
  have h1 := (chk_0 (by decide) h).1
  have h2 := CoV.coast h1
  exact ⟨h2.1, h2.2, h1⟩
section AD
variable {V : Nat → Nat} {g f f1 f2 : GH} {x m o d u p u1 p1 : Nat} {z z1 : Nat → Int32} {A A1 : Nat → Nat → Int32} {T T1 S S1 : TS} {H H1 : Nat → TS} {hs hs1 : Int32}
theorem P_add {bl L v : Nat} {bs B : Nat → Int32} {len kd st nx cc oo it kg a q r w k : Int32} {c0 : CS} (S0 : StOK V g) (X : XoA f x hs (nn u) (nn p)) (C : ChA f (x + 1) T) (hv : TV T) (PA : PaA f x u p H) (hu : u ≤ 8) (hp : p < 8) (h6 : tN T < 6) (hK : CmA f (x + 66) V v a q r w k c0) (hb : bl ≤ 700) (hL : L ≤ bl) (b3 : f (x + 62) = some (.inr (8, [.ref (x + 63), .int (nn bl), .int len, .int kd, .int st, .int nx]))) (b4 : f (x + 63) = some (.inl (1, 700, .inl bs))) (g1 : f (x + 64) = some (.inr (7, [.ref (x + 62), .int cc, .int oo, .int it, .int kg]))) (hB : ∀ i, i < L → BR (bs i) (B i)) :
    ∃ f9 it1, p_X7_addCoast V g f x (nn L) = some (.inr (if pE (ps_lone B L) = 0 then nn (tN T) else -1, f9)) ∧ PG x 0 L bs (ps_adv B L (ps_lone B L)) it1 kg f9 ∧ (∃ v a q r w k c, CmA f9 (x + 66) V v a q r w k c) ∧ (∀ b, (b < x ∨ x + 21 ≤ b ∧ b < x + 62 ∨ x + 65 ≤ b ∧ b < x + 66 ∨ x + 70 ≤ b ∧ b < x + 75 ∨ x + 235 ≤ b) → (b < x + 61 ∨ x + 62 ≤ b) → f9 b = f b) ∧ (pE (ps_lone B L) = 0 → XoA f9 x hs (nn (h_pu u)) (nn (h_pp p)) ∧ ChA f9 (x + 1) (ts_add T (c_lone B L)) ∧ PaA f9 x (h_pu u) (h_pp p) (h_pH u H T)) ∧ (pE (ps_lone B L) ≠ 0 → XoA f9 x hs (nn u) (nn p) ∧ ChA f9 (x + 1) T ∧ PaA f9 x u p H) := by
  have hlen : inC (bl + 1) (nn L) = true := inC_nn (by omega) (by omega)
  have hvv : PV B L (ps_0 B L) := PV.p0
  have e3 : h_pt f (x + 66) 6 0 (.ref (V 1)) = some (h_up f (x + 66) (.inr (6, [.ref (V 1), .int a, .int q, .int r, .int w, .int k, .ref (x + 66 + 1)]))) := hpt_of hK.1 (by decide : 0 < 7)
  have K3 : CmA (h_up f (x + 66) (.inr (6, [.ref (V 1), .int a, .int q, .int r, .int w, .int k, .ref (x + 66 + 1)]))) (x + 66) V 1 a q r w k c0 := ⟨h_up_s _ _ _, hK.2.frame (fun y h1 h2 => h_up_n f _ (by omega))⟩
  have o3 : ∀ b, b ≠ x + 66 → h_up f (x + 66) (.inr (6, [.ref (V 1), .int a, .int q, .int r, .int w, .int k, .ref (x + 66 + 1)])) b = f b := fun b hb => h_up_n f _ hb
  generalize h_up f (x + 66) (.inr (6, [.ref (V 1), .int a, .int q, .int r, .int w, .int k, .ref (x + 66 + 1)])) = f3 at *
  have X3 : XoA f3 x hs (nn u) (nn p) := X.fr (o3 x (by omega))
  have C3 : ChA f3 (x + 1) T := C.frame (fun b h1 h2 => o3 b (by omega))
  have hr := C_refusal S0 C3 hv K3 (by decide) (by decide)
  have hr0 : s_ref 1 T a q r w = 0 := by unfold s_ref; rw [if_pos (by decide), if_pos h6]
  rw [hr0] at hr
  obtain ⟨f4, e4, P4, o4⟩ := G_begin (V := V) (g := g) (L := L) (B := B) ((o3 _ (by omega)).trans b3) ((o3 _ (by omega)).trans b4) ((o3 _ (by omega)).trans g1) (by omega) hB
  have D4 : CoA f4 (x + 66 + 1) 33 c0 := K3.2.frame (fun b h1 h2 => o4 b (by omega))
  obtain ⟨f5, i5, c5, e5, P5, D5, gc, o5⟩ := G_coast (V := V) (g := g) S0 P4 (by omega) hB hvv rfl (cap := 33) (by decide) (by omega) D4
  have hvc := hvv.coast
  have hl0 := lone_0 (B := B) (L := L)
  have hlE : ps_chk (decide (kD (pT (ps_coast B L (ps_0 B L)).2) = 0)) 1 (ps_coast B L (ps_0 B L)).2 = ps_lone B L := rfl
  have hcL : (ps_coast B L (ps_0 B L)).1 = c_lone B L := rfl
  rw [hcL] at gc
  have hlone : ∃ f6 i6, p_X4_readLoneCoast V g f3 (x + 64) (nn L) (x + 66 + 1) = some (bz (decide (pE (ps_lone B L) = 0)), f6) ∧ PG x bl L bs (ps_adv B L (ps_lone B L)) i6 kg f6 ∧ (∃ c6, CoA f6 (x + 66 + 1) 33 c6 ∧ (pE (ps_lone B L) = 0 → c6 = c_lone B L)) ∧ ∀ b, (b < x + 62 ∨ x + 65 ≤ b) → (b < x + 67 ∨ x + 70 ≤ b) → f6 b = f3 b := by
    unfold p_X4_readLoneCoast
    rw [hme_of ((o3 _ (by omega)).trans g1), e4, ob_s, e5, ob_s]
    generalize (ps_coast B L (ps_0 B L)).2 = σ2 at *
    by_cases h0 : pE σ2 = 0
    · obtain ⟨f6, e6, P6, o6⟩ := G_take (V := V) (g := g) P5 (by omega) hB hvc h0 (k := 0) (by decide)
      have e6' : p_X4_take V g f5 (x + 64) (0 : Int32) = some (bz (decide (pE (ps_lone B L) = 0)), f6) := by
        rw [← hlE, ← (adv_EO (B := B) (L := L)).1]
        exact e6
      rw [hlE] at P6
      rw [bz_e0 h0]
      show ∃ f6 i6, (if (1 : Int32) = 0 then _ else _) = _ ∧ _
      rw [if_neg (by decide), e6', ob_s]
      refine ⟨f6, i5, ?_, P6, ⟨c5, D5.frame (fun b h1 h2 => o6 b (by omega)), fun _ => gc h0⟩, fun b h1 h2 => (o6 b h1).trans ((o5 b h1 (by omega)).trans (o4 b h1))⟩
      by_cases h1 : pE (ps_lone B L) = 0
      · rw [bz_e0 h1]; rfl
      · rw [bz_e1 h1]; rfl
    · have hl : ps_lone B L = σ2 := by rw [← hlE, ps_chk_e h0]
      rw [hl, bz_e1 h0, ps_adv_e h0]
      exact ⟨f5, i5, rfl, P5, ⟨c5, D5, fun h => absurd h h0⟩, fun b h1 h2 => (o5 b h1 (by omega)).trans (o4 b h1)⟩
  obtain ⟨f6, i6, e6, P6, ⟨c6, D6, g6⟩, o6⟩ := hlone
  obtain ⟨f7, e7, P7, o7⟩ := P6.held
  have oo7 : ∀ b, (b < x + 62 ∨ x + 65 ≤ b) → (b < x + 66 ∨ x + 70 ≤ b) → f7 b = f b := fun b h1 h2 => (o7 b (by omega)).trans ((o6 b h1 (by omega)).trans (o3 b (by omega)))
  have X6 : XoA f6 x hs (nn u) (nn p) := X3.fr (o6 x (by omega) (by omega))
  have X7 : XoA f7 x hs (nn u) (nn p) := X.fr (oo7 x (by omega) (by omega))
  have C7 : ChA f7 (x + 1) T := C.frame (fun b h1 h2 => oo7 b (by omega) (by omega))
  have PA7 : PaA f7 x u p H := PA.frame (fun b hb => oo7 b (by omega) (by omega))
  have K7 : CmA f7 (x + 66) V 1 a q r w k c6 := ⟨(o7 _ (by omega)).trans ((o6 _ (by omega) (by omega)).trans K3.1), D6.frame (fun b h1 h2 => o7 b (by omega))⟩
  have hun : p_X7_addCoast V g f x (nn L) = if bz (decide (pE (ps_lone B L) = 0)) = (0 : Int32) then some (.inr ((-1 : Int32), f7)) else x_b (p_X7_change V g f7 x) (fun z => z) fun v15 => some (.inr (v15.1, v15.2)) := by
    unfold p_X7_addCoast
    rw [X.me, P_reqText X hb b3, hlen, if_pos rfl, xb_r, X.sg, ob_s, e3, ob_s, X3.ch, ob_s, X3.sg, ob_s, hr, ob_s]
    show x_b (some (.inr ())) _ _ = _
    rw [xb_r, X3.gr, ob_s, ob_s, K3.gs, ob_s, e6, ob_s, X6.tk, ob_s, e7, ob_s]
  rw [hun]
  generalize ps_lone B L = σr at *
  generalize c_lone B L = cl at *
  by_cases h0 : pE σr = 0
  · obtain ⟨cv, c33, -⟩ := hl0 h0
    have hc6 := g6 h0
    subst hc6
    obtain ⟨y1, -⟩ := P_change S0 X7 C7 hv PA7 hu hp K7 (by decide) (by decide) (fun h => absurd h (by decide)) (fun _ => cv)
    obtain ⟨f8, z1, z2, z3, z4, z5⟩ := y1 hr0
    rw [bz_e0 h0, if_neg (by decide), z1, xb_r, if_pos h0]
    refine ⟨f8, i6, rfl, P7.fr (fun b h1 h2 => z5 b (by omega)), ⟨1, a, q, r, w, k, c6, K7.frame (fun b h1 h2 => z5 b (by omega))⟩, fun b h1 h2 => ?_, fun _ => ⟨z2, z3, z4⟩, fun h => absurd h0 h⟩
    exact (z5 b (by omega)).trans (oo7 b (by omega) (by omega))
  · rw [bz_e1 h0, if_pos rfl, if_neg h0]
    exact ⟨f7, i6, rfl, P7, ⟨1, a, q, r, w, k, c6, K7⟩, fun b h1 h2 => oo7 b (by omega) (by omega), fun h => absurd h h0, fun _ => ⟨X7, C7, PA7⟩⟩
end AD


/-! ===== a script's command is read: the class's side ===== -/
section CO2
variable {V : Nat → Nat} {g f : GH} {x bl L q v : Nat} {bs B : Nat → Int32} {σ : PS} {it kg a p u w k : Int32} {c : CS}
theorem CmA.sa (K : CmA f q V v a p u w k c) (y : Int32) : ∃ f1, h_pt f q 6 1 (.int y) = some f1 ∧ CmA f1 q V v y p u w k c ∧ ∀ b, b ≠ q → f1 b = f b :=
  ⟨_, hpt_of K.1 (by decide : 1 < 7), ⟨h_up_s _ _ _, K.2.frame (fun y h1 h2 => h_up_n f _ (by omega))⟩, fun _ hb => h_up_n f _ hb⟩
theorem CmA.sp (K : CmA f q V v a p u w k c) (y : Int32) : ∃ f1, h_pt f q 6 2 (.int y) = some f1 ∧ CmA f1 q V v a y u w k c ∧ ∀ b, b ≠ q → f1 b = f b :=
  ⟨_, hpt_of K.1 (by decide : 2 < 7), ⟨h_up_s _ _ _, K.2.frame (fun y h1 h2 => h_up_n f _ (by omega))⟩, fun _ hb => h_up_n f _ hb⟩
theorem CmA.su (K : CmA f q V v a p u w k c) (y : Int32) : ∃ f1, h_pt f q 6 3 (.int y) = some f1 ∧ CmA f1 q V v a p y w k c ∧ ∀ b, b ≠ q → f1 b = f b :=
  ⟨_, hpt_of K.1 (by decide : 3 < 7), ⟨h_up_s _ _ _, K.2.frame (fun y h1 h2 => h_up_n f _ (by omega))⟩, fun _ hb => h_up_n f _ hb⟩
theorem CmA.sw (K : CmA f q V v a p u w k c) (y : Int32) : ∃ f1, h_pt f q 6 4 (.int y) = some f1 ∧ CmA f1 q V v a p u y k c ∧ ∀ b, b ≠ q → f1 b = f b :=
  ⟨_, hpt_of K.1 (by decide : 4 < 7), ⟨h_up_s _ _ _, K.2.frame (fun y h1 h2 => h_up_n f _ (by omega))⟩, fun _ hb => h_up_n f _ hb⟩
theorem CmA.sk (K : CmA f q V v a p u w k c) (y : Int32) : ∃ f1, h_pt f q 6 5 (.int y) = some f1 ∧ CmA f1 q V v a p u w y c ∧ ∀ b, b ≠ q → f1 b = f b :=
  ⟨_, hpt_of K.1 (by decide : 5 < 7), ⟨h_up_s _ _ _, K.2.frame (fun y h1 h2 => h_up_n f _ (by omega))⟩, fun _ hb => h_up_n f _ hb⟩
theorem StOK.vi (S : StOK V g) (h3 : 3 ≤ v) (h10 : v ≤ 10) : h_gi (gO g) (V v) 50 4 = some (nn (s_int v)) := by
  have : ∀ i, i < 11 → 2 ≤ i → i < 10 → vl_integers.getD i 0 = nn (s_int (i + 1)) := by decide
  rw [hgi_of (S.vb (v := v) (by omega) (by omega)) rfl, this (v - 1) (by omega) (by omega) (by omega), show v - 1 + 1 = v by omega]
theorem StOK.vl (S : StOK V g) (h3 : 3 ≤ v) (h10 : v ≤ 10) : h_gi (gO g) (V v) 50 5 = some (nn (s_lmN v)) := by
  have : ∀ i, i < 11 → vl_limit.getD i 0 = nn (s_lmN (i + 1)) := by decide
  rw [hgi_of (S.vb (v := v) (by omega) (by omega)) rfl, this (v - 1) (by omega), show v - 1 + 1 = v by omega]
theorem StOK.vp (S : StOK V g) (h3 : 3 ≤ v) (h10 : v ≤ 10) : h_gi (gO g) (V v) 50 3 = some (bz (s_hp v)) := by
  have : ∀ i, i < 11 → vl_hasPoint.getD i 0 = bz (s_hp (i + 1)) := by decide
  rw [hgi_of (S.vb (v := v) (by omega) (by omega)) rfl, this (v - 1) (by omega), show v - 1 + 1 = v by omega]
theorem s_int_b (v : Nat) : s_int v ≤ 2 := by
  unfold s_int
  split
  · decide
  · split <;> decide
theorem s_int_l {v : Nat} (h : 1 ≤ s_int v) : 1 ≤ s_lmN v := by
  unfold s_int at h
  unfold s_lmN
  by_cases e3 : v = 3
  · rw [if_pos e3]; decide
  · rw [if_neg e3] at h ⊢
    by_cases e : v = 5 ∨ v = 6
    · rw [if_pos e]; decide
    · rw [if_neg e]
      by_cases e8 : v = 8
      · rw [if_pos e8]; decide
      · rw [if_neg (fun q => by rcases q with q | q | q; exact e (Or.inl q); exact e (Or.inr q); exact e8 q)] at h
        exact absurd h (by decide)
theorem G_j85 (S : StOK V g) (P : PG x bl L bs (ps_a3 B L v σ).2 it kg f) (hL : L ≤ 700) (hB : ∀ i, i < L → BR (bs i) (B i)) (hv : PV B L σ) (h0 : pE (ps_a3 B L v σ).2 = 0) (h3 : 3 ≤ v) (h10 : v ≤ 10) (hq : q + 4 ≤ x + 62 ∨ x + 65 ≤ q) (K : CmA f q V v a p u 0 k c) : ∃ f1 it1 w1, p_X4_readArguments_j85 V g (x + 64) q (V v) f = some (bz (decide (pE (ps_a4 B L v σ).2 = 0)), f1) ∧ PG x bl L bs (ps_a4 B L v σ).2 it1 kg f1 ∧ CmA f1 q V v a p u w1 k c ∧ (pE (ps_a4 B L v σ).2 = 0 → w1 = (ps_a4 B L v σ).1) ∧ ∀ b, (b < x + 62 ∨ x + 65 ≤ b) → b ≠ q → f1 b = f b := by
  have hi := s_int_b v
  unfold p_X4_readArguments_j85
  rw [S.vi h3 h10, ob_s]
  by_cases h2 : 2 ≤ s_int v
  · have h4 : ps_a4 B L v σ = ps_sgn B L (s_lmN v) (ps_a3 B L v σ).2 := if_pos h2
    obtain ⟨f2, i2, e2, P2, o2, v2⟩ := G_sgn (V := V) (g := g) P hL hB hv.a3 h0 (s_lmN_b v) (s_int_l (by omega))
    rw [← h4] at e2 P2 v2
    have K2 : CmA f2 q V v a p u 0 k c := K.frame (fun b h1 h2 => o2 b (by omega))
    rw [if_neg (by rw [n_1, nn_le (by omega) (by omega)]; omega), S.vl h3 h10, ob_s, ob_s, e2, ob_s]
    by_cases h : pE (ps_a4 B L v σ).2 = 0
    · obtain ⟨f3, e3, K3, o3⟩ := K2.sw i2
      rw [bz_e0 h]
      refine ⟨f3, i2, i2, ?_, P2.fr (fun b h1 h2 => o3 b (by omega)), K3, v2, fun b h1 h2 => (o3 b h2).trans (o2 b h1)⟩
      show (if (1 : Int32) = 0 then _ else _) = _
      rw [if_neg (by decide), P2.gi, ob_s, e3, ob_s]
    · rw [bz_e1 h]
      exact ⟨f2, i2, 0, rfl, P2, K2, fun q => absurd q h, fun b h1 _ => o2 b h1⟩
  · have h4 : ps_a4 B L v σ = (0, (ps_a3 B L v σ).2) := if_neg h2
    rw [h4, if_pos (by rw [n_1, nn_le (by omega) (by omega)]; omega)]
    dsimp only
    rw [bz_e0 h0]
    exact ⟨f, it, 0, rfl, P, K, fun _ => rfl, fun _ _ _ => rfl⟩
theorem G_j52 (S : StOK V g) (P : PG x bl L bs (ps_a2 B L v σ).2 it kg f) (hL : L ≤ 700) (hB : ∀ i, i < L → BR (bs i) (B i)) (hv : PV B L σ) (h0 : pE (ps_a2 B L v σ).2 = 0) (h3 : 3 ≤ v) (h10 : v ≤ 10) (hq : q + 4 ≤ x + 62 ∨ x + 65 ≤ q) (K : CmA f q V v a p 0 0 k c) : ∃ f1 it1 u1 w1, p_X4_readArguments_j52 V g (x + 64) q (V v) f = some (bz (decide (pE (ps_a4 B L v σ).2 = 0)), f1) ∧ PG x bl L bs (ps_a4 B L v σ).2 it1 kg f1 ∧ CmA f1 q V v a p u1 w1 k c ∧ (pE (ps_a4 B L v σ).2 = 0 → u1 = (ps_a3 B L v σ).1 ∧ w1 = (ps_a4 B L v σ).1) ∧ ∀ b, (b < x + 62 ∨ x + 65 ≤ b) → b ≠ q → f1 b = f b := by
  have hi := s_int_b v
  unfold p_X4_readArguments_j52
  rw [S.vi h3 h10, ob_s]
  by_cases h1 : 1 ≤ s_int v
  · have h3' : ps_a3 B L v σ = ps_sgn B L (s_lmN v) (ps_a2 B L v σ).2 := if_pos h1
    obtain ⟨f2, i2, e2, P2, o2, v2⟩ := G_sgn (V := V) (g := g) P hL hB hv.a2 h0 (s_lmN_b v) (s_int_l h1)
    rw [← h3'] at e2 P2 v2
    have K2 : CmA f2 q V v a p 0 0 k c := K.frame (fun b h1 h2 => o2 b (by omega))
    rw [if_neg (by rw [n_0, nn_le (by omega) (by omega)]; omega), S.vl h3 h10, ob_s, ob_s, e2, ob_s]
    by_cases h : pE (ps_a3 B L v σ).2 = 0
    · obtain ⟨f3, e3, K3, o3⟩ := K2.su i2
      obtain ⟨f4, i4, w4, e4, P4, K4, v4, o4⟩ := G_j85 (V := V) (g := g) S (P2.fr (fun b h1 h2 => o3 b (by omega))) hL hB hv h h3 h10 hq K3
      rw [bz_e0 h]
      refine ⟨f4, i4, i2, w4, ?_, P4, K4, fun q => ⟨v2 h, v4 q⟩, fun b h1 h2 => (o4 b h1 h2).trans ((o3 b h2).trans (o2 b h1))⟩
      show (if (1 : Int32) = 0 then _ else _) = _
      rw [if_neg (by decide), P2.gi, ob_s, e3, ob_s]
      exact e4
    · have h4 := a4_e (B := B) (L := L) (v := v) (σ := σ) h
      rw [bz_e1 h, h4]
      dsimp only
      rw [bz_e1 h]
      exact ⟨f2, i2, 0, 0, rfl, P2, K2, fun q => absurd q h, fun b h1 _ => o2 b h1⟩
  · have h3' : ps_a3 B L v σ = (0, (ps_a2 B L v σ).2) := if_neg h1
    rw [if_pos (by rw [n_0, nn_le (by omega) (by omega)]; omega)]
    obtain ⟨f4, i4, w4, e4, P4, K4, v4, o4⟩ := G_j85 (V := V) (g := g) S (by rw [h3']; exact P) hL hB hv (by rw [h3']; exact h0) h3 h10 hq K
    exact ⟨f4, i4, 0, w4, e4, P4, K4, fun q => ⟨by rw [h3'], v4 q⟩, o4⟩
theorem G_args (S : StOK V g) (P : PG x bl L bs σ it kg f) (hL : L ≤ 700) (hB : ∀ i, i < L → BR (bs i) (B i)) (hv : PV B L σ) (h0 : pE σ = 0) (h3 : 3 ≤ v) (h10 : v ≤ 10) (hq : q + 4 ≤ x + 62 ∨ x + 65 ≤ q) (K : CmA f q V v 0 0 0 0 k c) : ∃ f1 it1 a1 p1 u1 w1, p_X4_readArguments V g f (x + 64) q = some (bz (decide (pE (ps_a4 B L v σ).2 = 0)), f1) ∧ PG x bl L bs (ps_a4 B L v σ).2 it1 kg f1 ∧ CmA f1 q V v a1 p1 u1 w1 k c ∧ (pE (ps_a4 B L v σ).2 = 0 → a1 = nn (ps_a1 B L σ).1 ∧ p1 = nn (ps_a2 B L v σ).1 ∧ u1 = (ps_a3 B L v σ).1 ∧ w1 = (ps_a4 B L v σ).1) ∧ ∀ b, (b < x + 62 ∨ x + 65 ≤ b) → b ≠ q → f1 b = f b := by
  obtain ⟨f2, i2, e2, P2, o2, v2⟩ := G_num (V := V) (g := g) P hL hB hv h0 (hi := 5) (by decide)
  rw [← n_5] at e2
  have e2' : p_X4_readInteger V g f (x + 64) (0 : Int32) (5 : Int32) = some (bz (decide (pE (ps_a1 B L σ).2 = 0)), f2) := e2
  have P2' : PG x bl L bs (ps_a1 B L σ).2 i2 kg f2 := P2
  have v2' : pE (ps_a1 B L σ).2 = 0 → i2 = nn (ps_a1 B L σ).1 := v2
  have K2 : CmA f2 q V v 0 0 0 0 k c := K.frame (fun b h1 h2 => o2 b (by omega))
  unfold p_X4_readArguments
  rw [P.me, K.gv, ob_s, e2', ob_s]
  by_cases h1 : pE (ps_a1 B L σ).2 = 0
  · obtain ⟨f3, e3, K3, o3⟩ := K2.sa i2
    have P3 : PG x bl L bs (ps_a1 B L σ).2 i2 kg f3 := P2'.fr (fun b h1 h2 => o3 b (by omega))
    have oo3 : ∀ b, (b < x + 62 ∨ x + 65 ≤ b) → b ≠ q → f3 b = f b := fun b h1 h2 => (o3 b h2).trans (o2 b h1)
    rw [bz_e0 h1]
    show ∃ f1 it1 a1 p1 u1 w1, (if (1 : Int32) = 0 then _ else _) = _ ∧ _
    rw [if_neg (by decide), P2'.gi, ob_s, e3, ob_s, S.vp h3 h10, ob_s]
    by_cases hp : s_hp v = true
    · have h2' : ps_a2 B L v σ = ps_num B L 128 (ps_a1 B L σ).2 := if_pos hp
      obtain ⟨f4, i4, e4, P4, o4, v4⟩ := G_num (V := V) (g := g) P3 hL hB hv.a1 h1 (hi := 128) (by decide)
      have e4' : p_X4_readInteger V g f3 (x + 64) (0 : Int32) (128 : Int32) = some (bz (decide (pE (ps_a2 B L v σ).2 = 0)), f4) := by rw [h2']; exact e4
      rw [← h2'] at P4 v4
      have K4 : CmA f4 q V v i2 0 0 0 k c := K3.frame (fun b h1 h2 => o4 b (by omega))
      rw [hp, if_neg bz_tn, e4', ob_s]
      by_cases h2 : pE (ps_a2 B L v σ).2 = 0
      · obtain ⟨f5, e5, K5, o5⟩ := K4.sp i4
        obtain ⟨f6, i6, u6, w6, e6, P6, K6, v6, o6⟩ := G_j52 (V := V) (g := g) S (P4.fr (fun b h1 h2 => o5 b (by omega))) hL hB hv h2 h3 h10 hq K5
        rw [bz_e0 h2]
        refine ⟨f6, i6, i2, i4, u6, w6, ?_, P6, K6, fun z => ⟨v2' h1, v4 h2, (v6 z).1, (v6 z).2⟩, fun b h1 h2 => (o6 b h1 h2).trans ((o5 b h2).trans ((o4 b h1).trans (oo3 b h1 h2)))⟩
        show (if (1 : Int32) = 0 then _ else _) = _
        rw [if_neg (by decide), P4.gi, ob_s, e5, ob_s]
        exact e6
      · have h3' := a3_e (B := B) (L := L) (v := v) (σ := σ) h2
        have h4' := a4_e (B := B) (L := L) (v := v) (σ := σ) (by rw [h3']; exact h2)
        rw [bz_e1 h2, h4', h3']
        dsimp only
        rw [bz_e1 h2]
        exact ⟨f4, i4, i2, 0, 0, 0, rfl, P4, K4, fun z => absurd z h2, fun b h1 h2 => (o4 b h1).trans (oo3 b h1 h2)⟩
    · have h2' : ps_a2 B L v σ = (0, (ps_a1 B L σ).2) := if_neg hp
      obtain ⟨f6, i6, u6, w6, e6, P6, K6, v6, o6⟩ := G_j52 (V := V) (g := g) S (by rw [h2']; exact P3) hL hB hv (by rw [h2']; exact h1) h3 h10 hq K3
      rw [Bool.not_eq_true] at hp
      rw [hp, if_pos bz_f]
      exact ⟨f6, i6, i2, 0, u6, w6, e6, P6, K6, fun z => ⟨v2' h1, by rw [h2']; rfl, (v6 z).1, (v6 z).2⟩, fun b h1 h2 => (o6 b h1 h2).trans (oo3 b h1 h2)⟩
  · have h2' := a2_e (B := B) (L := L) (v := v) (σ := σ) h1
    have h3' := a3_e (B := B) (L := L) (v := v) (σ := σ) (by rw [h2']; exact h1)
    have h4' := a4_e (B := B) (L := L) (v := v) (σ := σ) (by rw [h3', h2']; exact h1)
    rw [bz_e1 h1, h4', h3', h2']
    dsimp only
    rw [bz_e1 h1]
    exact ⟨f2, i2, 0, 0, 0, 0, rfl, P2', K2, fun z => absurd z h1, fun b h1 _ => o2 b h1⟩
end CO2
/-! the whole command -/
noncomputable def ps_cmd (B : Nat → Int32) (L : Nat) (σ : PS) : CMD × PS := match s_vb B (pT σ) 11 0 with
  | none => ((0, 0, 0, 0, 0, 0, c_new 0), ps_chk false 1 σ)
  | some i => if i < 2 then ((1 + i, 0, 0, 0, 0, 0, (ps_coast B L σ).1), (ps_coast B L σ).2) else if i = 10 then ((11, 0, 0, 0, 0, ps_kg B (ps_adv B L σ), c_new 0), ps_met B L (ps_adv B L σ)) else ((1 + i, nn (ps_a1 B L (ps_adv B L σ)).1, nn (ps_a2 B L (1 + i) (ps_adv B L σ)).1, (ps_a3 B L (1 + i) (ps_adv B L σ)).1, (ps_a4 B L (1 + i) (ps_adv B L σ)).1, 0, c_new 0), (ps_a4 B L (1 + i) (ps_adv B L σ)).2)
/-- the command lies in its cell; what it does not use may be old -/
def CmR (f : GH) (q : Nat) (V : Nat → Nat) (K : CMD) : Prop := ∃ k c, CmA f q V (qV K) (qA K) (qP K) (qU K) (qW K) k c ∧ (qV K ≤ 2 → c = qC K) ∧ (qV K = 11 → k = qK K)
/-- a command that was read -/
def CmV (K : CMD) : Prop := 1 ≤ qV K ∧ qV K ≤ 11 ∧ (qV K ≤ 2 → CoV (qC K) ∧ cN (qC K) ≤ 33) ∧ (qV K = 11 → qK K = 0 ∨ qK K = 1) ∧ s_in (-(s_lim (qV K))) (s_lim (qV K)) (qU K) = true ∧ s_in (-(s_lim (qV K))) (s_lim (qV K)) (qW K) = true
section CP2
variable {V : Nat → Nat} {g f : GH} {x bl L q : Nat} {bs B : Nat → Int32} {σ : PS} {it kg : Int32}
theorem CmV.cmd (h : pE (ps_cmd B L σ).2 = 0) (h0 : pE σ = 0) : CmV (ps_cmd B L σ).1 := by
  unfold ps_cmd at h ⊢
  cases hvb : s_vb B (pT σ) 11 0 with
  | none => rw [hvb] at h; exact absurd h (chk_ne h0 (by decide))
  | some i =>
    obtain ⟨-, hi, -⟩ := s_vb_ge _ _ _ hvb
    rw [hvb] at h
    dsimp only at h ⊢
    by_cases h2 : i < 2
    · rw [if_pos h2] at h ⊢
      have hc := CoV.coast h
      have hin : s_in (-(s_lim (1 + i))) (s_lim (1 + i)) 0 = true := by
        have : ∀ i, i < 2 → s_in (-(s_lim (1 + i))) (s_lim (1 + i)) 0 = true := by decide
        exact this i h2
      refine ⟨by show 1 ≤ 1 + i; omega, by show 1 + i ≤ 11; omega, fun _ => hc, fun e => absurd e (by show ¬ 1 + i = 11; omega), hin, hin⟩
    · rw [if_neg h2] at h ⊢
      by_cases h10 : i = 10
      · rw [if_pos h10] at h ⊢
        exact ⟨by show 1 ≤ 11; decide, by show 11 ≤ 11; decide, fun e => absurd e (by show ¬ 11 ≤ 2; decide), fun _ => bz_i01 _, by show s_in (-(s_lim 11)) (s_lim 11) 0 = true; decide, by show s_in (-(s_lim 11)) (s_lim 11) 0 = true; decide⟩
      · rw [if_neg h10] at h ⊢
        exact ⟨by show 1 ≤ 1 + i; omega, by show 1 + i ≤ 11; omega, fun e => absurd e (by show ¬ 1 + i ≤ 2; omega), fun e => absurd e (by show ¬ 1 + i = 11; omega), a3_in (a4_0 h), a4_in h⟩
theorem PV.cmd (h : PV B L σ) : PV B L (ps_cmd B L σ).2 := by
  unfold ps_cmd
  cases s_vb B (pT σ) 11 0 with
  | none => exact h.chk _ _
  | some i =>
    dsimp only
    by_cases h2 : i < 2
    · rw [if_pos h2]; exact h.coast
    · rw [if_neg h2]
      by_cases h10 : i = 10
      · rw [if_pos h10]; exact PV.met h.adv
      · rw [if_neg h10]; exact PV.a4 h.adv
theorem G_cmd {v0 : Nat} {a0 p0 u0 w0 k0 : Int32} {c0 : CS} (S : StOK V g) (P : PG x bl L bs σ it kg f) (hL : L ≤ 700) (hB : ∀ i, i < L → BR (bs i) (B i)) (hv : PV B L σ) (h0 : pE σ = 0) (hkg : kg = 0 ∨ kg = 1) (hq : q + 4 ≤ x + 62 ∨ x + 65 ≤ q) (K : CmA f q V v0 a0 p0 u0 w0 k0 c0) : ∃ f1 it1 kg1, p_X4_readCommand V g f (x + 64) q = some (bz (decide (pE (ps_cmd B L σ).2 = 0)), f1) ∧ PG x bl L bs (ps_cmd B L σ).2 it1 kg1 f1 ∧ (kg1 = 0 ∨ kg1 = 1) ∧ (∃ v a p u w k c, CmA f1 q V v a p u w k c) ∧ (pE (ps_cmd B L σ).2 = 0 → CmR f1 q V (ps_cmd B L σ).1) ∧ ∀ b, (b < x + 62 ∨ x + 65 ≤ b) → (b < q ∨ q + 4 ≤ b) → f1 b = f b := by
  unfold p_X4_readCommand
  rw [P.me, G_verb S P hL hB hv, ob_s]
  cases hvb : s_vb B (pT σ) 11 0 with
  | none =>
    obtain ⟨f1, e1, P1, o1⟩ := G_fail (V := V) (g := g) P h0 (c := 1) (by decide)
    have hne := chk_ne h0 (k := 1) (by decide)
    have hE : ps_cmd B L σ = ((0, 0, 0, 0, 0, 0, c_new 0), ps_chk false 1 σ) := by unfold ps_cmd; rw [hvb]
    rw [hE]
    dsimp only [Option.map]
    rw [e1, ob_s, hbz01 (Or.inl rfl), ob_s, bz_e1 hne]
    exact ⟨f1, it, kg, rfl, P1, hkg, ⟨_, _, _, _, _, _, _, K.frame (fun b h1 h2 => o1 b (by omega))⟩, fun h => absurd h hne, fun b h1 _ => o1 b h1⟩
  | some i =>
    obtain ⟨-, hi, -⟩ := s_vb_ge _ _ _ hvb
    have hb := S.vb (v := 1 + i) (by omega) (by omega)
    have hic : vl_isCoast.getD (1 + i - 1) 0 = if i < 2 then 1 else 0 := by
      have : ∀ i, i < 11 → vl_isCoast.getD (1 + i - 1) 0 = if i < 2 then 1 else 0 := by decide
      exact this i (by omega)
    obtain ⟨f2, e2, K2, o2⟩ := P_set (V := V) (g := g) (v := 1 + i) (a := 0) (b := 0) (r := 0) (w := 0) K
    have P2 : PG x bl L bs σ it kg f2 := P.fr (fun b h1 h2 => o2 b (by omega))
    dsimp only [Option.map]
    rw [e2, ob_s, hgi_of hb rfl, ob_s, hic]
    by_cases h2 : i < 2
    · obtain ⟨f3, i3, c3, e3, P3, D3, g3, o3⟩ := G_coast (V := V) (g := g) S P2 hL hB hv h0 (cap := 33) (by decide) (q := q + 1) (by omega) K2.2
      have K3 : CmA f3 q V (1 + i) 0 0 0 0 k0 c3 := ⟨(o3 q (by omega) (by omega)).trans K2.1, D3⟩
      have hE : ps_cmd B L σ = ((1 + i, 0, 0, 0, 0, 0, (ps_coast B L σ).1), (ps_coast B L σ).2) := by unfold ps_cmd; rw [hvb]; exact if_pos h2
      rw [if_pos h2, if_neg (by decide), K2.gs, ob_s, e3, ob_s, hbz, ob_s, hE]
      exact ⟨f3, i3, kg, rfl, P3, hkg, ⟨_, _, _, _, _, _, _, K3⟩, fun h => ⟨k0, c3, K3, fun _ => g3 h, fun e => absurd e (by show ¬ 1 + i = 11; omega)⟩, fun b h1 h2 => (o3 b h1 (by omega)).trans (o2 b (by omega))⟩
    · obtain ⟨f3, e3, P3, o3⟩ := G_adv (V := V) (g := g) P2 hL hB hv h0
      have K3 : CmA f3 q V (1 + i) 0 0 0 0 k0 c0 := K2.frame (fun b h1 h2 => o3 b (by omega))
      have h00 : pE (ps_adv B L σ) = 0 := by rw [ps_adv_0 h0]; rfl
      have oo3 : ∀ b, (b < x + 62 ∨ x + 65 ≤ b) → b ≠ q → f3 b = f b := fun b h1 h2 => (o3 b h1).trans (o2 b h2)
      rw [if_neg h2, if_pos rfl, P2.tk, ob_s, e3, ob_s]
      by_cases h10 : i = 10
      · obtain ⟨f4, e4, P4, o4⟩ := G_met (V := V) (g := g) S P3 hL hB hv.adv h00
        have K4 : CmA f4 q V (1 + i) 0 0 0 0 k0 c0 := K3.frame (fun b h1 h2 => o4 b (by omega))
        obtain ⟨f5, e5, K5, o5⟩ := K4.sk (ps_kg B (ps_adv B L σ))
        have hE : ps_cmd B L σ = ((11, 0, 0, 0, 0, ps_kg B (ps_adv B L σ), c_new 0), ps_met B L (ps_adv B L σ)) := by unfold ps_cmd; rw [hvb]; exact (if_neg h2).trans (if_pos h10)
        rw [hE, if_pos (by rw [h10]), e4, ob_s, P4.gk, ob_s, show h_bz (ps_kg B (ps_adv B L σ)) = some (ps_kg B (ps_adv B L σ)) from hbz _, ob_s, e5, ob_s, hbz, ob_s]
        refine ⟨f5, it, _, rfl, P4.fr (fun b h1 h2 => o5 b (by omega)), bz_i01 _, ⟨_, _, _, _, _, _, _, K5⟩, fun _ => ⟨_, c0, ?_, fun e => absurd e (by show ¬ 11 ≤ 2; decide), fun _ => rfl⟩, fun b h1 h2 => (o5 b (by omega)).trans ((o4 b h1).trans (oo3 b h1 (by omega)))⟩
        rw [h10] at K5
        exact K5
      · obtain ⟨f4, i4, a4, p4, u4, w4, e4, P4, K4, v4, o4⟩ := G_args (V := V) (g := g) S P3 hL hB hv.adv h00 (v := 1 + i) (by omega) (by omega) hq K3
        have hE : ps_cmd B L σ = ((1 + i, nn (ps_a1 B L (ps_adv B L σ)).1, nn (ps_a2 B L (1 + i) (ps_adv B L σ)).1, (ps_a3 B L (1 + i) (ps_adv B L σ)).1, (ps_a4 B L (1 + i) (ps_adv B L σ)).1, 0, c_new 0), (ps_a4 B L (1 + i) (ps_adv B L σ)).2) := by unfold ps_cmd; rw [hvb]; exact (if_neg h2).trans (if_neg h10)
        rw [hE, if_neg (fun e => h10 (by have := S.ne (by omega) (by omega) (by decide) (by decide) (Option.some.inj e); omega)), e4, ob_s, hbz, ob_s]
        refine ⟨f4, i4, kg, rfl, P4, hkg, ⟨_, _, _, _, _, _, _, K4⟩, fun h => ⟨k0, c0, ?_, fun e => absurd e (by show ¬ 1 + i ≤ 2; omega), fun e => absurd e (by show ¬ 1 + i = 11; omega)⟩, fun b h1 h2 => (o4 b h1 (by omega)).trans (oo3 b h1 (by omega))⟩
        obtain ⟨w1, w2, w3, w5⟩ := v4 h
        rw [w1, w2, w3, w5] at K4
        exact K4
end CP2

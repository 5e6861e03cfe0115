/-! ===== loadMap: the law's case 1 ===== -/
section ML
variable {V : Nat → Nat} {g f0 : GH} {m b L : Nat} {z z0 : Nat → Int32} {A : Nat → Nat → Int32} {B : Nat → Int32} {σ : PS}
end ML
section IL
variable {V : Nat → Nat} {g f f1 f2 : GH} {x m o d u p u1 p1 : Nat} {z z1 : Nat → Int32} {A A1 : Nat → Nat → Int32} {T T1 S S1 : TS} {H H1 : Nat → TS} {hs hs1 : Int32}
theorem IV.gen (F2 : FR V x m o d f2 z1 A1) (e2 : ∀ a, a < m ∨ d < a → f2 a = f1 a) (X1 : XoA f1 x hs1 (nn u1) (nn p1)) (C1 : ChA f1 (x + 1) T1) (P1 : PaA f1 x u1 p1 H1) (hS : hs1 = 1 → ChA f1 (x + 41) S1) (K1 : ∃ v a q r w k c, CmA f1 (x + 66) V v a q r w k c) (K : KR V f1 x d z1 A1) (r : RT (A1 0) T1 ∧ HsA A1 u1 H1 ∧ (hs1 = 1 → RT (A1 3) S1)) (t : TV T1 ∧ (∀ k, k < u1 → TV (H1 k)) ∧ (hs1 = 1 → TV S1) ∧ u1 ≤ 8 ∧ p1 < 8 ∧ (hs1 = 0 ∨ hs1 = 1)) (zz : z1 6 = nn u1 ∧ z1 9 = hs1) : IV V x m o d f2 z1 A1 T1 hs1 u1 p1 H1 S1 := by
  have hm := F2.2.2.2.1
  refine ⟨F2, r, t, zz, ⟨X1.fr (e2 x (by omega)), C1.frame (fun a h1 h2 => e2 a (by omega)), P1.frame (fun a h => e2 a (by omega)), fun h => (hS h).frame (fun a h1 h2 => e2 a (by omega))⟩, ?_, K.frame (fun a h => e2 a (by omega)) rfl rfl rfl rfl rfl rfl⟩
  obtain ⟨v, a, q, r, w, k, c, h⟩ := K1
  exact ⟨v, a, q, r, w, k, c, h.frame (fun b h1 h2 => e2 b (by omega))⟩
theorem P_reqText {bl : Nat} {len kd st nx : Int32} (X : XoA f x hs (nn u) (nn p)) (hb : bl ≤ 700) (t3 : f (x + 62) = some (.inr (8, [.ref (x + 63), .int (nn bl), .int len, .int kd, .int st, .int nx]))) (a : Int32) : p_X7_requireText V g f x a = some (if inC (bl + 1) a = true then .inr () else .inl 1) := by
  unfold p_X7_requireText
  rw [X.me, X.tk, ob_s, hgi_of t3 rfl, ob_s, P_within, show s_in 0 (nn bl) a = inC (bl + 1) a from s_inL (by omega) a]
  cases inC (bl + 1) a <;> rfl
/-- what a text's reading leaves of the tokens and the grammar -/
theorem TkR.done {L : Nat} {bs : Nat → Int32} {σ : PS} {it kg : Int32} (P : PG x 0 L bs σ it kg f) (h13 : z 13 = 0) : TkR f x z A :=
  ⟨0, nn L, nn (kD (pT σ)), nn (kS (pT σ)), nn (kN (pT σ)), bs, Nat.zero_le _, h13, P.1, P.2.1, fun i hi => absurd hi (Nat.not_lt_zero i)⟩
theorem GrR.done {bl L : Nat} {bs : Nat → Int32} {σ : PS} {it kg : Int32} (P : PG x bl L bs σ it kg f) (h8 : z 8 = pE σ) (h20 : z 20 = pO σ) (hkg : kg = 0 ∨ kg = 1) : GrR f x z :=
  ⟨it, kg, by rw [h8, h20]; exact P.2.2, hkg⟩
theorem PG.held {bl L : Nat} {bs : Nat → Int32} {σ : PS} {it kg : Int32} (P : PG x bl L bs σ it kg f) : ∃ f1, h_pt f (x + 62) 8 1 (.int (0 : Int32)) = some f1 ∧ PG x 0 L bs σ it kg f1 ∧ ∀ a, a ≠ x + 62 → f1 a = f a :=
  ⟨_, hpt_of P.1 (by decide : 1 < 6), ⟨h_up_s _ _ _, (h_up_n _ _ (by omega)).trans P.2.1, (h_up_n _ _ (by omega)).trans P.2.2⟩, fun _ ha => h_up_n f _ ha⟩
theorem C_startL (C : ChA f x T) : ∃ f1, p_X1_startLedgers V g f x = some f1 ∧ ChA f1 x (tN T, tK T, s_pts T, 0, 0, tC T) ∧ h_out x (x + 1) f f1 := by
  obtain ⟨f1, e1, C1, o1⟩ := C.sL (s_pts T)
  obtain ⟨f2, e2, C2, o2⟩ := C1.sA 0
  obtain ⟨f3, e3, C3, o3⟩ := C2.sR 0
  refine ⟨f3, ?_, C3, o1.tr (o2.tr o3)⟩
  unfold p_X1_startLedgers
  rw [C.me, C_pts C, ob_s, e1, ob_s, e2, ob_s, e3, ob_s]
theorem KR.txt (K : KR V f x d z A) (hc : ∃ T0, ChA f1 (x + 21) T0) (ht : TkR f1 x z1 A1) (hg : GrR f1 x z1) (hsc : ScR V f1 x) (e : ∀ a, (x + 41 ≤ a ∧ a < x + 61 ∨ x + 70 ≤ a ∧ a < x + 75 ∨ d < a) → f1 a = f a) (h11 : z1 11 = z 11) (a5 : A1 5 = A 5) : KR V f1 x d z1 A1 := by
  obtain ⟨_, ⟨T1, k2⟩, _, _, _, ⟨c, k3⟩, ⟨va, cap, ol, bb, ml, b1, b2, b3, b4, b5, b6, b7, b8, b9, b10⟩⟩ := K
  exact ⟨hc, ⟨T1, k2.frame (fun a h1 h2 => e a (by omega))⟩, ht, hg, hsc, ⟨c, k3.frame (fun a h1 h2 => e a (by omega))⟩, ⟨va, cap, ol, bb, ml, h11.trans b1, b2, b3, b4, b5, (e _ (by omega)).trans b6, (e _ (by omega)).trans b7, b8, b9, fun i hi => by rw [a5]; exact b10 i hi⟩⟩
theorem ScR.frame (h : ScR V f x) (e : ∀ a, (a = x + 65 ∨ x + 235 ≤ a ∧ a < x + 315) → f1 a = f a) : ScR V f1 x := by
  obtain ⟨⟨ra, s1, s2⟩, s3⟩ := h
  refine ⟨⟨ra, (e _ (Or.inl rfl)).trans s1, s2⟩, fun j hj => ?_⟩
  obtain ⟨v, a, q, r, w, k, c, hc⟩ := s3 j hj
  exact ⟨v, a, q, r, w, k, c, hc.frame (fun b h1 h2 => e b (Or.inr (by omega)))⟩
theorem MSV.whole {B : Nat → Int32} {L : Nat} : MSV (ps_whole B L).1 := MSV.map n6 mp_0 (ps_m3 B L) (by rw [n6_eq]; rfl) ⟨Nat.zero_le _, fun i hi => absurd hi (Nat.not_lt_zero i)⟩
/-- the map that was read, with its ledgers -/
def T_new (R : MS) (k : Int32) : TS := (R.1, k, s_pts (R.1, k, 0, 0, 0, R.2), 0, 0, R.2)
theorem T_new_v {R : MS} {k : Int32} (h : MSV R) (hk : k = 0 ∨ k = 1) : TV (T_new R k) := ⟨h.1, hk, fun i hi => (h.2 i hi).1⟩
theorem P_load {bl L : Nat} {bs B : Nat → Int32} {len kd st nx cc oo it kg : Int32} {T0 : TS} (S0 : StOK V g) (X : XoA f x hs (nn u) (nn p)) (C : ChA f (x + 1) T) (C0 : ChA f (x + 21) T0) (hb : bl ≤ 700) (hL : L ≤ bl) (b3 : f (x + 62) = some (.inr (8, [.ref (x + 63), .int (nn bl), .int len, .int kd, .int st, .int nx]))) (b4 : f (x + 63) = some (.inl (1, 700, .inl bs))) (g1 : f (x + 64) = some (.inr (7, [.ref (x + 62), .int cc, .int oo, .int it, .int kg]))) (hkg : kg = 0 ∨ kg = 1) (hB : ∀ i, i < L → BR (bs i) (B i)) :
    ∃ f9 it1 kg1, p_X7_loadMap V g f x (nn L) = some (.inr (if pE (ps_whole B L).2 = 0 then nn (ps_whole B L).1.1 else -1, f9)) ∧ PG x 0 L bs (ps_whole B L).2 it1 kg1 f9 ∧ (kg1 = 0 ∨ kg1 = 1) ∧ (∃ T0, ChA f9 (x + 21) T0) ∧ (∀ b, (b < x ∨ x + 41 ≤ b ∧ b < x + 62 ∨ x + 65 ≤ b) → f9 b = f b) ∧ (pE (ps_whole B L).2 = 0 → XoA f9 x 0 0 (nn p) ∧ ChA f9 (x + 1) (T_new (ps_whole B L).1 (ps_king B L))) ∧ (pE (ps_whole B L).2 ≠ 0 → XoA f9 x hs (nn u) (nn p) ∧ ChA f9 (x + 1) T) := by
  have hlen : inC (bl + 1) (nn L) = true := inC_nn (by omega) (by omega)
  have hMV : MSV (ps_whole B L).1 := MSV.whole
  have hkk : ps_king B L = 0 ∨ ps_king B L = 1 := bz_i01 _
  obtain ⟨f1, i1, kg1, c1, c2, c3, c4, c5, c6⟩ := C_map (V := V) (g := g) (x := x) (T := T0) S0 b3 b4 g1 (by omega : L ≤ 700) hB C0 hkg
  generalize ps_whole B L = R at *
  generalize ps_king B L = kk at *
  obtain ⟨f6, e6, P6, o6⟩ := c2.held
  have oo6 : ∀ b, (b < x + 21 ∨ x + 41 ≤ b ∧ b < x + 62 ∨ x + 65 ≤ b) → f6 b = f b := fun b hb => (o6 b (by omega)).trans (c6 b hb)
  have X1 : XoA f1 x hs (nn u) (nn p) := X.fr (c6 x (by omega))
  have X6 : XoA f6 x hs (nn u) (nn p) := X.fr (oo6 x (by omega))
  have C1 : ChA f6 (x + 1) T := C.frame (fun b h1 h2 => oo6 b (by omega))
  have hun : p_X7_loadMap V g f x (nn L) = if bz (decide (pE R.2 = 0)) = (0 : Int32) then some (.inr ((-1 : Int32), f6)) else (h_gr f6 x 9 1).bind fun v8 => (p_X1_startLedgers V g f6 v8).bind fun v9 => (h_gr v9 x 9 0).bind fun v10 => (h_gr v9 x 9 1).bind fun v11 => (p_X1_copyFrom V g v9 v10 v11).bind fun v12 => (h_pt v12 x 9 5 (.int (0 : Int32))).bind fun f13 => (h_pt f13 x 9 3 (.int (0 : Int32))).bind fun f14 => (h_gr f14 x 9 0).bind fun v15 => (h_gi f14 v15 4 1).bind fun v16 => some (.inr (v16, f14)) := by
    unfold p_X7_loadMap
    rw [X.me, P_reqText X hb b3, hlen, if_pos rfl, xb_r, X.gr, ob_s, X.ld, ob_s, c1, ob_s, X1.tk, ob_s, e6, ob_s]
  rw [hun]
  by_cases h0 : pE R.2 = 0
  · obtain ⟨l0, a0, r0, C6⟩ := c5 h0
    have C6' : ChA f6 (x + 21) (R.1.1, kk, l0, a0, r0, R.1.2) := C6.frame (fun b h1 h2 => o6 b (by omega))
    obtain ⟨f7, e7, C7, o7⟩ := C_startL (V := V) (g := g) C6'
    have C7' : ChA f7 (x + 21) (T_new R.1 kk) := C7
    have X7 : XoA f7 x hs (nn u) (nn p) := X6.fr (o7 x (by omega))
    obtain ⟨f8, e8, C8, o8⟩ := C_copyChart (V := V) (g := g) C7' (T_new_v hMV hkk) (C1.frame (fun b h1 h2 => o7 b (by omega)) : ChA f7 (x + 1) T) (by omega)
    have X8 : XoA f8 x hs (nn u) (nn p) := X7.fr (o8 x (by omega))
    obtain ⟨f9, e9, X9, o9⟩ := X8.sPC (0 : Int32)
    have e10 : h_pt f9 x 9 3 (.int (0 : Int32)) = some (h_up f9 x (.inr (9, [.ref (x + 1), .ref (x + 21), .ref (x + 41), .int 0, .ref (x + 61), .int 0, .int (nn p), .ref (x + 62), .ref (x + 64), .ref (x + 65), .ref (x + 66), .ref (x + 70), .ref (x + 73)]))) := hpt_of X9 (by decide : 3 < 13)
    have X10 : XoA (h_up f9 x (.inr (9, [.ref (x + 1), .ref (x + 21), .ref (x + 41), .int 0, .ref (x + 61), .int 0, .int (nn p), .ref (x + 62), .ref (x + 64), .ref (x + 65), .ref (x + 66), .ref (x + 70), .ref (x + 73)]))) x 0 0 (nn p) := h_up_s _ _ _
    have oo10 : ∀ b, b ≠ x → (b < x + 1 ∨ x + 22 ≤ b) → h_up f9 x (.inr (9, [.ref (x + 1), .ref (x + 21), .ref (x + 41), .int 0, .ref (x + 61), .int 0, .int (nn p), .ref (x + 62), .ref (x + 64), .ref (x + 65), .ref (x + 66), .ref (x + 70), .ref (x + 73)])) b = f6 b := fun b h1 h2 => (h_up_n f9 _ h1).trans ((o9 b h1).trans ((o8 b (by omega)).trans (o7 b (by omega))))
    have C10 : ChA (h_up f9 x (.inr (9, [.ref (x + 1), .ref (x + 21), .ref (x + 41), .int 0, .ref (x + 61), .int 0, .int (nn p), .ref (x + 62), .ref (x + 64), .ref (x + 65), .ref (x + 66), .ref (x + 70), .ref (x + 73)]))) (x + 1) (T_new R.1 kk) := C8.frame (fun b h1 h2 => (h_up_n f9 _ (by omega)).trans (o9 b (by omega)))
    have C21 : ChA (h_up f9 x (.inr (9, [.ref (x + 1), .ref (x + 21), .ref (x + 41), .int 0, .ref (x + 61), .int 0, .int (nn p), .ref (x + 62), .ref (x + 64), .ref (x + 65), .ref (x + 66), .ref (x + 70), .ref (x + 73)]))) (x + 21) (T_new R.1 kk) := C7'.frame (fun b h1 h2 => (h_up_n f9 _ (by omega)).trans ((o9 b (by omega)).trans (o8 b (by omega))))
    generalize h_up f9 x (.inr (9, [.ref (x + 1), .ref (x + 21), .ref (x + 41), .int 0, .ref (x + 61), .int 0, .int (nn p), .ref (x + 62), .ref (x + 64), .ref (x + 65), .ref (x + 66), .ref (x + 70), .ref (x + 73)])) = f10 at *
    rw [bz_e0 h0, if_neg (by decide), if_pos h0]
    refine ⟨f10, i1, kg1, ?_, P6.fr (fun b h1 h2 => oo10 b (by omega) (by omega)), c3, ⟨_, C21⟩, fun b hb => (oo10 b (by omega) (by omega)).trans (oo6 b (by omega)), fun _ => ⟨X10, C10⟩, fun h => absurd h0 h⟩
    rw [X6.ld, ob_s, e7, ob_s, X7.ch, ob_s, X7.ld, ob_s, e8, ob_s, e9, ob_s, e10, ob_s, X10.ch, ob_s, C10.n, ob_s]
    rfl
  · rw [bz_e1 h0, if_pos rfl, if_neg h0]
    obtain ⟨T9, C9⟩ := c4
    exact ⟨f6, i1, kg1, rfl, P6, c3, ⟨T9, C9.frame (fun b h1 h2 => o6 b (by omega))⟩, fun b hb => oo6 b (by omega), fun h => absurd h h0, fun _ => ⟨X6, C1⟩⟩
end IL


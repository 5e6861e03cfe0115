/-! ===== the invariant between the law's calls ===== -/
/-- a byte on both sides -/
def BR (c m : Int32) : Prop := (0 ≤ m.toInt ∧ m.toInt < 128 ∧ c = m) ∨ (128 ≤ m.toInt ∧ m.toInt < 256 ∧ c.toInt < 0)
def bfit (v : Int32) : Prop := fits .byte (.int v) = true
/-- the texts' bytes -/
def TkR (f : GH) (x : Nat) (z : Nat → Int32) (A : Nat → Nat → Int32) : Prop := ∃ (bl : Nat) (len kd st nx : Int32) (bs : Nat → Int32), bl ≤ 700 ∧ z 13 = nn bl ∧ f (x + 62) = some (.inr (8, [.ref (x + 63), .int (nn bl), .int len, .int kd, .int st, .int nx])) ∧ f (x + 63) = some (.inl (1, 700, .inl bs)) ∧ ∀ i, i < bl → BR (bs i) (A 6 i)
/-- the latest error -/
def GrR (f : GH) (x : Nat) (z : Nat → Int32) : Prop := ∃ (it kg : Int32), f (x + 64) = some (.inr (7, [.ref (x + 62), .int (z 8), .int (z 20), .int it, .int kg])) ∧ (kg = 0 ∨ kg = 1)
/-- the script's commands -/
def ScR (V : Nat → Nat) (f : GH) (x : Nat) : Prop := (∃ ra : Nat → Option Nat, f (x + 65) = some (.inl (6, 20, .inr (.inr (.inr (.inr ra))))) ∧ ∀ j, j < 20 → ra j = some (x + 235 + 4 * j)) ∧ ∀ j, j < 20 → ∃ v a q r w k c, CmA f (x + 235 + 4 * j) V v a q r w k c
/-- the output -/
def SbR (f : GH) (x d : Nat) (z : Nat → Int32) (A : Nat → Nat → Int32) : Prop := ∃ (va cap ol : Nat) (bs : Nat → Int32) (ml : Int32), z 11 = nn ol ∧ ol ≤ cap ∧ 16 ≤ cap ∧ cap ≤ 200 ∧ ol ≤ 99 ∧ f (x + 73) = some (.inr (1, [.ref va, .int 0, .int ml, .int (nn ol)])) ∧ f va = some (.inl (1, cap, .inl bs)) ∧ (va = x + 74 ∨ d < va) ∧ (∀ i, bfit (bs i)) ∧ ∀ i, i < ol → bs i = A 5 i ∧ 0 ≤ (A 5 i).toInt ∧ (A 5 i).toInt < 128
/-- what a change does not touch -/
def KR (V : Nat → Nat) (f : GH) (x d : Nat) (z : Nat → Int32) (A : Nat → Nat → Int32) : Prop :=
  (∃ T0, ChA f (x + 21) T0) ∧ (∃ T0, ChA f (x + 41) T0) ∧ TkR f x z A ∧ GrR f x z ∧ ScR V f x ∧ (∃ c, CoA f (x + 70) 129 c) ∧ SbR f x d z A
theorem KR.frame {V : Nat → Nat} {f f1 : GH} {x d : Nat} {z z1 : Nat → Int32} {A A1 : Nat → Nat → Int32} (K : KR V f x d z A) (e : ∀ a, (x + 21 ≤ a ∧ a < x + 61 ∨ x + 62 ≤ a ∧ a < x + 66 ∨ x + 70 ≤ a ∧ a < x + 75 ∨ x + 235 ≤ a ∧ a < x + 315 ∨ d < a) → f1 a = f a) (h8 : z1 8 = z 8) (h11 : z1 11 = z 11) (h13 : z1 13 = z 13) (h20 : z1 20 = z 20) (a5 : A1 5 = A 5) (a6 : A1 6 = A 6) : KR V f1 x d z1 A1 := by
  obtain ⟨⟨T0, k1⟩, ⟨T1, k2⟩, ⟨bl, len, kd, st, nx, bs, t1, t2, t3, t4, t5⟩, ⟨it, kg, g1, g2⟩, ⟨⟨ra, s1, s2⟩, s3⟩, ⟨c, k3⟩, ⟨va, cap, ol, bb, ml, b1, b2, b3, b4, b5, b6, b7, b8, b9, b10⟩⟩ := K
  refine ⟨⟨T0, k1.frame (fun a h1 h2 => e a (by omega))⟩, ⟨T1, k2.frame (fun a h1 h2 => e a (by omega))⟩, ⟨bl, len, kd, st, nx, bs, t1, h13.trans t2, (e _ (by omega)).trans t3, (e _ (by omega)).trans t4, fun i hi => by rw [a6]; exact t5 i hi⟩, ⟨it, kg, by rw [h8, h20]; exact (e _ (by omega)).trans g1, g2⟩, ⟨⟨ra, (e _ (by omega)).trans s1, s2⟩, fun j hj => ?_⟩, ⟨c, k3.frame (fun a h1 h2 => e a (by omega))⟩, ⟨va, cap, ol, bb, ml, h11.trans b1, b2, b3, b4, b5, (e _ (by omega)).trans b6, (e _ (by omega)).trans b7, b8, b9, fun i hi => by rw [a5]; exact b10 i hi⟩⟩
  obtain ⟨v, a, q, r, w, k, c, hc⟩ := s3 j hj
  exact ⟨v, a, q, r, w, k, c, hc.frame (fun b h1 h2 => e b (by omega))⟩
/-- where all lies -/
def FR (V : Nat → Nat) (x m o d : Nat) (f : GH) (z : Nat → Int32) (A : Nat → Nat → Int32) : Prop := MR V m 0 z A f ∧ OA f o ∧ DA f d ∧ x + 315 ≤ m ∧ m + 11 ≤ o ∧ o < d
def IV (V : Nat → Nat) (x m o d : Nat) (f : GH) (z : Nat → Int32) (A : Nat → Nat → Int32) (T : TS) (hs : Int32) (u p : Nat) (H : Nat → TS) (S : TS) : Prop :=
  FR V x m o d f z A ∧ (RT (A 0) T ∧ HsA A u H ∧ (hs = 1 → RT (A 3) S)) ∧ (TV T ∧ (∀ k, k < u → TV (H k)) ∧ (hs = 1 → TV S) ∧ u ≤ 8 ∧ p < 8 ∧ (hs = 0 ∨ hs = 1)) ∧ (z 6 = nn u ∧ z 9 = hs) ∧
  (XoA f x hs (nn u) (nn p) ∧ ChA f (x + 1) T ∧ PaA f x u p H ∧ (hs = 1 → ChA f (x + 41) S)) ∧ (∃ v a q r w k c, CmA f (x + 66) V v a q r w k c) ∧ KR V f x d z A
def Inv (V : Nat → Nat) (x m o d : Nat) (f : GH) (n : Nat) : Prop := (∀ a e, f a = some e → a < n) ∧ ∃ z A T hs u p H S, IV V x m o d f z A T hs u p H S
section II
variable {V : Nat → Nat} {g f f1 f2 : GH} {x m o d u p u1 p1 : Nat} {z z1 : Nat → Int32} {A A1 : Nat → Nat → Int32} {T T1 S S1 : TS} {H H1 : Nat → TS} {hs hs1 : Int32}
theorem IV.bs (I : IV V x m o d f z A T hs u p H S) : Bs V x m 0 o d z A T hs (nn u) (nn p) f := by
  obtain ⟨⟨i1, i2, i3, i4, i5, i6⟩, ⟨r1, r2, r3⟩, ⟨t1, t2⟩, _, ⟨x1, x2, x3⟩, _⟩ := I
  exact ⟨i1, by decide, r1, t1, x1, x2, i2, i3, i4, i5, i6⟩
/-- behind a change: f1 is the class's heap, f2 the reference's on top of it -/
theorem IV.chg (I : IV V x m o d f z A T hs u p H S) (F2 : FR V x m o d f2 z1 A1) (e2 : ∀ a, a < m ∨ d < a → f2 a = f1 a) (X1 : XoA f1 x hs (nn u1) (nn p1)) (C1 : ChA f1 (x + 1) T1) (P1 : PaA f1 x u1 p1 H1) (K1 : ∃ v a q r w k c, CmA f1 (x + 66) V v a q r w k c) (e1 : ∀ a, (x + 21 ≤ a ∧ a < x + 61 ∨ x + 62 ≤ a ∧ a < x + 66 ∨ x + 70 ≤ a ∧ a < x + 75 ∨ x + 235 ≤ a) → f1 a = f a)
    (hc : CP z A T1 u1 H1 z1 A1) (hv : TV T1) (hH : ∀ k, k < u1 → TV (H1 k)) (hu : u1 ≤ 8) (hp : p1 < 8) : IV V x m o d f2 z1 A1 T1 hs u1 p1 H1 S := by
  obtain ⟨⟨i1, i2, i3, i4, i5, i6⟩, ⟨r1, r2, r3⟩, ⟨t1, t2, t3, t4, t5, t6⟩, ⟨z6, z9⟩, ⟨x1, x2, x3, x4⟩, _, K⟩ := I
  obtain ⟨c1, c2, c3, c4, c5⟩ := hc
  refine ⟨F2, ⟨c3, c4, fun h => by rw [c5 3 (by decide) (by decide) (by decide)]; exact r3 h⟩, ⟨hv, hH, t3, hu, hp, t6⟩, ⟨c1, (c2 9 (by decide) (by decide)).trans z9⟩, ⟨X1.fr (e2 x (by omega)), C1.frame (fun a h1 h2 => e2 a (by omega)), P1.frame (fun a h => e2 a (by omega)), fun h => (x4 h).frame (fun a h1 h2 => (e2 a (by omega)).trans (e1 a (by omega)))⟩, ?_, K.frame (fun a h => (e2 a (by omega)).trans (e1 a (by omega))) (c2 8 (by decide) (by decide)) (c2 11 (by decide) (by decide)) (c2 13 (by decide) (by decide)) (c2 20 (by decide) (by decide)) (c5 5 (by decide) (by decide) (by decide)) (c5 6 (by decide) (by decide) (by decide))⟩
  obtain ⟨v, a, q, r, w, k, c, h⟩ := K1
  exact ⟨v, a, q, r, w, k, c, h.frame (fun b h1 h2 => e2 b (by omega))⟩
/-- behind a reading call -/
theorem IV.rd (I : IV V x m o d f z A T hs u p H S) (h : Rd V x m 0 o d z A f f1) : ∃ z1 A1, IV V x m o d f1 z1 A1 T hs u p H S := by
  obtain ⟨k, A1, q1, q2, q3, q4, q5⟩ := h
  have I0 := I
  obtain ⟨⟨i1, i2, i3, i4, i5, i6⟩, ⟨r1, r2, r3⟩, ⟨t1, t2, t3, t4, t5, t6⟩, ⟨z6, z9⟩, ⟨x1, x2, x3, x4⟩, c0, K⟩ := I
  exact ⟨_, A1, I0.chg ⟨q1, q4, q5, i4, i5, i6⟩ q3 x1 x2 x3 c0 (fun _ _ => rfl) ⟨(upd_n _ _ (by decide)).trans z6, fun j _ h7 => upd_n _ _ h7, q2.rt r1 t1, fun j hj => by rw [q2.rb 4 (by decide)]; exact r2 j hj, fun j h0 _ _ => q2.rb j h0⟩ t1 t2 t4 t5⟩
theorem FR.up {f1 : GH} (F : FR V x m o d f z A) (e : ∀ a, m ≤ a → a ≤ d → f1 a = f a) : FR V x m o d f1 z A := by
  obtain ⟨i1, ⟨r, i2⟩, ⟨s, i3⟩, i4, i5, i6⟩ := F
  exact ⟨i1.up (fun a h1 h2 => e a h1 (by omega)), ⟨r, (e o (by omega) (by omega)).trans i2⟩, ⟨s, (e d (by omega) (Nat.le_refl _)).trans i3⟩, i4, i5, i6⟩
theorem P_set {q v0 v : Nat} {a0 p0 r0 w0 k0 a b r w : Int32} {c0 : CS} (K : CmA f q V v0 a0 p0 r0 w0 k0 c0) : ∃ f1, p_X3_set V g f q (V v) a b r w = some f1 ∧ CmA f1 q V v a b r w k0 c0 ∧ ∀ y, y ≠ q → f1 y = f y := by
  refine ⟨h_up f q (.inr (6, [.ref (V v), .int a, .int b, .int r, .int w, .int k0, .ref (q + 1)])), ?_, ⟨h_up_s _ _ _, K.2.frame (fun y h1 h2 => h_up_n f _ (by omega))⟩, fun y hy => h_up_n f _ hy⟩
  unfold p_X3_set
  rw [hme_of K.1, hpt_of K.1 (by decide : 0 < 7), ob_s, hpt_of (h_up_s _ _ _) (by simp), ob_s, up_up, hpt_of (h_up_s _ _ _) (by simp), ob_s, up_up, hpt_of (h_up_s _ _ _) (by simp), ob_s, up_up, hpt_of (h_up_s _ _ _) (by simp), ob_s, up_up]
  rfl
/-- a changing call: the class's side, its answer and its heap -/
theorem P_call {v : Nat} {a q r w : Int32} (S0 : StOK V g) (I : IV V x m o d f z A T hs u p H S) (h3 : 3 ≤ v) (h10 : v ≤ 10) : ∃ (k : Int32) (c0 : CS) (f1 : GH), (∀ b, b < x ∨ x + 21 ≤ b ∧ b < x + 61 ∨ x + 62 ≤ b ∧ b < x + 66 ∨ x + 70 ≤ b ∧ b < x + 75 ∨ x + 235 ≤ b → f1 b = f b) ∧ (∃ v a q r w k c, CmA f1 (x + 66) V v a q r w k c) ∧
    (s_ref v T a q r w = 0 → (h_me f x 9 <| (h_gr f x 9 10).bind fun v1 => (p_X3_set V g f v1 (V v) a q r w).bind fun v2 => x_b (p_X7_change V g v2 x) (fun z => z) fun v3 => some (.inr (v3.1, v3.2))) = some (.inr (s_ans v T a q r w, f1)) ∧ XoA f1 x hs (nn (h_pu u)) (nn (h_pp p)) ∧ ChA f1 (x + 1) (ts_do v T a q r w k c0) ∧ PaA f1 x (h_pu u) (h_pp p) (h_pH u H T)) ∧
    (s_ref v T a q r w ≠ 0 → XoA f1 x hs (nn u) (nn p) ∧ ChA f1 (x + 1) T ∧ PaA f1 x u p H ∧ ∃ e, (s_ref v T a q r w = nn (e + 1) ∧ e < 3) ∧ (h_me f x 9 <| (h_gr f x 9 10).bind fun v1 => (p_X3_set V g f v1 (V v) a q r w).bind fun v2 => x_b (p_X7_change V g v2 x) (fun z => z) fun v3 => some (.inr (v3.1, v3.2))) = some (.inl (e, f1))) := by
  obtain ⟨⟨i1, i2, i3, i4, i5, i6⟩, ⟨r1, r2, r3⟩, ⟨t1, t2, t3, t4, t5, t6⟩, ⟨z6, z9⟩, ⟨x1, x2, x3, x4⟩, ⟨v0, a0, q0, w0, w1, k, c0, hK⟩, K⟩ := I
  obtain ⟨f2, e2, K2, o2⟩ := P_set (V := V) (g := g) (v := v) (a := a) (b := q) (r := r) (w := w) hK
  have X2 : XoA f2 x hs (nn u) (nn p) := x1.fr (o2 x (by omega))
  have C2 : ChA f2 (x + 1) T := x2.frame (fun b h1 h2 => o2 b (by omega))
  have P2 : PaA f2 x u p H := x3.frame (fun b h => o2 b (by omega))
  obtain ⟨c1, c2, c3, c4⟩ := P_change S0 X2 C2 t1 P2 t4 t5 K2 (by omega) (by omega) (fun h => absurd h (by omega)) (fun h => absurd h (by omega))
  have hun : ∀ y, p_X7_change V g f2 x = y → (h_me f x 9 <| (h_gr f x 9 10).bind fun v1 => (p_X3_set V g f v1 (V v) a q r w).bind fun v2 => x_b (p_X7_change V g v2 x) (fun z => z) fun v3 => some (.inr (v3.1, v3.2))) = x_b y (fun z => z) fun v3 => some (.inr (v3.1, v3.2)) := by
    intro y hy
    rw [x1.me, x1.sg, ob_s, e2, ob_s, hy]
  by_cases h0 : s_ref v T a q r w = 0
  · obtain ⟨f3, g1, g2, g3, g4, g5⟩ := c1 h0
    refine ⟨k, c0, f3, fun b hb => (g5 b (by omega)).trans (o2 b (by omega)), ⟨v, a, q, r, w, k, c0, K2.frame (fun b h1 h2 => g5 b (by omega))⟩, fun _ => ⟨?_, g2, g3, g4⟩, fun h => absurd h0 h⟩
    exact (hun _ g1).trans (xb_r _ _ _)
  · refine ⟨k, c0, f2, fun b hb => o2 b (by omega), ⟨v, a, q, r, w, k, c0, K2⟩, fun h => absurd h h0, fun _ => ⟨X2, C2, P2, ?_⟩⟩
    have h4 : s_ref v T a q r w = 1 ∨ s_ref v T a q r w = 2 ∨ s_ref v T a q r w = 3 := by
      unfold s_ref s_refC at h0 ⊢
      rw [if_neg (by omega), if_neg (by omega)] at h0 ⊢
      by_cases b1 : inC (tN T) a = true
      · rw [if_pos b1] at h0 ⊢
        by_cases b2 : s_hp v = true ∧ inC (cN (tC T (ix a)) + (if v = 6 then 1 else 0)) q = false
        · rw [if_pos b2]; exact Or.inl rfl
        · rw [if_neg b2] at h0 ⊢
          by_cases b3 : s_in (-(s_lim v)) (s_lim v) r = true
          · rw [if_pos b3] at h0 ⊢
            by_cases b4 : s_in (-(s_lim v)) (s_lim v) w = true
            · rw [if_pos b4] at h0 ⊢
              by_cases b5 : s_mayV v (tC T (ix a)) r w = true
              · rw [if_pos b5] at h0; exact absurd rfl h0
              · rw [if_neg b5]; exact Or.inr (Or.inr rfl)
            · rw [if_neg b4]; exact Or.inr (Or.inl rfl)
          · rw [if_neg b3]; exact Or.inr (Or.inl rfl)
      · rw [if_neg b1]; exact Or.inl rfl
    rcases h4 with h | h | h
    · exact ⟨0, ⟨h, by decide⟩, (hun _ (c2 h)).trans (xb_l _ _ _)⟩
    · exact ⟨1, ⟨h, by decide⟩, (hun _ (c3 h)).trans (xb_l _ _ _)⟩
    · exact ⟨2, ⟨h, by decide⟩, (hun _ (c4 h)).trans (xb_l _ _ _)⟩
end II


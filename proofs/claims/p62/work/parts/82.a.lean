/-! ===== the class between the law's calls ===== -/
def TkJ (f : GH) (x bl : Nat) (bs : Nat → Int32) : Prop := ∃ len kd st nx : Int32, f (x + 62) = some (.inr (8, [.ref (x + 63), .int (nn bl), .int len, .int kd, .int st, .int nx])) ∧ f (x + 63) = some (.inl (1, 700, .inl bs))
def GrJ (f : GH) (x : Nat) (cc : Int32) : Prop := ∃ oo it kg : Int32, f (x + 64) = some (.inr (7, [.ref (x + 62), .int cc, .int oo, .int it, .int kg])) ∧ (kg = 0 ∨ kg = 1)
def TG (T : TS) : Prop := TV T ∧ LG T
def JV (V : Nat → Nat) (f : GH) (x : Nat) (T : TS) (hs : Int32) (u p : Nat) (H : Nat → TS) (S : TS) (bl : Nat) (bs : Nat → Int32) (cc : Int32) : Prop :=
  (XoA f x hs (nn u) (nn p) ∧ ChA f (x + 1) T ∧ PaA f x u p H ∧ (∃ T0, ChA f (x + 21) T0) ∧ (∃ T0, ChA f (x + 41) T0) ∧ (hs = 1 → ChA f (x + 41) S)) ∧ (∃ v a q r w k c, CmA f (x + 66) V v a q r w k c) ∧ (∃ c, CoA f (x + 70) 129 c) ∧ bl ≤ 700 ∧ TkJ f x bl bs ∧ GrJ f x cc ∧
  TG T ∧ (∀ k, k < u → TG (H k)) ∧ (hs = 1 → TG S) ∧ u ≤ 8 ∧ p < 8 ∧ (hs = 0 ∨ hs = 1)
section JV
variable {V : Nat → Nat} {g f f1 : GH} {x u p bl : Nat} {T S : TS} {H : Nat → TS} {hs cc : Int32} {bs : Nat → Int32}
theorem JV.jr (I : JV V f x T hs u p H S bl bs cc) : JR f x T := ⟨hs, nn u, nn p, I.1.1, I.1.2.1, I.2.2.2.2.2.2.1.1⟩
theorem JV.tv (I : JV V f x T hs u p H S bl bs cc) : TV T := I.2.2.2.2.2.2.1.1
theorem JV.lg (I : JV V f x T hs u p H S bl bs cc) : LG T := I.2.2.2.2.2.2.1.2
theorem TkJ.frame (t : TkJ f x bl bs) (e : ∀ a, x + 62 ≤ a → a < x + 64 → f1 a = f a) : TkJ f1 x bl bs := by
  obtain ⟨len, kd, st, nx, h1, h2⟩ := t
  exact ⟨len, kd, st, nx, (e _ (by omega) (by omega)).trans h1, (e _ (by omega) (by omega)).trans h2⟩
theorem GrJ.frame (t : GrJ f x cc) (e : f1 (x + 64) = f (x + 64)) : GrJ f1 x cc := by
  obtain ⟨oo, it, kg, h1, h2⟩ := t
  exact ⟨oo, it, kg, e.trans h1, h2⟩
theorem JV.frame (I : JV V f x T hs u p H S bl bs cc) (e : ∀ a, x ≤ a → a < x + 235 → f1 a = f a) : JV V f1 x T hs u p H S bl bs cc := by
  obtain ⟨⟨i1, i2, i3, ⟨T0, i4⟩, ⟨T1, i5⟩, i6⟩, ⟨v, a, q, r, w, k, c, i7⟩, ⟨c1, i8⟩, i9, i10, i11, i12⟩ := I
  exact ⟨⟨i1.fr (e x (by omega) (by omega)), i2.frame (fun a h1 h2 => e a (by omega) (by omega)), i3.frame (fun a h => e a (by omega) (by omega)), ⟨T0, i4.frame (fun a h1 h2 => e a (by omega) (by omega))⟩, ⟨T1, i5.frame (fun a h1 h2 => e a (by omega) (by omega))⟩, fun h => (i6 h).frame (fun a h1 h2 => e a (by omega) (by omega))⟩, ⟨v, a, q, r, w, k, c, i7.frame (fun b h1 h2 => e b (by omega) (by omega))⟩, ⟨c1, i8.frame (fun a h1 h2 => e a (by omega) (by omega))⟩, i9, i10.frame (fun a h1 h2 => e a (by omega) (by omega)), i11.frame (e _ (by omega) (by omega)), i12⟩
/-! the ledgers -/
theorem pts_sm (T : TS) : s_pts T = s_sm (fun j => nn (cN (tC T j))) (tN T) := rfl
theorem sm_set (F : Nat → Int32) {i : Nat} (e : Int32) : ∀ n, i < n → s_sm (fun j => if j = i then e else F j) n = s_sm F n - F i + e := by
  intro n
  induction n with
  | zero => intro h; omega
  | succ n ih =>
    intro h
    rw [s_sm_s, s_sm_s]
    by_cases q : i = n
    · rw [if_pos q.symm, s_sm_c n (fun k hk => if_neg (by omega)), q]
      grind
    · rw [ih (by omega), if_neg (fun z => q z.symm)]
      grind
theorem sm_rem (F : Nat → Int32) {i : Nat} : ∀ n, i < n + 1 → s_sm (fun j => if j < i then F j else F (j + 1)) n = s_sm F (n + 1) - F i := by
  intro n
  induction n with
  | zero =>
    intro h
    rw [show i = 0 by omega, s_sm_s]
    show (0 : Int32) = 0 + F 0 - F 0
    grind
  | succ n ih =>
    intro h
    rw [s_sm_s, s_sm_s F (n + 1)]
    by_cases q : i = n + 1
    · rw [if_pos (by omega), s_sm_c n (fun k hk => if_pos (by omega)), q, s_sm_s]
      grind
    · rw [ih (by omega), if_neg (by omega)]
      grind
theorem nn_dif (a b : Nat) : nn (a - b) - nn (b - a) = nn a - nn b := by
  rcases Nat.le_total a b with h | h
  · have := nn_sub h
    rw [show a - b = 0 by omega, ← this, show nn 0 = (0 : Int32) from rfl]
    grind
  · have := nn_sub h
    rw [show b - a = 0 by omega, ← this, show nn 0 = (0 : Int32) from rfl]
    grind
theorem LG.set (h : LG T) {i : Nat} (hi : i < tN T) (c : CS) : LG (ts_set T i c) := by
  have e1 : s_pts (ts_set T i c) = s_sm (fun j => if j = i then nn (cN c) else nn (cN (tC T j))) (tN T) := by
    rw [pts_sm]
    exact s_sm_c _ (fun k hk => by
      show nn (cN (if k = i then c else tC T k)) = _
      split <;> rfl)
  have e2 := nn_dif (cN c) (cN (tC T i))
  have h0 : s_sm (fun j => nn (cN (tC T j))) (tN T) = tL T + tA T - tR T := h
  show s_pts (ts_set T i c) = tL T + (tA T + nn (cN c - cN (tC T i))) - (tR T + nn (cN (tC T i) - cN c))
  rw [e1, sm_set _ _ _ hi, h0]
  grind
theorem LG.rem (h : LG T) {i : Nat} (hi : i < tN T) : LG (ts_rem T i) := by
  have e1 : s_pts (ts_rem T i) = s_sm (fun j => if j < i then nn (cN (tC T j)) else nn (cN (tC T (j + 1)))) (tN T - 1) := by
    rw [pts_sm]
    exact s_sm_c _ (fun k hk => by
      show nn (cN (if k < i then tC T k else tC T (k + 1))) = _
      split <;> rfl)
  have e2 := sm_rem (fun j => nn (cN (tC T j))) (tN T - 1) (show i < tN T - 1 + 1 by omega)
  rw [show tN T - 1 + 1 = tN T by omega] at e2
  have h0 : s_sm (fun j => nn (cN (tC T j))) (tN T) = tL T + tA T - tR T := h
  show s_pts (ts_rem T i) = tL T + tA T - (tR T + nn (cN (tC T i)))
  rw [e1, e2, h0]
  grind
theorem LG.add (h : LG T) (c : CS) : LG (ts_add T c) := by
  have e1 : s_pts (ts_add T c) = s_sm (fun j => nn (cN (tC T j))) (tN T) + nn (cN c) := by
    rw [pts_sm]
    show s_sm _ (tN T + 1) = _
    rw [s_sm_s]
    rw [s_sm_c (F := fun j => nn (cN (tC T j))) _ (fun k hk => by
      show nn (cN (if k = tN T then c else tC T k)) = _
      rw [if_neg (by omega)])]
    show _ + nn (cN (if tN T = tN T then c else tC T (tN T))) = _
    rw [if_pos rfl]
  have h0 : s_sm (fun j => nn (cN (tC T j))) (tN T) = tL T + tA T - tR T := h
  show s_pts (ts_add T c) = tL T + (tA T + nn (cN c)) - tR T
  rw [e1, h0]
  grind
theorem LG.met (h : LG T) (k : Int32) : LG (ts_met T k) := h
theorem pH_all {P : TS → Prop} (hv : P T) (hH : ∀ k, k < u → P (H k)) : ∀ k, k < h_pu u → P (h_pH u H T k) := by
  intro k hk
  unfold h_pH
  by_cases e : k + (if u = 8 then 1 else 0) < u
  · rw [if_pos e]; exact hH _ e
  · rw [if_neg e]; exact hv
/-! a change -/
def ts_ch (v : Nat) (T : TS) (a p u w : Int32) : TS := if v = 10 then ts_rem T (ix a) else ts_set T (ix a) (s_nc v (tC T (ix a)) p u w)
theorem ts_do_ch {v : Nat} (h3 : 3 ≤ v) (h10 : v ≤ 10) (a q r w k : Int32) (c : CS) : ts_do v T a q r w k c = ts_ch v T a q r w := by
  unfold ts_do ts_ch
  rw [if_neg (by omega), if_neg (by omega)]
theorem ref_in {v : Nat} {a q r w : Int32} (h3 : 3 ≤ v) (h10 : v ≤ 10) (hv : TV T) (h0 : s_ref v T a q r w = 0) : ix a < tN T ∧ a = nn (ix a) := by
  have := hv.1
  unfold s_ref at h0
  rw [if_neg (by omega), if_neg (by omega)] at h0
  by_cases c : inC (tN T) a = true
  · have := inC_t (by omega) c
    exact ⟨this.2, this.1⟩
  · rw [if_neg c] at h0
    cases h0
theorem pu_8 (h : u ≤ 8) : h_pu u ≤ 8 := by unfold h_pu; split <;> omega
theorem pp_8 (h : p < 8) : h_pp p < 8 := by unfold h_pp; split <;> omega
theorem J_chg {v : Nat} {a q r w : Int32} (S0 : StOK V g) (I : JV V f x T hs u p H S bl bs cc) (h3 : 3 ≤ v) (h10 : v ≤ 10) (h0 : s_ref v T a q r w = 0) : ∃ f1, (h_me f x 9 <| (h_gr f x 9 10).bind fun v1 => (p_X3_set V g f v1 (V v) a q r w).bind fun v2 => x_b (p_X7_change V g v2 x) (fun z => z) fun v3 => some (.inr (v3.1, v3.2))) = some (.inr (s_ans v T a q r w, f1)) ∧
    JV V f1 x (ts_ch v T a q r w) hs (h_pu u) (h_pp p) (h_pH u H T) S bl bs cc ∧ ∀ b, b < x ∨ x + 235 ≤ b → f1 b = f b := by
  obtain ⟨⟨i1, i2, i3, ⟨T0, i4⟩, ⟨T1, i5⟩, i6⟩, ⟨v0, a0, q0, r0, w0, k, c0, i7⟩, ⟨c1, i8⟩, i9, i10, i11, i12, i13, i14, i15, i16, i17⟩ := I
  obtain ⟨f2, e2, K2, o2⟩ := P_set (V := V) (g := g) (v := v) (a := a) (b := q) (r := r) (w := w) i7
  have X2 : XoA f2 x hs (nn u) (nn p) := i1.fr (o2 x (by omega))
  have C2 : ChA f2 (x + 1) T := i2.frame (fun b h1 h2 => o2 b (by omega))
  have P2 : PaA f2 x u p H := i3.frame (fun b h => o2 b (by omega))
  obtain ⟨c1', -⟩ := P_change S0 X2 C2 i12.1 P2 i15 i16 K2 (by omega) (by omega) (fun h => absurd h (by omega)) (fun h => absurd h (by omega))
  obtain ⟨f3, g1, g2, g3, g4, g5⟩ := c1' h0
  have o3 : ∀ b, b < x ∨ x + 21 ≤ b ∧ b < x + 66 ∨ x + 67 ≤ b ∧ b < x + 75 ∨ x + 235 ≤ b → f3 b = f b := fun b hb => (g5 b (by omega)).trans (o2 b (by omega))
  obtain ⟨hin, hnn⟩ := ref_in h3 h10 i12.1 h0
  have hTV := TV_do (k := k) (c := c0) i12.1 (show 1 ≤ v by omega) (show v ≤ 11 by omega) h0 (fun h => absurd h (by omega)) (fun h => absurd h (by omega))
  rw [ts_do_ch h3 h10] at hTV g3
  have hLG : LG (ts_ch v T a q r w) := by
    unfold ts_ch
    split
    · exact i12.2.rem hin
    · exact i12.2.set hin _
  refine ⟨f3, ?_, ⟨⟨g2, g3, g4, ⟨T0, i4.frame (fun b h1 h2 => o3 b (by omega))⟩, ⟨T1, i5.frame (fun b h1 h2 => o3 b (by omega))⟩, fun h => (i6 h).frame (fun b h1 h2 => o3 b (by omega))⟩, ⟨v, a, q, r, w, k, c0, K2.frame (fun b h1 h2 => g5 b (by omega))⟩, ⟨c1, i8.frame (fun b h1 h2 => o3 b (by omega))⟩, i9, i10.frame (fun b h1 h2 => o3 b (by omega)), i11.frame (o3 _ (by omega)), ⟨hTV, hLG⟩, pH_all i12 i13, i14, pu_8 i15, pp_8 i16, i17⟩, fun b hb => o3 b (by omega)⟩
  rw [i1.me, i1.sg, ob_s, e2, ob_s, g1, xb_r]
theorem J_undo (I : JV V f x T hs u p H S bl bs cc) (h0 : u ≠ 0) : ∃ f1, p_X7_undo V g f x = some (.inr (nn (u - 1), f1)) ∧ JV V f1 x (H (u - 1)) hs (u - 1) ((p + 7) % 8) H S bl bs cc ∧ ∀ b, b < x ∨ x + 235 ≤ b → f1 b = f b := by
  obtain ⟨⟨i1, i2, i3, ⟨T0, i4⟩, ⟨T1, i5⟩, i6⟩, ⟨v0, a0, q0, r0, w0, k, c0, i7⟩, ⟨c1, i8⟩, i9, i10, i11, i12, i13, i14, i15, i16, i17⟩ := I
  obtain ⟨f1, g1, g2, g3, g4, g5⟩ := P_undo (V := V) (g := g) i1 i2 i3 (fun k hk => (i13 k hk).1) i15 i16 h0
  exact ⟨f1, g1, ⟨⟨g2, g3, g4, ⟨T0, i4.frame (fun b h1 h2 => g5 b (by omega))⟩, ⟨T1, i5.frame (fun b h1 h2 => g5 b (by omega))⟩, fun h => (i6 h).frame (fun b h1 h2 => g5 b (by omega))⟩, ⟨v0, a0, q0, r0, w0, k, c0, i7.frame (fun b h1 h2 => g5 b (by omega))⟩, ⟨c1, i8.frame (fun b h1 h2 => g5 b (by omega))⟩, i9, i10.frame (fun b h1 h2 => g5 b (by omega)), i11.frame (g5 _ (by omega)), i13 _ (by omega), fun k hk => i13 k (by omega), i14, by omega, Nat.mod_lt _ (by decide), i17⟩, fun b hb => g5 b (by omega)⟩
theorem J_save (I : JV V f x T hs u p H S bl bs cc) : ∃ f1, p_X7_saveSnapshot V g f x = some f1 ∧ JV V f1 x T 1 u p H T bl bs cc ∧ ∀ b, b < x ∨ x + 235 ≤ b → f1 b = f b := by
  obtain ⟨⟨i1, i2, i3, ⟨T0, i4⟩, ⟨T1, i5⟩, i6⟩, ⟨v0, a0, q0, r0, w0, k, c0, i7⟩, ⟨c1, i8⟩, i9, i10, i11, i12, i13, i14, i15, i16, i17⟩ := I
  obtain ⟨f1, g1, g2, g3, g4⟩ := P_saveSnapshot (V := V) (g := g) i1 i2 i12.1 i5
  exact ⟨f1, g1, ⟨⟨g2, i2.frame (fun b h1 h2 => g4 b (by omega) (by omega)), i3.frame (fun b h => g4 b (by omega) (by omega)), ⟨T0, i4.frame (fun b h1 h2 => g4 b (by omega) (by omega))⟩, ⟨T, g3⟩, fun _ => g3⟩, ⟨v0, a0, q0, r0, w0, k, c0, i7.frame (fun b h1 h2 => g4 b (by omega) (by omega))⟩, ⟨c1, i8.frame (fun b h1 h2 => g4 b (by omega) (by omega))⟩, i9, i10.frame (fun b h1 h2 => g4 b (by omega) (by omega)), i11.frame (g4 _ (by omega) (by omega)), i12, i13, fun _ => i12, i15, i16, Or.inr rfl⟩, fun b hb => g4 b (by omega) (by omega)⟩
theorem J_restore (I : JV V f x T 1 u p H S bl bs cc) : ∃ f1, p_X7_restoreSnapshot V g f x = some (.inr (nn (tN S), f1)) ∧ JV V f1 x S 1 0 p H S bl bs cc ∧ ∀ b, b < x ∨ x + 235 ≤ b → f1 b = f b := by
  obtain ⟨⟨i1, i2, i3, ⟨T0, i4⟩, ⟨T1, i5⟩, i6⟩, ⟨v0, a0, q0, r0, w0, k, c0, i7⟩, ⟨c1, i8⟩, i9, i10, i11, i12, i13, i14, i15, i16, i17⟩ := I
  have hS := i6 rfl
  have hG := i14 rfl
  obtain ⟨f2, e2, S2, o2⟩ := C_copyChart (V := V) (g := g) hS hG.1 i2 (by omega)
  have X2 : XoA f2 x 1 (nn u) (nn p) := i1.fr (o2 x (by omega))
  obtain ⟨f3, e3, X3, o3⟩ : ∃ f3, h_pt f2 x 9 5 (.int (0 : Int32)) = some f3 ∧ XoA f3 x 1 (nn 0) (nn p) ∧ ∀ a, a ≠ x → f3 a = f2 a := ⟨_, hpt_of X2 (by decide : 5 < 13), h_up_s _ _ _, fun _ ha => h_up_n f2 _ ha⟩
  have S3 : ChA f3 (x + 1) S := S2.frame (fun b h1 h2 => o3 b (by omega))
  have oo : ∀ b, b ≠ x → (b < x + 1 ∨ x + 21 ≤ b) → f3 b = f b := fun b h1 h2 => (o3 b h1).trans (o2 b (by omega))
  have hP : PaA f3 x 0 p H := by
    obtain ⟨⟨ra, p1, p2⟩, p3, p4⟩ := i3
    exact ⟨⟨ra, (oo _ (by omega) (by omega)).trans p1, p2⟩, fun j hj => by
      obtain ⟨T2, h2⟩ := p3 j hj
      exact ⟨T2, h2.frame (fun b h1 h2 => oo b (by omega) (by omega))⟩, fun k hk => absurd hk (by omega)⟩
  refine ⟨f3, ?_, ⟨⟨X3, S3, hP, ⟨T0, i4.frame (fun b h1 h2 => oo b (by omega) (by omega))⟩, ⟨T1, i5.frame (fun b h1 h2 => oo b (by omega) (by omega))⟩, fun _ => hS.frame (fun b h1 h2 => oo b (by omega) (by omega))⟩, ⟨v0, a0, q0, r0, w0, k, c0, i7.frame (fun b h1 h2 => oo b (by omega) (by omega))⟩, ⟨c1, i8.frame (fun b h1 h2 => oo b (by omega) (by omega))⟩, i9, i10.frame (fun b h1 h2 => oo b (by omega) (by omega)), i11.frame (oo _ (by omega) (by omega)), hG, fun k hk => absurd hk (by omega), i14, by omega, i16, i17⟩, fun b hb => oo b (by omega) (by omega)⟩
  unfold p_X7_restoreSnapshot
  rw [i1.me, i1.hS, ob_s, if_neg (by decide), i1.ch, ob_s, i1.sn, ob_s, e2, ob_s, e3, ob_s, X3.ch, ob_s, S3.n, ob_s]
theorem J_laf (I : JV V f x T hs u p H S bl bs cc) {k l : Nat} (hk : k < tN T) (hl : l < 8) {w : Int32} (hw : -50 ≤ w.toInt ∧ w.toInt ≤ 50) : ∃ f1, p_X7_lengthAfterFold V g f x (nn k) w (nn l) = some (.inr (s_laf T (tC T k) w l, f1)) ∧ JV V f1 x T hs u p H S bl bs cc ∧ ∀ b, b < x ∨ x + 235 ≤ b → f1 b = f b := by
  obtain ⟨⟨i1, i2, i3, ⟨T0, i4⟩, ⟨T1, i5⟩, i6⟩, ⟨v0, a0, q0, r0, w0, k0, c0, i7⟩, ⟨c1, i8⟩, i9, i10, i11, i12, i13, i14, i15, i16, i17⟩ := I
  obtain ⟨f1, g1, g2, c2, g3⟩ := P_lengthAfterFold (V := V) (g := g) i1 i2 i12.1 i8 (by omega) (nn k) w (nn l)
  refine ⟨f1, ?_, ⟨⟨i1.fr (g2 x (by omega)), i2.frame (fun b h1 h2 => g2 b (by omega)), i3.frame (fun b h => g2 b (by omega)), ⟨T0, i4.frame (fun b h1 h2 => g2 b (by omega))⟩, ⟨T1, i5.frame (fun b h1 h2 => g2 b (by omega))⟩, fun h => (i6 h).frame (fun b h1 h2 => g2 b (by omega))⟩, ⟨v0, a0, q0, r0, w0, k0, c0, i7.frame (fun b h1 h2 => g2 b (by omega))⟩, ⟨c2, ?_⟩, i9, i10.frame (fun b h1 h2 => g2 b (by omega)), i11.frame (g2 _ (by omega)), i12, i13, i14, i15, i16, i17⟩, fun b hb => g2 b (by omega)⟩
  · rw [g1, sco_in i12.1 hk, sin_in (sin_of (lo := -50) (hi := 50) hw.1 hw.2), sin_in (sin_7 hl), ix_nn (by omega)]
    rfl
  · exact g3
theorem J_met (S0 : StOK V g) (I : JV V f x T hs u p H S bl bs cc) {k : Int32} (h01 : k = 0 ∨ k = 1) : ∃ f1, p_X7_setKingMetric V g f x k = some (.inr (tK T, f1)) ∧ JV V f1 x (ts_met T k) hs (h_pu u) (h_pp p) (h_pH u H T) S bl bs cc ∧ ∀ b, b < x ∨ x + 235 ≤ b → f1 b = f b := by
  obtain ⟨⟨i1, i2, i3, ⟨T0, i4⟩, ⟨T1, i5⟩, i6⟩, ⟨v0, a0, q0, r0, w0, k0, c0, i7⟩, ⟨c1, i8⟩, i9, i10, i11, i12, i13, i14, i15, i16, i17⟩ := I
  obtain ⟨f2, e2, K2, o2⟩ := P_set (V := V) (g := g) (v := 11) (a := 0) (b := 0) (r := 0) (w := 0) i7
  have X2 : XoA f2 x hs (nn u) (nn p) := i1.fr (o2 x (by omega))
  have e3 : h_pt f2 (x + 66) 6 5 (.int k) = some (h_up f2 (x + 66) (.inr (6, [.ref (V 11), .int 0, .int 0, .int 0, .int 0, .int k, .ref (x + 66 + 1)]))) := hpt_of K2.1 (by decide : 5 < 7)
  have K3 : CmA (h_up f2 (x + 66) (.inr (6, [.ref (V 11), .int 0, .int 0, .int 0, .int 0, .int k, .ref (x + 66 + 1)]))) (x + 66) V 11 0 0 0 0 k c0 := ⟨h_up_s _ _ _, K2.2.frame (fun y h1 h2 => h_up_n f2 _ (by omega))⟩
  have o3 : ∀ b, b ≠ x + 66 → h_up f2 (x + 66) (.inr (6, [.ref (V 11), .int 0, .int 0, .int 0, .int 0, .int k, .ref (x + 66 + 1)])) b = f b := fun b hb => (h_up_n f2 _ hb).trans (o2 b hb)
  generalize h_up f2 (x + 66) (.inr (6, [.ref (V 11), .int 0, .int 0, .int 0, .int 0, .int k, .ref (x + 66 + 1)])) = f3 at e3 K3 o3
  have X3 : XoA f3 x hs (nn u) (nn p) := i1.fr (o3 x (by omega))
  have C3 : ChA f3 (x + 1) T := i2.frame (fun b h1 h2 => o3 b (by omega))
  have P3 : PaA f3 x u p H := i3.frame (fun b h => o3 b (by omega))
  have hr : s_ref 11 T 0 0 0 0 = 0 := by unfold s_ref; rw [if_neg (by omega), if_pos rfl]
  obtain ⟨q1, -⟩ := P_change S0 X3 C3 i12.1 P3 i15 i16 K3 (by omega) (by omega) (fun _ => h01) (fun h => absurd h (by omega))
  obtain ⟨f4, g1, g2, g3, g4, g5⟩ := q1 hr
  have o4 : ∀ b, b < x ∨ x + 21 ≤ b ∧ b < x + 66 ∨ x + 67 ≤ b ∧ b < x + 75 ∨ x + 235 ≤ b → f4 b = f b := fun b hb => (g5 b (by omega)).trans (o3 b (by omega))
  have hT : ts_do 11 T 0 0 0 0 k c0 = ts_met T k := by unfold ts_do; rw [if_neg (by omega), if_pos rfl]
  have hTV := TV_do (k := k) (c := c0) i12.1 (show 1 ≤ 11 by omega) (show 11 ≤ 11 by omega) hr (fun _ => h01) (fun h => absurd h (by omega))
  rw [hT] at g3 hTV
  have ha : s_ans 11 T 0 0 0 0 = tK T := by unfold s_ans; rw [if_neg (by omega), if_pos rfl]
  refine ⟨f4, ?_, ⟨⟨g2, g3, g4, ⟨T0, i4.frame (fun b h1 h2 => o4 b (by omega))⟩, ⟨T1, i5.frame (fun b h1 h2 => o4 b (by omega))⟩, fun h => (i6 h).frame (fun b h1 h2 => o4 b (by omega))⟩, ⟨11, 0, 0, 0, 0, k, c0, K3.frame (fun b h1 h2 => g5 b (by omega))⟩, ⟨c1, i8.frame (fun b h1 h2 => o4 b (by omega))⟩, i9, i10.frame (fun b h1 h2 => o4 b (by omega)), i11.frame (o4 _ (by omega)), ⟨hTV, i12.2.met k⟩, pH_all i12 i13, i14, pu_8 i15, pp_8 i16, i17⟩, fun b hb => o4 b (by omega)⟩
  unfold p_X7_setKingMetric
  rw [i1.me, i1.sg, ob_s, e2, ob_s, X2.sg, ob_s, hbz01 h01, ob_s, e3, ob_s, g1, xb_r]
  rw [ha]
  rcases i12.1.2.1 with q | q
  · rw [q, if_neg (show ¬ (0 : Int32) = 1 by decide)]
  · rw [q, if_pos (show (1 : Int32) = 1 from rfl)]
theorem J_err (I : JV V f x T hs u p H S bl bs cc) : p_X7_errorCode V g f x = some cc := by
  obtain ⟨⟨i1, -⟩, -, -, -, -, ⟨oo, it, kg, h1, -⟩, -⟩ := I
  unfold p_X7_errorCode
  rw [i1.me, i1.gr, ob_s, hgi_of h1 rfl, ob_s]
theorem J_und (I : JV V f x T hs u p H S bl bs cc) : p_X7_undoableCount V g f x = some (nn u) := by
  obtain ⟨⟨i1, -⟩, -⟩ := I
  unfold p_X7_undoableCount
  rw [i1.me, i1.pC, ob_s]
end JV

/-! ===== bytes; appendText ===== -/
theorem i_8 (v : Int32) : v.toInt8.toInt32.toInt = v.toInt.bmod 256 := by
  rw [Int8.toInt_toInt32, Int32.toInt_toInt8]
theorem bm_256 (x : Int) : x.bmod 256 = if x % 256 < 128 then x % 256 else x % 256 - 256 := by
  exact Int.bmod_def x 256
theorem i_88 (v : Int32) : v.toInt8.toInt32.toInt8.toInt32.toInt = v.toInt.bmod 256 := by
  rw [i_8, i_8, bm_256, bm_256]
  split <;> split <;> omega
theorem i_255 (y : Int32) : (y &&& (255 : Int32)).toInt = y.toInt % 256 := by
  have h : (y &&& (255 : Int32)).toBitVec = BitVec.ofNat 32 (y.toBitVec.toNat % 256) := by
    rw [Int32.toBitVec_and]
    apply BitVec.eq_of_toNat_eq
    rw [BitVec.toNat_and]
    show y.toBitVec.toNat &&& (2 ^ 8 - 1) = _
    rw [Nat.and_two_pow_sub_one_eq_mod, BitVec.toNat_ofNat]
    omega
  show (y &&& (255 : Int32)).toBitVec.toInt = y.toBitVec.toInt % 256
  rw [h, BitVec.toInt_eq_toNat_cond, BitVec.toInt_eq_toNat_cond, BitVec.toNat_ofNat]
  have hy := y.toBitVec.isLt
  split <;> split <;> omega
theorem BR_of (y : Int32) : BR (y.toInt8.toInt32.toInt8.toInt32) (y &&& (255 : Int32)) := by
  unfold BR
  rw [i_255, i_88, bm_256, i_eq, i_88, i_255, bm_256]
  have h1 := Int.emod_nonneg y.toInt (show (256 : Int) ≠ 0 by decide)
  have h2 := Int.emod_lt_of_pos y.toInt (show (0 : Int) < 256 by decide)
  by_cases c : y.toInt % 256 < 128
  · left
    rw [if_pos c]
    exact ⟨h1, c, rfl⟩
  · right
    rw [if_neg c]
    omega
/-- the tokens' object and its bytes -/
def tH (t : Nat) (bl len kd st nx : Int32) (bs : Nat → Int32) (f0 : GH) : GH := fun a =>
  if a = t then some (.inr (8, [.ref (t + 1), .int bl, .int len, .int kd, .int st, .int nx])) else if a = t + 1 then some (.inl (1, 700, .inl bs)) else f0 a
section TK
variable {V : Nat → Nat} {g f f0 : GH} {t : Nat} {bl len kd st nx : Int32} {bs : Nat → Int32}
theorem tH_o : tH t bl len kd st nx bs f0 t = some (.inr (8, [.ref (t + 1), .int bl, .int len, .int kd, .int st, .int nx])) := by simp [tH]
theorem tH_b : tH t bl len kd st nx bs f0 (t + 1) = some (.inl (1, 700, .inl bs)) := by simp [tH]
theorem tH_out : h_out t (t + 2) f0 (tH t bl len kd st nx bs f0) := by
  intro a ha
  unfold tH
  rw [if_neg (by omega), if_neg (by omega)]
theorem tH_id (h1 : f t = some (.inr (8, [.ref (t + 1), .int bl, .int len, .int kd, .int st, .int nx]))) (h2 : f (t + 1) = some (.inl (1, 700, .inl bs))) : f = tH t bl len kd st nx bs f := by
  funext a
  unfold tH
  split
  · rename_i h
    rw [h, h1]
  · split
    · rename_i h
      rw [h, h2]
    · rfl
theorem tH_uo {bl1 len1 kd1 st1 nx1 : Int32} : h_up (tH t bl len kd st nx bs f0) t (.inr (8, [.ref (t + 1), .int bl1, .int len1, .int kd1, .int st1, .int nx1])) = tH t bl1 len1 kd1 st1 nx1 bs f0 := by
  funext a
  by_cases h : a = t
  · subst h
    rw [h_up_s, tH_o]
  · rw [h_up_n _ _ h]
    simp only [tH, if_neg h]
theorem tH_ub {r : Nat → Int32} : h_up (tH t bl len kd st nx bs f0) (t + 1) (.inl (1, 700, .inl r)) = tH t bl len kd st nx r f0 := by
  funext a
  by_cases h : a = t + 1
  · subst h
    rw [h_up_s, tH_b]
  · rw [h_up_n _ _ h]
    simp only [tH, if_neg h]
theorem k_me {α : Type} (q : Option α) : h_me (tH t bl len kd st nx bs f0) t 8 q = q := hme_of tH_o q
theorem k_by : h_gr (tH t bl len kd st nx bs f0) t 8 0 = some (t + 1) := hgr_of tH_o rfl
theorem k_bl : h_gi (tH t bl len kd st nx bs f0) t 8 1 = some bl := hgi_of tH_o rfl
theorem k_len : h_gi (tH t bl len kd st nx bs f0) t 8 2 = some len := hgi_of tH_o rfl
theorem k_kd : h_gi (tH t bl len kd st nx bs f0) t 8 3 = some kd := hgi_of tH_o rfl
theorem k_st : h_gi (tH t bl len kd st nx bs f0) t 8 4 = some st := hgi_of tH_o rfl
theorem k_nx : h_gi (tH t bl len kd st nx bs f0) t 8 5 = some nx := hgi_of tH_o rfl
theorem k_pbl {v : Int32} : h_pt (tH t bl len kd st nx bs f0) t 8 1 (.int v) = some (tH t v len kd st nx bs f0) := by rw [hpt_of tH_o (by decide : 1 < 6)]; exact congrArg some tH_uo
theorem k_plen {v : Int32} : h_pt (tH t bl len kd st nx bs f0) t 8 2 (.int v) = some (tH t bl v kd st nx bs f0) := by rw [hpt_of tH_o (by decide : 2 < 6)]; exact congrArg some tH_uo
theorem k_pkd {v : Int32} : h_pt (tH t bl len kd st nx bs f0) t 8 3 (.int v) = some (tH t bl len v st nx bs f0) := by rw [hpt_of tH_o (by decide : 3 < 6)]; exact congrArg some tH_uo
theorem k_pst {v : Int32} : h_pt (tH t bl len kd st nx bs f0) t 8 4 (.int v) = some (tH t bl len kd v nx bs f0) := by rw [hpt_of tH_o (by decide : 4 < 6)]; exact congrArg some tH_uo
theorem k_pnx {v : Int32} : h_pt (tH t bl len kd st nx bs f0) t 8 5 (.int v) = some (tH t bl len kd st v bs f0) := by rw [hpt_of tH_o (by decide : 5 < 6)]; exact congrArg some tH_uo
theorem k_li {k : Nat} (h : k < 700) : h_li (tH t bl len kd st nx bs f0) (t + 1) 1 (nn k) = some (bs k) := hli_of tH_b h (by omega)
theorem k_sb {k : Nat} {v : Int32} (h : k < 700) : h_sb (tH t bl len kd st nx bs f0) (t + 1) 1 (nn k) v = some (tH t bl len kd st nx (upd bs k v.toInt8.toInt32) f0) := by
  unfold h_sb
  rw [hsi_of tH_b h (by omega), tH_ub]
def bK (a : Int32) (j : Nat) : Int32 := a >>> (nn (24 - 8 * j) &&& 31)
theorem C_app1 {k : Nat} (h : k < 700) {a y : Int32} (hy : ¬ y < 0) (K : GH → Option GH) (N : Nat) : p_X5_append_l3 V g K (N + 1) t a y (tH t (nn k) len kd st nx bs f0) = p_X5_append_l3 V g K N t a (y + (-8 : Int32)) (tH t (nn (k + 1)) len kd st nx (upd bs k (a >>> (y &&& 31)).toInt8.toInt32.toInt8.toInt32) f0) := by
  rw [p_X5_append_l3, if_neg hy, k_bl, ob_s, if_neg (by rw [show (700 : Int32) = nn 700 from rfl, nn_le (by omega) (by omega)]; omega), k_by, ob_s, ob_s, k_sb h, ob_s, k_bl, ob_s, nn_s, k_pbl, ob_s]
/-- four bytes behind the others -/
def bs4 (bs : Nat → Int32) (k : Nat) (a : Int32) : Nat → Int32 := fun i => if k ≤ i ∧ i < k + 4 then (bK a (i - k)).toInt8.toInt32.toInt8.toInt32 else bs i
theorem C_app {k : Nat} (h : k + 4 ≤ 700) (a : Int32) : p_X5_append V g (tH t (nn k) len kd st nx bs f0) t a = some (tH t (nn (k + 4)) len kd st nx (bs4 bs k a) f0) := by
  unfold p_X5_append
  rw [k_me, show FU = (FU - 5) + 5 from rfl, C_app1 (by omega) (by decide), show (24 : Int32) + (-8 : Int32) = 16 by decide, C_app1 (by omega) (by decide), show (16 : Int32) + (-8 : Int32) = 8 by decide, C_app1 (by omega) (by decide), show (8 : Int32) + (-8 : Int32) = 0 by decide, C_app1 (by omega) (by decide), show (0 : Int32) + (-8 : Int32) = -8 by decide, p_X5_append_l3, if_pos (by decide)]
  congr 2
  funext i
  unfold bs4 upd
  by_cases c3 : i = k + 1 + 1 + 1
  · rw [if_pos c3, if_pos (by omega), show i - k = 3 by omega]; rfl
  · rw [if_neg c3]
    by_cases c2 : i = k + 1 + 1
    · rw [if_pos c2, if_pos (by omega), show i - k = 2 by omega]; rfl
    · rw [if_neg c2]
      by_cases c1 : i = k + 1
      · rw [if_pos c1, if_pos (by omega), show i - k = 1 by omega]; rfl
      · rw [if_neg c1]
        by_cases c0 : i = k
        · rw [if_pos c0, if_pos (by omega), show i - k = 0 by omega]; rfl
        · rw [if_neg c0, if_neg (by omega)]
end TK
def wK (a b c d e : Int32) (k : Nat) : Int32 := if k < 4 then a else if k < 8 then b else if k < 12 then c else if k < 16 then d else e
section TM
variable {V : Nat → Nat} {g f0 : GH} {m b : Nat} {z : Nat → Int32} {A : Nat → Nat → Int32}
theorem nn_4 {k : Nat} (h : k < 2147483648) : (24 : Int32) - (8 : Int32) * (nn k - nn k / (4 : Int32) * (4 : Int32)) = nn (24 - 8 * (k % 4)) := by
  rw [show (4 : Int32) = nn 4 from rfl, nn_div h (by decide), nn_mul, nn_sub (by omega), show k - k / 4 * 4 = k % 4 by omega, show (8 : Int32) = nn 8 from rfl, nn_mul, show (24 : Int32) = nn 24 from rfl, nn_sub (by omega)]
end TM
section AT
variable {V : Nat → Nat} {g f : GH} {x m o d u p : Nat} {z : Nat → Int32} {A : Nat → Nat → Int32} {T S : TS} {H : Nat → TS} {hs : Int32}
/-- behind a call that changed the tokens' cells alone, the grammar's with them -/
theorem IV.tok {f1 : GH} {z1 : Nat → Int32} {A1 : Nat → Nat → Int32} (I : IV V x m o d f z A T hs u p H S) (e1 : ∀ a, a < x + 62 ∨ x + 65 ≤ a → f1 a = f a) (ez : ∀ k, k ≠ 7 → k ≠ 8 → k ≠ 13 → k ≠ 14 → k ≠ 15 → k ≠ 16 → k ≠ 17 → k ≠ 18 → k ≠ 19 → k ≠ 20 → k ≠ 21 → k ≠ 25 → z1 k = z k) (eA : ∀ j, j ≠ 1 → j ≠ 6 → j ≠ 7 → j ≠ 8 → A1 j = A j) (t1 : TkR f1 x z1 A1) (g1 : GrR f1 x z1) : IV V x m o d (mH V m 0 z1 A1 f1) z1 A1 T hs u p H S := by
  obtain ⟨⟨i1, i2, i3, i4, i5, i6⟩, ⟨r1, r2, r3⟩, t, ⟨z6, z9⟩, ⟨x1, x2, x3, x4⟩, ⟨v, a, q, r, w, k, c, h⟩, ⟨⟨T0, k1⟩, ⟨T1, k2⟩, _, _, ⟨⟨ra, s1, s2⟩, s3⟩, ⟨c3, k3⟩, ⟨va, cap, ol, bb, ml, b1, b2, b3, b4, b5, b6, b7, b8, b9, b10⟩⟩⟩ := I
  have e : ∀ a, (a < x + 62 ∨ x + 65 ≤ a) → (a < m ∨ d < a) → mH V m 0 z1 A1 f1 a = f a := fun a h1 h2 => (mH_out a (by omega)).trans (e1 a h1)
  have e' : ∀ a, (a < m ∨ d < a) → mH V m 0 z1 A1 f1 a = f1 a := fun a h2 => mH_out a (by omega)
  refine ⟨⟨MR.mk, ?_, ?_, i4, i5, i6⟩, ⟨by rw [eA 0 (by decide) (by decide) (by decide) (by decide)]; exact r1, fun k hk => by rw [eA 4 (by decide) (by decide) (by decide) (by decide)]; exact r2 k hk, fun h => by rw [eA 3 (by decide) (by decide) (by decide) (by decide)]; exact r3 h⟩, t, ⟨(ez 6 (by decide) (by decide) (by decide) (by decide) (by decide) (by decide) (by decide) (by decide) (by decide) (by decide) (by decide) (by decide)).trans z6, (ez 9 (by decide) (by decide) (by decide) (by decide) (by decide) (by decide) (by decide) (by decide) (by decide) (by decide) (by decide) (by decide)).trans z9⟩, ⟨x1.fr (e x (by omega) (by omega)), x2.frame (fun a h1 h2 => e a (by omega) (by omega)), x3.frame (fun a h => e a (by omega) (by omega)), fun h => (x4 h).frame (fun a h1 h2 => e a (by omega) (by omega))⟩, ⟨v, a, q, r, w, k, c, h.frame (fun b h1 h2 => e b (by omega) (by omega))⟩, ⟨⟨T0, k1.frame (fun a h1 h2 => e a (by omega) (by omega))⟩, ⟨T1, k2.frame (fun a h1 h2 => e a (by omega) (by omega))⟩, ?_, ?_, ⟨⟨ra, (e _ (by omega) (by omega)).trans s1, s2⟩, fun j hj => ?_⟩, ⟨c3, k3.frame (fun a h1 h2 => e a (by omega) (by omega))⟩, ⟨va, cap, ol, bb, ml, (ez 11 (by decide) (by decide) (by decide) (by decide) (by decide) (by decide) (by decide) (by decide) (by decide) (by decide) (by decide) (by decide)).trans b1, b2, b3, b4, b5, (e _ (by omega) (by omega)).trans b6, (e _ (by omega) (by omega)).trans b7, b8, b9, fun i hi => by rw [eA 5 (by decide) (by decide) (by decide) (by decide)]; exact b10 i hi⟩⟩⟩
  · obtain ⟨r, hr⟩ := i2
    exact ⟨r, by rw [mH_out o (by omega), e1 o (by omega)]; exact hr⟩
  · obtain ⟨r, hr⟩ := i3
    exact ⟨r, by rw [mH_out d (by omega), e1 d (by omega)]; exact hr⟩
  · obtain ⟨bl, len, kd, st, nx, bs, t1, t2, t3, t4, t5⟩ := t1
    exact ⟨bl, len, kd, st, nx, bs, t1, t2, (e' _ (by omega)).trans t3, (e' _ (by omega)).trans t4, t5⟩
  · obtain ⟨it, kg, g1, g2⟩ := g1
    exact ⟨it, kg, (e' _ (by omega)).trans g1, g2⟩
  · obtain ⟨v, a, q, r, w, k, c, hc⟩ := s3 j hj
    exact ⟨v, a, q, r, w, k, c, hc.frame (fun b h1 h2 => e b (by omega) (by omega))⟩
end AT


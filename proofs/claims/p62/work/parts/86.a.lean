/-! ===== a StringBuilder wherever it lies ===== -/
theorem sh0 (k : Nat) : nn k <<< ((0 : Int32) &&& (31 : Int32)) = nn k := by
  rw [show (0 : Int32) &&& (31 : Int32) = nn 0 from by decide, nn_shl (by decide), Nat.pow_zero, Nat.mul_one]
theorem sr0 {k : Nat} (h : k < 2147483648) : nn k >>> ((0 : Int32) &&& (31 : Int32)) = nn k := by
  rw [show (0 : Int32) &&& (31 : Int32) = nn 0 from by decide, nn_shr h (by decide), Nat.pow_zero, Nat.div_one]
theorem bH_id {f : GH} {va cap : Nat} {r : Nat → Int32} (h : f va = some (.inl (1, cap, .inl r))) : bH f va cap r = f := by
  funext a
  unfold bH
  by_cases q : a = va
  · rw [q, h_up_s, h]
  · rw [h_up_n _ _ q]
theorem bfit_0 : bfit 0 := bfit_8 0
theorem wl_ln2 : ∀ i, i < 23 → wl_len.getD i 0 = (wL i).length := by decide
theorem wl_fit : ∀ i, i < 23 → ∀ j, j < (wL i).length → bfit ((wL i).getD j 0) := by
  have h : ∀ i, i < 23 → ∀ j, j < (wL i).length → fits .byte (.int ((wL i).getD j 0)) = true := by decide +kernel
  exact h
theorem gd_app2 (s w : List Nat) (i : Nat) : (s ++ w).getD i 0 = if i < s.length then s.getD i 0 else w.getD (i - s.length) 0 := by
  rw [List.getD_eq_getElem?_getD, List.getD_eq_getElem?_getD, List.getD_eq_getElem?_getD]
  by_cases h : i < s.length
  · rw [if_pos h, List.getElem?_append_left h]
  · rw [if_neg h, List.getElem?_append_right (by omega)]
def BD (f : GH) (n q : Nat) (s : List Nat) (va cap : Nat) (ml : Int32) (bs : Nat → Int32) : Prop := (s.length ≤ cap ∧ 1 ≤ cap ∧ cap ≤ 600 ∧ q < va ∧ va < n) ∧ f q = some (.inr (1, [.ref va, .int 0, .int ml, .int (nn s.length)])) ∧ f va = some (.inl (1, cap, .inl bs)) ∧ (∀ i, i < s.length → bs i = nn (s.getD i 0)) ∧ ∀ i, bfit (bs i)
section BD
variable {V : Nat → Nat} {g f : GH} {q n va cap : Nat} {ml : Int32} {bs : Nat → Int32} {s : List Nat}
theorem B_newCap (B : BD f n q s va cap ml bs) {k : Nat} (hk : k ≤ 290) (hc : cap < k) : ∃ c2, p_J5_newCapacity_0f7a4 V g f q (nn k) = some (nn c2) ∧ k ≤ c2 ∧ c2 ≤ 600 := by
  obtain ⟨⟨b1, b2, b3, b4, b5⟩, b6, b7, b8, b9⟩ := B
  have hmx : ∃ w, p_J9_max_7cf53 V g f (nn (k - cap)) (nn (cap + 2)) = some (nn w) ∧ k ≤ cap + w ∧ cap + w ≤ 600 := by
    unfold p_J9_max_7cf53
    by_cases c : k - cap < cap + 2
    · rw [if_pos (by rw [nn_lt (by omega) (by omega)]; exact c)]
      exact ⟨cap + 2, rfl, by omega, by omega⟩
    · rw [if_neg (by rw [nn_lt (by omega) (by omega)]; exact c)]
      exact ⟨k - cap, rfl, by omega, by omega⟩
  obtain ⟨w, q1, q2, q3⟩ := hmx
  refine ⟨cap + w, ?_, q2, q3⟩
  unfold p_J5_newCapacity_0f7a4
  rw [hme_of b6, hgr_of b6 rfl, ob_s, hal_of b7, ob_s, hgi_of b6 rfl, ob_s, ob_s]
  show ((p_J8_newLength_cabcc V g f (nn cap) ((nn k <<< ((0 : Int32) &&& (31 : Int32))) - nn cap) (nn cap + (nn 2 <<< ((0 : Int32) &&& (31 : Int32))))).bind _) = _
  rw [sh0, sh0, nn_sub (by omega), nn_add]
  unfold p_J8_newLength_cabcc
  rw [q1, ob_s, nn_add, if_neg (by rw [n_0, nn_le (by omega) (by omega)]; omega), if_neg (by rw [show (2147483639 : Int32) = nn 2147483639 from rfl, nn_lt (by omega) (by omega)]; omega), ob_s, if_neg (fun h => by rw [show (2147483647 : Int32) = nn 2147483647 from rfl, nn_eq (by omega) (by omega)] at h; omega), ob_s, sr0 (by omega)]
theorem B_copyOf (B : BD f n q s va cap ml bs) {c2 : Nat} (h1 : cap < c2) (h2 : c2 ≤ 600) : ∃ f1, p_J7_copyOf_9075b V g f n va (nn c2) = some (n, f1, n + 1) ∧ f1 n = some (.inl (1, c2, .inl (va_cpy bs (fun _ => 0) 0 0 cap))) ∧ ∀ a, a ≠ n → f1 a = f a := by
  obtain ⟨⟨b1, b2, b3, b4, b5⟩, b6, b7, b8, b9⟩ := B
  have f3v : h_up f n (.inl (1, c2, .inl fun _ => 0)) va = some (.inl (1, cap, .inl bs)) := by rw [h_up_n _ _ (by omega)]; exact b7
  refine ⟨h_up (h_up f n (.inl (1, c2, .inl fun _ => 0))) n (.inl (1, c2, .inl (va_cpy bs (fun _ => 0) 0 0 cap))), ?_, h_up_s _ _ _, fun a ha => by rw [h_up_n _ _ ha, h_up_n _ _ ha]⟩
  have hnv : h_nv f n 1 (nn c2) 600 = some (h_up f n (.inl (1, c2, .inl fun _ => 0))) := by
    unfold h_nv
    rw [nn_c (by omega), if_pos ⟨nn_nl c2 (by omega), h2⟩]
  have hcp : h_cpb (h_up f n (.inl (1, c2, .inl fun _ => 0))) va (0 : Int32) n (0 : Int32) (nn cap) = some (h_up (h_up f n (.inl (1, c2, .inl fun _ => 0))) n (.inl (1, c2, .inl (va_cpy bs (fun _ => 0) 0 0 cap)))) := by
    unfold h_cpb
    rw [hai_of f3v, hai_of (h_up_s _ _ _)]
    dsimp only
    rw [nn_c (by omega), show (0 : Int32).toNatClampNeg = 0 from rfl, if_pos ⟨by decide, by decide, nn_nl cap (by omega), by omega, by omega, fun i _ => b9 _⟩]
  unfold p_J7_copyOf_9075b
  rw [hal_of b7, ob_s]
  dsimp only
  rw [if_neg (fun h => by rw [nn_eq (by omega) (by omega)] at h; omega), hnv, ob_s, hal_of f3v, ob_s]
  unfold p_J9_min_7cf53
  dsimp only
  rw [if_neg (by rw [nn_lt (by omega) (by omega)]; omega), ob_s, hcp, ob_s]
theorem B_ens (B : BD f n q s va cap ml bs) {k : Nat} (hk : k ≤ 290) : ∃ f1 n1 va1 cap1 bs1, p_J5_ensureCapacityInternal_d00df V g f n q (nn k) = some (f1, n1) ∧ BD f1 n1 q s va1 cap1 ml bs1 ∧ k ≤ cap1 ∧ n ≤ n1 ∧ ∀ a, a < q → f1 a = f a := by
  have B0 := B
  obtain ⟨⟨b1, b2, b3, b4, b5⟩, b6, b7, b8, b9⟩ := B
  unfold p_J5_ensureCapacityInternal_d00df
  rw [hme_of b6, hgr_of b6 rfl, ob_s, hal_of b7, ob_s, hgi_of b6 rfl, ob_s]
  dsimp only
  rw [sr0 (by omega)]
  by_cases c : k ≤ cap
  · rw [if_pos (by rw [i_le, i_sub (by rw [nn_i (by omega), nn_i (by omega)]; omega) (by rw [nn_i (by omega), nn_i (by omega)]; omega), nn_i (by omega), nn_i (by omega)]; show (k : Int) - cap ≤ 0; omega)]
    exact ⟨f, n, va, cap, bs, rfl, B0, c, Nat.le_refl _, fun _ _ => rfl⟩
  · obtain ⟨c2, e1, e2, e3⟩ := B_newCap (V := V) (g := g) B0 hk (by omega)
    obtain ⟨f2, g1, g2, g3⟩ := B_copyOf (V := V) (g := g) B0 (c2 := c2) (by omega) e3
    have h4 : f2 q = some (.inr (1, [.ref va, .int 0, .int ml, .int (nn s.length)])) := by rw [g3 _ (by omega)]; exact b6
    rw [if_neg (by rw [i_le, i_sub (by rw [nn_i (by omega), nn_i (by omega)]; omega) (by rw [nn_i (by omega), nn_i (by omega)]; omega), nn_i (by omega), nn_i (by omega)]; show ¬ (k : Int) - cap ≤ 0; omega), ob_s, e1, ob_s, ob_s, sh0, g1, ob_s]
    dsimp only
    rw [hpt_of h4 (by decide : 0 < 4), ob_s]
    refine ⟨_, n + 1, n, c2, va_cpy bs (fun _ => 0) 0 0 cap, rfl, ⟨⟨by omega, by omega, e3, by omega, by omega⟩, h_up_s _ _ _, by rw [h_up_n _ _ (by omega)]; exact g2, fun i hi => ?_, fun i => ?_⟩, e2, by omega, fun a ha => by rw [h_up_n _ _ (by omega), g3 a (by omega)]⟩
    · rw [cpy_in (by omega) (by omega), show 0 + (i - 0) = i by omega]
      exact b8 i hi
    · by_cases w : i < cap
      · rw [cpy_in (by omega) (by omega)]; exact b9 _
      · rw [cpy_out (by omega)]; exact bfit_0
theorem B_lat (B : BD f n q s va cap ml bs) : p_J5_isLatin1_aae02 V g f q = some (1 : Int32) := by
  unfold p_J5_isLatin1_aae02
  rw [hme_of B.2.1, hgi_of B.2.1 rfl, ob_s, if_pos rfl]
theorem B_cnt (B : BD f n q s va cap ml bs) : p_J4_length_8abf5 V g f q = some (nn s.length) := by
  unfold p_J4_length_8abf5 p_J5_length_8abf5
  rw [hme_of B.2.1, hme_of B.2.1, hgi_of B.2.1 rfl, ob_s, ob_s]
/-- a builder holds s -/
def BU (f : GH) (n q : Nat) (s : List Nat) : Prop := ∃ va cap ml bs, BD f n q s va cap ml bs
def BDo (f f1 : GH) (n n1 q : Nat) (s : List Nat) : Prop := BU f1 n1 q s ∧ n ≤ n1 ∧ ∀ a, a < q → f1 a = f a
theorem B_ch (B : BU f n q s) {c : Nat} (hc : c < 128) (ho : s.length + 1 ≤ 290) : ∃ f1 n1, p_J4_append_cf468 V g f n q (nn c) = some (q, f1, n1) ∧ BDo f f1 n n1 q (s ++ [c]) := by
  obtain ⟨va, cap, ml, bs, B⟩ := B
  obtain ⟨f2, n2, va2, cap2, bs2, e2, B2, h2, l2, o2⟩ := B_ens (V := V) (g := g) B (k := s.length + 1) ho
  have b4 := B.2.1
  have hL := B_lat (V := V) (g := g) B2
  obtain ⟨⟨c1, c2, c3, c4, c5⟩, c6, c7, c8, c9⟩ := B2
  have c8b : (nn c).toInt8.toInt32 = nn c := by
    have : ∀ c, c < 128 → (nn c).toInt8.toInt32 = nn c := by decide +kernel
    exact this c hc
  have k7 : h_up f2 q (.inr (1, [.ref va2, .int 0, .int ml, .int (nn (s.length + 1))])) va2 = some (.inl (1, cap2, .inl bs2)) := (h_up_n _ _ (by omega)).trans c7
  refine ⟨h_up (h_up f2 q (.inr (1, [.ref va2, .int 0, .int ml, .int (nn (s.length + 1))]))) va2 (.inl (1, cap2, .inl (upd bs2 s.length (nn c)))), n2, ?_, ⟨va2, cap2, ml, upd bs2 s.length (nn c), ⟨by simp; omega, c2, c3, c4, c5⟩, ?_, h_up_s _ _ _, fun i hi => ?_, fun i => ?_⟩, l2, fun a ha => by rw [h_up_n _ _ (by omega), h_up_n _ _ (by omega), o2 a ha]⟩
  · unfold p_J4_append_cf468 p_J5_append_3fe6f
    rw [hme_of b4, hme_of b4, hgi_of b4 rfl, ob_s, nn_s, e2, ob_s]
    dsimp only
    rw [hL, ob_s, if_neg (by decide)]
    unfold p_J1_canEncode_fc78d
    rw [if_neg (by rw [show (255 : Int32) = nn 255 from rfl, nn_lt (by omega) (by omega)]; omega), ob_s, if_neg (by decide), hgr_of c6 rfl, ob_s, hgi_of c6 rfl, ob_s, nn_s, hpt_of c6 (by decide : 3 < 4), ob_s, c8b]
    have : h_sb (h_up f2 q (.inr (1, [.ref va2, .int 0, .int ml, .int (nn (s.length + 1))]))) va2 1 (nn s.length) (nn c) = some (h_up (h_up f2 q (.inr (1, [.ref va2, .int 0, .int ml, .int (nn (s.length + 1))]))) va2 (.inl (1, cap2, .inl (upd bs2 s.length (nn c))))) := by
      unfold h_sb
      rw [hsi_of k7 (by omega) (by omega), c8b]
    show ((h_sb (h_up f2 q (.inr (1, [.ref va2, .int 0, .int ml, .int (nn (s.length + 1))]))) va2 1 (nn s.length) (nn c)).bind _).bind _ = _
    rw [this, ob_s, ob_s]
  · rw [h_up_n _ _ (by omega), h_up_s]
    simp
  · rw [gd_app]
    by_cases w : i = s.length
    · rw [w, upd_s, if_neg (by omega), if_pos rfl]
    · have : i < s.length := by
        have : i < s.length + 1 := by simpa using hi
        omega
      rw [upd_n _ _ w, if_pos this]
      exact c8 i this
  · by_cases w : i = s.length
    · rw [w, upd_s, ← c8b]; exact bfit_8 _
    · rw [upd_n _ _ w]; exact c9 i
/-- the digits of a number below 100 -/
def dg (w : Nat) : List Nat := if w < 10 then [48 + w] else [48 + w / 10, 48 + w % 10]
theorem dg_len {w : Nat} (h : w < 100) : (dg w).length = nd w := by
  unfold dg nd
  by_cases c : w < 10
  · rw [if_pos c, if_pos c]; rfl
  · rw [if_neg c, if_neg c, if_pos h]; rfl
theorem dg_at {w : Nat} (h : w < 100) {t : Nat} (ht : t < nd w) : dr w t = nn ((dg w).getD (nd w - 1 - t) 0) := by
  have : ∀ w, w < 100 → ∀ t, t < nd w → dr w t = nn ((dg w).getD (nd w - 1 - t) 0) := by decide +kernel
  exact this w h t ht
theorem dg_b {w : Nat} (h : w < 100) : ∀ i, (dg w).getD i 0 < 128 := by
  intro i
  unfold dg
  split
  · match i with
    | 0 => show 48 + w < 128; omega
    | i + 1 => show (0 : Nat) < 128; omega
  · match i with
    | 0 => show 48 + w / 10 < 128; omega
    | 1 => show 48 + w % 10 < 128; omega
    | i + 2 => show (0 : Nat) < 128; omega
theorem B_num (S : StOK V g) (B : BU f n q s) {w : Nat} (hw : w < 100) (ho : s.length + 2 ≤ 290) : ∃ f1 n1, p_J4_append_bf812 V g f n q (nn w) = some (q, f1, n1) ∧ BDo f f1 n n1 q (s ++ dg w) := by
  obtain ⟨va, cap, ml, bs, B⟩ := B
  have h6 := nd_b w
  have hl := dg_len hw
  have hd : nd w ≤ 2 := by
    have : ∀ w, w < 100 → nd w ≤ 2 := by decide
    exact this w hw
  obtain ⟨f2, n2, va2, cap2, bs2, e2, B2, h2, l2, o2⟩ := B_ens (V := V) (g := g) B (k := s.length + nd w) (by omega)
  have b4 := B.2.1
  have hL := B_lat (V := V) (g := g) B2
  obtain ⟨⟨c1, c2, c3, c4, c5⟩, c6, c7, c8, c9⟩ := B2
  obtain ⟨v, r, g1, g2, g3, g4⟩ := C_gc (V := V) (g := g) (f := f2) (va := va2) S c3 (show w < 1000000 by omega) (e := s.length + nd w) (by omega) h2 c9
  rw [bH_id c7] at g1
  have k6 : bH f2 va2 cap2 r q = _ := (h_up_n f2 (.inl (1, cap2, .inl r)) (show q ≠ va2 by omega)).trans c6
  refine ⟨h_up (bH f2 va2 cap2 r) q (.inr (1, [.ref va2, .int 0, .int ml, .int (nn (s.length + nd w))])), n2, ?_, ⟨va2, cap2, ml, r, ⟨by rw [List.length_append, hl]; exact h2, c2, c3, c4, c5⟩, ?_, ?_, fun i hi => ?_, g4⟩, l2, fun a ha => ?_⟩
  · unfold p_J4_append_bf812 p_J5_append_c97b9
    rw [hme_of b4, hme_of b4, hgi_of b4 rfl, ob_s, C_ss (by omega), ob_s, nn_add, e2, ob_s]
    dsimp only
    rw [hL, ob_s, if_neg (by decide), hgr_of c6 rfl, ob_s, g1, ob_s]
    dsimp only
    rw [hpt_of k6 (by decide : 3 < 4), ob_s, ob_s]
    rfl
  · rw [h_up_s, List.length_append, hl]
  · rw [h_up_n _ _ (by omega)]
    exact h_up_s _ _ _
  · rw [List.length_append, hl] at hi
    rw [gd_app2]
    by_cases w1 : i < s.length
    · rw [if_pos w1, g2 i (by omega)]; exact c8 i w1
    · rw [if_neg w1]
      have := g3 (s.length + nd w - 1 - i) (by omega)
      rw [show s.length + nd w - 1 - (s.length + nd w - 1 - i) = i by omega, dg_at hw (by omega), show nd w - 1 - (s.length + nd w - 1 - i) = i - s.length by omega] at this
      exact this
  · rw [h_up_n _ _ (by omega)]
    unfold bH
    rw [h_up_n _ _ (by omega), o2 a ha]
end BD

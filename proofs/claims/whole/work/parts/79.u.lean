/-! ===== the output: the class's builder ===== -/
def SBC (f : GH) (x d n ol va cap : Nat) (ml : Int32) (bs : Nat → Int32) : Prop := ol ≤ cap ∧ 16 ≤ cap ∧ cap ≤ 200 ∧ f (x + 73) = some (.inr (1, [.ref va, .int 0, .int ml, .int (nn ol)])) ∧ f va = some (.inl (1, cap, .inl bs)) ∧ (va = x + 74 ∨ d < va) ∧ va < n ∧ x + 74 ≤ d ∧ d < n ∧ ∀ i, bfit (bs i)
def sbo (x d : Nat) (f f1 : GH) : Prop := ∀ a, a ≤ d → a ≠ x + 73 → a ≠ x + 74 → f1 a = f a
theorem sbo.tr {x d : Nat} {f f1 f2 : GH} (h : sbo x d f f1) (h1 : sbo x d f1 f2) : sbo x d f f2 := fun a a1 a2 a3 => (h1 a a1 a2 a3).trans (h a a1 a2 a3)
theorem sh0 (k : Nat) : nn k <<< ((0 : Int32) &&& (31 : Int32)) = nn k := by
  rw [show (0 : Int32) &&& (31 : Int32) = nn 0 from by decide, nn_shl (by decide), Nat.pow_zero, Nat.mul_one]
theorem sr0 {k : Nat} (h : k < 2147483648) : nn k >>> ((0 : Int32) &&& (31 : Int32)) = nn k := by
  rw [show (0 : Int32) &&& (31 : Int32) = nn 0 from by decide, nn_shr h (by decide), Nat.pow_zero, Nat.div_one]
theorem bH_id {f : GH} {va cap : Nat} {r : Nat → Int32} (h : f va = some (.inl (1, cap, .inl r))) : bH f va cap r = f := by
  funext a
  unfold bH
  by_cases q : a = va
  · rw [q, h_up_s, h]
  · rw [h_up_n _ _ q]
theorem bfit_0 : bfit 0 := bfit_8 0
section SB
variable {V : Nat → Nat} {g f : GH} {x d n ol va cap : Nat} {ml : Int32} {bs : Nat → Int32}
theorem J_newCap (B : SBC f x d n ol va cap ml bs) {k : Nat} (hk : k ≤ 99) (hc : cap < k) : ∃ c2, p_J5_newCapacity_0f7a4 V g f (x + 73) (nn k) = some (nn c2) ∧ k ≤ c2 ∧ c2 ≤ 200 := by
  obtain ⟨b1, b2, b3, b4, b5, b6, b7, b8, b9, b10⟩ := B
  have hmx : ∃ q, p_J9_max_7cf53 V g f (nn (k - cap)) (nn (cap + 2)) = some (nn q) ∧ k ≤ cap + q ∧ cap + q ≤ 200 := by
    unfold p_J9_max_7cf53
    by_cases c : k - cap < cap + 2
    · rw [if_pos (by rw [nn_lt (by omega) (by omega)]; exact c)]
      exact ⟨cap + 2, rfl, by omega, by omega⟩
    · rw [if_neg (by rw [nn_lt (by omega) (by omega)]; exact c)]
      exact ⟨k - cap, rfl, by omega, by omega⟩
  obtain ⟨q, q1, q2, q3⟩ := hmx
  refine ⟨cap + q, ?_, q2, q3⟩
  unfold p_J5_newCapacity_0f7a4
  rw [hme_of b4, hgr_of b4 rfl, ob_s, hal_of b5, ob_s, hgi_of b4 rfl, ob_s, ob_s]
  show ((p_J8_newLength_cabcc V g f (nn cap) ((nn k <<< ((0 : Int32) &&& (31 : Int32))) - nn cap) (nn cap + (nn 2 <<< ((0 : Int32) &&& (31 : Int32))))).bind _) = _
  rw [sh0, sh0, nn_sub (by omega), nn_add]
  unfold p_J8_newLength_cabcc
  rw [q1, ob_s, nn_add, if_neg (by rw [n_0, nn_le (by omega) (by omega)]; omega), if_neg (by rw [show (2147483639 : Int32) = nn 2147483639 from rfl, nn_lt (by omega) (by omega)]; omega), ob_s, if_neg (fun h => by rw [show (2147483647 : Int32) = nn 2147483647 from rfl, nn_eq (by omega) (by omega)] at h; omega), ob_s, sr0 (by omega)]
theorem J_copyOf (B : SBC f x d n ol va cap ml bs) {c2 : Nat} (h1 : cap < c2) (h2 : c2 ≤ 200) : ∃ f1, p_J7_copyOf_9075b V g f n va (nn c2) = some (n, f1, n + 1) ∧ f1 n = some (.inl (1, c2, .inl (va_cpy bs (fun _ => 0) 0 0 cap))) ∧ ∀ a, a ≠ n → f1 a = f a := by
  obtain ⟨b1, b2, b3, b4, b5, b6, b7, b8, b9, b10⟩ := B
  have f3v : h_up f n (.inl (1, c2, .inl fun _ => 0)) va = some (.inl (1, cap, .inl bs)) := by rw [h_up_n _ _ (by omega)]; exact b5
  refine ⟨h_up (h_up f n (.inl (1, c2, .inl fun _ => 0))) n (.inl (1, c2, .inl (va_cpy bs (fun _ => 0) 0 0 cap))), ?_, h_up_s _ _ _, fun a ha => by rw [h_up_n _ _ ha, h_up_n _ _ ha]⟩
  have hnv : h_nv f n 1 (nn c2) 200 = some (h_up f n (.inl (1, c2, .inl fun _ => 0))) := by
    unfold h_nv
    rw [nn_c (by omega), if_pos ⟨nn_nl c2 (by omega), h2⟩]
  have hcp : h_cpb (h_up f n (.inl (1, c2, .inl fun _ => 0))) va (0 : Int32) n (0 : Int32) (nn cap) = some (h_up (h_up f n (.inl (1, c2, .inl fun _ => 0))) n (.inl (1, c2, .inl (va_cpy bs (fun _ => 0) 0 0 cap)))) := by
    unfold h_cpb
    rw [hai_of f3v, hai_of (h_up_s _ _ _)]
    dsimp only
    rw [nn_c (by omega), show (0 : Int32).toNatClampNeg = 0 from rfl, if_pos ⟨by decide, by decide, nn_nl cap (by omega), by omega, by omega, fun i _ => b10 _⟩]
  unfold p_J7_copyOf_9075b
  rw [hal_of b5, ob_s]
  dsimp only
  rw [if_neg (fun h => by rw [nn_eq (by omega) (by omega)] at h; omega), hnv, ob_s, hal_of f3v, ob_s]
  unfold p_J9_min_7cf53
  dsimp only
  rw [if_neg (by rw [nn_lt (by omega) (by omega)]; omega), ob_s, hcp, ob_s]
theorem J_ens (B : SBC f x d n ol va cap ml bs) {k : Nat} (hk : k ≤ 99) : ∃ f1 n1 va1 cap1 bs1, p_J5_ensureCapacityInternal_d00df V g f n (x + 73) (nn k) = some (f1, n1) ∧ SBC f1 x d n1 ol va1 cap1 ml bs1 ∧ k ≤ cap1 ∧ (∀ i, i < ol → bs1 i = bs i) ∧ sbo x d f f1 := by
  have B0 := B
  obtain ⟨b1, b2, b3, b4, b5, b6, b7, b8, b9, b10⟩ := B
  unfold p_J5_ensureCapacityInternal_d00df
  rw [hme_of b4, hgr_of b4 rfl, ob_s, hal_of b5, ob_s, hgi_of b4 rfl, ob_s]
  dsimp only
  rw [sr0 (by omega)]
  by_cases c : k ≤ cap
  · rw [if_pos (by rw [i_le, i_sub (by rw [nn_i (by omega), nn_i (by omega)]; omega) (by rw [nn_i (by omega), nn_i (by omega)]; omega), nn_i (by omega), nn_i (by omega)]; show (k : Int) - cap ≤ 0; omega)]
    exact ⟨f, n, va, cap, bs, rfl, B0, c, fun _ _ => rfl, fun _ _ _ _ => rfl⟩
  · obtain ⟨c2, e1, e2, e3⟩ := J_newCap (V := V) (g := g) B0 hk (by omega)
    obtain ⟨f2, g1, g2, g3⟩ := J_copyOf (V := V) (g := g) B0 (c2 := c2) (by omega) e3
    have h4 : f2 (x + 73) = some (.inr (1, [.ref va, .int 0, .int ml, .int (nn ol)])) := by rw [g3 _ (by omega)]; exact b4
    rw [if_neg (by rw [i_le, i_sub (by rw [nn_i (by omega), nn_i (by omega)]; omega) (by rw [nn_i (by omega), nn_i (by omega)]; omega), nn_i (by omega), nn_i (by omega)]; show ¬ (k : Int) - cap ≤ 0; omega), ob_s, e1, ob_s, ob_s, sh0, g1, ob_s]
    dsimp only
    rw [hpt_of h4 (by decide : 0 < 4), ob_s]
    refine ⟨_, n + 1, n, c2, va_cpy bs (fun _ => 0) 0 0 cap, rfl, ⟨by omega, by omega, e3, h_up_s _ _ _, by rw [h_up_n _ _ (by omega)]; exact g2, by omega, by omega, b8, by omega, fun i => ?_⟩, e2, fun i hi => by rw [cpy_in (by omega) (by omega)]; congr 1; omega, fun a a1 a2 a3 => by rw [h_up_n _ _ a2, g3 a (by omega)]⟩
    by_cases q : i < cap
    · rw [cpy_in (by omega) (by omega)]; exact b10 _
    · rw [cpy_out (by omega)]; exact bfit_0
theorem J_lat (B : SBC f x d n ol va cap ml bs) : p_J5_isLatin1_aae02 V g f (x + 73) = some (1 : Int32) := by
  unfold p_J5_isLatin1_aae02
  rw [hme_of B.2.2.2.1, hgi_of B.2.2.2.1 rfl, ob_s, if_pos rfl]
theorem J_cnt (B : SBC f x d n ol va cap ml bs) : p_J4_length_8abf5 V g f (x + 73) = some (nn ol) := by
  unfold p_J4_length_8abf5 p_J5_length_8abf5
  rw [hme_of B.2.2.2.1, hme_of B.2.2.2.1, hgi_of B.2.2.2.1 rfl, ob_s, ob_s]
/-- the count set, the bytes up to it kept -/
theorem SBC.cnt (B : SBC f x d n ol va cap ml bs) {o2 : Nat} (h : o2 ≤ cap) (m2 : Int32) : SBC (h_up f (x + 73) (.inr (1, [.ref va, .int 0, .int m2, .int (nn o2)]))) x d n o2 va cap m2 bs := by
  obtain ⟨b1, b2, b3, b4, b5, b6, b7, b8, b9, b10⟩ := B
  exact ⟨h, b2, b3, h_up_s _ _ _, by rw [h_up_n _ _ (by omega)]; exact b5, b6, b7, b8, b9, b10⟩
theorem SBC.byt (B : SBC f x d n ol va cap ml bs) {r : Nat → Int32} (h : ∀ i, bfit (r i)) : SBC (bH f va cap r) x d n ol va cap ml r ∧ sbo x d f (bH f va cap r) := by
  obtain ⟨b1, b2, b3, b4, b5, b6, b7, b8, b9, b10⟩ := B
  exact ⟨⟨b1, b2, b3, by unfold bH; rw [h_up_n _ _ (by omega)]; exact b4, bH_a, b6, b7, b8, b9, h⟩, fun a a1 a2 a3 => by unfold bH; rw [h_up_n _ _ (by omega)]⟩
theorem J_set0 (B : SBC f x d n ol va cap ml bs) : ∃ f1 m1, p_J4_setLength_d00df V g f n (x + 73) (0 : Int32) = some (f1, n) ∧ SBC f1 x d n 0 va cap m1 bs ∧ sbo x d f f1 := by
  have B0 := B
  obtain ⟨b1, b2, b3, b4, b5, b6, b7, b8, b9, b10⟩ := B
  have he : p_J5_ensureCapacityInternal_d00df V g f n (x + 73) (0 : Int32) = some (f, n) := by
    unfold p_J5_ensureCapacityInternal_d00df
    rw [hme_of b4, hgr_of b4 rfl, ob_s, hal_of b5, ob_s, hgi_of b4 rfl, ob_s]
    dsimp only
    rw [sr0 (by omega), if_pos (by rw [i_le, i_sub (by rw [nn_i (by omega)]; show _ ≤ (0 : Int) - _; omega) (by rw [nn_i (by omega)]; show (0 : Int) - _ < _; omega), nn_i (by omega)]; show (0 : Int) - cap ≤ 0; omega)]
  have o1 : ∀ e, sbo x d f (h_up f (x + 73) e) := fun e a a1 a2 a3 => h_up_n _ _ a2
  unfold p_J4_setLength_d00df p_J5_setLength_d00df
  rw [hme_of b4, hme_of b4, if_pos (by decide), he, ob_s]
  dsimp only
  rw [hgi_of b4 rfl, ob_s, if_pos (nn_ge ol (by omega)), ob_s]
  by_cases h : nn ol ≤ (0 : Int32)
  · rw [if_pos h, hpt_of b4 (by decide : 3 < 4), ob_s, ob_s]
    exact ⟨_, ml, rfl, B0.cnt (Nat.zero_le _) ml, o1 _⟩
  · rw [if_neg h, hpt_of b4 (by decide : 2 < 4), ob_s, hpt_of (h_up_s _ _ _) (by simp), up_up, ob_s, ob_s]
    exact ⟨_, 1, rfl, B0.cnt (Nat.zero_le _) 1, o1 _⟩
theorem J_app (B : SBC f x d n ol va cap ml bs) (ho : ol + 1 ≤ 99) : ∃ v f1 n1 va1 cap1 bs1, p_J4_append_cf468 V g f n (x + 73) (32 : Int32) = some (v, f1, n1) ∧ SBC f1 x d n1 (ol + 1) va1 cap1 ml bs1 ∧ (∀ i, i < ol → bs1 i = bs i) ∧ bs1 ol = 32 ∧ sbo x d f f1 := by
  obtain ⟨f2, n2, va2, cap2, bs2, e2, B2, h2, k2, o2⟩ := J_ens (V := V) (g := g) B (k := ol + 1) ho
  have b4 := B.2.2.2.1
  obtain ⟨c1, c2, c3, c4, c5, c6, c7, c8, c9, c10⟩ := id B2
  have B3 := B2.cnt (o2 := ol + 1) h2 ml
  have hsb : h_sb (h_up f2 (x + 73) (.inr (1, [.ref va2, .int 0, .int ml, .int (nn (ol + 1))]))) va2 1 (nn ol) (32 : Int32).toInt8.toInt32 = some (bH (h_up f2 (x + 73) (.inr (1, [.ref va2, .int 0, .int ml, .int (nn (ol + 1))]))) va2 cap2 (upd bs2 ol 32)) := by
    unfold h_sb
    rw [hsi_of B3.2.2.2.2.1 (by omega) (by omega)]
    rfl
  have hb : ∀ i, bfit (upd bs2 ol 32 i) := fun i => by
    by_cases q : i = ol
    · rw [q, upd_s]; exact bfit_8 32
    · rw [upd_n _ _ q]; exact c10 i
  obtain ⟨B4, o4⟩ := B3.byt hb
  refine ⟨x + 73, _, n2, va2, cap2, _, ?_, B4, fun i hi => by rw [upd_n _ _ (by omega)]; exact k2 i hi, upd_s _ _ _, o2.tr (sbo.tr (fun a a1 a2 a3 => h_up_n _ _ a2) o4)⟩
  unfold p_J4_append_cf468 p_J5_append_3fe6f
  rw [hme_of b4, hme_of b4, hgi_of b4 rfl, ob_s, nn_s, e2, ob_s]
  dsimp only
  rw [J_lat B2, ob_s, if_neg (by decide)]
  unfold p_J1_canEncode_fc78d
  rw [if_neg (by decide), ob_s, if_neg (by decide), hgr_of c4 rfl, ob_s, hgi_of c4 rfl, ob_s, nn_s, hpt_of c4 (by decide : 3 < 4), ob_s]
  show ((h_sb (h_up f2 (x + 73) (.inr (1, [.ref va2, .int 0, .int ml, .int (nn (ol + 1))]))) va2 1 (nn ol) (32 : Int32).toInt8.toInt32).bind _).bind _ = _
  rw [hsb, ob_s, ob_s]
theorem J_appN (S : StOK V g) (B : SBC f x d n ol va cap ml bs) (ho : ol + 6 ≤ 99) {w : Nat} (hw : w < 1000000) : ∃ v f1 n1 va1 cap1 bs1, p_J4_append_bf812 V g f n (x + 73) (nn w) = some (v, f1, n1) ∧ SBC f1 x d n1 (ol + nd w) va1 cap1 ml bs1 ∧ (∀ i, i < ol → bs1 i = bs i) ∧ (∀ t, t < nd w → bs1 (ol + nd w - 1 - t) = dr w t) ∧ sbo x d f f1 := by
  have h6 := nd_b w
  obtain ⟨f2, n2, va2, cap2, bs2, e2, B2, h2, k2, o2⟩ := J_ens (V := V) (g := g) B (k := ol + nd w) (by omega)
  have b4 := B.2.2.2.1
  obtain ⟨c1, c2, c3, c4, c5, c6, c7, c8, c9, c10⟩ := id B2
  obtain ⟨v, r, g1, g2, g3, g4⟩ := C_gc (V := V) (g := g) (f := f2) (va := va2) S c3 hw (e := ol + nd w) (by omega) h2 c10
  rw [bH_id c5] at g1
  obtain ⟨B3, o3⟩ := B2.byt g4
  have B4 := B3.cnt (o2 := ol + nd w) h2 ml
  refine ⟨x + 73, _, n2, va2, cap2, r, ?_, B4, fun i hi => (g2 i (by omega)).trans (k2 i hi), g3, o2.tr (o3.tr (fun a a1 a2 a3 => h_up_n _ _ a2))⟩
  unfold p_J4_append_bf812 p_J5_append_c97b9
  rw [hme_of b4, hme_of b4, hgi_of b4 rfl, ob_s, C_ss hw, ob_s, nn_add, e2, ob_s]
  dsimp only
  rw [J_lat B2, ob_s, if_neg (by decide), hgr_of c4 rfl, ob_s, g1, ob_s]
  dsimp only
  rw [hpt_of B3.2.2.2.1 (by decide : 3 < 4), ob_s, ob_s]
  rfl
end SB

/-! ===== a text of ours, said and ended ===== -/
section SX
variable {V : Nat → Nat} {g f : GH} {x y u p bl t tv : Nat} {T S : TS} {H : Nat → TS} {hs cc : Int32} {bs : Nat → Int32}
def TX (f : GH) (t tv : Nat) (s : List Nat) : Prop := (∃ c d, f t = some (.inr (0, [.ref tv, .int 0, c, d]))) ∧ ∃ r : Nat → Int32, f tv = some (.inl (1, s.length, .inl r)) ∧ ∀ j, j < s.length → r j = nn (s.getD j 0)
theorem TX.fr {f1 : GH} {s : List Nat} (h : TX f t tv s) (e1 : f1 t = f t) (e2 : f1 tv = f tv) : TX f1 t tv s := by
  obtain ⟨⟨c, d, h1⟩, r, h2, h3⟩ := h
  exact ⟨⟨c, d, e1.trans h1⟩, r, e2.trans h2, h3⟩
theorem D_len {s : List Nat} (h : TX f t tv s) (hl : s.length < 2147483648) : p_J0_length_8abf5D V g f t = some (nn s.length) := by
  obtain ⟨⟨c, d, h1⟩, r, h2, h3⟩ := h
  unfold p_J0_length_8abf5D p_J0_coder_7d493D
  rw [hme_of h1, hgr_of h1 rfl, ob_s, hal_of h2, ob_s, hme_of h1, hgi_of h1 rfl, ob_s, show h_yz (0 : Int32) = some 0 by decide, ob_s, ob_s, show ((0 : Int32) &&& 31) = nn 0 by decide, nn_shr hl (by decide)]
  show some (nn (s.length / 2 ^ 0)) = _
  rw [Nat.pow_zero, Nat.div_one]
theorem cz_id : ∀ q, q < 128 → ((nn q &&& (255 : Int32)).toUInt32 % 65536).toInt32 = nn q ∧ h_cz (nn q) = some (nn q) := by decide +kernel
theorem D_at {s : List Nat} (h : TX f t tv s) (hl : s.length < 2147483648) {k : Nat} (hk : k < s.length) (hb : s.getD k 0 < 128) : p_J0_charAt_5068eD V g f t (nn k) = some (nn (s.getD k 0)) := by
  obtain ⟨⟨c, d, h1⟩, r, h2, h3⟩ := h
  obtain ⟨a1, hcz⟩ := cz_id _ hb
  unfold p_J0_charAt_5068eD p_J0_isLatin1_aae02D p_J1_charAt_3b067D p_J0_checkIndex_df160 p_J3_checkIndex_8e157
  rw [hme_of h1, hme_of h1, hgi_of h1 rfl, ob_s, if_pos rfl, ob_s, if_neg (by decide), hgr_of h1 rfl, ob_s, hal_of h2, ob_s, if_neg (nn_nl k (by omega)), if_pos (show nn k < nn s.length by rw [nn_lt (by omega) (by omega)]; exact hk), ob_s, ob_s, hli_of h2 hk (by omega), ob_s, h3 k hk, a1, hcz, ob_s, ob_s, hcz, ob_s]
theorem L_say_l {s : List Nat} (hy : x + 235 ≤ y) (ht : t < x ∨ x + 235 ≤ t) (hty : t ≠ y) (hv : tv < x ∨ x + 235 ≤ tv) (hvy : tv ≠ y) (hsb : ∀ j, j < s.length → s.getD j 0 < 128) (hsl : s.length ≤ 680) : ∀ (d N j : Nat) (tx : List Nat) (f : GH) (bs : Nat → Int32), j + d = s.length → d < N → tx.length + d ≤ 680 → JV V f x T hs u p H S (20 * (tx.length / 20)) bs cc → SA f y tx → BY bs tx → TB tx → TX f t tv s →
    ∃ f1 bs1, p_L_say_l2 V g (fun f => some f) N x y t (nn j) f = some f1 ∧ JV V f1 x T hs u p H S (20 * ((tx ++ s.drop j).length / 20)) bs1 cc ∧ SA f1 y (tx ++ s.drop j) ∧ BY bs1 (tx ++ s.drop j) ∧ TB (tx ++ s.drop j) ∧ ∀ a, a < x ∨ x + 235 ≤ a → a ≠ y → f1 a = f a := by
  intro d
  induction d with
  | zero =>
    intro N j tx f bs he hN hm I hA hB hT hX
    obtain ⟨N, rfl⟩ : ∃ M, N = M + 1 := ⟨N - 1, by omega⟩
    have e : tx ++ s.drop j = tx := by rw [List.drop_eq_nil_of_le (by omega), List.append_nil]
    refine ⟨f, bs, ?_, by rw [e]; exact I, by rw [e]; exact hA, by rw [e]; exact hB, by rw [e]; exact hT, fun _ _ _ => rfl⟩
    rw [p_L_say_l2, D_len hX (by omega), ob_s, if_pos (by rw [nn_le (by omega) (by omega)]; omega)]
  | succ d ih =>
    intro N j tx f bs he hN hm I hA hB hT hX
    obtain ⟨N, rfl⟩ : ∃ M, N = M + 1 := ⟨N - 1, by omega⟩
    have hj : j < s.length := by omega
    have hb := hsb j hj
    obtain ⟨f1, bs1, a1, a2, a3, a4, a5⟩ := L_add (g := g) I hy hA hB hT hb (by omega)
    obtain ⟨f2, bs2, b1, b2, b3, b4, b5, b6⟩ := ih N (j + 1) (tx ++ [s.getD j 0]) f1 bs1 (by omega) (by omega) (by simp; omega) a2 a3 a4 (hT.app hb) (hX.fr (a5 t ht hty) (a5 tv hv hvy))
    have e : tx ++ s.drop j = tx ++ [s.getD j 0] ++ s.drop (j + 1) := by
      rw [List.append_assoc, List.drop_eq_getElem_cons hj, List.getD_eq_getElem?_getD, List.getElem?_eq_getElem hj]
      rfl
    refine ⟨f2, bs2, ?_, by rw [e]; exact b2, by rw [e]; exact b3, by rw [e]; exact b4, by rw [e]; exact b5, fun a h1 h2 => (b6 a h1 h2).trans (a5 a h1 h2)⟩
    rw [p_L_say_l2, D_len hX (by omega), ob_s, if_neg (by rw [nn_le (by omega) (by omega)]; omega), D_at hX (by omega) hj hb, ob_s, a1, ob_s, nn_s]
    exact b1
theorem L_say {s : List Nat} (I : JV V f x T hs u p H S 0 bs cc) (hz : WZ f y) (hX : TX f t tv s) (hy : x + 235 ≤ y) (ht : t < x ∨ x + 235 ≤ t) (hty : t ≠ y) (hv : tv < x ∨ x + 235 ≤ tv) (hvy : tv ≠ y) (hsb : ∀ j, j < s.length → s.getD j 0 < 128) (hsl : s.length ≤ 680) :
    ∃ f1 bs1, p_L_say V g f x y t = some f1 ∧ JV V f1 x T hs u p H S (20 * (s.length / 20)) bs1 cc ∧ SA f1 y s ∧ BY bs1 s ∧ TB s ∧ ∀ a, a < x ∨ x + 235 ≤ a → a ≠ y → f1 a = f a := by
  have h := L_say_l (V := V) (g := g) (T := T) (hs := hs) (u := u) (p := p) (H := H) (S := S) (cc := cc) hy ht hty hv hvy hsb hsl s.length FU 0 [] f bs (by omega) (by unfold FU; omega) (by show 0 + s.length ≤ 680; omega) I (SA.z hz) (fun i hi => by simp at hi) (fun i => by simp) hX
  exact h
theorem L_end_l : ∀ (d N : Nat) (c : Int32) (tx : List Nat) (f : GH) (bs : Nat → Int32) (K : Nat → Int32 → GH → Option (Int32 × GH)), d < N → tx.length + d ≤ 680 → (tx.length + d) % 20 = 0 → d < 20 → x + 235 ≤ y → JV V f x T hs u p H S (20 * (tx.length / 20)) bs cc → SA f y tx → BY bs tx → TB tx →
    ∃ f1 bs1 tz, p_L_end_l4 V g K N x y c f = K y c f1 ∧ tz.length = tx.length + d ∧ (∀ i, i < tx.length → tz.getD i 0 = tx.getD i 0) ∧ JV V f1 x T hs u p H S (tx.length + d) bs1 cc ∧ SA f1 y tz ∧ BY bs1 tz ∧ ∀ a, a < x ∨ x + 235 ≤ a → a ≠ y → f1 a = f a := by
  intro d
  induction d with
  | zero =>
    intro N c tx f bs K hN hm hd _ hy I hA hB hT
    obtain ⟨N, rfl⟩ : ∃ M, N = M + 1 := ⟨N - 1, by omega⟩
    refine ⟨f, bs, tx, ?_, rfl, fun _ _ => rfl, by rw [show tx.length + 0 = 20 * (tx.length / 20) by omega]; exact I, hA, hB, fun _ _ _ => rfl⟩
    obtain ⟨r, r1, r5, rq⟩ := hA
    rw [p_L_end_l4, show h_li f y 0 (5 : Int32) = some (nn tx.length) by rw [← r5]; exact hli_of r1 (i := 5) (by omega) (by omega), ob_s, if_pos]
    rw [show (20 : Int32) = nn 20 from rfl, nn_div (by omega) (by omega), nn_mul, nn_sub (by omega), show tx.length - tx.length / 20 * 20 = 0 by omega]
    rfl
  | succ d ih =>
    intro N c tx f bs K hN hm hd hd2 hy I hA hB hT
    obtain ⟨N, rfl⟩ : ∃ M, N = M + 1 := ⟨N - 1, by omega⟩
    obtain ⟨f1, bs1, a1, a2, a3, a4, a5⟩ := L_add (g := g) I hy hA hB hT (b := 32) (by omega) (by omega)
    have hlen : (tx ++ [32]).length = tx.length + 1 := by simp
    obtain ⟨f2, bs2, tz, b1, b2, b3, b4, b5, b6, b7⟩ := ih N c (tx ++ [32]) f1 bs1 K (by omega) (by omega) (by omega) (by omega) hy a2 a3 a4 (hT.app (by omega))
    refine ⟨f2, bs2, tz, ?_, by omega, fun i hi => ?_, by rw [show tx.length + (d + 1) = (tx ++ [32]).length + d by omega]; exact b4, b5, b6, fun a h1 h2 => (b7 a h1 h2).trans (a5 a h1 h2)⟩
    · obtain ⟨r, r1, r5, rq⟩ := hA
      rw [p_L_end_l4, show h_li f y 0 (5 : Int32) = some (nn tx.length) by rw [← r5]; exact hli_of r1 (i := 5) (by omega) (by omega), ob_s, if_neg, show (32 : Int32) = nn 32 from rfl, a1, ob_s]
      · exact b1
      · rw [show (20 : Int32) = nn 20 from rfl, nn_div (by omega) (by omega), nn_mul, nn_sub (by omega), n_0, nn_eq (by omega) (by omega)]
        omega
    · rw [b3 i (by omega), gd_app, if_pos hi]
/-- what stands after a text is said and ended -/
theorem L_end {s : List Nat} (I : JV V f x T hs u p H S (20 * (s.length / 20)) bs cc) (hA : SA f y s) (hB : BY bs s) (hT : TB s) (hy : x + 235 ≤ y) (hsl : s.length ≤ 640) :
    ∃ f1 bs1 bl, p_L_end V g f x y = some (nn s.length, f1) ∧ s.length ≤ bl ∧ bl ≤ 680 ∧ JV V f1 x T hs u p H S bl bs1 cc ∧ WZ f1 y ∧ (∀ i, i < s.length → bs1 i = nn (s.getD i 0)) ∧ ∀ a, a < x ∨ x + 235 ≤ a → a ≠ y → f1 a = f a := by
  obtain ⟨d, hd1, hd2⟩ : ∃ d, d < 20 ∧ (s.length + d) % 20 = 0 := ⟨(20 - s.length % 20) % 20, by omega, by omega⟩
  obtain ⟨f1, bs1, tz, a1, a2, a3, a4, a5, a6, a7⟩ := L_end_l (V := V) (g := g) (T := T) (hs := hs) (u := u) (p := p) (H := H) (S := S) (cc := cc) d FU (nn s.length) s f bs (fun x1 x2 f =>
    (h_si f x1 0 (5 : Int32) (0 : Int32)).bind fun f5 =>
    some (x2, f5)) (by unfold FU; omega) (by omega) hd2 hd1 hy I hA hB hT
  obtain ⟨r, r1, r5, rq⟩ := hA
  obtain ⟨q, q1, q5, qq⟩ := a5
  have o : ∀ a, a ≠ y → h_up f1 y (.inl (0, 6, .inl (upd q 5 0))) a = f1 a := fun a ha => h_up_n f1 _ ha
  refine ⟨h_up f1 y (.inl (0, 6, .inl (upd q 5 0))), bs1, s.length + d, ?_, by omega, by omega, a4.frame (fun a h1 h2 => o a (by omega)), ⟨_, h_up_s _ _ _, fun k hk => ?_⟩, fun i hi => ?_, fun a h1 h2 => (o a h2).trans (a7 a h1 h2)⟩
  · unfold p_L_end
    rw [show h_li f y 0 (5 : Int32) = some (nn s.length) by rw [← r5]; exact hli_of r1 (i := 5) (by omega) (by omega), ob_s, a1, show h_si f1 y 0 (5 : Int32) (0 : Int32) = _ from hsi_of q1 (i := 5) (by omega) (by omega), ob_s]
  · by_cases e : k = 5
    · rw [e, upd_s]
    · rw [upd_n _ _ e, qq k (by omega), a2, show min 4 ((s.length + d) % 20 - 4 * k) = 0 by omega]
      rfl
  · rw [a6 i (by omega), a3 i hi]
end SX

/-! ===== words, numbers, the state of a reading ===== -/
def s_cmp (B : Nat → Int32) (st : Nat) (w : List Int32) : Nat → Nat → Bool
  | 0, _ => true
  | d + 1, j => decide (B (st + j) = w.getD j 0) && s_cmp B st w d (j + 1)
def wL (i : Nat) : List Int32 := wl_byt.getD i []
def s_word (B : Nat → Int32) (t : TK) (i : Nat) : Bool := decide (kD t = 1) && (decide (kN t - kS t = (wL i).length) && s_cmp B (kS t) (wL i) (wL i).length 0)
theorem s_cmp_all {B : Nat → Int32} {st : Nat} {w : List Int32} : ∀ (d j : Nat), s_cmp B st w d j = true → ∀ k, j ≤ k → k < j + d → B (st + k) = w.getD k 0 := by
  intro d
  induction d with
  | zero => intro j _ k h1 h2; omega
  | succ d ih =>
    intro j h k h1 h2
    rw [s_cmp, Bool.and_eq_true, decide_eq_true_iff] at h
    by_cases e : k = j
    · rw [e]; exact h.1
    · exact ih (j + 1) h.2 k (by omega) (by omega)
theorem wl_ln : ∀ i, i < 14 → wl_len.getD i 0 = (wL i).length := by decide
theorem wL_ne : ∀ i, i < 14 → ∀ j, j < 14 → wL i = wL j → i = j := by decide
theorem s_word_ne {B : Nat → Int32} {t : TK} {i j : Nat} (hi : i < 14) (hj : j < 14) (h : s_word B t i = true) (k : s_word B t j = true) : i = j := by
  unfold s_word at h k
  rw [Bool.and_eq_true, Bool.and_eq_true, decide_eq_true_iff, decide_eq_true_iff] at h k
  refine wL_ne i hi j hj (List.ext_getElem (h.2.1.symm.trans k.2.1) fun q h1 h2 => ?_)
  have a := s_cmp_all _ _ h.2.2 q (by omega) (by omega)
  have b := s_cmp_all _ _ k.2.2 q (by omega) (by omega)
  rw [a] at b
  rw [List.getD_eq_getElem?_getD, List.getD_eq_getElem?_getD, List.getElem?_eq_getElem h1, List.getElem?_eq_getElem h2] at b
  exact b
theorem wl_asc : ∀ i, i < 14 → ∀ k, k < (wL i).length → ((((wL i).getD k 0 &&& (255 : Int32)).toUInt32 % 65536).toInt32 = (wL i).getD k 0 ∧ 0 ≤ ((wL i).getD k 0).toInt ∧ ((wL i).getD k 0).toInt < 128) := by decide +kernel
section SW
variable {V : Nat → Nat} {g : GH}
theorem StOK.wo (S : StOK V g) {i : Nat} (hi : i < 14) : gO g (V (st_wi.getD i 0)) = some (.inr (51, [.ref (V (70 + i)), .int 0])) := S.2.2.2.2.2.2.2.2.1 i (by omega)
theorem StOK.wb (S : StOK V g) {i : Nat} (hi : i < 14) : ∃ r, gA g (V (70 + i)) = some (.inl (1, (wL i).length, .inl r)) ∧ ∀ j, j < (wL i).length → r j = (wL i).getD j 0 := by
  have h := S.2.2.2.2.2.2.2.2.2 i (by omega)
  rw [wl_ln i hi] at h
  exact h
theorem wl_sm : ∀ i, i < 14 → (wL i).length < 20 := by decide
theorem J_len (S : StOK V g) (f : GH) {i : Nat} (hi : i < 14) : p_J0_length_8abf5 V g f (V (st_wi.getD i 0)) = some (nn (wL i).length) := by
  obtain ⟨r, h1, h2⟩ := S.wb hi
  have hs := wl_sm i hi
  unfold p_J0_length_8abf5 p_J0_coder_7d493
  rw [hme_of (S.wo hi), hgr_of (S.wo hi) rfl, ob_s, hal_of h1, ob_s, hme_of (S.wo hi), hgi_of (S.wo hi) rfl, ob_s, show h_yz (0 : Int32) = some 0 by decide, ob_s, ob_s, show ((0 : Int32) &&& 31) = nn 0 by decide, nn_shr (by show (wL i).length < _; omega) (by decide)]
  show some (nn ((wL i).length / 2 ^ 0)) = _
  rw [Nat.pow_zero, Nat.div_one]
theorem J_at (S : StOK V g) (f : GH) {i k : Nat} (hi : i < 14) (hk : k < (wL i).length) : p_J0_charAt_5068e V g f (V (st_wi.getD i 0)) (nn k) = some ((wL i).getD k 0) := by
  obtain ⟨r, h1, h2⟩ := S.wb hi
  have hs := wl_sm i hi
  obtain ⟨a1, a2, a3⟩ := wl_asc i hi k hk
  have hcz : h_cz ((wL i).getD k 0) = some ((wL i).getD k 0) := by
    unfold h_cz
    rw [if_pos]
    apply Int32.toInt_inj.mp
    have hx : ((wL i).getD k 0).toInt = ((wL i).getD k 0).toInt.toNat := by omega
    have := a1
    have e : ∀ y : Int32, 0 ≤ y.toInt → y.toInt < 128 → ((y.toUInt32 % 65536).toInt32).toInt = y.toInt := by
      intro y y0 y1
      have h : y = nn y.toInt.toNat := by
        rw [i_eq, nn_i (by omega)]
        omega
      have : ∀ q, q < 128 → (((nn q).toUInt32 % 65536).toInt32).toInt = (nn q).toInt := by decide +kernel
      rw [h]
      exact this _ (by omega)
    exact e _ a2 a3
  unfold p_J0_charAt_5068e p_J0_isLatin1_aae02 p_J1_charAt_3b067 p_J0_checkIndex_df160 p_J3_checkIndex_8e157
  rw [hme_of (S.wo hi), hme_of (S.wo hi), hgi_of (S.wo hi) rfl, ob_s, if_pos rfl, ob_s, if_neg (by decide), hgr_of (S.wo hi) rfl, ob_s, hal_of h1, ob_s, if_neg (nn_nl k (by omega)), if_pos (show nn k < nn (wL i).length by rw [nn_lt (by omega) (by omega)]; exact hk), ob_s, ob_s, hli_of h1 hk (by omega), ob_s, h2 k hk, a1, hcz, ob_s, ob_s, hcz, ob_s]
end SW
section WC
variable {V : Nat → Nat} {g f0 : GH} {t bl L i : Nat} {tk : TK} {bs B : Nat → Int32}
theorem C_isWord_l (S : StOK V g) (hi : i < 14) (hL : L ≤ 700) (hB : ∀ i, i < L → BR (bs i) (B i)) {kd len nx : Int32} {st : Nat} (hs : st + (wL i).length ≤ L) : ∀ (d N j : Nat), j + d = (wL i).length → d < N → p_X5_isWord_l28 V g (tH t (nn bl) len kd (nn st) nx bs f0) (some (0 : Int32)) (some (1 : Int32)) N t (V (st_wi.getD i 0)) (nn j) = some (bz (s_cmp B st (wL i) d j)) := by
  have h20 := wl_sm i hi
  intro d
  induction d with
  | zero =>
    intro N j he hN
    obtain ⟨N, rfl⟩ : ∃ M, N = M + 1 := ⟨N - 1, by omega⟩
    rw [p_X5_isWord_l28, J_len S _ hi, ob_s, if_pos (by rw [nn_le (by omega) (by omega)]; omega)]
    rfl
  | succ d ih =>
    intro N j he hN
    obtain ⟨N, rfl⟩ : ∃ M, N = M + 1 := ⟨N - 1, by omega⟩
    have hj : j < (wL i).length := by omega
    obtain ⟨a1, a2, a3⟩ := wl_asc i hi j hj
    rw [p_X5_isWord_l28, J_len S _ hi, ob_s, if_neg (by rw [nn_le (by omega) (by omega)]; omega), k_by, ob_s, k_st, ob_s, nn_add, k_li (by omega), ob_s, J_at S _ hi hj, ob_s, s_cmp]
    by_cases c : B (st + j) = (wL i).getD j 0
    · rw [if_pos (((hB _ (by omega)).eq a2 a3).mpr c), decide_eq_true c, nn_s, ih N (j + 1) (by omega) (by omega), Bool.true_and]
    · rw [if_neg (fun e => c (((hB _ (by omega)).eq a2 a3).mp e)), decide_eq_false c, Bool.false_and]
      rfl
theorem C_isWord (S : StOK V g) (hi : i < 14) (hL : L ≤ 700) (hB : ∀ i, i < L → BR (bs i) (B i)) (hv : TKV B L tk) {len : Int32} : p_X5_isWord V g (tH t (nn bl) len (nn (kD tk)) (nn (kS tk)) (nn (kN tk)) bs f0) t (V (st_wi.getD i 0)) = some (bz (s_word B tk i)) := by
  obtain ⟨v1, v2, v3, v4, v5⟩ := hv
  have h20 := wl_sm i hi
  unfold p_X5_isWord s_word
  rw [k_me, k_kd, ob_s]
  by_cases c : kD tk = 1
  · rw [if_pos (by rw [c]; rfl), k_nx, ob_s, k_st, ob_s, J_len S _ hi, ob_s, nn_sub v1, decide_eq_true c, Bool.true_and]
    by_cases c2 : kN tk - kS tk = (wL i).length
    · rw [if_pos (by rw [c2]), decide_eq_true c2, Bool.true_and]
      exact C_isWord_l S hi hL hB (by omega) _ FU 0 (by omega) (by unfold FU; omega)
    · rw [if_neg (fun e => c2 (by rw [nn_eq (by omega) (by omega)] at e; exact e)), decide_eq_false c2, Bool.false_and]
      rfl
  · rw [if_neg (fun e => c (by rw [n_1, nn_eq (by omega) (by omega)] at e; exact e)), decide_eq_false c, Bool.false_and]
    rfl
end WC
section WM
variable {V : Nat → Nat} {g f0 : GH} {m b L i : Nat} {z : Nat → Int32} {A : Nat → Nat → Int32} {tk : TK}
end WM
/-! numbers -/
def s_dec (B : Nat → Int32) : Nat → Nat → Nat → Nat
  | 0, _, a => a
  | d + 1, i, a => s_dec B d (i + 1) (10 * a + ((B i).toNatClampNeg - 48))
def s_val (B : Nat → Int32) (t : TK) : Nat := s_dec B (kN t - kS t) (kS t) 0
theorem s_dec_ge (B : Nat → Int32) : ∀ (d i a : Nat), a ≤ s_dec B d i a := by
  intro d
  induction d with
  | zero => intro i a; exact Nat.le_refl _
  | succ d ih => intro i a; rw [s_dec]; have := ih (i + 1) (10 * a + ((B i).toNatClampNeg - 48)); omega
/-- what both sides read of a number: itself, or something as far out of all ranges -/
def NumOK (w v : Nat) : Prop := w < 200000000 ∧ (w = v ∨ 1000000 < w ∧ 1000000 < v)
theorem NumOK.le {w v h : Nat} (n : NumOK w v) (hh : h ≤ 2000) : w ≤ h ↔ v ≤ h := by
  unfold NumOK at n
  omega
theorem dig {v : Int32} (h : 48 ≤ v ∧ v ≤ 57) : v = nn v.toNatClampNeg ∧ 48 ≤ v.toNatClampNeg ∧ v.toNatClampNeg ≤ 57 := by
  have h1 := h.1
  have h2 := h.2
  have e : v = nn v.toNatClampNeg := nn_of (by rw [i_le] at h1 ⊢; exact Int.le_trans (by decide) h1)
  have hb : v.toNatClampNeg < 2147483648 := Int32.toNatClampNeg_lt v
  rw [e, show (48 : Int32) = nn 48 from rfl, nn_le (by decide) hb] at h1
  rw [e, show (57 : Int32) = nn 57 from rfl, nn_le hb (by decide)] at h2
  exact ⟨e, h1, h2⟩
theorem dig_step {a c : Nat} (h : 48 ≤ c) : ((10 : Int32) * nn a + nn c) - (48 : Int32) = nn (10 * a + (c - 48)) := by
  rw [show (10 : Int32) = nn 10 from rfl, nn_mul, nn_add, show (48 : Int32) = nn 48 from rfl, nn_sub (by omega)]
  congr 1
  omega
section VC
variable {V : Nat → Nat} {g f0 : GH} {t bl L : Nat} {tk : TK} {bs B : Nat → Int32}
theorem C_val_l (hL : L ≤ 700) (hB : ∀ i, i < L → BR (bs i) (B i)) {bl2 len kd st : Int32} {nx : Nat} (hnx : nx ≤ L) : ∀ (d N i a : Nat), i + d = nx → d < N → a < 20000000 → (∀ k, i ≤ k → k < nx → 48 ≤ B k ∧ B k ≤ 57) → ∃ w, p_X5_value_l7 V g (tH t bl2 len kd st (nn nx) bs f0) (fun x => some x) N t (nn a) (nn i) = some (nn w) ∧ NumOK w (s_dec B d i a) := by
  intro d
  induction d with
  | zero =>
    intro N i a he hN ha hd
    obtain ⟨N, rfl⟩ : ∃ M, N = M + 1 := ⟨N - 1, by omega⟩
    refine ⟨a, ?_, by omega, Or.inl rfl⟩
    rw [p_X5_value_l7, k_nx, ob_s, if_pos (by rw [nn_le (by omega) (by omega)]; omega)]
  | succ d ih =>
    intro N i a he hN ha hd
    obtain ⟨N, rfl⟩ : ∃ M, N = M + 1 := ⟨N - 1, by omega⟩
    rw [p_X5_value_l7, k_nx, ob_s, if_neg (by rw [nn_le (by omega) (by omega)]; omega)]
    by_cases c : 1000000 < a
    · refine ⟨a, ?_, by omega, Or.inr ⟨c, ?_⟩⟩
      · rw [if_pos (by rw [show (1000000 : Int32) = nn 1000000 from rfl, nn_lt (by omega) (by omega)]; exact c)]
      · exact Nat.lt_of_lt_of_le c (s_dec_ge B _ _ _)
    · obtain ⟨d1, d2, d3⟩ := dig (hd i (Nat.le_refl _) (by omega))
      have hbi : bs i = nn (B i).toNatClampNeg := by
        rcases hB i (by omega) with ⟨q1, q2, q3⟩ | ⟨q1, q2, q3⟩
        · rw [q3]; exact d1
        · rw [d1, nn_i (by omega)] at q1; omega
      obtain ⟨w, e1, e2⟩ := ih N (i + 1) (10 * a + ((B i).toNatClampNeg - 48)) (by omega) (by omega) (by omega) (fun k h1 h2 => hd k (by omega) h2)
      refine ⟨w, ?_, e2⟩
      rw [if_neg (by rw [show (1000000 : Int32) = nn 1000000 from rfl, nn_lt (by omega) (by omega)]; exact c), k_by, ob_s, k_li (by omega), ob_s, hbi, dig_step d2, nn_s]
      exact e1
theorem C_val (hL : L ≤ 700) (hB : ∀ i, i < L → BR (bs i) (B i)) (hv : TKV B L tk) (h2 : kD tk = 2) {bl2 len kd : Int32} : ∃ w, p_X5_value V g (tH t bl2 len kd (nn (kS tk)) (nn (kN tk)) bs f0) t = some (nn w) ∧ NumOK w (s_val B tk) := by
  obtain ⟨v1, v2, v3, v4, v5⟩ := hv
  obtain ⟨w, e1, e2⟩ := C_val_l (V := V) (g := g) (f0 := f0) (t := t) (bl2 := bl2) (len := len) (kd := kd) (st := nn (kS tk)) hL hB v2 (kN tk - kS tk) FU (kS tk) 0 (by omega) (by unfold FU; omega) (by decide) (v4 h2)
  refine ⟨w, ?_, e2⟩
  unfold p_X5_value
  rw [k_me, k_st, ob_s]
  exact e1
end VC
section VM
variable {V : Nat → Nat} {g f0 : GH} {m b L : Nat} {z : Nat → Int32} {A : Nat → Nat → Int32} {tk : TK}
end VM


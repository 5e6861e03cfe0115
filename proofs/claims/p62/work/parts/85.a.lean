/-! ===== what is said: bytes in words of four, words into the buffer ===== -/
theorem nn_shl32 {a l : Nat} (h : l < 32) : nn a <<< (nn l &&& (31 : Int32)) = nn (a * 2 ^ l) := by
  apply Int32.toBitVec_inj.mp
  rw [Int32.toBitVec_shiftLeft]
  have e : ((nn l &&& (31 : Int32)).toBitVec.smod 32) = BitVec.ofNat 32 l := by
    have : ∀ l, l < 32 → ((nn l &&& (31 : Int32)).toBitVec.smod 32) = BitVec.ofNat 32 l := by decide +kernel
    exact this l h
  rw [e]
  apply BitVec.eq_of_toNat_eq
  show (BitVec.ofNat 32 a <<< (BitVec.ofNat 32 l).toNat).toNat = (BitVec.ofNat 32 (a * 2 ^ l)).toNat
  have hl : (BitVec.ofNat 32 l).toNat = l := by
    rw [BitVec.toNat_ofNat]
    exact Nat.mod_eq_of_lt (by omega)
  rw [hl, BitVec.toNat_shiftLeft, BitVec.toNat_ofNat, BitVec.toNat_ofNat, Nat.shiftLeft_eq, Nat.mod_mul_mod]
theorem nn_shr32 {a l : Nat} (ha : a < 2147483648) (h : l < 32) : nn a >>> (nn l &&& (31 : Int32)) = nn (a / 2 ^ l) := by
  apply Int32.toBitVec_inj.mp
  rw [Int32.toBitVec_shiftRight]
  have e : ((nn l &&& (31 : Int32)).toBitVec.smod 32) = BitVec.ofNat 32 l := by
    have : ∀ l, l < 32 → ((nn l &&& (31 : Int32)).toBitVec.smod 32) = BitVec.ofNat 32 l := by decide +kernel
    exact this l h
  rw [e]
  apply BitVec.eq_of_toInt_eq
  have hl : (BitVec.ofNat 32 l).toNat = l := by
    rw [BitVec.toNat_ofNat]
    exact Nat.mod_eq_of_lt (by omega)
  have hd : a / 2 ^ l < 2147483648 := Nat.lt_of_le_of_lt (Nat.div_le_self _ _) ha
  rw [BitVec.toInt_sshiftRight', hl]
  show (nn a).toInt >>> l = (nn (a / 2 ^ l)).toInt
  rw [nn_i ha, nn_i hd, Int.shiftRight_eq_div_pow]
  simp
theorem nn_or (a b : Nat) : nn a ||| nn b = nn (a ||| b) := by
  apply Int32.toBitVec_inj.mp
  rw [Int32.toBitVec_or]
  apply BitVec.eq_of_toNat_eq
  show (BitVec.ofNat 32 a ||| BitVec.ofNat 32 b).toNat = (BitVec.ofNat 32 (a ||| b)).toNat
  rw [BitVec.toNat_or, BitVec.toNat_ofNat, BitVec.toNat_ofNat, BitVec.toNat_ofNat, Nat.or_mod_two_pow]
def wp (r : Nat) : Nat := if r = 0 then 16777216 else if r = 1 then 65536 else if r = 2 then 256 else 1
def wv (t : Nat → Nat) : Nat → Nat
  | 0 => 0
  | r + 1 => wv t r + t r * wp r
theorem wp_p {r : Nat} (h : r < 4) : 2 ^ (24 - 8 * r) = wp r := by
  have : ∀ r, r < 4 → 2 ^ (24 - 8 * r) = wp r := by decide
  exact this r h
theorem wv_cg {t s : Nat → Nat} : ∀ r, (∀ j, j < r → t j = s j) → wv t r = wv s r := by
  intro r
  induction r with
  | zero => intro _; rfl
  | succ r ih =>
    intro h
    show wv t r + t r * wp r = wv s r + s r * wp r
    rw [ih (fun j hj => h j (by omega)), h r (by omega)]
theorem wv_or {t : Nat → Nat} (ht : ∀ j, t j < 128) {r b : Nat} (hr : r < 4) (hb : b < 128) : wv t r ||| b * wp r = wv t r + b * wp r := by
  have key : ∀ i a c : Nat, c < 2 ^ i → 2 ^ i * a ||| c = 2 ^ i * a + c := fun i a c h => (Nat.two_pow_add_eq_or_of_lt h a).symm
  have h0 := ht 0
  have h1 := ht 1
  have h2 := ht 2
  have : r = 0 ∨ r = 1 ∨ r = 2 ∨ r = 3 := by omega
  rcases this with rfl | rfl | rfl | rfl
  · show 0 ||| b * 16777216 = 0 + b * 16777216
    rw [Nat.zero_or, Nat.zero_add]
  · show 0 + t 0 * 16777216 ||| b * 65536 = 0 + t 0 * 16777216 + b * 65536
    have := key 24 (t 0) (b * 65536) (by omega)
    rw [show 2 ^ 24 * t 0 = 0 + t 0 * 16777216 by omega] at this
    exact this
  · show 0 + t 0 * 16777216 + t 1 * 65536 ||| b * 256 = 0 + t 0 * 16777216 + t 1 * 65536 + b * 256
    have := key 16 (t 0 * 256 + t 1) (b * 256) (by omega)
    rw [show 2 ^ 16 * (t 0 * 256 + t 1) = 0 + t 0 * 16777216 + t 1 * 65536 by omega] at this
    exact this
  · show 0 + t 0 * 16777216 + t 1 * 65536 + t 2 * 256 ||| b * 1 = 0 + t 0 * 16777216 + t 1 * 65536 + t 2 * 256 + b * 1
    have := key 8 (t 0 * 65536 + t 1 * 256 + t 2) (b * 1) (by omega)
    rw [show 2 ^ 8 * (t 0 * 65536 + t 1 * 256 + t 2) = 0 + t 0 * 16777216 + t 1 * 65536 + t 2 * 256 by omega] at this
    exact this
theorem wv_b {t : Nat → Nat} (ht : ∀ j, t j < 128) : wv t 4 < 2147483648 := by
  have h0 := ht 0
  have h1 := ht 1
  have h2 := ht 2
  have h3 := ht 3
  show 0 + t 0 * 16777216 + t 1 * 65536 + t 2 * 256 + t 3 * 1 < _
  omega
theorem wv_at {t : Nat → Nat} (ht : ∀ j, t j < 128) {j : Nat} (hj : j < 4) : wv t 4 / wp j % 256 = t j := by
  have h0 := ht 0
  have h1 := ht 1
  have h2 := ht 2
  have h3 := ht 3
  have : j = 0 ∨ j = 1 ∨ j = 2 ∨ j = 3 := by omega
  rcases this with rfl | rfl | rfl | rfl
  · show (0 + t 0 * 16777216 + t 1 * 65536 + t 2 * 256 + t 3 * 1) / 16777216 % 256 = _
    omega
  · show (0 + t 0 * 16777216 + t 1 * 65536 + t 2 * 256 + t 3 * 1) / 65536 % 256 = _
    omega
  · show (0 + t 0 * 16777216 + t 1 * 65536 + t 2 * 256 + t 3 * 1) / 256 % 256 = _
    omega
  · show (0 + t 0 * 16777216 + t 1 * 65536 + t 2 * 256 + t 3 * 1) / 1 % 256 = _
    omega
theorem bK_at {t : Nat → Nat} (ht : ∀ j, t j < 128) {j : Nat} (hj : j < 4) : (bK (nn (wv t 4)) j).toInt8.toInt32.toInt8.toInt32 = nn (t j) := by
  have hb := wv_b ht
  have hj2 := ht j
  have ha := wv_at ht hj
  have hd : wv t 4 / wp j < 2147483648 := Nat.lt_of_le_of_lt (Nat.div_le_self _ _) hb
  unfold bK
  rw [nn_shr32 hb (by omega), wp_p hj, i_eq, i_88, bm_256, nn_i hd, nn_i (by omega)]
  generalize wv t 4 / wp j = d at ha hd
  rw [if_pos (by omega)]
  omega
section SY
variable {V : Nat → Nat} {g f : GH} {x y u p bl : Nat} {T S : TS} {H : Nat → TS} {hs cc : Int32} {bs : Nat → Int32}
def b20 (bs : Nat → Int32) (k : Nat) (a b c d e : Int32) : Nat → Int32 := bs4 (bs4 (bs4 (bs4 (bs4 bs k a) (k + 4) b) (k + 8) c) (k + 12) d) (k + 16) e
theorem J_app (I : JV V f x T hs u p H S bl bs cc) (hb : bl + 20 ≤ 700) (a b c d e : Int32) : ∃ f1, p_X7_appendText V g f x a b c d e = some (nn (bl + 20), f1) ∧ JV V f1 x T hs u p H S (bl + 20) (b20 bs bl a b c d e) cc ∧ ∀ q, q ≠ x + 62 → q ≠ x + 63 → f1 q = f q := by
  obtain ⟨⟨i1, i2, i3, ⟨T0, i4⟩, ⟨T1, i5⟩, i6⟩, ⟨v0, a0, q0, r0, w0, k0, c0, i7⟩, ⟨c1, i8⟩, i9, ⟨len, kd, st, nx, t1, t2⟩, i11, i12⟩ := I
  have hid := tH_id (t := x + 62) t1 t2
  have oo : ∀ (n : Int32) (b : Nat → Int32) (q : Nat), q ≠ x + 62 → q ≠ x + 63 → tH (x + 62) n len kd st nx b f q = f q := fun n b q h1 h2 => by
    unfold tH
    rw [if_neg h1, if_neg (show ¬ q = x + 62 + 1 from h2)]
  have hX : ∀ (n : Int32) (b : Nat → Int32), XoA (tH (x + 62) n len kd st nx b f) x hs (nn u) (nn p) := fun n b => i1.fr (oo n b x (by omega) (by omega))
  have hF : ∀ (n : Nat) (b : Nat → Int32), n ≤ 700 → JV V (tH (x + 62) (nn n) len kd st nx b f) x T hs u p H S n b cc := fun n b hn =>
    ⟨⟨hX _ b, i2.frame (fun a h1 h2 => oo _ b a (by omega) (by omega)), i3.frame (fun a h => oo _ b a (by omega) (by omega)), ⟨T0, i4.frame (fun a h1 h2 => oo _ b a (by omega) (by omega))⟩, ⟨T1, i5.frame (fun a h1 h2 => oo _ b a (by omega) (by omega))⟩, fun h => (i6 h).frame (fun a h1 h2 => oo _ b a (by omega) (by omega))⟩, ⟨v0, a0, q0, r0, w0, k0, c0, i7.frame (fun a h1 h2 => oo _ b a (by omega) (by omega))⟩, ⟨c1, i8.frame (fun a h1 h2 => oo _ b a (by omega) (by omega))⟩, hn, ⟨len, kd, st, nx, tH_o, tH_b⟩, i11.frame (oo _ b _ (by omega) (by omega)), i12⟩
  refine ⟨tH (x + 62) (nn (bl + 20)) len kd st nx (b20 bs bl a b c d e) f, ?_, hF _ _ (by omega), oo _ _⟩
  unfold p_X7_appendText
  rw [i1.me, i1.tk, ob_s, hgi_of t1 rfl, ob_s, if_pos (by rw [show (20 : Int32) = nn 20 from rfl, nn_add, show (700 : Int32) = nn 700 from rfl, nn_le (by omega) (by omega)]; exact hb), ob_s]
  have h0 : p_X5_append V g f (x + 62) a = some (tH (x + 62) (nn (bl + 4)) len kd st nx (bs4 bs bl a) f) := by
    have := C_app (V := V) (g := g) (t := x + 62) (len := len) (kd := kd) (st := st) (nx := nx) (bs := bs) (f0 := f) (k := bl) (by omega) a
    rw [← hid] at this
    exact this
  rw [h0, ob_s, (hX _ _).tk, ob_s, C_app (by omega), ob_s, (hX _ _).tk, ob_s, C_app (by omega), ob_s, (hX _ _).tk, ob_s, C_app (by omega), ob_s, (hX _ _).tk, ob_s, C_app (by omega), ob_s, (hX _ _).tk, ob_s, k_bl, ob_s]
  rfl
theorem b20_lo {bs : Nat → Int32} {k : Nat} {a b c d e : Int32} {i : Nat} (h : i < k) : b20 bs k a b c d e i = bs i := by
  unfold b20 bs4
  rw [if_neg (by omega), if_neg (by omega), if_neg (by omega), if_neg (by omega), if_neg (by omega)]
def w5 (a b c d e : Int32) (q : Nat) : Int32 := if q = 0 then a else if q = 1 then b else if q = 2 then c else if q = 3 then d else e
theorem b20_at {bs : Nat → Int32} {k : Nat} {a b c d e : Int32} {q j : Nat} (hq : q < 5) (hj : j < 4) : b20 bs k a b c d e (k + 4 * q + j) = (bK (w5 a b c d e q) j).toInt8.toInt32.toInt8.toInt32 := by
  have : q = 0 ∨ q = 1 ∨ q = 2 ∨ q = 3 ∨ q = 4 := by omega
  unfold b20 bs4
  rcases this with rfl | rfl | rfl | rfl | rfl
  · rw [if_neg (by omega), if_neg (by omega), if_neg (by omega), if_neg (by omega), if_pos (by omega), show k + 4 * 0 + j - k = j by omega]; rfl
  · rw [if_neg (by omega), if_neg (by omega), if_neg (by omega), if_pos (by omega), show k + 4 * 1 + j - (k + 4) = j by omega]; rfl
  · rw [if_neg (by omega), if_neg (by omega), if_pos (by omega), show k + 4 * 2 + j - (k + 8) = j by omega]; rfl
  · rw [if_neg (by omega), if_pos (by omega), show k + 4 * 3 + j - (k + 12) = j by omega]; rfl
  · rw [if_pos (by omega), show k + 4 * 4 + j - (k + 16) = j by omega]; rfl
def TB (tx : List Nat) : Prop := ∀ i, tx.getD i 0 < 128
def SA (f : GH) (y : Nat) (tx : List Nat) : Prop := ∃ r : Nat → Int32, f y = some (.inl (0, 6, .inl r)) ∧ r 5 = nn tx.length ∧ ∀ q, q < 5 → r q = nn (wv (fun j => tx.getD (20 * (tx.length / 20) + 4 * q + j) 0) (min 4 (tx.length % 20 - 4 * q)))
def BY (bs : Nat → Int32) (tx : List Nat) : Prop := ∀ i, i < 20 * (tx.length / 20) → bs i = nn (tx.getD i 0)
theorem gd_app (tx : List Nat) (b i : Nat) : (tx ++ [b]).getD i 0 = if i < tx.length then tx.getD i 0 else if i = tx.length then b else 0 := by
  rw [List.getD_eq_getElem?_getD, List.getD_eq_getElem?_getD]
  by_cases h : i < tx.length
  · rw [if_pos h, List.getElem?_append_left h]
  · rw [if_neg h, List.getElem?_append_right (by omega)]
    by_cases e : i = tx.length
    · rw [if_pos e, e, Nat.sub_self]; rfl
    · rw [if_neg e, List.getElem?_eq_none (by simp; omega)]; rfl
theorem TB.app {tx : List Nat} (h : TB tx) {b : Nat} (hb : b < 128) : TB (tx ++ [b]) := by
  intro i
  rw [gd_app]
  split
  · exact h i
  · split
    · exact hb
    · decide
theorem SA.z {f : GH} {y : Nat} (h : WZ f y) : SA f y [] := by
  obtain ⟨r, h1, h2⟩ := h
  refine ⟨r, h1, h2 5 (by omega), fun q hq => ?_⟩
  rw [h2 q (by omega), show min 4 (([] : List Nat).length % 20 - 4 * q) = 0 by show min 4 (0 - 4 * q) = 0; omega]
  rfl
theorem l65 : ∀ (d N i : Nat) (f : GH) (r : Nat → Int32) (K : GH → Option GH), i + d = 5 → d < N → f y = some (.inl (0, 6, .inl r)) → ∃ f1 r1, p_L_add_l65 V g K N y (nn i) f = K f1 ∧ f1 y = some (.inl (0, 6, .inl r1)) ∧ (∀ k, k < 5 → r1 k = if i ≤ k then 0 else r k) ∧ r1 5 = r 5 ∧ ∀ a, a ≠ y → f1 a = f a := by
  intro d
  induction d with
  | zero =>
    intro N i f r K he hN h
    obtain ⟨N, rfl⟩ : ∃ M, N = M + 1 := ⟨N - 1, by omega⟩
    refine ⟨f, r, ?_, h, fun k hk => by rw [if_neg (by omega)], rfl, fun _ _ => rfl⟩
    rw [p_L_add_l65, if_pos (by rw [n_5, nn_le (by omega) (by omega)]; omega)]
  | succ d ih =>
    intro N i f r K he hN h
    obtain ⟨N, rfl⟩ : ∃ M, N = M + 1 := ⟨N - 1, by omega⟩
    obtain ⟨f1, r1, e1, e2, e3, e4, e5⟩ := ih N (i + 1) (h_up f y (.inl (0, 6, .inl (upd r i 0)))) (upd r i 0) K (by omega) (by omega) (h_up_s _ _ _)
    refine ⟨f1, r1, ?_, e2, fun k hk => ?_, by rw [e4, upd_n _ _ (by omega)], fun a ha => (e5 a ha).trans (h_up_n f _ ha)⟩
    · rw [p_L_add_l65, if_neg (by rw [n_5, nn_le (by omega) (by omega)]; omega), hsi_of h (by omega) (by omega), ob_s, nn_s]
      exact e1
    · rw [e3 k hk]
      by_cases q : k = i
      · rw [if_neg (by omega), if_pos (by omega), q, upd_s]
      · rw [upd_n _ _ q]
        by_cases q2 : i + 1 ≤ k
        · rw [if_pos q2, if_pos (by omega)]
        · rw [if_neg q2, if_neg (by omega)]
theorem L_add {tx : List Nat} (I : JV V f x T hs u p H S (20 * (tx.length / 20)) bs cc) (hy : x + 235 ≤ y) (hA : SA f y tx) (hB : BY bs tx) (ht : TB tx) {b : Nat} (hb : b < 128) (hm : tx.length < 680) :
    ∃ f1 bs1, p_L_add V g f x y (nn b) = some f1 ∧ JV V f1 x T hs u p H S (20 * ((tx ++ [b]).length / 20)) bs1 cc ∧ SA f1 y (tx ++ [b]) ∧ BY bs1 (tx ++ [b]) ∧ ∀ a, a < x ∨ x + 235 ≤ a → a ≠ y → f1 a = f a := by
  obtain ⟨r, r1, r5, rq⟩ := hA
  have htb := ht.app hb
  have hlen : (tx ++ [b]).length = tx.length + 1 := by simp
  have hgd := gd_app tx b
  generalize tx ++ [b] = tz at htb hlen hgd ⊢
  generalize hM : tx.length = m at *
  have hq0 : m % 20 / 4 < 5 := by omega
  have ht0 : m % 20 - 4 * (m % 20 / 4) = m % 4 := by omega
  have e1 : nn m - nn m / (20 : Int32) * (20 : Int32) = nn (m % 20) := by
    rw [show (20 : Int32) = nn 20 from rfl, nn_div (by omega) (by omega), nn_mul, nn_sub (by omega), show m - m / 20 * 20 = m % 20 by omega]
  have e2 : nn (m % 20) / (4 : Int32) = nn (m % 20 / 4) := by rw [show (4 : Int32) = nn 4 from rfl, nn_div (by omega) (by omega)]
  have e3 : nn (m + 1) - nn (m + 1) / (20 : Int32) * (20 : Int32) = nn ((m + 1) % 20) := by
    rw [show (20 : Int32) = nn 20 from rfl, nn_div (by omega) (by omega), nn_mul, nn_sub (by omega), show m + 1 - (m + 1) / 20 * 20 = (m + 1) % 20 by omega]
  have hv0 := rq (m % 20 / 4) hq0
  rw [ht0, show min 4 (m % 4) = m % 4 by omega] at hv0
  have hor : nn (wv (fun j => tx.getD (20 * (m / 20) + 4 * (m % 20 / 4) + j) 0) (m % 4)) ||| (nn b <<< (nn (24 - 8 * (m % 4)) &&& (31 : Int32))) = nn (wv (fun j => tz.getD (20 * (m / 20) + 4 * (m % 20 / 4) + j) 0) (m % 4 + 1)) := by
    rw [nn_shl32 (by omega), wp_p (by omega), nn_or, wv_or (fun j => ht _) (by omega) hb]
    show _ = nn (wv (fun j => tz.getD (20 * (m / 20) + 4 * (m % 20 / 4) + j) 0) (m % 4) + tz.getD (20 * (m / 20) + 4 * (m % 20 / 4) + m % 4) 0 * wp (m % 4))
    rw [hgd (20 * (m / 20) + 4 * (m % 20 / 4) + m % 4), if_neg (by omega), if_pos (by omega), wv_cg (t := fun j => tx.getD (20 * (m / 20) + 4 * (m % 20 / 4) + j) 0) (s := fun j => tz.getD (20 * (m / 20) + 4 * (m % 20 / 4) + j) 0) (m % 4) (fun j hj => by
      show tx.getD (20 * (m / 20) + 4 * (m % 20 / 4) + j) 0 = tz.getD (20 * (m / 20) + 4 * (m % 20 / 4) + j) 0
      rw [hgd, if_pos (by omega)])]
  have hr6 : ∀ q, q < 5 → upd (upd r (m % 20 / 4) (nn (wv (fun j => tz.getD (20 * (m / 20) + 4 * (m % 20 / 4) + j) 0) (m % 4 + 1)))) 5 (nn (m + 1)) q = nn (wv (fun j => tz.getD (20 * (m / 20) + 4 * q + j) 0) (min 4 (m % 20 + 1 - 4 * q))) := by
    intro q hq
    rw [upd_n _ _ (by omega)]
    by_cases e : q = m % 20 / 4
    · rw [e, upd_s, show min 4 (m % 20 + 1 - 4 * (m % 20 / 4)) = m % 4 + 1 by omega]
    · rw [upd_n _ _ e, rq q hq]
      by_cases l : q < m % 20 / 4
      · rw [show min 4 (m % 20 - 4 * q) = 4 by omega, show min 4 (m % 20 + 1 - 4 * q) = 4 by omega, wv_cg (t := fun j => tx.getD (20 * (m / 20) + 4 * q + j) 0) (s := fun j => tz.getD (20 * (m / 20) + 4 * q + j) 0) 4 (fun j hj => by
          show tx.getD (20 * (m / 20) + 4 * q + j) 0 = tz.getD (20 * (m / 20) + 4 * q + j) 0
          rw [hgd, if_pos (by omega)])]
      · rw [show min 4 (m % 20 - 4 * q) = 0 by omega, show min 4 (m % 20 + 1 - 4 * q) = 0 by omega]
        rfl
  have hf6 : ∀ Z : Option GH, (∀ f6, f6 = h_up f y (.inl (0, 6, .inl (upd (upd r (m % 20 / 4) (nn (wv (fun j => tz.getD (20 * (m / 20) + 4 * (m % 20 / 4) + j) 0) (m % 4 + 1)))) 5 (nn (m + 1))))) → (if nn ((m + 1) % 20) = (0 : Int32) then
    (h_li f6 y 0 (0 : Int32)).bind fun v9 =>
    (h_li f6 y 0 (1 : Int32)).bind fun v10 =>
    (h_li f6 y 0 (2 : Int32)).bind fun v11 =>
    (h_li f6 y 0 (3 : Int32)).bind fun v12 =>
    (h_li f6 y 0 (4 : Int32)).bind fun v13 =>
    (p_X7_appendText V g f6 x v9 v10 v11 v12 v13).bind fun v14 =>
    p_L_add_l65 V g (fun f =>
      some f) FU y (0 : Int32) v14.2
  else
    some f6) = Z) → p_L_add V g f x y (nn b) = Z := by
    intro Z hZ
    have hz := hZ _ rfl
    rw [← hz]
    unfold p_L_add
    rw [show h_li f y 0 (5 : Int32) = some (nn m) by rw [← r5]; exact hli_of r1 (i := 5) (by omega) (by omega), ob_s, e1, e2, hli_of r1 (by omega) (by omega), ob_s, hv0, ob_s, nn_4 (by omega), hor, hsi_of r1 (by omega) (by omega), ob_s]
    have q1 : h_up f y (.inl (0, 6, .inl (upd r (m % 20 / 4) (nn (wv (fun j => tz.getD (20 * (m / 20) + 4 * (m % 20 / 4) + j) 0) (m % 4 + 1)))))) y = _ := h_up_s _ _ _
    rw [show h_li (h_up f y (.inl (0, 6, .inl (upd r (m % 20 / 4) (nn (wv (fun j => tz.getD (20 * (m / 20) + 4 * (m % 20 / 4) + j) 0) (m % 4 + 1)))))) ) y 0 (5 : Int32) = some (nn m) by
        rw [show some (nn m) = some (upd r (m % 20 / 4) (nn (wv (fun j => tz.getD (20 * (m / 20) + 4 * (m % 20 / 4) + j) 0) (m % 4 + 1))) 5) by rw [upd_n _ _ (by omega), r5]]
        exact hli_of q1 (i := 5) (by omega) (by omega), ob_s, nn_s, show h_si (h_up f y (.inl (0, 6, .inl (upd r (m % 20 / 4) (nn (wv (fun j => tz.getD (20 * (m / 20) + 4 * (m % 20 / 4) + j) 0) (m % 4 + 1)))))) ) y 0 (5 : Int32) (nn (m + 1)) = _ from hsi_of q1 (i := 5) (by omega) (by omega), ob_s, up_up]
    rw [show h_li (h_up f y (.inl (0, 6, .inl (upd (upd r (m % 20 / 4) (nn (wv (fun j => tz.getD (20 * (m / 20) + 4 * (m % 20 / 4) + j) 0) (m % 4 + 1)))) 5 (nn (m + 1)))))) y 0 (5 : Int32) = some (nn (m + 1)) by
        rw [show some (nn (m + 1)) = some (upd (upd r (m % 20 / 4) (nn (wv (fun j => tz.getD (20 * (m / 20) + 4 * (m % 20 / 4) + j) 0) (m % 4 + 1)))) 5 (nn (m + 1)) 5) by rw [upd_s]]
        exact hli_of (h_up_s _ _ _) (i := 5) (by omega) (by omega), ob_s, e3]
  have h65 : upd (upd r (m % 20 / 4) (nn (wv (fun j => tz.getD (20 * (m / 20) + 4 * (m % 20 / 4) + j) 0) (m % 4 + 1)))) 5 (nn (m + 1)) 5 = nn (m + 1) := upd_s _ _ _
  generalize upd (upd r (m % 20 / 4) (nn (wv (fun j => tz.getD (20 * (m / 20) + 4 * (m % 20 / 4) + j) 0) (m % 4 + 1)))) 5 (nn (m + 1)) = r6 at hr6 hf6 h65
  have I6 := I.frame (f1 := h_up f y (.inl (0, 6, .inl r6))) (fun a h1 h2 => h_up_n f _ (by omega))
  have y6 : h_up f y (.inl (0, 6, .inl r6)) y = some (.inl (0, 6, .inl r6)) := h_up_s _ _ _
  have o6 : ∀ a, a ≠ y → h_up f y (.inl (0, 6, .inl r6)) a = f a := fun a ha => h_up_n f _ ha
  generalize h_up f y (.inl (0, 6, .inl r6)) = f6 at hf6 I6 y6 o6
  have hlo : ∀ i, i < m → tx.getD i 0 = tz.getD i 0 := fun i hi => by rw [hgd, if_pos hi]
  unfold BY at hB
  rw [hM] at hB
  by_cases c : (m + 1) % 20 = 0
  · have hbl : 20 * (m / 20) + 20 ≤ 700 := by omega
    obtain ⟨f7, a1, a2, a3⟩ := J_app (g := g) I6 hbl (r6 0) (r6 1) (r6 2) (r6 3) (r6 4)
    have y7 : f7 y = some (.inl (0, 6, .inl r6)) := (a3 y (by omega) (by omega)).trans y6
    obtain ⟨f8, r8, b1, b2, b3, b4, b5⟩ := l65 (V := V) (g := g) (y := y) 5 FU 0 f7 r6 (fun f => some f) (by omega) (by unfold FU; omega) y7
    have I8 := a2.frame (f1 := f8) (fun a h1 h2 => b5 a (by omega))
    refine ⟨f8, b20 bs (20 * (m / 20)) (r6 0) (r6 1) (r6 2) (r6 3) (r6 4), hf6 _ (fun f9 h9 => ?_), ?_, ⟨r8, b2, ?_, fun q hq => ?_⟩, fun i hi => ?_, fun a ha hay => (b5 a hay).trans ((a3 a (by omega) (by omega)).trans (o6 a hay))⟩
    · rw [h9, c, if_pos (show nn 0 = (0 : Int32) from rfl), show h_li f6 y 0 (0 : Int32) = some (r6 0) from hli_of y6 (i := 0) (by omega) (by omega), ob_s, show h_li f6 y 0 (1 : Int32) = some (r6 1) from hli_of y6 (i := 1) (by omega) (by omega), ob_s, show h_li f6 y 0 (2 : Int32) = some (r6 2) from hli_of y6 (i := 2) (by omega) (by omega), ob_s, show h_li f6 y 0 (3 : Int32) = some (r6 3) from hli_of y6 (i := 3) (by omega) (by omega), ob_s, show h_li f6 y 0 (4 : Int32) = some (r6 4) from hli_of y6 (i := 4) (by omega) (by omega), ob_s, a1, ob_s]
      exact b1
    · rw [hlen, show 20 * ((m + 1) / 20) = 20 * (m / 20) + 20 by omega]
      exact I8
    · rw [hlen, b4, h65]
    · rw [hlen, b3 q hq, if_pos (by omega), show min 4 ((m + 1) % 20 - 4 * q) = 0 by omega]
      rfl
    · rw [hlen] at hi
      by_cases l : i < 20 * (m / 20)
      · rw [b20_lo l, hB i l, hlo i (by omega)]
      · obtain ⟨q, j, hq, hj, rfl⟩ : ∃ q j, q < 5 ∧ j < 4 ∧ i = 20 * (m / 20) + 4 * q + j := ⟨(i - 20 * (m / 20)) / 4, (i - 20 * (m / 20)) % 4, by omega, by omega, by omega⟩
        have hw : w5 (r6 0) (r6 1) (r6 2) (r6 3) (r6 4) q = r6 q := by
          have : q = 0 ∨ q = 1 ∨ q = 2 ∨ q = 3 ∨ q = 4 := by omega
          rcases this with rfl | rfl | rfl | rfl | rfl <;> rfl
        rw [b20_at hq hj, hw, hr6 q hq, show min 4 (m % 20 + 1 - 4 * q) = 4 by omega, bK_at (fun j => htb _) hj]
  · refine ⟨f6, bs, hf6 _ (fun f9 h9 => ?_), ?_, ⟨r6, y6, by rw [hlen]; exact h65, fun q hq => ?_⟩, fun i hi => ?_, fun a ha hay => o6 a hay⟩
    · rw [h9, if_neg (fun z => c (by rw [n_0, nn_eq (by omega) (by omega)] at z; exact z))]
    · rw [hlen, show 20 * ((m + 1) / 20) = 20 * (m / 20) by omega]
      exact I6
    · rw [hlen, hr6 q hq, show (m + 1) / 20 = m / 20 by omega, show (m + 1) % 20 = m % 20 + 1 by omega]
    · rw [hlen] at hi
      rw [hB i (by omega), hlo i (by omega)]
end SY

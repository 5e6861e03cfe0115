/-! ===== writeLengths and outputByte: the law's cases 53 and 54 ===== -/
def o_app (s : Nat × (Nat → Int32)) (v : Int32) : Nat × (Nat → Int32) := (s.1 + 1, upd s.2 s.1 v)
def o_num (s : Nat × (Nat → Int32)) (w : Nat) : Nat × (Nat → Int32) := (s.1 + nd w, fun i => if s.1 ≤ i ∧ i < s.1 + nd w then dr w (s.1 + nd w - 1 - i) else s.2 i)
def o_W (k : Int32) (c : CS) (l : Nat) : Nat := (s_len k c l).toNatClampNeg
def o_lim (c : CS) : Nat := if cI c = 0 then 1 else 2
def o_wl (k : Int32) (c : CS) : Nat → Nat → Nat × (Nat → Int32) → Nat × (Nat → Int32)
  | 0, _, s => s
  | d + 1, l, s => if o_lim c < s_sticks c (l - 1) then o_wl k c d (l + 1) (o_num (o_app s 32) (o_W k c l)) else s
theorem o_W_b {k : Int32} {c : CS} (h : CoV c) (l : Nat) : s_len k c l = nn (o_W k c l) ∧ o_W k c l < 1000000 := by
  obtain ⟨h0, h1⟩ := s_len_b (k := k) (l := l) h
  have e : s_len k c l = nn (o_W k c l) := nn_of (by rw [i_le]; exact h0)
  refine ⟨e, ?_⟩
  have hc : o_W k c l < 2147483648 := Int32.toNatClampNeg_lt _
  rw [e, nn_i hc] at h1
  omega
/-- what is written is a byte below 128 -/
def o_ok (s : Nat × (Nat → Int32)) : Prop := ∀ i, i < s.1 → 0 ≤ (s.2 i).toInt ∧ (s.2 i).toInt < 128
theorem o_ok.app {s : Nat × (Nat → Int32)} (h : o_ok s) : o_ok (o_app s 32) := by
  intro i hi
  show 0 ≤ (upd s.2 s.1 32 i).toInt ∧ (upd s.2 s.1 32 i).toInt < 128
  by_cases q : i = s.1
  · rw [q, upd_s]; decide
  · rw [upd_n _ _ q]
    have hi : i < s.1 + 1 := hi
    exact h i (by omega)
theorem o_ok.num {s : Nat × (Nat → Int32)} (h : o_ok s) (w : Nat) : o_ok (o_num s w) := by
  intro i hi
  have hi : i < s.1 + nd w := hi
  show 0 ≤ (if s.1 ≤ i ∧ i < s.1 + nd w then dr w (s.1 + nd w - 1 - i) else s.2 i).toInt ∧ (if s.1 ≤ i ∧ i < s.1 + nd w then dr w (s.1 + nd w - 1 - i) else s.2 i).toInt < 128
  by_cases q : s.1 ≤ i ∧ i < s.1 + nd w
  · rw [if_pos q]
    unfold dr
    rw [nn_i (by omega)]
    omega
  · rw [if_neg q]; exact h i (by omega)
theorem o_ok.wl {k : Int32} {c : CS} : ∀ (d l : Nat) (s : Nat × (Nat → Int32)), o_ok s → l + d = 8 → s.1 + 1 ≤ 7 * l → o_ok (o_wl k c d l s) ∧ (o_wl k c d l s).1 ≤ 55 := by
  intro d
  induction d with
  | zero => intro l s h hl hs; exact ⟨h, by show s.1 ≤ 55; omega⟩
  | succ d ih =>
    intro l s h hl hs
    rw [o_wl]
    by_cases c1 : o_lim c < s_sticks c (l - 1)
    · rw [if_pos c1]
      have := nd_b (o_W k c l)
      exact ih (l + 1) _ (h.app.num _) (by omega) (by show s.1 + 1 + nd (o_W k c l) + 1 ≤ _; omega)
    · rw [if_neg c1]; exact ⟨h, by omega⟩
section WL
variable {V : Nat → Nat} {g f f0 fb : GH} {x m d n i : Nat} {z : Nat → Int32} {A : Nat → Nat → Int32} {T : TS} {c : CS}
/-! the reference's -/
def MO (z z1 : Nat → Int32) (A A1 : Nat → Nat → Int32) (s : Nat × (Nat → Int32)) : Prop := z1 11 = nn s.1 ∧ (∀ j, j < s.1 → A1 5 j = s.2 j) ∧ (∀ k, k ≠ 11 → z1 k = z k) ∧ ∀ j, j ≠ 5 → A1 j = A j
theorem MO.app {z z1 : Nat → Int32} {A A1 : Nat → Nat → Int32} {s : Nat × (Nat → Int32)} (h : MO z z1 A A1 s) (hs : s.1 < 100) : ∃ z2 A2, p_X8_write V g (mH V m 0 z1 A1 f0) m (32 : Int32) = some (mH V m 0 z2 A2 f0) ∧ MO z z2 A A2 (o_app s 32) := by
  obtain ⟨h1, h2, h3, h4⟩ := h
  refine ⟨_, _, M_write hs h1 32, upd_s _ _ _, fun j hj => ?_, fun k hk => (upd_n _ _ hk).trans (h3 k hk), fun j hj => (upA_n _ _ hj).trans (h4 j hj)⟩
  have hj : j < s.1 + 1 := hj
  rw [upA_s]
  show upd (A1 5) s.1 32 j = upd s.2 s.1 32 j
  by_cases q : j = s.1
  · rw [q, upd_s, upd_s]
  · rw [upd_n _ _ q, upd_n _ _ q]; exact h2 j (by omega)
theorem MO.num {z z1 : Nat → Int32} {A A1 : Nat → Nat → Int32} {s : Nat × (Nat → Int32)} (h : MO z z1 A A1 s) (hs : s.1 + 6 ≤ 100) {w : Nat} (hw : w < 1000000) : ∃ z2 A2, p_X8_writeNumber V g (mH V m 0 z1 A1 f0) m (nn w) = some (mH V m 0 z2 A2 f0) ∧ MO z z2 A A2 (o_num s w) := by
  obtain ⟨h1, h2, h3, h4⟩ := h
  obtain ⟨r, e1, e2, e3⟩ := M_wnum (V := V) (g := g) (m := m) (b := 0) (A := A1) (f0 := f0) hw h1 hs
  refine ⟨_, _, e1, upd_s _ _ _, fun j hj => ?_, fun k hk => (upd_n _ _ hk).trans (h3 k hk), fun j hj => (upA_n _ _ hj).trans (h4 j hj)⟩
  have hj : j < s.1 + nd w := hj
  rw [upA_s]
  show r j = if s.1 ≤ j ∧ j < s.1 + nd w then dr w (s.1 + nd w - 1 - j) else s.2 j
  by_cases q : s.1 ≤ j ∧ j < s.1 + nd w
  · rw [if_pos q, ← e3 _ (by omega)]; congr 1; omega
  · rw [if_neg q, e2 j (by omega)]; exact h2 j (by omega)
theorem M_last7 (a : Int32) : p_X8_isLastLevel V g (mH V m 0 z A f0) m a (nn 7) = some 1 := by
  unfold p_X8_isLastLevel
  rw [m_me, if_pos (show nn 7 = (7 : Int32) from rfl)]
theorem M_last (hi : i < tN T) (R : RT (A 0) T) (hv : TV T) {l : Nat} (hl : l < 7) : p_X8_isLastLevel V g (mH V m 0 z A f0) m (nn i) (nn l) = some (bz (decide (¬ o_lim (tC T i) < s_sticks (tC T i) l))) := by
  have cv := hv.2.2 i hi
  have h200 := s_sticks_200 (l := l) cv
  have h6 := hv.1
  unfold p_X8_isLastLevel
  rw [m_me]
  · rw [if_neg (fun e => by rw [n_7, nn_eq (by omega) (by omega)] at e; omega), M_sticks (by decide) (by omega) (R.2.2.2.2.2 i hi) cv.i01 (by have := cv.n1; omega) cv.n2 (show l < 8 by omega), ob_s, M_island (by decide) (by omega) (R.2.2.2.2.2 i hi) cv.i01, ob_s]
    unfold o_lim
    by_cases h0 : cI (tC T i) = 0
    · rw [if_pos h0, if_pos h0]
      by_cases h : 1 < s_sticks (tC T i) l
      · rw [if_pos (by rw [n_1, nn_lt (by omega) (by omega)]; exact h), decide_eq_false (fun q => q h)]; rfl
      · rw [if_neg (by rw [n_1, nn_lt (by omega) (by omega)]; exact h), decide_eq_true h]; rfl
    · rw [if_neg h0, if_neg h0]
      by_cases h : 2 < s_sticks (tC T i) l
      · rw [if_pos (by rw [n_2, nn_lt (by omega) (by omega)]; exact h), decide_eq_false (fun q => q h)]; rfl
      · rw [if_neg (by rw [n_2, nn_lt (by omega) (by omega)]; exact h), decide_eq_true h]; rfl
theorem M_now (hi : i < tN T) (R : RT (A 0) T) (hv : TV T) {l : Nat} (hl : l < 8) : p_X8_lengthNow V g (mH V m 0 z A f0) m (nn i) (nn l) = some (nn (o_W (tK T) (tC T i) l)) := by
  have cv := hv.2.2 i hi
  have h6 := hv.1
  rw [M_lenNow (by decide) (by omega) (R.2.2.2.2.2 i hi) cv.i01 (by have := cv.n1; omega) cv.n2 (R.k01 hv) hl, R.1, (o_W_b cv l).1]
theorem M_wl_l (hi : i < tN T) (R : RT (A 0) T) (hv : TV T) : ∀ (d N l : Nat) (s : Nat × (Nat → Int32)) (z1 : Nat → Int32) (A1 : Nat → Nat → Int32), l + d = 8 → d < N → 1 ≤ l → s.1 + 1 ≤ 7 * l → MO z z1 A A1 s → ∃ z2 A2, p_X8_writeLengths_l31 V g (fun x0 f => (h_gi f x0 10 11).bind fun v12 => some (v12, f)) N m (nn i) (nn l) (mH V m 0 z1 A1 f0) = some (nn (o_wl (tK T) (tC T i) d l s).1, mH V m 0 z2 A2 f0) ∧ MO z z2 A A2 (o_wl (tK T) (tC T i) d l s) := by
  have stop : ∀ (s : Nat × (Nat → Int32)) (z1 : Nat → Int32) (A1 : Nat → Nat → Int32), MO z z1 A A1 s → ((h_gi (mH V m 0 z1 A1 f0) m 10 11).bind fun v12 => some (v12, mH V m 0 z1 A1 f0)) = some (nn s.1, mH V m 0 z1 A1 f0) := fun s z1 A1 h => by rw [m_gi (k := 11) (by decide), ob_s, h.1]
  intro d
  induction d with
  | zero =>
    intro N l s z1 A1 hl hN h1 hs h
    obtain ⟨N, rfl⟩ : ∃ M, N = M + 1 := ⟨N - 1, by omega⟩
    have hR : RT (A1 0) T := by rw [h.2.2.2 0 (by decide)]; exact R
    rw [p_X8_writeLengths_l31, nn_p h1, show l - 1 = 7 by omega, M_last7, ob_s, if_neg (by decide)]
    exact ⟨z1, A1, stop s z1 A1 h, h⟩
  | succ d ih =>
    intro N l s z1 A1 hl hN h1 hs h
    obtain ⟨N, rfl⟩ : ∃ M, N = M + 1 := ⟨N - 1, by omega⟩
    have hR : RT (A1 0) T := by rw [h.2.2.2 0 (by decide)]; exact R
    rw [p_X8_writeLengths_l31, nn_p h1, M_last hi hR hv (by omega), ob_s, o_wl]
    by_cases c1 : o_lim (tC T i) < s_sticks (tC T i) (l - 1)
    · have hW := o_W_b (k := tK T) (hv.2.2 i hi) l
      have hn := nd_b (o_W (tK T) (tC T i) l)
      obtain ⟨z2, A2, e2, m2⟩ := h.app (V := V) (g := g) (m := m) (f0 := f0) (by omega)
      obtain ⟨z3, A3, e3, m3⟩ := m2.num (V := V) (g := g) (m := m) (f0 := f0) (by show s.1 + 1 + 6 ≤ 100; omega) hW.2
      obtain ⟨z4, A4, e4, m4⟩ := ih N (l + 1) _ z3 A3 (by omega) (by omega) (by omega) (by show s.1 + 1 + nd (o_W (tK T) (tC T i) l) + 1 ≤ _; omega) m3
      rw [decide_eq_false (fun q => q c1), if_pos bz_f, if_pos c1, e2, ob_s, M_now hi (by rw [m2.2.2.2 0 (by decide)]; exact R) hv (by omega), ob_s, e3, ob_s, nn_s]
      exact ⟨z4, A4, e4, m4⟩
    · rw [decide_eq_true c1, if_neg bz_tn, if_neg c1]
      exact ⟨z1, A1, stop s z1 A1 h, h⟩
def o_0 (k : Int32) (c : CS) : Nat × (Nat → Int32) := o_num (0, fun _ => 0) (o_W k c 0)
def o_all (k : Int32) (c : CS) : Nat × (Nat → Int32) := o_wl k c 7 1 (o_0 k c)
theorem o_all_ok {k : Int32} {c : CS} : o_ok (o_all k c) ∧ (o_all k c).1 ≤ 55 := by
  have := nd_b (o_W k c 0)
  exact o_ok.wl 7 1 (o_0 k c) (o_ok.num (fun i hi => absurd hi (Nat.not_lt_zero i)) _) rfl (by show 0 + nd (o_W k c 0) + 1 ≤ 7; omega)
theorem M_wl (hi : i < tN T) (R : RT (A 0) T) (hv : TV T) : ∃ z2 A2, p_X8_writeLengths V g (mH V m 0 z A f0) m (nn i) = some (nn (o_all (tK T) (tC T i)).1, mH V m 0 z2 A2 f0) ∧ MO (upd z 7 0) z2 A A2 (o_all (tK T) (tC T i)) := by
  have hW := o_W_b (k := tK T) (hv.2.2 i hi) 0
  have hn := nd_b (o_W (tK T) (tC T i) 0)
  have h0 : MO (upd z 7 0) (upd (upd z 7 0) 11 0) A A (0, fun _ => 0) := ⟨upd_s _ _ _, fun j hj => absurd hj (Nat.not_lt_zero j), fun k hk => upd_n _ _ hk, fun _ _ => rfl⟩
  obtain ⟨z3, A3, e3, m3⟩ := h0.num (V := V) (g := g) (m := m) (f0 := f0) (by decide) hW.2
  obtain ⟨z4, A4, e4, m4⟩ := M_wl_l (V := V) (g := g) (m := m) (f0 := f0) hi R hv 7 FU 1 _ z3 A3 rfl (by unfold FU; omega) (by decide) (by show 0 + nd (o_W (tK T) (tC T i) 0) + 1 ≤ 7; omega) m3
  refine ⟨z4, A4, ?_, m4⟩
  unfold p_X8_writeLengths
  rw [m_me, M_isCoast (by decide) R hv.1, ob_s, inC_nn (by have := hv.1; omega) hi, show bz true = (1 : Int32) from rfl, M_lacksT, ob_s, if_pos rfl, m_pt (k := 11) (by decide), ob_s]
  show ((p_X8_lengthNow V g (mH V m 0 (upd (upd z 7 0) 11 0) A f0) m (nn i) (nn 0)).bind _) = _
  rw [M_now hi R hv (by decide), ob_s, e3, ob_s]
  exact e4
/-! the class's -/
def CO (fb : GH) (x d : Nat) (f : GH) (n : Nat) (s : Nat × (Nat → Int32)) : Prop := (∃ va cap ml bs, SBC f x d n s.1 va cap ml bs ∧ ∀ j, j < s.1 → bs j = s.2 j) ∧ sbo x d fb f
theorem CO.app {s : Nat × (Nat → Int32)} (h : CO fb x d f n s) (hs : s.1 + 1 ≤ 99) : ∃ v f1 n1, p_J4_append_cf468 V g f n (x + 73) (32 : Int32) = some (v, f1, n1) ∧ CO fb x d f1 n1 (o_app s 32) := by
  obtain ⟨⟨va, cap, ml, bs, B, k⟩, o⟩ := h
  obtain ⟨v, f1, n1, va1, cap1, bs1, e1, B1, k1, k2, o1⟩ := J_app (V := V) (g := g) B hs
  refine ⟨v, f1, n1, e1, ⟨va1, cap1, ml, bs1, B1, fun j hj => ?_⟩, o.tr o1⟩
  have hj : j < s.1 + 1 := hj
  show bs1 j = upd s.2 s.1 32 j
  by_cases q : j = s.1
  · rw [q, upd_s, k2]
  · rw [upd_n _ _ q, k1 j (by omega)]; exact k j (by omega)
theorem CO.num (S : StOK V g) {s : Nat × (Nat → Int32)} (h : CO fb x d f n s) (hs : s.1 + 6 ≤ 99) {w : Nat} (hw : w < 1000000) : ∃ v f1 n1, p_J4_append_bf812 V g f n (x + 73) (nn w) = some (v, f1, n1) ∧ CO fb x d f1 n1 (o_num s w) := by
  obtain ⟨⟨va, cap, ml, bs, B, k⟩, o⟩ := h
  obtain ⟨v, f1, n1, va1, cap1, bs1, e1, B1, k1, k2, o1⟩ := J_appN (V := V) (g := g) S B hs hw
  refine ⟨v, f1, n1, e1, ⟨va1, cap1, ml, bs1, B1, fun j hj => ?_⟩, o.tr o1⟩
  have hj : j < s.1 + nd w := hj
  show bs1 j = if s.1 ≤ j ∧ j < s.1 + nd w then dr w (s.1 + nd w - 1 - j) else s.2 j
  by_cases q : s.1 ≤ j ∧ j < s.1 + nd w
  · rw [if_pos q, ← k2 _ (by omega)]; congr 1; omega
  · rw [if_neg q, k1 j (by omega)]; exact k j (by omega)
def o_stp (V : Nat → Nat) (g : GH) (x0 : Nat) (x2 : Nat) (x3 : Int32) (l : Int32) (next : GH → Nat → Option ((Nat × GH) ⊕ (Int32 × GH × Nat))) (f : GH) (n : Nat) : Option ((Nat × GH) ⊕ (Int32 × GH × Nat)) :=
  (p_X2_sticks V g f x2 (l - (1 : Int32))).bind fun v10 =>
  (if x3 < v10 then
    (h_gr f x0 9 12).bind fun v12 =>
    (p_J4_append_cf468 V g f n v12 (32 : Int32)).bind fun v13 =>
    (h_gr v13.2.1 x0 9 12).bind fun v14 =>
    (h_gr v13.2.1 x0 9 0).bind fun v15 =>
    (h_gi v13.2.1 v15 4 2).bind fun v16 =>
    (p_X2_measure V g v13.2.1 x2 l v16).bind fun v17 =>
    (p_J4_append_bf812 V g v13.2.1 v13.2.2 v14 v17).bind fun v18 =>
    next v18.2.1 v18.2.2
  else
    (h_gr f x0 9 12).bind fun v87 =>
    (p_J4_length_8abf5 V g f v87).bind fun v88 =>
    some (.inr (v88, f, n)))
theorem C_stp (S : StOK V g) {hs pc pn : Int32} {q : Nat} (X : XoA fb x hs pc pn) (C : ChA fb (x + 1) T) (hq : CoA fb q 129 c) (hq1 : x + 3 ≤ q ∧ q + 3 ≤ x + 21) (cv : CoV c) {next : GH → Nat → Option ((Nat × GH) ⊕ (Int32 × GH × Nat))} {e l : Nat} (hl : l + e = 7) (h1 : 1 ≤ l) (hx : x + 74 ≤ d)
    (hn : ∀ f1 n1 s1, CO fb x d f1 n1 s1 → s1.1 + 1 ≤ 7 * (l + 1) → ∃ f2 n2, next f1 n1 = some (.inr (nn (o_wl (tK T) c e (l + 1) s1).1, f2, n2)) ∧ CO fb x d f2 n2 (o_wl (tK T) c e (l + 1) s1)) {s : Nat × (Nat → Int32)} (h : CO fb x d f n s) (hz : s.1 + 1 ≤ 7 * l) :
    ∃ f2 n2, o_stp V g x q (nn (o_lim c)) (nn l) next f n = some (.inr (nn (o_wl (tK T) c (e + 1) l s).1, f2, n2)) ∧ CO fb x d f2 n2 (o_wl (tK T) c (e + 1) l s) := by
  have hlim : o_lim c ≤ 2 := by unfold o_lim; split <;> omega
  have h200 := s_sticks_200 (l := l - 1) cv
  have hW := o_W_b (k := tK T) cv l
  have hnd := nd_b (o_W (tK T) c l)
  have fX : ∀ f1, sbo x d fb f1 → XoA f1 x hs pc pn := fun f1 o => X.fr (o x (by omega) (by omega) (by omega))
  have fC : ∀ f1, sbo x d fb f1 → ChA f1 (x + 1) T := fun f1 o => C.frame (fun a h1 h2 => o a (by omega) (by omega) (by omega))
  have fq : ∀ f1, sbo x d fb f1 → CoA f1 q 129 c := fun f1 o => hq.frame (fun a h1 h2 => o a (by omega) (by omega) (by omega))
  have n1 := cv.n1
  unfold o_stp
  rw [nn_p h1, C_sticks (fq f h.2) (by omega) (by omega), ob_s, o_wl]
  by_cases c1 : o_lim c < s_sticks c (l - 1)
  · obtain ⟨v2, f2, n2, e2, C2⟩ := h.app (V := V) (g := g) (by omega)
    obtain ⟨v3, f3, n3, e3, C3⟩ := C2.num (V := V) (g := g) S (by show s.1 + 1 + 6 ≤ 99; omega) hW.2
    obtain ⟨f4, n4, e4, C4⟩ := hn f3 n3 _ C3 (by show s.1 + 1 + nd (o_W (tK T) c l) + 1 ≤ _; omega)
    rw [if_pos (by rw [nn_lt (by omega) (by omega)]; exact c1), if_pos c1, (fX f h.2).ou, ob_s, e2, ob_s]
    dsimp only
    rw [(fX f2 C2.2).ou, ob_s, (fX f2 C2.2).ch, ob_s, (fC f2 C2.2).k, ob_s, C_len (fq f2 C2.2) (by omega) (by omega), ob_s, hW.1, e3, ob_s]
    exact ⟨f4, n4, e4, C4⟩
  · obtain ⟨⟨va, cap, ml, bs, B, k⟩, o⟩ := id h
    rw [if_neg (by rw [nn_lt (by omega) (by omega)]; exact c1), if_neg c1, (fX f h.2).ou, ob_s, J_cnt B, ob_s]
    exact ⟨f, n, rfl, h⟩
theorem C_wl (S : StOK V g) {hs pc pn : Int32} {va cap ol : Nat} {ml : Int32} {bs : Nat → Int32} (X : XoA f x hs pc pn) (C : ChA f (x + 1) T) (hv : TV T) (hi : i < tN T) (B : SBC f x d n ol va cap ml bs) : ∃ f2 n2, p_X7_writeLengths V g f n x (nn i) = some (.inr (nn (o_all (tK T) (tC T i)).1, f2, n2)) ∧ CO f x d f2 n2 (o_all (tK T) (tC T i)) := by
  have h6 := hv.1
  have cv := hv.2.2 i hi
  have n1 := cv.n1
  obtain ⟨q, q1, q2, q3⟩ := P_at (V := V) (g := g) X C (inC_nn (by omega) hi)
  rw [ix_nn (by omega)] at q2
  have hx : x + 74 ≤ d := B.2.2.2.2.2.2.2.1
  have hW := o_W_b (k := tK T) cv 0
  have hnd := nd_b (o_W (tK T) (tC T i) 0)
  obtain ⟨f1, m1, e1, B1, o1⟩ := J_set0 (V := V) (g := g) B
  have c0 : CO f x d f1 n (0, fun _ => 0) := ⟨⟨va, cap, m1, bs, B1, fun j hj => absurd hj (Nat.not_lt_zero j)⟩, o1⟩
  obtain ⟨v2, f2, n2, e2, C2⟩ := c0.num (V := V) (g := g) S (by decide) hW.2
  have X1 : XoA f1 x hs pc pn := X.fr (o1 x (by omega) (by omega) (by omega))
  have hA1 : ChA f1 (x + 1) T := C.frame (fun a h1 h2 => o1 a (by omega) (by omega) (by omega))
  have hq1 : CoA f1 q 129 (tC T i) := q2.frame (fun a h1 h2 => o1 a (by omega) (by omega) (by omega))
  have t8 : ∀ f1 n1 s1, CO f x d f1 n1 s1 → s1.1 + 1 ≤ 7 * (7 + 1) → ∃ f2 n2, p_X7_writeLengths_s8 V g x q (nn (o_lim (tC T i))) f1 n1 = some (.inr (nn (o_wl (tK T) (tC T i) 0 (7 + 1) s1).1, f2, n2)) ∧ CO f x d f2 n2 (o_wl (tK T) (tC T i) 0 (7 + 1) s1) := by
    intro f1 n1 s1 h _
    obtain ⟨⟨va, cap, ml, bs, B, k⟩, o⟩ := id h
    refine ⟨f1, n1, ?_, h⟩
    unfold p_X7_writeLengths_s8
    rw [(show XoA f1 x hs pc pn from X.fr (o x (by omega) (by omega) (by omega))).ou, ob_s, J_cnt B, ob_s]
    rfl
  have t7 := fun f1 n1 s1 h hs => C_stp (V := V) (g := g) (f := f1) (n := n1) (s := s1) S X C q2 q3 cv (e := 0) (l := 7) rfl (by decide) hx t8 h hs
  have t6 := fun f1 n1 s1 h hs => C_stp (V := V) (g := g) (f := f1) (n := n1) (s := s1) (next := p_X7_writeLengths_s7 V g x q (nn (o_lim (tC T i)))) S X C q2 q3 cv (e := 1) (l := 6) rfl (by decide) hx t7 h hs
  have t5 := fun f1 n1 s1 h hs => C_stp (V := V) (g := g) (f := f1) (n := n1) (s := s1) (next := p_X7_writeLengths_s6 V g x q (nn (o_lim (tC T i)))) S X C q2 q3 cv (e := 2) (l := 5) rfl (by decide) hx t6 h hs
  have t4 := fun f1 n1 s1 h hs => C_stp (V := V) (g := g) (f := f1) (n := n1) (s := s1) (next := p_X7_writeLengths_s5 V g x q (nn (o_lim (tC T i)))) S X C q2 q3 cv (e := 3) (l := 4) rfl (by decide) hx t5 h hs
  have t3 := fun f1 n1 s1 h hs => C_stp (V := V) (g := g) (f := f1) (n := n1) (s := s1) (next := p_X7_writeLengths_s4 V g x q (nn (o_lim (tC T i)))) S X C q2 q3 cv (e := 4) (l := 3) rfl (by decide) hx t4 h hs
  have t2 := fun f1 n1 s1 h hs => C_stp (V := V) (g := g) (f := f1) (n := n1) (s := s1) (next := p_X7_writeLengths_s3 V g x q (nn (o_lim (tC T i)))) S X C q2 q3 cv (e := 5) (l := 2) rfl (by decide) hx t3 h hs
  obtain ⟨f3, n3, e3, C3⟩ := C_stp (V := V) (g := g) (f := f2) (n := n2) (next := p_X7_writeLengths_s2 V g x q (nn (o_lim (tC T i)))) S X C q2 q3 cv (e := 6) (l := 1) rfl (by decide) hx t2 C2 (by show 0 + nd (o_W (tK T) (tC T i) 0) + 1 ≤ 7; omega)
  refine ⟨f3, n3, ?_, C3⟩
  have hj : p_X7_writeLengths_j18 V g x q (nn (o_lim (tC T i))) f n = some (.inr (nn (o_all (tK T) (tC T i)).1, f3, n3)) := by
    unfold p_X7_writeLengths_j18
    rw [X.ou, ob_s, e1, ob_s]
    dsimp only
    rw [X1.ou, ob_s, X1.ch, ob_s, hA1.k, ob_s, n_0, C_len hq1 (by omega) (by decide), ob_s, hW.1, e2, ob_s]
    exact e3
  unfold p_X7_writeLengths
  rw [X.me, q1, xb_r, hgi_of q2.1 rfl, ob_s]
  unfold o_lim at hj
  by_cases h0 : cI (tC T i) = 0
  · rw [if_pos h0]
    rw [if_pos h0] at hj
    exact hj
  · rw [if_neg h0]
    rw [if_neg h0] at hj
    exact hj
end WL

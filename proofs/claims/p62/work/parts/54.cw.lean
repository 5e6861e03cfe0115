/-! ===== the class's coastlines: writes ===== -/
def cH (q cap : Nat) (i n : Int32) (xa ya : Nat → Int32) (f0 : GH) : GH := fun a =>
  if a = q then some (.inr (5, [.ref (q + 1), .ref (q + 2), .int n, .int i])) else if a = q + 1 then some (.inl (0, cap, .inl xa)) else if a = q + 2 then some (.inl (0, cap, .inl ya)) else f0 a
section CH
variable {V : Nat → Nat} {g f f0 : GH} {q cap : Nat} {i n : Int32} {xa ya : Nat → Int32} {c : CS}
theorem cH_o : cH q cap i n xa ya f0 q = some (.inr (5, [.ref (q + 1), .ref (q + 2), .int n, .int i])) := by simp [cH]
theorem cH_x : cH q cap i n xa ya f0 (q + 1) = some (.inl (0, cap, .inl xa)) := by simp [cH]
theorem cH_y : cH q cap i n xa ya f0 (q + 2) = some (.inl (0, cap, .inl ya)) := by simp [cH]
theorem cH_out : h_out q (q + 3) f0 (cH q cap i n xa ya f0) := by
  intro a ha
  unfold cH
  rw [if_neg (by omega), if_neg (by omega), if_neg (by omega)]
theorem cH_id (h1 : f q = some (.inr (5, [.ref (q + 1), .ref (q + 2), .int n, .int i]))) (h2 : f (q + 1) = some (.inl (0, cap, .inl xa))) (h3 : f (q + 2) = some (.inl (0, cap, .inl ya))) : f = cH q cap i n xa ya f := by
  funext a
  unfold cH
  split
  · rename_i h
    rw [h, h1]
  · split
    · rename_i h
      rw [h, h2]
    · split
      · rename_i h
        rw [h, h3]
      · rfl
theorem CoA.arr (h : CoA f q cap c) : ∃ xa ya : Nat → Int32, f = cH q cap (cI c) (nn (cN c)) xa ya f ∧ (∀ k, k < cN c → xa k = cX c k) ∧ ∀ k, k < cN c → ya k = cY c k := by
  obtain ⟨h1, ⟨xa, h2, h3⟩, ⟨ya, h4, h5⟩, -⟩ := h
  exact ⟨xa, ya, cH_id h1 h2 h4, h3, h5⟩
theorem cH_CoA {c : CS} (h0 : cN c ≤ cap) (h1 : cap ≤ 200) (hx : ∀ k, k < cN c → xa k = cX c k) (hy : ∀ k, k < cN c → ya k = cY c k) : CoA (cH q cap (cI c) (nn (cN c)) xa ya f0) q cap c :=
  ⟨cH_o, ⟨xa, cH_x, hx⟩, ⟨ya, cH_y, hy⟩, h0, h1⟩
theorem c_me {α : Type} (k : Option α) : h_me (cH q cap i n xa ya f0) q 5 k = k := hme_of cH_o k
theorem c_xs : h_gr (cH q cap i n xa ya f0) q 5 0 = some (q + 1) := hgr_of cH_o rfl
theorem c_ys : h_gr (cH q cap i n xa ya f0) q 5 1 = some (q + 2) := hgr_of cH_o rfl
theorem c_n : h_gi (cH q cap i n xa ya f0) q 5 2 = some n := hgi_of cH_o rfl
theorem c_i : h_gi (cH q cap i n xa ya f0) q 5 3 = some i := hgi_of cH_o rfl
theorem c_lx {k : Nat} (h : k < cap) (hb : cap ≤ 200) : h_li (cH q cap i n xa ya f0) (q + 1) 0 (nn k) = some (xa k) := hli_of cH_x h (by omega)
theorem c_ly {k : Nat} (h : k < cap) (hb : cap ≤ 200) : h_li (cH q cap i n xa ya f0) (q + 2) 0 (nn k) = some (ya k) := hli_of cH_y h (by omega)
theorem cH_upx {r : Nat → Int32} : h_up (cH q cap i n xa ya f0) (q + 1) (.inl (0, cap, .inl r)) = cH q cap i n r ya f0 := by
  funext a
  by_cases h : a = q + 1
  · subst h
    rw [h_up_s, cH_x]
  · rw [h_up_n _ _ h]
    simp only [cH, if_neg h]
theorem cH_upy {r : Nat → Int32} : h_up (cH q cap i n xa ya f0) (q + 2) (.inl (0, cap, .inl r)) = cH q cap i n xa r f0 := by
  funext a
  by_cases h : a = q + 2
  · subst h
    rw [h_up_s, cH_y]
  · rw [h_up_n _ _ h]
    simp only [cH, if_neg h]
theorem cH_upo {i1 n1 : Int32} : h_up (cH q cap i n xa ya f0) q (.inr (5, [.ref (q + 1), .ref (q + 2), .int n1, .int i1])) = cH q cap i1 n1 xa ya f0 := by
  funext a
  by_cases h : a = q
  · subst h
    rw [h_up_s, cH_o]
  · rw [h_up_n _ _ h]
    simp only [cH, if_neg h]
theorem c_sx {k : Nat} {v : Int32} (h : k < cap) (hb : cap ≤ 200) : h_si (cH q cap i n xa ya f0) (q + 1) 0 (nn k) v = some (cH q cap i n (upd xa k v) ya f0) := by rw [hsi_of cH_x h (by omega), cH_upx]
theorem c_sy {k : Nat} {v : Int32} (h : k < cap) (hb : cap ≤ 200) : h_si (cH q cap i n xa ya f0) (q + 2) 0 (nn k) v = some (cH q cap i n xa (upd ya k v) f0) := by rw [hsi_of cH_y h (by omega), cH_upy]
theorem c_cx {sp dp k : Nat} (h0 : sp + k ≤ cap) (h1 : dp + k ≤ cap) (hb : cap ≤ 200) : h_cp (cH q cap i n xa ya f0) 0 (q + 1) (nn sp) (q + 1) (nn dp) (nn k) = some (cH q cap i n (va_cpy xa xa sp dp k) ya f0) := by rw [hcp_of cH_x cH_x h0 h1 (by omega) (by omega), cH_upx]
theorem c_cy {sp dp k : Nat} (h0 : sp + k ≤ cap) (h1 : dp + k ≤ cap) (hb : cap ≤ 200) : h_cp (cH q cap i n xa ya f0) 0 (q + 2) (nn sp) (q + 2) (nn dp) (nn k) = some (cH q cap i n xa (va_cpy ya ya sp dp k) f0) := by rw [hcp_of cH_y cH_y h0 h1 (by omega) (by omega), cH_upy]
theorem c_pn {v : Int32} : h_pt (cH q cap i n xa ya f0) q 5 2 (.int v) = some (cH q cap i v xa ya f0) := by
  rw [hpt_of cH_o (by decide : 2 < 4)]
  exact congrArg some cH_upo
theorem c_pi {v : Int32} : h_pt (cH q cap i n xa ya f0) q 5 3 (.int v) = some (cH q cap v n xa ya f0) := by
  rw [hpt_of cH_o (by decide : 3 < 4)]
  exact congrArg some cH_upo
theorem cpy_in {r s : Nat → Int32} {sp dp k j : Nat} (h : dp ≤ j) (h1 : j < dp + k) : va_cpy r s sp dp k j = r (sp + (j - dp)) := by simp [va_cpy, h, h1]
theorem cpy_out {r s : Nat → Int32} {sp dp k j : Nat} (h : j < dp ∨ dp + k ≤ j) : va_cpy r s sp dp k j = s j := by
  unfold va_cpy
  rw [if_neg (by omega)]
/-- a new point -/
def s_ins (c : CS) (p : Nat) (x y : Int32) : CS := (cI c, cN c + 1, fun k => if k < p then cX c k else if k = p then x else cX c (k - 1), fun k => if k < p then cY c k else if k = p then y else cY c (k - 1))
theorem ins_at {X xa : Nat → Int32} {n p : Nat} (x : Int32) (hp : p ≤ n) (h : ∀ k, k < n → xa k = X k) : ∀ k, k < n + 1 → upd (va_cpy xa xa p (p + 1) (n - p)) p x k = if k < p then X k else if k = p then x else X (k - 1) := by
  intro k hk
  by_cases h1 : k < p
  · rw [if_pos h1, upd_n _ _ (by omega), cpy_out (by omega), h k (by omega)]
  · rw [if_neg h1]
    by_cases h2 : k = p
    · rw [if_pos h2, h2, upd_s]
    · rw [if_neg h2, upd_n _ _ h2, cpy_in (by omega) (by omega), show p + (k - (p + 1)) = k - 1 by omega, h _ (by omega)]
theorem C_ins (h : CoA f q cap c) {p : Nat} (hp : p ≤ cN c) (hn : cN c + 1 ≤ cap) (x y : Int32) : ∃ f1, p_X2_insert V g f q (nn p) x y = some f1 ∧ CoA f1 q cap (s_ins c p x y) ∧ h_out q (q + 3) f f1 := by
  have hb := h.2.2.2.2
  obtain ⟨xa, ya, e, hx, hy⟩ := h.arr
  refine ⟨cH q cap (cI c) (nn (cN c + 1)) (upd (va_cpy xa xa p (p + 1) (cN c - p)) p x) (upd (va_cpy ya ya p (p + 1) (cN c - p)) p y) f, ?_, cH_CoA (c := s_ins c p x y) hn hb (ins_at x hp hx) (ins_at y hp hy), cH_out⟩
  rw [e]
  unfold p_X2_insert
  simp only [c_me, c_xs, c_ys, c_n, ob_s, nn_s, nn_sub hp]
  rw [c_cx (by omega) (by omega) hb, ob_s]
  simp only [c_xs, c_ys, c_n, ob_s, nn_sub hp]
  rw [c_cy (by omega) (by omega) hb, ob_s]
  simp only [c_xs, c_ys, c_n, ob_s]
  rw [c_sx (by omega) hb, ob_s]
  simp only [c_xs, c_ys, c_n, ob_s]
  rw [c_sy (by omega) hb, ob_s, c_n, ob_s, c_pn, ob_s, nn_s]
  rw [← e]
theorem drop_at {X xa : Nat → Int32} {n p : Nat} (hp : p < n) (h : ∀ k, k < n → xa k = X k) : ∀ k, k < n - 1 → va_cpy xa xa (p + 1) p (n - p - 1) k = if k < p then X k else X (k + 1) := by
  intro k hk
  by_cases h1 : k < p
  · rw [if_pos h1, cpy_out (by omega), h k (by omega)]
  · rw [if_neg h1, cpy_in (by omega) (by omega), show p + 1 + (k - p) = k + 1 by omega, h _ (by omega)]
theorem C_drop (h : CoA f q cap c) {p : Nat} (hp : p < cN c) : ∃ f1, p_X2_drop V g f q (nn p) = some f1 ∧ CoA f1 q cap (s_cut c p) ∧ h_out q (q + 3) f f1 := by
  have hb := h.2.2.2.2
  have hc := h.2.2.2.1
  obtain ⟨xa, ya, e, hx, hy⟩ := h.arr
  refine ⟨cH q cap (cI c) (nn (cN c - 1)) (va_cpy xa xa (p + 1) p (cN c - p - 1)) (va_cpy ya ya (p + 1) p (cN c - p - 1)) f, ?_, cH_CoA (c := s_cut c p) (show cN c - 1 ≤ cap by omega) hb (drop_at hp hx) (drop_at hp hy), cH_out⟩
  rw [e]
  unfold p_X2_drop
  simp only [c_me, c_xs, c_ys, c_n, ob_s, nn_s, nn_sub (show p ≤ cN c by omega), nn_p (show 1 ≤ cN c - p by omega)]
  rw [c_cx (by omega) (by omega) hb, ob_s]
  simp only [c_xs, c_ys, c_n, ob_s, nn_sub (show p ≤ cN c by omega), nn_p (show 1 ≤ cN c - p by omega)]
  rw [c_cy (by omega) (by omega) hb, ob_s, c_n, ob_s, nn_p (by omega), c_pn, ob_s]
  rw [← e]
def s_unf (c : CS) : CS := (cI c, (cN c + 1) / 2, fun k => cX c (2 * k), fun k => cY c (2 * k))
theorem C_left (h : CoA f q cap c) : p_X2_pointsAfterUnfold V g f q = some (nn ((cN c + 1) / 2)) := by
  have hb := h.nb
  unfold p_X2_pointsAfterUnfold
  simp only [h.me, h.n, ob_s, nn_s]
  rw [n_1, nn_31 (by decide), nn_shr (by omega) (by decide)]
theorem C_unf_l {N0 : Nat} (hN0 : N0 ≤ cap) (hb : cap ≤ 200) (X Y : Nat → Int32) (L : Nat) (hL : 2 * L ≤ N0 + 1) : ∀ (d N t : Nat) (xa ya : Nat → Int32), t + d = L → d < N → (∀ k, k < t → xa k = X (2 * k)) → (∀ k, t ≤ k → k < N0 → xa k = X k) → (∀ k, k < t → ya k = Y (2 * k)) → (∀ k, t ≤ k → k < N0 → ya k = Y k) →
    ∃ xb yb : Nat → Int32, p_X2_dropOddPoints_l7 V g (fun x0 x1 f => (h_pt f x0 5 2 (.int x1)).bind fun f11 => some f11) N q (nn L) (nn t) (cH q cap i n xa ya f0) = some (cH q cap i (nn L) xb yb f0) ∧ (∀ k, k < L → xb k = X (2 * k)) ∧ ∀ k, k < L → yb k = Y (2 * k) := by
  intro d
  induction d with
  | zero =>
    intro N t xa ya he hN h1 h2 h3 h4
    obtain ⟨N, rfl⟩ : ∃ M, N = M + 1 := ⟨N - 1, by omega⟩
    have : t = L := by omega
    subst this
    refine ⟨xa, ya, ?_, h1, h3⟩
    rw [p_X2_dropOddPoints_l7, if_pos (Int32.le_refl _), c_pn, ob_s]
  | succ d ih =>
    intro N t xa ya he hN h1 h2 h3 h4
    obtain ⟨N, rfl⟩ : ∃ M, N = M + 1 := ⟨N - 1, by omega⟩
    have e1 : xa (2 * t) = X (2 * t) := by
      by_cases q : t = 0
      · subst q
        exact h2 0 (by omega) (by omega)
      · exact h2 (2 * t) (by omega) (by omega)
    have e2 : ya (2 * t) = Y (2 * t) := by
      by_cases q : t = 0
      · subst q
        exact h4 0 (by omega) (by omega)
      · exact h4 (2 * t) (by omega) (by omega)
    rw [p_X2_dropOddPoints_l7, if_neg (by rw [nn_le (by omega) (by omega)]; omega)]
    simp only [c_xs, c_ys, ob_s, nn_d]
    rw [c_lx (by omega) hb, ob_s, c_sx (by omega) hb, ob_s]
    simp only [c_xs, c_ys, ob_s]
    rw [c_ly (by omega) hb, ob_s, c_sy (by omega) hb, ob_s, nn_s]
    refine ih N (t + 1) _ _ (by omega) (by omega) ?_ ?_ ?_ ?_
    · intro k hk
      by_cases q : k = t
      · rw [q, upd_s, e1]
      · rw [upd_n _ _ q, h1 k (by omega)]
    · intro k hk hk2
      rw [upd_n _ _ (by omega), h2 k (by omega) hk2]
    · intro k hk
      by_cases q : k = t
      · rw [q, upd_s, e2]
      · rw [upd_n _ _ q, h3 k (by omega)]
    · intro k hk hk2
      rw [upd_n _ _ (by omega), h4 k (by omega) hk2]
theorem C_unf (h : CoA f q cap c) (hn : 1 ≤ cN c) : ∃ f1, p_X2_dropOddPoints V g f q = some f1 ∧ CoA f1 q cap (s_unf c) ∧ h_out q (q + 3) f f1 := by
  have hb := h.2.2.2.2
  have hc := h.2.2.2.1
  have hl := C_left (V := V) (g := g) h
  obtain ⟨xa, ya, e, hx, hy⟩ := h.arr
  obtain ⟨xb, yb, e1, h1, h2⟩ := C_unf_l (V := V) (g := g) (q := q) (i := cI c) (n := nn (cN c)) (f0 := f) hc hb (cX c) (cY c) ((cN c + 1) / 2) (by omega) ((cN c + 1) / 2) FU 0 xa ya (by omega) (by unfold FU; omega) (fun k hk => by omega) (fun k _ hk => hx k hk) (fun k hk => by omega) (fun k _ hk => hy k hk)
  refine ⟨_, ?_, cH_CoA (c := s_unf c) (f0 := f) (show (cN c + 1) / 2 ≤ cap by omega) hb h1 h2, cH_out⟩
  unfold p_X2_dropOddPoints
  rw [h.me, hl, ob_s, n_0]
  rw [← e] at e1
  exact e1
def s_mv (c : CS) (dx dy : Int32) : CS := (cI c, cN c, fun k => cX c k + dx, fun k => cY c k + dy)
theorem C_slide_l {N0 : Nat} (hN0 : N0 ≤ cap) (hb : cap ≤ 200) (X Y : Nat → Int32) (dx dy : Int32) : ∀ (d N t : Nat) (xa ya : Nat → Int32), t + d = N0 → d < N → (∀ k, k < t → xa k = X k + dx) → (∀ k, t ≤ k → k < N0 → xa k = X k) → (∀ k, k < t → ya k = Y k + dy) → (∀ k, t ≤ k → k < N0 → ya k = Y k) →
    ∃ xb yb : Nat → Int32, p_X2_slide_l2 V g (fun f => some f) N q dx dy (nn t) (cH q cap i (nn N0) xa ya f0) = some (cH q cap i (nn N0) xb yb f0) ∧ (∀ k, k < N0 → xb k = X k + dx) ∧ ∀ k, k < N0 → yb k = Y k + dy := by
  intro d
  induction d with
  | zero =>
    intro N t xa ya he hN h1 h2 h3 h4
    obtain ⟨N, rfl⟩ : ∃ M, N = M + 1 := ⟨N - 1, by omega⟩
    have : t = N0 := by omega
    subst this
    refine ⟨xa, ya, ?_, h1, h3⟩
    rw [p_X2_slide_l2, c_n, ob_s, if_pos (Int32.le_refl _)]
  | succ d ih =>
    intro N t xa ya he hN h1 h2 h3 h4
    obtain ⟨N, rfl⟩ : ∃ M, N = M + 1 := ⟨N - 1, by omega⟩
    rw [p_X2_slide_l2, c_n, ob_s, if_neg (by rw [nn_le (by omega) (by omega)]; omega)]
    simp only [c_xs, c_ys, ob_s]
    rw [c_lx (by omega) hb, ob_s, c_sx (by omega) hb, ob_s]
    simp only [c_xs, c_ys, ob_s]
    rw [c_ly (by omega) hb, ob_s, c_sy (by omega) hb, ob_s, nn_s]
    refine ih N (t + 1) _ _ (by omega) (by omega) ?_ ?_ ?_ ?_
    · intro k hk
      by_cases q : k = t
      · rw [q, upd_s, h2 t (by omega) (by omega)]
      · rw [upd_n _ _ q, h1 k (by omega)]
    · intro k hk hk2
      rw [upd_n _ _ (by omega), h2 k (by omega) hk2]
    · intro k hk
      by_cases q : k = t
      · rw [q, upd_s, h4 t (by omega) (by omega)]
      · rw [upd_n _ _ q, h3 k (by omega)]
    · intro k hk hk2
      rw [upd_n _ _ (by omega), h4 k (by omega) hk2]
theorem C_slide (h : CoA f q cap c) (dx dy : Int32) : ∃ f1, p_X2_slide V g f q dx dy = some f1 ∧ CoA f1 q cap (s_mv c dx dy) ∧ h_out q (q + 3) f f1 := by
  have hb := h.2.2.2.2
  have hc := h.2.2.2.1
  have hm := h.me (α := GH)
  obtain ⟨xa, ya, e, hx, hy⟩ := h.arr
  obtain ⟨xb, yb, e1, h1, h2⟩ := C_slide_l (V := V) (g := g) (q := q) (i := cI c) (f0 := f) hc hb (cX c) (cY c) dx dy (cN c) FU 0 xa ya (by omega) (by unfold FU; omega) (fun k hk => by omega) (fun k _ hk => hx k hk) (fun k hk => by omega) (fun k _ hk => hy k hk)
  refine ⟨_, ?_, cH_CoA (c := s_mv c dx dy) (f0 := f) hc hb h1 h2, cH_out⟩
  unfold p_X2_slide
  rw [hm, n_0]
  rw [← e] at e1
  exact e1
def s_rev (c : CS) : CS := (cI c, cN c, fun k => cX c (cN c - 1 - k), fun k => cY c (cN c - 1 - k))
theorem nn_dm {k : Nat} (h : 1 ≤ k) : nn k + (-1 : Int32) = nn (k - 1) := by
  obtain ⟨j, rfl⟩ : ∃ j, k = j + 1 := ⟨k - 1, by omega⟩
  rw [nn_pm, Nat.add_sub_cancel]
theorem C_rev_l {N0 : Nat} (hN0 : N0 ≤ cap) (hb : cap ≤ 200) (X Y : Nat → Int32) : ∀ (d N t u : Nat) (xa ya : Nat → Int32), t + u + 1 = N0 → u ≤ t + d → d < N → (∀ k, k < N0 → (k < t ∨ u < k) → xa k = X (N0 - 1 - k)) → (∀ k, t ≤ k → k ≤ u → xa k = X k) → (∀ k, k < N0 → (k < t ∨ u < k) → ya k = Y (N0 - 1 - k)) → (∀ k, t ≤ k → k ≤ u → ya k = Y k) →
    ∃ xb yb : Nat → Int32, p_X2_turnAround_l9 V g (fun f => some f) N q (nn t) (nn u) (cH q cap i n xa ya f0) = some (cH q cap i n xb yb f0) ∧ (∀ k, k < N0 → xb k = X (N0 - 1 - k)) ∧ ∀ k, k < N0 → yb k = Y (N0 - 1 - k) := by
  intro d
  induction d with
  | zero =>
    intro N t u xa ya he hd hN h1 h2 h3 h4
    obtain ⟨N, rfl⟩ : ∃ M, N = M + 1 := ⟨N - 1, by omega⟩
    refine ⟨xa, ya, ?_, ?_, ?_⟩
    · rw [p_X2_turnAround_l9, if_pos (by rw [nn_le (by omega) (by omega)]; omega)]
    · intro k hk
      by_cases q : k < t ∨ u < k
      · exact h1 k hk q
      · rw [h2 k (by omega) (by omega)]
        congr 1
        omega
    · intro k hk
      by_cases q : k < t ∨ u < k
      · exact h3 k hk q
      · rw [h4 k (by omega) (by omega)]
        congr 1
        omega
  | succ d ih =>
    intro N t u xa ya he hd hN h1 h2 h3 h4
    obtain ⟨N, rfl⟩ : ∃ M, N = M + 1 := ⟨N - 1, by omega⟩
    by_cases hlt : t < u
    · rw [p_X2_turnAround_l9, if_neg (by rw [nn_le (by omega) (by omega)]; omega)]
      simp only [c_xs, c_ys, ob_s]
      rw [c_lx (by omega) hb, ob_s, c_ly (by omega) hb, ob_s, c_lx (by omega) hb, ob_s, c_sx (by omega) hb, ob_s]
      simp only [c_xs, c_ys, ob_s]
      rw [c_ly (by omega) hb, ob_s, c_sy (by omega) hb, ob_s]
      simp only [c_xs, c_ys, ob_s]
      rw [c_sx (by omega) hb, ob_s]
      simp only [c_xs, c_ys, ob_s]
      rw [c_sy (by omega) hb, ob_s, nn_s, nn_dm (by omega)]
      refine ih N (t + 1) (u - 1) _ _ (by omega) (by omega) (by omega) ?_ ?_ ?_ ?_
      · intro k hk hk2
        by_cases q : k = u
        · rw [q, upd_s, h2 t (by omega) (by omega)]
          congr 1
          omega
        · rw [upd_n _ _ q]
          by_cases q2 : k = t
          · rw [q2, upd_s, h2 u (by omega) (by omega)]
            congr 1
            omega
          · rw [upd_n _ _ q2, h1 k hk (by omega)]
      · intro k hk hk2
        rw [upd_n _ _ (by omega), upd_n _ _ (by omega), h2 k (by omega) (by omega)]
      · intro k hk hk2
        by_cases q : k = u
        · rw [q, upd_s, h4 t (by omega) (by omega)]
          congr 1
          omega
        · rw [upd_n _ _ q]
          by_cases q2 : k = t
          · rw [q2, upd_s, h4 u (by omega) (by omega)]
            congr 1
            omega
          · rw [upd_n _ _ q2, h3 k hk (by omega)]
      · intro k hk hk2
        rw [upd_n _ _ (by omega), upd_n _ _ (by omega), h4 k (by omega) (by omega)]
    · refine ⟨xa, ya, ?_, ?_, ?_⟩
      · rw [p_X2_turnAround_l9, if_pos (by rw [nn_le (by omega) (by omega)]; omega)]
      · intro k hk
        by_cases q : k < t ∨ u < k
        · exact h1 k hk q
        · rw [h2 k (by omega) (by omega)]
          congr 1
          omega
      · intro k hk
        by_cases q : k < t ∨ u < k
        · exact h3 k hk q
        · rw [h4 k (by omega) (by omega)]
          congr 1
          omega
theorem C_rev (h : CoA f q cap c) (hn : 1 ≤ cN c) : ∃ f1, p_X2_turnAround V g f q = some f1 ∧ CoA f1 q cap (s_rev c) ∧ h_out q (q + 3) f f1 := by
  have hb := h.2.2.2.2
  have hc := h.2.2.2.1
  have hm := h.me (α := GH)
  have hcn := h.n
  obtain ⟨xa, ya, e, hx, hy⟩ := h.arr
  obtain ⟨xb, yb, e1, h1, h2⟩ := C_rev_l (V := V) (g := g) (q := q) (i := cI c) (n := nn (cN c)) (f0 := f) hc hb (cX c) (cY c) (cN c) FU 0 (cN c - 1) xa ya (by omega) (by omega) (by unfold FU; omega) (fun k hk h => by omega) (fun k _ hk => hx k (by omega)) (fun k hk h => by omega) (fun k _ hk => hy k (by omega))
  refine ⟨_, ?_, cH_CoA (c := s_rev c) (f0 := f) hc hb h1 h2, cH_out⟩
  unfold p_X2_turnAround
  rw [hm, hcn, ob_s, nn_p hn, n_0]
  rw [← e] at e1
  exact e1
end CH


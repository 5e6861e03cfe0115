/-! ===== folding: the class's side ===== -/
def s_seg (c : CS) : Nat := if cI c = 0 then cN c - 1 else cN c
def s_flat (c : CS) (j : Nat) : Bool := decide (¬ s_abs (cX c j - cX c (s_next (cN c) j)) < s_abs (cY c j - cY c (s_next (cN c) j)))
def s_by (h : Int32) (j : Nat) : Int32 := if j % 2 = 0 then h else -h
def s_half (v : Int32) : Int32 := v >>> ((1 : Int32) &&& 31)
def s_midX (c : CS) (h : Int32) (j : Nat) : Int32 := if s_flat c j = true then s_half (cX c j + cX c (s_next (cN c) j)) else s_half (cX c j + cX c (s_next (cN c) j)) + s_by h j
def s_midY (c : CS) (h : Int32) (j : Nat) : Int32 := if s_flat c j = true then s_half (cY c j + cY c (s_next (cN c) j)) + s_by h j else s_half (cY c j + cY c (s_next (cN c) j))
def s_ok (c : CS) (h : Int32) (j : Nat) : Bool := s_in (-1000) 1000 (s_midX c h j) && s_in (-1000) 1000 (s_midY c h j)
def s_fit (c : CS) (h : Int32) : Nat → Nat → Bool
  | 0, _ => true
  | d + 1, j => s_ok c h j && s_fit c h d (j + 1)
def s_why (c : CS) (h : Int32) : Int32 := if 129 < cN c + s_seg c then 1 else if s_fit c h (s_seg c) 0 = true then 0 else 2
def s_fold (c : CS) (h : Int32) : CS := (cI c, cN c + s_seg c, fun k => if k % 2 = 0 then cX c (k / 2) else s_midX c h (k / 2), fun k => if k % 2 = 0 then cY c (k / 2) else s_midY c h (k / 2))
theorem nn_and1 (j : Nat) : nn j &&& (1 : Int32) = nn (j % 2) := by
  apply Int32.toBitVec_inj.mp
  rw [Int32.toBitVec_and]
  apply BitVec.eq_of_toNat_eq
  rw [BitVec.toNat_and]
  show (j % 2 ^ 32) &&& 1 = (j % 2) % 2 ^ 32
  rw [Nat.and_one_is_mod]
  omega
theorem P_coord (V : Nat → Nat) (g f : GH) (v : Int32) : p_X7_isCoordinate V g f v = some (bz (s_in (-1000) 1000 v)) := by
  unfold p_X7_isCoordinate s_in
  by_cases h : v < -1000
  · rw [if_pos h, decide_eq_false (fun q => q.1 h)]
    rfl
  · rw [if_neg h]
    by_cases k : (1000 : Int32) < v
    · rw [if_pos k, decide_eq_false (fun q => q.2 k)]
      rfl
    · rw [if_neg k, decide_eq_true ⟨h, k⟩]
      rfl
/-- what a segment's midpoint is read from -/
def SgA (f : GH) (q : Nat) (c : CS) (j : Nat) : Prop := (∃ fs, f q = some (.inr (5, fs))) ∧ h_gr f q 5 0 = some (q + 1) ∧ h_gr f q 5 1 = some (q + 2) ∧ h_gi f q 5 2 = some (nn (cN c)) ∧ h_li f (q + 1) 0 (nn j) = some (cX c j) ∧ h_li f (q + 2) 0 (nn j) = some (cY c j) ∧ h_li f (q + 1) 0 (nn (s_next (cN c) j)) = some (cX c (s_next (cN c) j)) ∧ h_li f (q + 2) 0 (nn (s_next (cN c) j)) = some (cY c (s_next (cN c) j)) ∧ j < cN c ∧ cN c ≤ 200
section FO
variable {V : Nat → Nat} {g f f0 : GH} {q cap : Nat} {c : CS} {j : Nat}
theorem CoA.sg (h : CoA f q cap c) (hj : j < cN c) : SgA f q c j := by
  have h2 := s_next_lt (i := j) (show 0 < cN c by omega)
  exact ⟨⟨_, h.1⟩, h.xs, h.ys, h.n, h.x hj, h.y hj, h.x h2, h.y h2, hj, h.nb⟩
theorem SgA.me {α : Type} (h : SgA f q c j) (k : Option α) : h_me f q 5 k = k := by
  obtain ⟨⟨fs, h1⟩, -⟩ := h
  exact hme_of h1 k
theorem S_segEnd (h : SgA f q c j) : p_X2_segmentEnd V g f q (nn j) = some (nn (s_next (cN c) j)) := by
  have hb := h.2.2.2.2.2.2.2.2.2
  have hj := h.2.2.2.2.2.2.2.2.1
  unfold p_X2_segmentEnd s_next
  simp only [h.me, h.2.2.2.1, ob_s, nn_s]
  by_cases hc : j + 1 < cN c
  · rw [if_neg (by rw [nn_le (by omega) (by omega)]; omega), if_pos hc]
  · rw [if_pos (by rw [nn_le (by omega) (by omega)]; omega), if_neg hc]
    rfl
theorem pm_absS (V : Nat → Nat) (g f : GH) (v : Int32) : p_J9_abs_0f7a4 V g f v = some (s_abs v) := pm_abs V g f v
theorem S_flat (h : SgA f q c j) : p_X2_isFlat V g f q (nn j) (nn (s_next (cN c) j)) = some (bz (s_flat c j)) := by
  unfold p_X2_isFlat s_flat
  simp only [h.me, h.2.1, h.2.2.1, h.2.2.2.2.1, h.2.2.2.2.2.1, h.2.2.2.2.2.2.1, h.2.2.2.2.2.2.2.1, ob_s, pm_absS]
  split
  · rename_i k
    rw [decide_eq_false (fun z => z k)]
    rfl
  · rename_i k
    rw [decide_eq_true k]
    rfl
theorem S_disp (h : SgA f q c j) (w : Int32) : p_X2_displacement V g f q (nn j) w = some (s_by w j) := by
  unfold p_X2_displacement s_by
  rw [h.me, nn_and1]
  by_cases k : j % 2 = 0
  · rw [if_pos (by rw [k]; rfl), if_pos k]
  · rw [if_neg (by rw [n_0, nn_eq (by omega) (by omega)]; exact k), if_neg k]
theorem S_midX (h : SgA f q c j) (w : Int32) : p_X2_midpointX V g f q (nn j) w = some (s_midX c w j) := by
  unfold p_X2_midpointX s_midX
  simp only [h.me, S_segEnd h, h.2.1, h.2.2.1, h.2.2.2.2.1, h.2.2.2.2.2.1, h.2.2.2.2.2.2.1, h.2.2.2.2.2.2.2.1, ob_s, S_flat h, S_disp h]
  cases s_flat c j
  · rw [if_pos bz_f, if_neg Bool.false_ne_true]
    rfl
  · rw [if_neg bz_tn, if_pos rfl]
    rfl
theorem S_midY (h : SgA f q c j) (w : Int32) : p_X2_midpointY V g f q (nn j) w = some (s_midY c w j) := by
  unfold p_X2_midpointY s_midY
  simp only [h.me, S_segEnd h, h.2.1, h.2.2.1, h.2.2.2.2.1, h.2.2.2.2.2.1, h.2.2.2.2.2.2.1, h.2.2.2.2.2.2.2.1, ob_s, S_flat h, S_disp h]
  cases s_flat c j
  · rw [if_pos bz_f, if_neg Bool.false_ne_true]
    rfl
  · rw [if_neg bz_tn, if_pos rfl]
    rfl
theorem s_seg_le (c : CS) : s_seg c ≤ cN c := by
  unfold s_seg
  split <;> omega
theorem C_why_l (h : CoA f q cap c) (hn : 1 ≤ cN c) (w : Int32) : ∀ (d N t : Nat), t + d = s_seg c → d < N → p_X2_whyNotFold_l19 V g f (some (2 : Int32)) (some (0 : Int32)) N q w (nn t) = some (if s_fit c w d t = true then 0 else 2) := by
  have hb := h.nb
  have hs := s_seg_le c
  intro d
  induction d with
  | zero =>
    intro N t he hN
    obtain ⟨N, rfl⟩ : ∃ M, N = M + 1 := ⟨N - 1, by omega⟩
    rw [p_X2_whyNotFold_l19, C_segs h hn, ob_s, show (if cI c = 0 then cN c - 1 else cN c) = s_seg c from rfl, if_pos (by rw [nn_le (by omega) (by omega)]; omega)]
    rfl
  | succ d ih =>
    intro N t he hN
    obtain ⟨N, rfl⟩ : ∃ M, N = M + 1 := ⟨N - 1, by omega⟩
    have hg := h.sg (j := t) (by omega)
    rw [p_X2_whyNotFold_l19, C_segs h hn, ob_s, show (if cI c = 0 then cN c - 1 else cN c) = s_seg c from rfl, if_neg (by rw [nn_le (by omega) (by omega)]; omega), S_midX hg, ob_s, P_coord, ob_s, s_fit]
    unfold s_ok
    cases s_in (-1000) 1000 (s_midX c w t) with
    | false =>
      rw [if_pos bz_f, Bool.false_and, Bool.false_and, if_neg Bool.false_ne_true]
    | true =>
      rw [if_neg bz_tn, S_midY hg, ob_s, P_coord, ob_s]
      cases s_in (-1000) 1000 (s_midY c w t) with
      | false =>
        rw [if_pos bz_f, Bool.true_and, Bool.false_and, if_neg Bool.false_ne_true]
      | true =>
        rw [if_neg bz_tn, nn_s, Bool.true_and, Bool.true_and]
        exact ih N (t + 1) (by omega) (by omega)
theorem C_why (h : CoA f q cap c) (hn : 1 ≤ cN c) (w : Int32) : p_X2_whyNotFold V g f q w = some (s_why c w) := by
  have hb := h.nb
  have hs := s_seg_le c
  unfold p_X2_whyNotFold s_why
  rw [h.me, h.n, ob_s, C_segs h hn, ob_s, show (if cI c = 0 then cN c - 1 else cN c) = s_seg c from rfl, nn_add, show (129 : Int32) = nn 129 from rfl]
  by_cases k : 129 < cN c + s_seg c
  · rw [if_neg (by rw [nn_le (by omega) (by omega)]; omega), if_pos k]
  · rw [if_pos (by rw [nn_le (by omega) (by omega)]; omega), if_neg k]
    exact C_why_l h hn w (s_seg c) FU 0 (by omega) (by unfold FU; omega)
theorem C_fold_l {i : Int32} (hb : cap ≤ 200) (hM : cN c + s_seg c ≤ cap) (w : Int32) : ∀ (t N : Nat) (xa ya : Nat → Int32), t ≤ cN c → t < N →
    (∀ k, k < cN c → k < 2 * t → xa k = cX c k) → (∀ k, 2 * t ≤ k → k < cN c + s_seg c → xa k = cX (s_fold c w) k) → (∀ k, k < cN c → k < 2 * t → ya k = cY c k) → (∀ k, 2 * t ≤ k → k < cN c + s_seg c → ya k = cY (s_fold c w) k) → (t = cN c → (∀ k, k < cN c → xa k = cX c k) ∧ ∀ k, k < cN c → ya k = cY c k) →
    ∃ xb yb : Nat → Int32, p_X2_insertMidpoints_l17 V g (fun x0 x2 f => (h_pt f x0 5 2 (.int x2)).bind fun f20 => some f20) N q w (nn (cN c + s_seg c)) (nn t + (-1 : Int32)) (cH q cap i (nn (cN c)) xa ya f0) = some (cH q cap i (nn (cN c + s_seg c)) xb yb f0) ∧ (∀ k, k < cN c + s_seg c → xb k = cX (s_fold c w) k) ∧ ∀ k, k < cN c + s_seg c → yb k = cY (s_fold c w) k := by
  have hs := s_seg_le c
  have hs2 : cN c ≤ s_seg c + 1 := by
    unfold s_seg
    split <;> omega
  intro t
  induction t with
  | zero =>
    intro N xa ya ht hN h1 h2 h3 h4 h5
    obtain ⟨N, rfl⟩ : ∃ M, N = M + 1 := ⟨N - 1, by omega⟩
    refine ⟨xa, ya, ?_, fun k hk => h2 k (by omega) hk, fun k hk => h4 k (by omega) hk⟩
    rw [p_X2_insertMidpoints_l17, if_pos (by decide +kernel), c_pn, ob_s]
  | succ t ih =>
    intro N xa ya ht hN h1 h2 h3 h4 h5
    obtain ⟨N, rfl⟩ : ∃ M, N = M + 1 := ⟨N - 1, by omega⟩
    have hnx : s_next (cN c) t = t + 1 ∧ t + 1 < cN c ∨ s_next (cN c) t = 0 ∧ t + 1 = cN c := by
      unfold s_next
      split
      · exact Or.inl ⟨rfl, by omega⟩
      · exact Or.inr ⟨rfl, by omega⟩
    have ex : xa (s_next (cN c) t) = cX c (s_next (cN c) t) ∧ ya (s_next (cN c) t) = cY c (s_next (cN c) t) := by
      rcases hnx with ⟨e, e2⟩ | ⟨e, e2⟩
      · rw [e]
        exact ⟨h1 _ (by omega) (by omega), h3 _ (by omega) (by omega)⟩
      · rw [e]
        exact ⟨h1 _ (by omega) (by omega), h3 _ (by omega) (by omega)⟩
    have et : xa t = cX c t ∧ ya t = cY c t := ⟨h1 t (by omega) (by omega), h3 t (by omega) (by omega)⟩
    have hnl := s_next_lt (i := t) (show 0 < cN c by omega)
    have hg : SgA (cH q cap i (nn (cN c)) xa ya f0) q c t := ⟨⟨_, cH_o⟩, c_xs, c_ys, c_n, by rw [c_lx (by omega) hb, et.1], by rw [c_ly (by omega) hb, et.2], by rw [c_lx (by omega) hb, ex.1], by rw [c_ly (by omega) hb, ex.2], by omega, by omega⟩
    rw [nn_pm, p_X2_insertMidpoints_l17, if_neg (nn_nl t (by omega)), S_midX hg, ob_s, S_midY hg, ob_s]
    simp only [c_xs, c_ys, ob_s, nn_d]
    rw [c_lx (by omega) hb, ob_s, c_sx (by omega) hb, ob_s]
    simp only [c_xs, c_ys, ob_s]
    rw [c_ly (by omega) hb, ob_s, c_sy (by omega) hb, ob_s, nn_s, et.1, et.2]
    have fx0 : cX (s_fold c w) (2 * t) = cX c t := by
      simp only [s_fold, cX, show 2 * t % 2 = 0 by omega, if_true, show 2 * t / 2 = t by omega]
    have fy0 : cY (s_fold c w) (2 * t) = cY c t := by
      simp only [s_fold, cY, show 2 * t % 2 = 0 by omega, if_true, show 2 * t / 2 = t by omega]
    by_cases hl : 2 * t + 1 < cN c + s_seg c
    · rw [if_neg (by rw [nn_le (by omega) (by omega)]; omega)]
      simp only [c_xs, c_ys, ob_s]
      rw [c_sx (by omega) hb, ob_s]
      simp only [c_xs, c_ys, ob_s]
      rw [c_sy (by omega) hb, ob_s]
      have fx1 : cX (s_fold c w) (2 * t + 1) = s_midX c w t := by
        simp only [s_fold, cX, show ¬ (2 * t + 1) % 2 = 0 by omega, if_false, show (2 * t + 1) / 2 = t by omega]
      have fy1 : cY (s_fold c w) (2 * t + 1) = s_midY c w t := by
        simp only [s_fold, cY, show ¬ (2 * t + 1) % 2 = 0 by omega, if_false, show (2 * t + 1) / 2 = t by omega]
      refine ih N _ _ (by omega) (by omega) ?_ ?_ ?_ ?_ (fun e => by omega)
      · intro k hk hk2
        rw [upd_n _ _ (by omega), upd_n _ _ (by omega), h1 k hk (by omega)]
      · intro k hk hk2
        by_cases a : k = 2 * t + 1
        · rw [a, upd_s, fx1]
        · rw [upd_n _ _ a]
          by_cases b : k = 2 * t
          · rw [b, upd_s, fx0]
          · rw [upd_n _ _ b, h2 k (by omega) hk2]
      · intro k hk hk2
        rw [upd_n _ _ (by omega), upd_n _ _ (by omega), h3 k hk (by omega)]
      · intro k hk hk2
        by_cases a : k = 2 * t + 1
        · rw [a, upd_s, fy1]
        · rw [upd_n _ _ a]
          by_cases b : k = 2 * t
          · rw [b, upd_s, fy0]
          · rw [upd_n _ _ b, h4 k (by omega) hk2]
    · rw [if_pos (by rw [nn_le (by omega) (by omega)]; omega)]
      refine ih N _ _ (by omega) (by omega) ?_ ?_ ?_ ?_ (fun e => by omega)
      · intro k hk hk2
        rw [upd_n _ _ (by omega), h1 k hk (by omega)]
      · intro k hk hk2
        by_cases b : k = 2 * t
        · rw [b, upd_s, fx0]
        · rw [upd_n _ _ b, h2 k (by omega) hk2]
      · intro k hk hk2
        rw [upd_n _ _ (by omega), h3 k hk (by omega)]
      · intro k hk hk2
        by_cases b : k = 2 * t
        · rw [b, upd_s, fy0]
        · rw [upd_n _ _ b, h4 k (by omega) hk2]
theorem C_fold (h : CoA f q cap c) (hn : 1 ≤ cN c) (hM : cN c + s_seg c ≤ cap) (w : Int32) : ∃ f1, p_X2_insertMidpoints V g f q w = some f1 ∧ CoA f1 q cap (s_fold c w) ∧ h_out q (q + 3) f f1 := by
  have hb := h.2.2.2.2
  have hs := s_seg_le c
  have hm := h.me (α := GH)
  have hcn := h.n
  have hsg := C_segs (V := V) (g := g) h hn
  obtain ⟨xa, ya, e, hx, hy⟩ := h.arr
  obtain ⟨xb, yb, e1, h1, h2⟩ := C_fold_l (V := V) (g := g) (q := q) (i := cI c) (f0 := f) hb hM w (cN c) FU xa ya (Nat.le_refl _) (by unfold FU; omega) (fun k hk _ => hx k hk) (fun k hk hk2 => by omega) (fun k hk _ => hy k hk) (fun k hk hk2 => by omega) (fun _ => ⟨hx, hy⟩)
  refine ⟨_, ?_, cH_CoA (c := s_fold c w) (f0 := f) hM hb h1 h2, cH_out⟩
  unfold p_X2_insertMidpoints
  rw [hm, hcn, ob_s, hsg, ob_s, ob_s, show (if cI c = 0 then cN c - 1 else cN c) = s_seg c from rfl, nn_add, show nn (cN c) - (1 : Int32) = nn (cN c) + (-1 : Int32) by rw [nn_p hn, nn_dm hn]]
  rw [← e] at e1
  exact e1
end FO


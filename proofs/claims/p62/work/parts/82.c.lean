/-! ===== what a change does to a length ===== -/
theorem len_sm (w : Int32) (c : CS) (l : Nat) : s_len w c l = s_sm (s_span w c l) (s_sticks c l) := rfl
theorem d_CE {w : Int32} {c e : CS} (h : CE c e) {i j : Nat} (hi : i < cN c) (hj : j < cN c) : s_d w c i j = s_d w e i j := by
  unfold s_d
  rw [(h.2.2 i hi).1, (h.2.2 i hi).2, (h.2.2 j hj).1, (h.2.2 j hj).2]
theorem len_CE {w : Int32} {c e : CS} (h : CE c e) (hn : 1 ≤ cN c) (l : Nat) : s_len w c l = s_len w e l := by
  have e1 : s_sticks c l = s_sticks e l := by unfold s_sticks; rw [h.1, h.2.1]
  rw [len_sm, len_sm, ← e1]
  refine s_sm_c _ (fun s hs => ?_)
  have e2 : s_end c l s = s_end e l s := by unfold s_end; rw [h.1, h.2.1]
  unfold s_span
  rw [← e2]
  exact d_CE h (s_from_lt hn hs) (s_end_lt hn)
theorem d_sym (w : Int32) (c : CS) (i j : Nat) : s_d w c i j = s_d w c j i := by
  unfold s_d s_dist
  rw [s_abs_sub (cX c i), s_abs_sub (cY c i)]
/-! folding -/
theorem fold_N (c : CS) (h : Int32) : cN (s_fold c h) = cN c + s_seg c := rfl
theorem fold_I (c : CS) (h : Int32) : cI (s_fold c h) = cI c := rfl
theorem fold_X (c : CS) (h : Int32) (k : Nat) : cX (s_fold c h) (2 * k) = cX c k ∧ cY (s_fold c h) (2 * k) = cY c k := by
  constructor
  · show (if 2 * k % 2 = 0 then cX c (2 * k / 2) else _) = _
    rw [if_pos (by omega), show 2 * k / 2 = k by omega]
  · show (if 2 * k % 2 = 0 then cY c (2 * k / 2) else _) = _
    rw [if_pos (by omega), show 2 * k / 2 = k by omega]
theorem fold_d (w : Int32) (c : CS) (h : Int32) (i j : Nat) : s_d w (s_fold c h) (2 * i) (2 * j) = s_d w c i j := by
  unfold s_d
  rw [(fold_X c h i).1, (fold_X c h i).2, (fold_X c h j).1, (fold_X c h j).2]
theorem fold_len {w : Int32} {c : CS} (cv : CoV c) (h : Int32) : s_len w (s_fold c h) 1 = s_len w c 0 := by
  have n1 := cv.n1
  have e1 : s_sticks (s_fold c h) 1 = s_sticks c 0 := by
    unfold s_sticks
    rw [fold_N, fold_I]
    unfold s_seg
    by_cases z : cI c = 0
    · rw [if_pos z, if_pos ⟨z, by show (cN c + (cN c - 1) - 1) / 2 * 2 = _; omega⟩, if_pos ⟨z, by show (cN c - 1) / 1 * 1 = _; omega⟩]
      show (cN c + (cN c - 1) - 1) / 2 = (cN c - 1) / 1
      omega
    · rw [if_neg z, if_neg (fun q => z q.1), if_neg (fun q => z q.1)]
      show (cN c + cN c - 1) / 2 + 1 = (cN c - 1) / 1 + 1
      omega
  rw [len_sm, len_sm, e1]
  refine s_sm_c _ (fun s hs => ?_)
  have hs0 : s < s_top c := by have := (stk_iff n1 s).mp hs; omega
  unfold s_top at hs0
  have e2 : s_end (s_fold c h) 1 s = 2 * s_end c 0 s := by
    unfold s_end
    rw [fold_N, fold_I]
    unfold s_seg
    show (if (s + 1) * 2 < _ then (s + 1) * 2 else _) = 2 * (if (s + 1) * 1 < _ then (s + 1) * 1 else _)
    by_cases z : cI c = 0
    · rw [if_pos z] at hs0 ⊢
      rw [if_pos (by omega), if_pos (by omega)]
      omega
    · rw [if_neg z] at hs0 ⊢
      by_cases q : s + 1 < cN c
      · rw [if_pos (by omega), if_pos (by omega)]
        omega
      · rw [if_neg (show ¬ (s + 1) * 2 < cN c + cN c by omega), if_neg z, if_neg (show ¬ (s + 1) * 1 < cN c by omega), if_neg z]
  unfold s_span
  rw [e2, show s * 2 ^ 1 = 2 * s by omega, show s * 2 ^ 0 = s by omega, fold_d]
theorem fold_unf {c : CS} (cv : CoV c) (h : Int32) : CE (s_unf (s_fold c h)) c := by
  have n1 := cv.n1
  refine ⟨rfl, ?_, fun k _ => fold_X c h k⟩
  show (cN c + s_seg c + 1) / 2 = cN c
  unfold s_seg
  split <;> omega
/-! unfolding -/
theorem unf_d (w : Int32) (c : CS) (i j : Nat) : s_d w (s_unf c) i j = s_d w c (2 * i) (2 * j) := rfl
theorem unf_span {w : Int32} {c : CS} (cv : CoV c) {s : Nat} (hm : 1 ≤ (cN c + 1) / 2) (hs : s < s_sticks (s_unf c) 0) (h2 : 2 ≤ (cN c + 1) / 2) : s_span w (s_unf c) 0 s = s_span w c 1 s := by
  have hs0 : s < s_top (s_unf c) := by have := (stk_iff (c := s_unf c) (l := 0) h2 s).mp hs; omega
  unfold s_top at hs0
  have hN : cN (s_unf c) = (cN c + 1) / 2 := rfl
  have hI : cI (s_unf c) = cI c := rfl
  rw [hN, hI] at hs0
  have e2 : s_end c 1 s = 2 * s_end (s_unf c) 0 s := by
    unfold s_end
    rw [hN, hI]
    show (if (s + 1) * 2 < _ then (s + 1) * 2 else _) = 2 * (if (s + 1) * 1 < _ then (s + 1) * 1 else _)
    by_cases z : cI c = 0
    · rw [if_pos z] at hs0
      rw [if_pos (by omega), if_pos (by omega)]
      omega
    · rw [if_neg z] at hs0
      by_cases q : s + 1 < (cN c + 1) / 2
      · rw [if_pos (by omega), if_pos (by omega)]
        omega
      · rw [if_neg (show ¬ (s + 1) * 2 < cN c by omega), if_neg z, if_neg (show ¬ (s + 1) * 1 < (cN c + 1) / 2 by omega), if_neg z]
  unfold s_span
  rw [e2, unf_d, show s * 2 ^ 1 = 2 * s by omega, show s * 2 ^ 0 = s by omega]
theorem unf_len {w : Int32} {c : CS} (cv : CoV c) (h : s_need c ≤ (cN c + 1) / 2) : (cN c % 2 = 0 ∧ cI c = 0 → (s_len w (s_unf c) 0).toInt ≤ (s_len w c 1).toInt) ∧ (¬ (cN c % 2 = 0 ∧ cI c = 0) → s_len w (s_unf c) 0 = s_len w c 1) := by
  have nd := need_2 c
  have hN : cN (s_unf c) = (cN c + 1) / 2 := rfl
  have hI : cI (s_unf c) = cI c := rfl
  have hsp : ∀ s, s < s_sticks (s_unf c) 0 → s_span w (s_unf c) 0 s = s_span w c 1 s := fun s hs => unf_span cv (by omega) hs (by omega)
  have k0 : s_sticks (s_unf c) 0 = if cI c = 0 then (cN c + 1) / 2 - 1 else (cN c + 1) / 2 := by
    unfold s_sticks
    rw [hN, hI]
    by_cases z : cI c = 0
    · rw [if_pos z, if_pos ⟨z, by show ((cN c + 1) / 2 - 1) / 1 * 1 = _; omega⟩]
      show ((cN c + 1) / 2 - 1) / 1 = _
      omega
    · rw [if_neg z, if_neg (fun q => z q.1)]
      show ((cN c + 1) / 2 - 1) / 1 + 1 = _
      omega
  have k1 : s_sticks c 1 = if cI c = 0 ∧ cN c % 2 = 1 then (cN c - 1) / 2 else (cN c - 1) / 2 + 1 := by
    unfold s_sticks
    show (if cI c = 0 ∧ (cN c - 1) / 2 * 2 = cN c - 1 then (cN c - 1) / 2 else (cN c - 1) / 2 + 1) = _
    by_cases z : cI c = 0 ∧ cN c % 2 = 1
    · rw [if_pos z, if_pos ⟨z.1, by omega⟩]
    · rw [if_neg z, if_neg (fun q => z ⟨q.1, by omega⟩)]
  constructor
  · intro ⟨q1, q2⟩
    rw [if_pos q2] at k0
    rw [if_neg (by omega)] at k1
    have hk : s_sticks c 1 = s_sticks (s_unf c) 0 + 1 := by omega
    have hb := s_span_b (k := w) (l := 1) (s := s_sticks (s_unf c) 0) cv (by omega)
    have e : s_len w c 1 = s_len w (s_unf c) 0 + s_span w c 1 (s_sticks (s_unf c) 0) := by
      rw [len_sm, len_sm, hk, s_sm_s, s_sm_c _ (fun s hs => (hsp s hs).symm)]
    have hL := s_len_b (k := w) (l := 1) cv
    have hz : (s_len w c 1).toInt = zs (fun s => (s_span w c 1 s).toInt) (s_sticks c 1) := len_zs cv 1
    have hz2 : (itr (fun s a => a + s_span w (s_unf c) 0 s) (s_sticks (s_unf c) 0) 0 0).toInt = zs (fun s => (s_span w (s_unf c) 0 s).toInt) (s_sticks (s_unf c) 0) := (zs_len (G := s_span w (s_unf c) 0) _ (by have := cv.n2; omega) (fun s hs => by rw [hsp s hs]; exact s_span_b cv (by omega))).1
    have hz3 : (s_len w (s_unf c) 0).toInt = zs (fun s => (s_span w c 1 s).toInt) (s_sticks (s_unf c) 0) := Eq.trans hz2 (zs_eq _ (fun s hs => by rw [hsp s hs]))
    rw [hz, hz3, hk, zs_s]
    omega
  · intro q
    have hk : s_sticks c 1 = s_sticks (s_unf c) 0 := by
      rw [k0, k1]
      by_cases z : cI c = 0
      · have : cN c % 2 = 1 := by
          rcases Nat.mod_two_eq_zero_or_one (cN c) with r | r
          · exact absurd ⟨r, z⟩ q
          · exact r
        rw [if_pos z, if_pos ⟨z, this⟩]
        omega
      · rw [if_neg z, if_neg (fun r => z r.1)]
        omega
    rw [len_sm, len_sm, hk]
    exact s_sm_c _ hsp
/-! moving all, turning round -/
theorem mv_len (w : Int32) (c : CS) (dx dy : Int32) (l : Nat) : s_len w (s_mv c dx dy) l = s_len w c l := by
  have e1 : s_sticks (s_mv c dx dy) l = s_sticks c l := rfl
  rw [len_sm, len_sm, e1]
  refine s_sm_c _ (fun s _ => ?_)
  have e2 : s_end (s_mv c dx dy) l s = s_end c l s := rfl
  unfold s_span
  rw [e2]
  unfold s_d
  show s_dist w (cX c (s * 2 ^ l) + dx - (cX c (s_end c l s) + dx)) (cY c (s * 2 ^ l) + dy - (cY c (s_end c l s) + dy)) = _
  rw [show ∀ a b d : Int32, a + d - (b + d) = a - b from fun a b d => by grind, show ∀ a b d : Int32, a + d - (b + d) = a - b from fun a b d => by grind]
theorem sm_first (E : Nat → Int32) : ∀ m, s_sm E (m + 1) = E 0 + s_sm (fun s => E (s + 1)) m := by
  intro m
  induction m with
  | zero =>
    rw [s_sm_s]
    show (0 : Int32) + E 0 = E 0 + 0
    grind
  | succ m ih =>
    rw [s_sm_s, ih, s_sm_s]
    grind
theorem sm_rev : ∀ (m : Nat) (E : Nat → Int32), s_sm (fun s => E (m - s)) (m + 1) = s_sm E (m + 1) := by
  intro m
  induction m with
  | zero => intro E; rfl
  | succ m ih =>
    intro E
    rw [sm_first, s_sm_s E (m + 1), ← ih E, s_sm_c (F := fun s => E (m - s)) (m + 1) (fun s hs => by rw [show m + 1 - (s + 1) = m - s by omega])]
    show E (m + 1) + _ = _
    grind
theorem rev_d (w : Int32) (c : CS) (i j : Nat) : s_d w (s_rev c) i j = s_d w c (cN c - 1 - i) (cN c - 1 - j) := rfl
theorem rev_len {w : Int32} {c : CS} (cv : CoV c) : s_len w (s_rev c) 0 = s_len w c 0 := by
  have n1 := cv.n1
  have e1 : s_sm (fun s => s_d w (s_rev c) s (s + 1)) (cN c - 1) = s_sm (fun s => s_d w c s (s + 1)) (cN c - 1) := by
    have h := sm_rev (cN c - 1 - 1) (fun s => s_d w c s (s + 1))
    rw [show cN c - 1 - 1 + 1 = cN c - 1 by omega] at h
    rw [← h]
    refine s_sm_c _ (fun s hs => ?_)
    rw [rev_d, d_sym, show cN c - 1 - (s + 1) = cN c - 1 - 1 - s by omega, show cN c - 1 - s = cN c - 1 - 1 - s + 1 by omega]
  have hN : cN (s_rev c) = cN c := rfl
  by_cases z : cI c = 0
  · rw [s_len_sh w c n1 z, s_len_sh w (s_rev c) n1 z, hN, e1]
  · rw [s_len_is w c n1 z, s_len_is w (s_rev c) n1 z, hN, e1, rev_d, show cN c - 1 - (cN c - 1) = 0 by omega, show cN c - 1 - 0 = cN c - 1 by omega, d_sym]
/-! a point more -/
theorem ins_cut (c : CS) (p : Nat) (x y : Int32) : s_cut (s_ins c p x y) p = c := by
  have h1 : ∀ X : Nat → Int32, ∀ v : Int32, (fun i => if i < p then (fun k => if k < p then X k else if k = p then v else X (k - 1)) i else (fun k => if k < p then X k else if k = p then v else X (k - 1)) (i + 1)) = X := by
    intro X v
    funext i
    by_cases q : i < p
    · rw [if_pos q]
      dsimp only
      rw [if_pos q]
    · rw [if_neg q]
      dsimp only
      rw [if_neg (by omega), if_neg (by omega), show i + 1 - 1 = i by omega]
  show (cI c, cN c + 1 - 1, _, _) = c
  rw [show cN c + 1 - 1 = cN c by omega]
  show (cI c, cN c, (fun i => if i < p then (fun k => if k < p then cX c k else if k = p then x else cX c (k - 1)) i else (fun k => if k < p then cX c k else if k = p then x else cX c (k - 1)) (i + 1)), (fun i => if i < p then (fun k => if k < p then cY c k else if k = p then y else cY c (k - 1)) i else (fun k => if k < p then cY c k else if k = p then y else cY c (k - 1)) (i + 1))) = c
  rw [h1, h1]
  rfl
theorem ins_len {w : Int32} {c : CS} (cv : CoV c) {p : Nat} {x y : Int32} (ci : CoV (s_ins c p x y)) (hp : p ≤ cN c) : s_but w (s_ins c p x y) p = s_len w c 0 ∧ (s_len w c 0).toInt ≤ (s_len w (s_ins c p x y) 0).toInt := by
  have n1 := cv.n1
  have hN : cN (s_ins c p x y) = cN c + 1 := rfl
  have hI : s_need (s_ins c p x y) = s_need c := rfl
  have hd := cv.need
  have hw : s_wo w (s_ins c p x y) p = s_len w c 0 := by
    rw [s_wo_eq w _ (by omega) (by omega), ins_cut]
  rcases but_p (w := w) ci (show p < cN (s_ins c p x y) by omega) with ⟨h1, h2, h3, h4⟩ | ⟨h1, -⟩
  · rw [h2, hw] at h4
    exact ⟨h2.trans hw, h4⟩
  · exact absurd (show s_need (s_ins c p x y) ≤ cN (s_ins c p x y) - 1 by rw [hN, hI]; omega) h1

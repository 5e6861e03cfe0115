/-! ===== changes: a command done to a map, the class's side ===== -/
theorem mx_sub {a b : Nat} (ha : a < 1000) (hb : b < 1000) : (if (0 : Int32) < nn a - nn b then nn a - nn b else 0) = nn (a - b) := by
  by_cases h : b ≤ a
  · rw [nn_sub h]
    by_cases h2 : a - b = 0
    · rw [h2]; rfl
    · rw [if_pos (by rw [n_0, nn_lt (by omega) (by omega)]; omega)]
  · rw [if_neg, show a - b = 0 by omega]
    · rfl
    · rw [i_lt, i_sub (by rw [nn_i (by omega), nn_i (by omega)]; omega) (by rw [nn_i (by omega), nn_i (by omega)]; omega), nn_i (by omega), nn_i (by omega)]
      show ¬ (0 : Int) < _
      omega
theorem i_a0 (a : Int32) : a + nn 0 = a := Int32.add_zero a
section CB2
variable {V : Nat → Nat} {g f f1 : GH} {h q r v i : Nat} {T : TS} {c c0 : CS} {a p u w k : Int32}
theorem ChA.slot (C : ChA f h T) (hi : i < 6) : ∃ r c, h_lq f (h + 1) 5 (nn i) = some r ∧ CoA f r 129 c ∧ h + 2 ≤ r ∧ r + 3 ≤ h + 20 ∧ (i < tN T → CoA f r 129 (tC T i)) ∧
    (∀ (f1 : GH) (c' : CS), CoA f1 r 129 c' → h_out r (r + 3) f f1 → i < tN T → ChA f1 h (tN T, tK T, tL T, tA T, tR T, fun j => if j = i then c' else tC T j)) ∧
    (∀ (f1 : GH) (c' : CS) (A' : Int32), CoA f1 r 129 c' → h_out r (r + 3) f f1 → i = tN T → ChA (h_up f1 h (.inr (4, [.ref (h + 1), .int (nn (tN T + 1)), .int (tK T), .int (tL T), .int A', .int (tR T)]))) h (tN T + 1, tK T, tL T, A', tR T, fun j => if j = i then c' else tC T j)) := by
  obtain ⟨p1, p2, ra, b, p3, p4, p5, p6, p7⟩ := C
  obtain ⟨c, k⟩ := p7 i hi
  obtain ⟨j0, hj0, e0⟩ := (p4 i hi).2
  have fr : ∀ (f1 : GH) (j : Nat) (d : CS), j < 6 → j ≠ i → h_out (b i) (b i + 3) f f1 → CoA f (b j) 129 d → CoA f1 (b j) 129 d := by
    intro f1 j d hj hne ho hd
    obtain ⟨jj, hjj, ej⟩ := (p4 j hj).2
    have : jj ≠ j0 := fun e => hne (p5 j i hj hi (by rw [ej, e0, e]))
    exact hd.frame (fun a h1 h2 => ho a (by omega))
  refine ⟨b i, c, hlq_of p3 hi (by omega) (p4 i hi).1, k, by omega, by omega, fun hn => p6 i hn, fun f1 c' hc ho hn => ?_, fun f1 c' A' hc ho hn => ?_⟩
  · refine ⟨by rw [ho h (by omega)]; exact p1, p2, ra, b, by rw [ho (h + 1) (by omega)]; exact p3, p4, p5, fun j hj => ?_, fun j hj => ?_⟩
    · show CoA f1 (b j) 129 (if j = i then c' else tC T j)
      have hj : j < tN T := hj
      by_cases e : j = i
      · rw [if_pos e, e]; exact hc
      · rw [if_neg e]; exact fr f1 j _ (by omega) e ho (p6 j hj)
    · by_cases e : j = i
      · exact ⟨c', by rw [e]; exact hc⟩
      · obtain ⟨d, hd⟩ := p7 j hj
        exact ⟨d, fr f1 j _ hj e ho hd⟩
  · have up : ∀ (a : Nat) (d : CS) (e : GE), h + 2 ≤ a → CoA f1 a 129 d → CoA (h_up f1 h e) a 129 d := fun a d e ha hd => hd.frame (fun b h1 h2 => h_up_n f1 e (by omega))
    refine ⟨h_up_s _ _ _, by show tN T + 1 ≤ 6; omega, ra, b, by rw [h_up_n _ _ (by omega), ho (h + 1) (by omega)]; exact p3, p4, p5, fun j hj => ?_, fun j hj => ?_⟩
    · show CoA _ (b j) 129 (if j = i then c' else tC T j)
      have hj : j < tN T + 1 := hj
      obtain ⟨jj, hjj, ej⟩ := (p4 j (by omega)).2
      by_cases e : j = i
      · rw [if_pos e]; exact up _ _ _ (by omega) (by rw [e]; exact hc)
      · rw [if_neg e]; exact up _ _ _ (by omega) (fr f1 j _ (by omega) e ho (p6 j (by omega)))
    · obtain ⟨jj, hjj, ej⟩ := (p4 j hj).2
      by_cases e : j = i
      · exact ⟨c', up _ _ _ (by omega) (by rw [e]; exact hc)⟩
      · obtain ⟨d, hd⟩ := p7 j hj
        exact ⟨d, up _ _ _ (by omega) (fr f1 j _ hj e ho hd)⟩
theorem ChA.up (C : ChA f h T) (k l A R : Int32) : ChA (h_up f h (.inr (4, [.ref (h + 1), .int (nn (tN T)), .int k, .int l, .int A, .int R]))) h (tN T, k, l, A, R, tC T) := by
  obtain ⟨p1, p2, ra, b, p3, p4, p5, p6, p7⟩ := C
  refine ⟨h_up_s _ _ _, p2, ra, b, by rw [h_up_n _ _ (by omega)]; exact p3, p4, p5, fun j hj => ?_, fun j hj => ?_⟩
  · obtain ⟨jj, hjj, ej⟩ := (p4 j (by have hj : j < tN T := hj; omega)).2
    exact (p6 j hj).frame (fun b h1 h2 => h_up_n f _ (by omega))
  · obtain ⟨jj, hjj, ej⟩ := (p4 j hj).2
    obtain ⟨d, hd⟩ := p7 j hj
    exact ⟨d, hd.frame (fun b h1 h2 => h_up_n f _ (by omega))⟩
theorem ChA.sK (C : ChA f h T) (y : Int32) : ∃ f1, h_pt f h 4 2 (.int y) = some f1 ∧ ChA f1 h (tN T, y, tL T, tA T, tR T, tC T) ∧ h_out h (h + 1) f f1 :=
  ⟨_, hpt_of C.1 (by decide : 2 < 6), C.up _ _ _ _, (h_out.rf _ _ _).up (Nat.le_refl _) (by omega)⟩
theorem ChA.sL (C : ChA f h T) (y : Int32) : ∃ f1, h_pt f h 4 3 (.int y) = some f1 ∧ ChA f1 h (tN T, tK T, y, tA T, tR T, tC T) ∧ h_out h (h + 1) f f1 :=
  ⟨_, hpt_of C.1 (by decide : 3 < 6), C.up _ _ _ _, (h_out.rf _ _ _).up (Nat.le_refl _) (by omega)⟩
theorem ChA.sA (C : ChA f h T) (y : Int32) : ∃ f1, h_pt f h 4 4 (.int y) = some f1 ∧ ChA f1 h (tN T, tK T, tL T, y, tR T, tC T) ∧ h_out h (h + 1) f f1 :=
  ⟨_, hpt_of C.1 (by decide : 4 < 6), C.up _ _ _ _, (h_out.rf _ _ _).up (Nat.le_refl _) (by omega)⟩
theorem ChA.sR (C : ChA f h T) (y : Int32) : ∃ f1, h_pt f h 4 5 (.int y) = some f1 ∧ ChA f1 h (tN T, tK T, tL T, tA T, y, tC T) ∧ h_out h (h + 1) f f1 :=
  ⟨_, hpt_of C.1 (by decide : 5 < 6), C.up _ _ _ _, (h_out.rf _ _ _).up (Nat.le_refl _) (by omega)⟩
/-- what lets a change of one coastline be done -/
def s_can (v : Nat) (c : CS) (p u w : Int32) : Prop := (s_hp v = true → inC (cN c + (if v = 6 then 1 else 0)) p = true) ∧ s_in (-(s_lim v)) (s_lim v) u = true ∧ s_in (-(s_lim v)) (s_lim v) w = true ∧ s_mayV v c u w = true
theorem s_refC_0 (h : s_refC v c p u w = 0) : s_can v c p u w := by
  unfold s_refC at h
  by_cases h1 : s_hp v = true ∧ inC (cN c + (if v = 6 then 1 else 0)) p = false
  · rw [if_pos h1] at h
    exact absurd h (by decide)
  · rw [if_neg h1] at h
    by_cases h2 : s_in (-(s_lim v)) (s_lim v) u = true
    · rw [if_pos h2] at h
      by_cases h3 : s_in (-(s_lim v)) (s_lim v) w = true
      · rw [if_pos h3] at h
        by_cases h4 : s_mayV v c u w = true
        · refine ⟨fun q => ?_, h2, h3, h4⟩
          cases e : inC (cN c + (if v = 6 then 1 else 0)) p with
          | true => rfl
          | false => exact absurd ⟨q, e⟩ h1
        · rw [if_neg h4] at h
          exact absurd h (by decide)
      · rw [if_neg h3] at h
        exact absurd h (by decide)
    · rw [if_neg h2] at h
      exact absurd h (by decide)
theorem C_reshape (S : StOK V g) (C : ChA f h T) (K : CmA f q V v a p u w k c0) (D : CoA f r 129 c) (cv : CoV c) (hv : v = 3 ∨ v = 4 ∨ v = 6 ∨ v = 7 ∨ v = 8 ∨ v = 9) (hc : s_can v c p u w) : ∃ f1, p_X1_reshape V g f h r q = some f1 ∧ CoA f1 r 129 (s_nc v c p u w) ∧ h_out r (r + 3) f f1 := by
  have hb := D.nb
  have hn := cv.n1
  have hn2 := cv.n2
  obtain ⟨hp, hu, hw, hm⟩ := hc
  unfold p_X1_reshape
  rw [C.me, K.gv, ob_s, S.or f (by omega) (by omega), ob_s, S.sw (by omega) (by omega), ob_s]
  rcases hv with rfl | rfl | rfl | rfl | rfl | rfl
  · have h1 : s_why c u = 0 := by simpa [s_mayV] using hm
    have h2 : cN c + s_seg c ≤ 129 := by
      unfold s_why at h1
      split at h1
      · exact absurd h1 (by decide)
      · omega
    obtain ⟨f1, q1, q2⟩ := C_fold (V := V) (g := g) D (by omega) h2 u
    refine ⟨f1, ?_, q2⟩
    show (if (1 : Int32) = 1 then _ else _) = _
    rw [if_pos rfl, K.gu, ob_s, q1, ob_s]
  · obtain ⟨f1, q1, q2⟩ := C_unf (V := V) (g := g) D (by omega)
    refine ⟨f1, ?_, q2⟩
    show (if (2 : Int32) = 1 then _ else if (2 : Int32) = 2 then _ else _) = _
    rw [if_neg (by decide), if_pos rfl, q1, ob_s]
  · have h1 : cN c < 129 := by simpa [s_mayV] using hm
    obtain ⟨e1, e2⟩ := inC_t (by simp; omega) (hp rfl)
    obtain ⟨f1, q1, q2⟩ := C_ins (V := V) (g := g) D (p := ix p) (by simp at e2; omega) (by omega) u w
    refine ⟨f1, ?_, q2⟩
    show (if (3 : Int32) = 1 then _ else if (3 : Int32) = 2 then _ else if (3 : Int32) = 3 then _ else _) = _
    rw [if_neg (by decide), if_neg (by decide), if_pos rfl, K.gp, ob_s, K.gu, ob_s, K.gw, ob_s, show p_X2_insert V g f r p u w = some f1 by rw [e1]; exact q1, ob_s]
  · obtain ⟨e1, e2⟩ := inC_t (by simp; omega) (hp rfl)
    obtain ⟨f1, q1, q2⟩ := C_drop (V := V) (g := g) D (p := ix p) (by simpa using e2)
    refine ⟨f1, ?_, q2⟩
    show (if (4 : Int32) = 1 then _ else if (4 : Int32) = 2 then _ else if (4 : Int32) = 3 then _ else if (4 : Int32) = 4 then _ else _) = _
    rw [if_neg (by decide), if_neg (by decide), if_neg (by decide), if_pos rfl, K.gp, ob_s, show p_X2_drop V g f r p = some f1 by rw [e1]; exact q1, ob_s]
  · obtain ⟨f1, q1, q2⟩ := C_slide (V := V) (g := g) D u w
    refine ⟨f1, ?_, q2⟩
    show (if (5 : Int32) = 1 then _ else if (5 : Int32) = 2 then _ else if (5 : Int32) = 3 then _ else if (5 : Int32) = 4 then _ else if (5 : Int32) = 5 then _ else _) = _
    rw [if_neg (by decide), if_neg (by decide), if_neg (by decide), if_neg (by decide), if_pos rfl, K.gu, ob_s, K.gw, ob_s, q1, ob_s]
  · obtain ⟨f1, q1, q2⟩ := C_rev (V := V) (g := g) D (by omega)
    refine ⟨f1, ?_, q2⟩
    show (if (11 : Int32) = 1 then _ else if (11 : Int32) = 2 then _ else if (11 : Int32) = 3 then _ else if (11 : Int32) = 4 then _ else if (11 : Int32) = 5 then _ else if (11 : Int32) = 6 then _ else if (11 : Int32) = 7 then _ else if (11 : Int32) = 8 then _ else if (11 : Int32) = 9 then _ else if (11 : Int32) = 10 then _ else if (11 : Int32) = 11 then _ else _) = _
    rw [if_neg (by decide), if_neg (by decide), if_neg (by decide), if_neg (by decide), if_neg (by decide), if_neg (by decide), if_neg (by decide), if_neg (by decide), if_neg (by decide), if_neg (by decide), if_pos rfl, q1, ob_s]
/-! a changed coastline is a coastline -/
theorem s_in_bd {y : Int32} (h : s_in (-1000) 1000 y = true) : bd y := by
  unfold s_in at h
  rw [decide_eq_true_iff, i_lt, i_lt] at h
  unfold bd
  have e1 : (-1000 : Int32).toInt = -1000 := by decide
  have e2 : (1000 : Int32).toInt = 1000 := by decide
  omega
theorem s_fit_all (c : CS) (u : Int32) : ∀ (d j : Nat), s_fit c u d j = true → ∀ i, j ≤ i → i < j + d → s_ok c u i = true := by
  intro d
  induction d with
  | zero => intro j _ i h1 h2; omega
  | succ d ih =>
    intro j h i h1 h2
    rw [s_fit, Bool.and_eq_true] at h
    by_cases e : i = j
    · rw [e]; exact h.1
    · exact ih (j + 1) h.2 i (by omega) (by omega)
theorem s_may_all (c : CS) (u w : Int32) : ∀ (d j : Nat), s_may c u w d j = true → ∀ i, j ≤ i → i < j + d → s_in (-1000) 1000 (cX c i + u) = true ∧ s_in (-1000) 1000 (cY c i + w) = true := by
  intro d
  induction d with
  | zero => intro j _ i h1 h2; omega
  | succ d ih =>
    intro j h i h1 h2
    rw [s_may, Bool.and_eq_true, Bool.and_eq_true] at h
    by_cases e : i = j
    · rw [e]; exact ⟨h.1.1, h.1.2⟩
    · exact ih (j + 1) h.2 i (by omega) (by omega)
theorem CoV.need (cv : CoV c) : s_need c ≤ cN c := by
  unfold s_need
  rcases cv.1 with h | h
  · rw [if_pos h.1]; exact h.2
  · rw [if_neg (by rw [h.1]; decide)]; exact h.2
theorem CoV.of {i : Int32} {n : Nat} {X Y : Nat → Int32} (h01 : i = 0 ∨ i = 1) (hn : (if i = 0 then 2 else 3) ≤ n) (h2 : n ≤ 129) (h : ∀ j, j < n → bd (X j) ∧ bd (Y j)) : CoV (i, n, X, Y) := by
  refine ⟨?_, h2, h⟩
  rcases h01 with e | e
  · rw [if_pos e] at hn; exact Or.inl ⟨e, hn⟩
  · rw [if_neg (by rw [e]; decide)] at hn; exact Or.inr ⟨e, hn⟩
theorem CoV.nc (cv : CoV c) (h3 : 3 ≤ v) (h9 : v ≤ 9) (hc : s_can v c p u w) : CoV (s_nc v c p u w) := by
  have hn := cv.n1
  have hn2 := cv.n2
  have hne := cv.need
  have h01 := cv.i01
  have hB := cv.2.2
  obtain ⟨hp, hu, hw, hm⟩ := hc
  have hv : v = 3 ∨ v = 4 ∨ v = 5 ∨ v = 6 ∨ v = 7 ∨ v = 8 ∨ v = 9 := by omega
  rcases hv with rfl | rfl | rfl | rfl | rfl | rfl | rfl
  · have h1 : s_why c u = 0 := by simpa [s_mayV] using hm
    have hsl := s_seg_le c
    unfold s_why at h1
    split at h1
    · exact absurd h1 (by decide)
    · split at h1
      · rename_i h2 h3
        have ha := s_fit_all c u _ _ h3
        refine CoV.of h01 (Nat.le_trans hne (by omega)) (by omega) (fun j hj => ?_)
        by_cases e : j % 2 = 0
        · simp only [if_pos e]
          exact hB _ (by unfold s_seg at hj; split at hj <;> omega)
        · simp only [if_neg e]
          have hs := ha (j / 2) (by omega) (by unfold s_seg at hj ⊢; split at hj <;> rename_i hc <;> simp only [hc, if_true, if_false] <;> omega)
          unfold s_ok at hs
          rw [Bool.and_eq_true] at hs
          exact ⟨s_in_bd hs.1, s_in_bd hs.2⟩
      · exact absurd h1 (by decide)
  · have h1 : s_need c ≤ (cN c + 1) / 2 := by simpa [s_mayV] using hm
    exact CoV.of h01 h1 (by omega) (fun j hj => hB _ (by omega))
  · have hu : bd u := s_in_bd hu
    have hw : bd w := s_in_bd hw
    refine CoV.of h01 hne hn2 (fun j hj => ?_)
    unfold upd
    by_cases e : j = ix p
    · rw [if_pos e, if_pos e]; exact ⟨hu, hw⟩
    · rw [if_neg e, if_neg e]; exact hB j hj
  · have h1 : cN c < 129 := by simpa [s_mayV] using hm
    obtain ⟨e1, e2⟩ := inC_t (by simp; omega) (hp rfl)
    have hu : bd u := s_in_bd hu
    have hw : bd w := s_in_bd hw
    refine CoV.of h01 (Nat.le_trans hne (by omega)) (by omega) (fun j hj => ?_)
    by_cases e : j < ix p
    · simp only [if_pos e]; exact hB j (by simp at e2; omega)
    · by_cases e3 : j = ix p
      · simp only [if_neg e, if_pos e3]; exact ⟨hu, hw⟩
      · simp only [if_neg e, if_neg e3]; exact hB _ (by omega)
  · have h1 : s_need c < cN c := by simpa [s_mayV] using hm
    refine CoV.of h01 (show s_need c ≤ cN c - 1 by omega) (by omega) (fun j hj => ?_)
    by_cases e : j < ix p
    · simp only [if_pos e]; exact hB _ (by omega)
    · simp only [if_neg e]; exact hB _ (by omega)
  · have ha := s_may_all c u w _ _ (show s_may c u w (cN c) 0 = true from hm)
    exact CoV.of h01 hne hn2 (fun j hj => ⟨s_in_bd (ha j (by omega) (by omega)).1, s_in_bd (ha j (by omega) (by omega)).2⟩)
  · exact CoV.of h01 hne hn2 (fun j hj => hB _ (by omega))
theorem TV_do (hv : TV T) (h1 : 1 ≤ v) (h11 : v ≤ 11) (hr : s_ref v T a p u w = 0) (hk : v = 11 → k = 0 ∨ k = 1) (hs : v ≤ 2 → CoV c) : TV (ts_do v T a p u w k c) := by
  unfold s_ref at hr
  unfold ts_do
  by_cases c1 : v ≤ 2
  · rw [if_pos c1] at hr ⊢
    have h6 : tN T < 6 := by
      split at hr
      · assumption
      · exact absurd hr (by decide)
    refine ⟨by show tN T + 1 ≤ 6; omega, hv.2.1, fun j hj => ?_⟩
    show CoV (if j = tN T then c else tC T j)
    have hj : j < tN T + 1 := hj
    by_cases e : j = tN T
    · rw [if_pos e]; exact hs c1
    · rw [if_neg e]; exact hv.2.2 j (by omega)
  · rw [if_neg c1] at hr ⊢
    by_cases c2 : v = 11
    · rw [if_pos c2]
      exact ⟨hv.1, hk c2, hv.2.2⟩
    · rw [if_neg c2] at hr ⊢
      have ha : inC (tN T) a = true := by
        split at hr
        · assumption
        · exact absurd hr (by decide)
      rw [if_pos ha] at hr
      obtain ⟨ea, hia⟩ := inC_t (by have := hv.1; omega) ha
      by_cases c3 : v = 10
      · rw [if_pos c3]
        refine ⟨by show tN T - 1 ≤ 6; have := hv.1; omega, hv.2.1, fun j hj => ?_⟩
        show CoV (if j < ix a then tC T j else tC T (j + 1))
        have hj : j < tN T - 1 := hj
        by_cases e : j < ix a
        · rw [if_pos e]; exact hv.2.2 j (by omega)
        · rw [if_neg e]; exact hv.2.2 _ (by omega)
      · rw [if_neg c3]
        refine ⟨hv.1, hv.2.1, fun j hj => ?_⟩
        show CoV (if j = ix a then _ else tC T j)
        by_cases e : j = ix a
        · rw [if_pos e]; exact (hv.2.2 _ hia).nc (by omega) (by omega) (s_refC_0 hr)
        · rw [if_neg e]; exact hv.2.2 j hj
end CB2


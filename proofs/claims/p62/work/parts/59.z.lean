/-! ===== the class's spare coastline: a copy folded ===== -/
section RZ
variable {V : Nat → Nat} {g f f0 : GH} {x m b p q cap cap2 : Nat} {T : TS} {c c0 : CS} {z : Nat → Int32} {A : Nat → Nat → Int32} {hs pc pn : Int32}
theorem C_copy (h : CoA f q cap2 c) (k : CoA f p cap c0) (hd : p + 3 ≤ q ∨ q + 3 ≤ p) (hi : cI c = 0 ∨ cI c = 1) (hn : cN c ≤ cap) : ∃ f1, p_X2_copyFrom V g f p q = some f1 ∧ CoA f1 p cap c ∧ h_out p (p + 3) f f1 := by
  have hb := k.2.2.2.2
  have hb2 := h.2.2.2.2
  have hn2 := h.2.2.2.1
  obtain ⟨xa, ya, e, -, -⟩ := k.arr
  obtain ⟨xs, hx1, hx2⟩ := h.2.1
  obtain ⟨ys, hy1, hy2⟩ := h.2.2.1
  have hs : ∀ (i n : Int32) (xa ya : Nat → Int32), CoA (cH p cap i n xa ya f) q cap2 c := fun i n xa ya => h.frame (fun a h1 h2 => cH_out a (by omega))
  have ex : ∀ (i n : Int32) (xa ya : Nat → Int32), h_cp (cH p cap i n xa ya f) 0 (q + 1) (0 : Int32) (p + 1) (0 : Int32) (nn (cN c)) = some (cH p cap i n (va_cpy xs xa 0 0 (cN c)) ya f) := fun i n xa ya => (hcp_of (sp := 0) (dp := 0) (show cH p cap i n xa ya f (q + 1) = some (.inl (0, cap2, .inl xs)) by rw [cH_out _ (by omega)]; exact hx1) cH_x (by omega) (by omega) (by omega) (by omega)).trans (by rw [cH_upx])
  have ey : ∀ (i n : Int32) (xa ya : Nat → Int32), h_cp (cH p cap i n xa ya f) 0 (q + 2) (0 : Int32) (p + 2) (0 : Int32) (nn (cN c)) = some (cH p cap i n xa (va_cpy ys ya 0 0 (cN c)) f) := fun i n xa ya => (hcp_of (sp := 0) (dp := 0) (show cH p cap i n xa ya f (q + 2) = some (.inl (0, cap2, .inl ys)) by rw [cH_out _ (by omega)]; exact hy1) cH_y (by omega) (by omega) (by omega) (by omega)).trans (by rw [cH_upy])
  refine ⟨cH p cap (cI c) (nn (cN c)) (va_cpy xs xa 0 0 (cN c)) (va_cpy ys ya 0 0 (cN c)) f, ?_, cH_CoA (c := c) hn hb (fun k hk => ?_) (fun k hk => ?_), cH_out⟩
  · have hm : p_X2_copyFrom V g (cH p cap (cI c0) (nn (cN c0)) xa ya f) p q = some (cH p cap (cI c) (nn (cN c)) (va_cpy xs xa 0 0 (cN c)) (va_cpy ys ya 0 0 (cN c)) f) := by
      unfold p_X2_copyFrom
      rw [c_me, (hs _ _ _ _).xs, ob_s, c_xs, ob_s, (hs _ _ _ _).n, ob_s, ex, ob_s, (hs _ _ _ _).ys, ob_s, c_ys, ob_s, (hs _ _ _ _).n, ob_s, ey, ob_s, (hs _ _ _ _).n, ob_s, c_pn, ob_s, (hs _ _ _ _).i, ob_s, hbz01 hi, ob_s, c_pi, ob_s]
    rw [← e] at hm
    exact hm
  · rw [cpy_in (by omega) (by omega), Nat.zero_add, Nat.sub_zero]
    exact hx2 k hk
  · rw [cpy_in (by omega) (by omega), Nat.zero_add, Nat.sub_zero]
    exact hy2 k hk
/-- the answer: the folded coastline's length, or -1 -/
def s_laf (T : TS) (c : CS) (w : Int32) (l : Nat) : Int32 := if s_why c w = 0 then s_len (tK T) (s_fold c w) l else -1
theorem s_fold_n {w : Int32} (h : s_why c w = 0) : cN (s_fold c w) ≤ 129 := by
  unfold s_why at h
  split at h
  · cases h
  · rename_i q
    show cN c + s_seg c ≤ 129
    omega
def sl (s : Nat ⊕ Int32) (f : GH) : (Nat × GH) ⊕ (Int32 × GH) := match s with
  | .inl e => .inl (e, f)
  | .inr v => .inr (v, f)
theorem XoA.fr {f1 : GH} (X : XoA f x hs pc pn) (e : f1 x = f x) : XoA f1 x hs pc pn := by
  unfold XoA
  rw [e]
  exact X
theorem P_lengthAfterFold (X : XoA f x hs pc pn) (C : ChA f (x + 1) T) (hv : TV T) (S : CoA f (x + 70) cap c0) (hcap : 129 ≤ cap) (a w l : Int32) : ∃ f1, p_X7_lengthAfterFold V g f x a w l = some (sl (sCo T a fun c => sIn (-50) 50 w (sIn 0 7 l (.inr (s_laf T c w (ix l))))) f1) ∧ h_out (x + 70) (x + 73) f f1 ∧ ∃ c1, CoA f1 (x + 70) cap c1 := by
  unfold p_X7_lengthAfterFold
  rw [X.me]
  unfold sCo
  cases ha : inC (tN T) a with
  | false => exact ⟨f, by rw [P_atN X C ha, xb_l, if_neg b_ff]; rfl, h_out.rf _ _ _, c0, S⟩
  | true =>
    obtain ⟨q, q1, q2, q3, q4⟩ := P_at (V := V) (g := g) X C ha
    have cv := hv.2.2 _ (inC_t (by have := hv.1; omega) ha).2
    have n1 := cv.n1
    have n2 := cv.n2
    rw [q1, xb_r, if_pos rfl, P_within, P_within]
    unfold sIn
    dsimp only
    cases hw : s_in (-50) 50 w with
    | false => exact ⟨f, by rw [if_neg b_ff, xb_l, if_neg b_ff]; rfl, h_out.rf _ _ _, c0, S⟩
    | true =>
      rw [if_pos rfl, xb_r, if_pos rfl]
      cases hl : s_in 0 7 l with
      | false => exact ⟨f, by rw [if_neg b_ff, xb_l, if_neg b_ff]; rfl, h_out.rf _ _ _, c0, S⟩
      | true =>
        obtain ⟨j, hj, rfl⟩ := lvl7 hl
        rw [if_pos rfl, xb_r, if_pos rfl, C_why q2 (by omega), ob_s, ix_nn (show j < 2147483648 by omega)]
        unfold s_laf
        by_cases hy : s_why (tC T (ix a)) w = 0
        · obtain ⟨f1, e1, k1, o1⟩ := C_copy (V := V) (g := g) q2 S (by omega) cv.i01 (by omega)
          have hfn := s_fold_n hy
          obtain ⟨f2, e2, k2, o2⟩ := C_fold (V := V) (g := g) k1 (by omega) (Nat.le_trans hfn hcap) w
          have o3 : h_out (x + 70) (x + 73) f f2 := o1.tr o2
          have X1 := X.fr (f1 := f1) (o1 x (by omega))
          have X2 := X.fr (f1 := f2) (o3 x (by omega))
          have C2 : ChA f2 (x + 1) T := C.frame (fun a h1 h2 => o3 a (by omega))
          refine ⟨f2, ?_, o3, _, k2⟩
          have hN : 1 ≤ cN (s_fold (tC T (ix a)) w) := by show 1 ≤ cN (tC T (ix a)) + _; omega
          rw [if_pos hy, if_pos hy, X.sp, ob_s, e1, ob_s, X1.sp, ob_s, e2, ob_s, X2.sp, ob_s, X2.ch, ob_s, C2.k, ob_s, C_len k2 hN hj, ob_s]
          rfl
        · exact ⟨f, by rw [if_neg hy, if_neg hy]; rfl, h_out.rf _ _ _, c0, S⟩
end RZ


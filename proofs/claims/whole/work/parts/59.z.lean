/-! ===== the class's spare coastline: a copy folded ===== -/
section RZ
variable {V : Nat → Nat} {g f f0 : GH} {x m b p q cap cap2 : Nat} {T : TS} {c c0 : CS} {z : Nat → Int32} {A : Nat → Nat → Int32} {hs pc pn : Int32}
theorem C_copy (h : CoA f q cap2 c) (k : CoA f p cap c0) (hd : p + 3 ≤ q ∨ q + 3 ≤ p) (hi : cI c = 0 ∨ cI c = 1) (hn : cN c ≤ cap) : ∃ f1, p_X2_copyFrom V g f p q = some f1 ∧ CoA f1 p cap c ∧ h_out p (p + 3) f f1 := by
  have hb := k.2.2.2.2
  have hb2 := h.2.2.2.2
  have hn2 := h.2.2.2.1
  obtain ⟨xa, ya, e, -, -⟩ := k.arr
  obtain ⟨xs, hx1, hx2⟩ := h.2.1
  obtain ⟨ys, hy1, hy2⟩ := h.2.2.1
  have hs : ∀ (i n : Int32) (xa ya : Nat → Int32), CoA (cH p cap i n xa ya f) q cap2 c := fun i n xa ya => h.frame (fun a h1 h2 => cH_out a (by omega))
  have ex : ∀ (i n : Int32) (xa ya : Nat → Int32), h_cp (cH p cap i n xa ya f) 0 (q + 1) (0 : Int32) (p + 1) (0 : Int32) (nn (cN c)) = some (cH p cap i n (va_cpy xs xa 0 0 (cN c)) ya f) := fun i n xa ya => (hcp_of (sp := 0) (dp := 0) (show cH p cap i n xa ya f (q + 1) = some (.inl (0, cap2, .inl xs)) by rw [cH_out _ (by omega)]; exact hx1) cH_x (by omega) (by omega) (by omega) (by omega)).trans (by rw [cH_upx])
  have ey : ∀ (i n : Int32) (xa ya : Nat → Int32), h_cp (cH p cap i n xa ya f) 0 (q + 2) (0 : Int32) (p + 2) (0 : Int32) (nn (cN c)) = some (cH p cap i n xa (va_cpy ys ya 0 0 (cN c)) f) := fun i n xa ya => (hcp_of (sp := 0) (dp := 0) (show cH p cap i n xa ya f (q + 2) = some (.inl (0, cap2, .inl ys)) by rw [cH_out _ (by omega)]; exact hy1) cH_y (by omega) (by omega) (by omega) (by omega)).trans (by rw [cH_upy])
  refine ⟨cH p cap (cI c) (nn (cN c)) (va_cpy xs xa 0 0 (cN c)) (va_cpy ys ya 0 0 (cN c)) f, ?_, cH_CoA (c := c) hn hb (fun k hk => ?_) (fun k hk => ?_), cH_out⟩
  · have hm : p_X2_copyFrom V g (cH p cap (cI c0) (nn (cN c0)) xa ya f) p q = some (cH p cap (cI c) (nn (cN c)) (va_cpy xs xa 0 0 (cN c)) (va_cpy ys ya 0 0 (cN c)) f) := by
      unfold p_X2_copyFrom
      rw [c_me, (hs _ _ _ _).xs, ob_s, c_xs, ob_s, (hs _ _ _ _).n, ob_s, ex, ob_s, (hs _ _ _ _).ys, ob_s, c_ys, ob_s, (hs _ _ _ _).n, ob_s, ey, ob_s, (hs _ _ _ _).n, ob_s, c_pn, ob_s, (hs _ _ _ _).i, ob_s, hbz01 hi, ob_s, c_pi, ob_s]
    rw [← e] at hm
    exact hm
  · rw [cpy_in (by omega) (by omega), Nat.zero_add, Nat.sub_zero]
    exact hx2 k hk
  · rw [cpy_in (by omega) (by omega), Nat.zero_add, Nat.sub_zero]
    exact hy2 k hk
/-- the answer: the folded coastline's length, or -1 -/
def s_laf (T : TS) (c : CS) (w : Int32) (l : Nat) : Int32 := if s_why c w = 0 then s_len (tK T) (s_fold c w) l else -1
theorem s_fold_n {w : Int32} (h : s_why c w = 0) : cN (s_fold c w) ≤ 129 := by
  unfold s_why at h
  split at h
  · cases h
  · rename_i q
    show cN c + s_seg c ≤ 129
    omega
end RZ

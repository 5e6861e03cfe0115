/-! ===== a static text appended; the builder's text as a string ===== -/
section BE
variable {V : Nat → Nat} {g f : GH} {q n : Nat} {s : List Nat}
theorem StOK.wo2 (S : StOK V g) {i : Nat} (hi : i < 23) : gO g (V (st_wi.getD i 0)) = some (.inr (51, [.ref (V (70 + i)), .int 0])) := S.2.2.2.2.2.2.2.2.1 i hi
theorem StOK.wb2 (S : StOK V g) {i : Nat} (hi : i < 23) : ∃ r, gA g (V (70 + i)) = some (.inl (1, (wL i).length, .inl r)) ∧ ∀ j, j < (wL i).length → r j = (wL i).getD j 0 := by
  have h := S.2.2.2.2.2.2.2.2.2 i hi
  rw [wl_ln2 i hi] at h
  exact h
theorem wl_sm2 : ∀ i, i < 23 → (wL i).length < 20 := by decide
theorem J_cod2 (S : StOK V g) (f : GH) {i : Nat} (hi : i < 23) : p_J0_coder_7d493 V g f (V (st_wi.getD i 0)) = some 0 := by
  unfold p_J0_coder_7d493
  rw [hme_of (S.wo2 hi), hgi_of (S.wo2 hi) rfl, ob_s, show h_yz (0 : Int32) = some 0 by decide, ob_s]
theorem J_len2 (S : StOK V g) (f : GH) {i : Nat} (hi : i < 23) : p_J0_length_8abf5 V g f (V (st_wi.getD i 0)) = some (nn (wL i).length) := by
  obtain ⟨r, h1, h2⟩ := S.wb2 hi
  have hs := wl_sm2 i hi
  unfold p_J0_length_8abf5
  rw [hme_of (S.wo2 hi), hgr_of (S.wo2 hi) rfl, ob_s, hal_of h1, ob_s, J_cod2 S f hi, ob_s]
  show some (nn (wL i).length >>> ((0 : Int32) &&& (31 : Int32))) = _
  rw [sr0 (by omega)]
theorem B_str (S : StOK V g) (B : BU f n q s) {i : Nat} (hi : i < 23) {w : List Nat} (hw : wL i = w.map nn) (ho : s.length + 20 ≤ 290) : ∃ f1 n1, p_J4_append_15ec4 V g f n q (V (st_wi.getD i 0)) = some (q, f1, n1) ∧ BDo f f1 n n1 q (s ++ w) := by
  obtain ⟨va, cap, ml, bs, B⟩ := B
  have hs := wl_sm2 i hi
  have hl : (wL i).length = w.length := by rw [hw, List.length_map]
  have hat : ∀ j, j < w.length → (wL i).getD j 0 = nn (w.getD j 0) := fun j hj => by
    rw [hw, List.getD_eq_getElem?_getD, List.getD_eq_getElem?_getD, List.getElem?_map, List.getElem?_eq_getElem hj]
    rfl
  obtain ⟨t, t1, t2⟩ := S.wb2 hi
  have tf : ∀ j, j < w.length → bfit (t j) := fun j hj => by rw [t2 j (by omega)]; exact wl_fit i hi j (by omega)
  have hJ := fun f => J_len2 (g := g) S f hi
  have hC := fun f => J_cod2 (g := g) S f hi
  rw [hl] at hs hJ t1 t2
  obtain ⟨f2, n2, va2, cap2, bs2, e2, B2, h2, l2, o2⟩ := B_ens (V := V) (g := g) B (k := s.length + w.length) (by omega)
  have b4 := B.2.1
  obtain ⟨⟨c1, c2, c3, c4, c5⟩, c6, c7, c8, c9⟩ := B2
  have hcp : h_cpbs (gA g) f2 (V (70 + i)) (0 : Int32) va2 (nn s.length) (nn w.length) = some (bH f2 va2 cap2 (va_cpy t bs2 0 s.length w.length)) := by
    unfold h_cpbs
    rw [hai_of t1, hai_of c7]
    dsimp only
    rw [nn_c (show s.length < 2147483648 by omega), nn_c (show w.length < 2147483648 by omega), show (0 : Int32).toNatClampNeg = 0 from rfl, if_pos ⟨by decide, nn_nl _ (by omega), nn_nl _ (by omega), by omega, by omega, fun j hj => by rw [Nat.zero_add]; exact tf j hj⟩]
    rfl
  have k6 : bH f2 va2 cap2 (va_cpy t bs2 0 s.length w.length) q = _ := (h_up_n f2 (.inl (1, cap2, .inl (va_cpy t bs2 0 s.length w.length))) (show q ≠ va2 by omega)).trans c6
  refine ⟨h_up (bH f2 va2 cap2 (va_cpy t bs2 0 s.length w.length)) q (.inr (1, [.ref va2, .int 0, .int ml, .int (nn (s.length + w.length))])), n2, ?_, ⟨va2, cap2, ml, va_cpy t bs2 0 s.length w.length, ⟨by rw [List.length_append]; exact h2, c2, c3, c4, c5⟩, ?_, ?_, fun j hj => ?_, fun j => ?_⟩, l2, fun a ha => ?_⟩
  · unfold p_J4_append_15ec4 p_J5_append_cf1ce
    rw [hme_of b4, hme_of b4, hJ, ob_s, hgi_of b4 rfl, ob_s, nn_add, e2, ob_s]
    dsimp only
    rw [hgi_of c6 rfl, ob_s]
    have hp : p_J5_putStringAt_47b60 V g f2 q (nn s.length) (V (st_wi.getD i 0)) = some (bH f2 va2 cap2 (va_cpy t bs2 0 s.length w.length)) := by
      unfold p_J5_putStringAt_47b60 p_J5_inflateIfNeededFor_a7421 p_J0_getBytes_840e7
      rw [hme_of c6, hme_of c6, hgi_of c6 rfl, ob_s, hC, ob_s, if_pos rfl, ob_s, hgr_of c6 rfl, ob_s, ob_s, hme_of (S.wo2 hi), ob_s, if_pos rfl, hgr_of (S.wo2 hi) rfl, ob_s, ob_s, hal_of t1, ob_s]
      show ((h_cpbs (gA g) f2 (V (70 + i)) (0 : Int32) va2 (nn s.length <<< ((0 : Int32) &&& (31 : Int32))) (nn w.length)).bind _).bind _ = _
      rw [sh0, hcp, ob_s, ob_s]
    rw [hp, ob_s, hgi_of k6 rfl, ob_s, nn_add, hpt_of k6 (by decide : 3 < 4), ob_s, ob_s]
    rfl
  · rw [h_up_s, List.length_append]
  · rw [h_up_n _ _ (by omega)]
    exact h_up_s _ _ _
  · rw [List.length_append] at hj
    rw [gd_app2]
    by_cases w1 : j < s.length
    · rw [if_pos w1, cpy_out (by omega)]; exact c8 j w1
    · rw [if_neg w1, cpy_in (by omega) (by omega), t2 _ (by omega), Nat.zero_add, hat _ (by omega)]
  · by_cases w1 : s.length ≤ j ∧ j < s.length + w.length
    · rw [cpy_in w1.1 w1.2]; exact tf _ (by omega)
    · rw [cpy_out (by omega)]; exact c9 j
  · rw [h_up_n _ _ (by omega)]
    unfold bH
    rw [h_up_n _ _ (by omega), o2 a ha]
/-- a new builder -/
theorem B_new (f : GH) (q : Nat) : ∃ f1, p_J4_init_da8c8 V g (h_up f q (.inr (1, [.null, .int 0, .int 0, .int 0]))) (q + 1) q = some (f1, q + 2) ∧ BDo f f1 q (q + 2) q [] := by
  obtain ⟨f1, e1, e2, e3, e4⟩ := I_sb (V := V) (g := g) f q
  exact ⟨f1, e1, ⟨q + 1, 16, 0, fun _ => 0, ⟨Nat.zero_le _, by omega, by omega, by omega, by omega⟩, e2, e3, fun i hi => absurd hi (Nat.not_lt_zero i), fun _ => bfit_0⟩, by omega, fun a ha => e4 a (by omega)⟩
/-- a new builder with a static text in it -/
theorem B_newS (S : StOK V g) (f : GH) (q : Nat) {i : Nat} (hi : i < 23) {w : List Nat} (hw : wL i = w.map nn) : ∃ f1 n1, p_J4_init_a7421 V g (h_up f q (.inr (1, [.null, .int 0, .int 0, .int 0]))) (q + 1) q (V (st_wi.getD i 0)) = some (f1, n1) ∧ BDo f f1 q n1 q w := by
  have hs := wl_sm2 i hi
  have hl : (wL i).length = w.length := by rw [hw, List.length_map]
  have hJ := fun f => J_len2 (g := g) S f hi
  rw [hl] at hs hJ
  have c0 : h_up f q (.inr (1, [.null, .int 0, .int 0, .int 0])) q = some (.inr (1, [.null, .int 0, .int 0, .int 0])) := h_up_s _ _ _
  have o0 : ∀ a, a ≠ q → h_up f q (.inr (1, [.null, .int 0, .int 0, .int 0])) a = f a := fun a ha => h_up_n f _ ha
  generalize h_up f q (.inr (1, [.null, .int 0, .int 0, .int 0])) = F0 at *
  obtain ⟨F1, e1, c1, o1⟩ := I_pt c0 1 (by simp) (.int 0)
  have c2 : h_up F1 (q + 1) (.inl (1, w.length + 16, .inl fun _ => 0)) q = _ := (h_up_n _ _ (by omega)).trans c1
  have d2 : h_up F1 (q + 1) (.inl (1, w.length + 16, .inl fun _ => 0)) (q + 1) = _ := h_up_s _ _ _
  have o2 : ∀ a, a ≠ q + 1 → h_up F1 (q + 1) (.inl (1, w.length + 16, .inl fun _ => 0)) a = F1 a := fun a ha => h_up_n _ _ ha
  have hnv : h_nv F1 (q + 1) 1 (nn (w.length + 16)) 60 = some (h_up F1 (q + 1) (.inl (1, w.length + 16, .inl fun _ => 0))) := by
    unfold h_nv
    rw [nn_c (by omega), if_pos ⟨nn_nl _ (by omega), by omega⟩]
  generalize h_up F1 (q + 1) (.inl (1, w.length + 16, .inl fun _ => 0)) = F2 at *
  obtain ⟨F3, e3, c3, o3⟩ := I_pt c2 0 (by simp) (.ref (q + 1))
  have B : BU F3 (q + 2) q [] := ⟨q + 1, w.length + 16, 0, fun _ => 0, ⟨Nat.zero_le _, by omega, by omega, by omega, by omega⟩, c3, (o3 _ (by omega)).trans d2, fun i hi => absurd hi (Nat.not_lt_zero i), fun _ => bfit_0⟩
  obtain ⟨F4, n4, e4, B4, l4, o4⟩ := B_str (g := g) S B hi hw (by show 0 + 20 ≤ 290; omega)
  refine ⟨F4, n4, ?_, B4, by omega, fun a ha => by rw [o4 a ha, o3 a (by omega), o2 a (by omega), o1 a (by omega), o0 a (by omega)]⟩
  unfold p_J4_init_a7421 p_J5_init_a7421 p_J4_append_cf1ce
  rw [hme_of c0, hme_of c0, hJ, ob_s, if_neg (by rw [show (2147483631 : Int32) = nn 2147483631 from rfl, nn_le (by omega) (by omega)]; omega), J_cod2 S _ hi, ob_s, show h_yz (0 : Int32) = some 0 by decide, ob_s, e1, ob_s, if_pos rfl, show (16 : Int32) = nn 16 from rfl, nn_add, hnv, ob_s, e3, ob_s, hme_of c3, e4, ob_s, ob_s, ob_s]
/-- its text as a string of ours -/
theorem B_tos (B : BU f n q s) : ∃ f1, p_J4_toString_0e30d V g f n q = some (n, f1, n + 2) ∧ TX f1 n (n + 1) s ∧ ∀ a, a < n → f1 a = f a := by
  obtain ⟨va, cap, ml, bs, B⟩ := B
  obtain ⟨⟨b1, b2, b3, b4, b5⟩, b6, b7, b8, b9⟩ := id B
  have c0 : h_up f n (.inr (0, [.null, .int 0, .int 0, .int 0])) n = some (.inr (0, [.null, .int 0, .int 0, .int 0])) := h_up_s _ _ _
  have o0 : ∀ a, a ≠ n → h_up f n (.inr (0, [.null, .int 0, .int 0, .int 0])) a = f a := fun a ha => h_up_n f _ ha
  unfold p_J4_toString_0e30d
  rw [hme_of b6, ob_s]
  generalize h_up f n (.inr (0, [.null, .int 0, .int 0, .int 0])) = F0 at *
  have B0 : BD F0 n q s va cap ml bs := ⟨⟨b1, b2, b3, b4, b5⟩, (o0 _ (by omega)).trans b6, (o0 _ (by omega)).trans b7, b8, b9⟩
  obtain ⟨F1, e1, c1, o1⟩ := I_pt c0 1 (by simp) (.int 0)
  have f1v : F1 va = some (.inl (1, cap, .inl bs)) := (o1 _ (by omega)).trans B0.2.2.1
  have hr : ∃ F2 r, p_J7_copyOfRange_39247 V g F1 (n + 1) va (0 : Int32) (nn s.length) = some (n + 1, F2, n + 2) ∧ F2 (n + 1) = some (.inl (1, s.length, .inl r)) ∧ (∀ j, j < s.length → r j = bs j) ∧ ∀ a, a ≠ n + 1 → F2 a = F1 a := by
    unfold p_J7_copyOfRange_39247
    rw [if_pos rfl, hal_of f1v, ob_s]
    dsimp only
    by_cases c : s.length = cap
    · have hcl : h_cl F1 (n + 1) va 600 = some (h_up F1 (n + 1) (.inl (1, cap, .inl bs))) := by
        unfold h_cl
        rw [hai_of f1v]
        dsimp only
        rw [if_pos ⟨b3, fun i _ => b9 i⟩]
      refine ⟨h_up F1 (n + 1) (.inl (1, cap, .inl bs)), bs, ?_, by rw [c]; exact h_up_s _ _ _, fun _ _ => rfl, fun a ha => h_up_n _ _ ha⟩
      rw [if_pos (by rw [c]), hcl, ob_s, hal_of (h_up_s _ _ _), ob_s]
    · have hnv : h_nv F1 (n + 1) 1 (nn s.length) 600 = some (h_up F1 (n + 1) (.inl (1, s.length, .inl fun _ => 0))) := by
        unfold h_nv
        rw [nn_c (by omega), if_pos ⟨nn_nl _ (by omega), by omega⟩]
      have k2 : h_up F1 (n + 1) (.inl (1, s.length, .inl fun _ => 0)) va = some (.inl (1, cap, .inl bs)) := (h_up_n _ _ (by omega)).trans f1v
      have hcp : h_cpb (h_up F1 (n + 1) (.inl (1, s.length, .inl fun _ => 0))) va (0 : Int32) (n + 1) (0 : Int32) (nn s.length) = some (h_up (h_up F1 (n + 1) (.inl (1, s.length, .inl fun _ => 0))) (n + 1) (.inl (1, s.length, .inl (va_cpy bs (fun _ => 0) 0 0 s.length)))) := by
        unfold h_cpb
        rw [hai_of k2, hai_of (h_up_s _ _ _)]
        dsimp only
        rw [nn_c (by omega), show (0 : Int32).toNatClampNeg = 0 from rfl, if_pos ⟨by decide, by decide, nn_nl _ (by omega), by omega, by omega, fun i _ => b9 _⟩]
      refine ⟨h_up (h_up F1 (n + 1) (.inl (1, s.length, .inl fun _ => 0))) (n + 1) (.inl (1, s.length, .inl (va_cpy bs (fun _ => 0) 0 0 s.length))), va_cpy bs (fun _ => 0) 0 0 s.length, ?_, h_up_s _ _ _, fun j hj => by rw [cpy_in (by omega) (by omega)]; congr 1; omega, fun a ha => (h_up_n _ _ ha).trans (h_up_n _ _ ha)⟩
      rw [if_neg (fun h => c (by rw [nn_eq (by omega) (by omega)] at h; exact h))]
      unfold p_J7_copyOfRangeByte_39247 p_J7_checkLength_df160 p_J9_min_7cf53
      rw [if_pos (by rw [n_0, nn_le (by omega) (by omega)]; omega), ob_s, n_0, nn_sub (by omega), Nat.sub_zero, hnv, ob_s, hal_of k2, ob_s]
      dsimp only
      rw [nn_sub (by omega), Nat.sub_zero, if_pos (by rw [nn_lt (by omega) (by omega)]; omega), ob_s]
      show ((h_cpb _ va (0 : Int32) (n + 1) (0 : Int32) (nn s.length)).bind _).bind _ = _
      rw [hcp, ob_s, ob_s]
      rfl
  obtain ⟨F2, r, r1, r2, r3, r4⟩ := hr
  have c2 : F2 n = _ := (r4 n (by omega)).trans c1
  obtain ⟨F3, e3, c3, o3⟩ := I_pt c2 0 (by simp) (.ref (n + 1))
  refine ⟨F3, ?_, ⟨⟨_, _, c3⟩, r, (o3 _ (by omega)).trans r2, fun j hj => (r3 j hj).trans (b8 j hj)⟩, fun a ha => by rw [o3 a (by omega), r4 a (by omega), o1 a (by omega), o0 a (by omega)]⟩
  unfold p_J0_init_81219 p_J0_init_db425 p_J5_getValue_6d5f1
  rw [hme_of c0, hme_of c0, hme_of B0.2.1, hgr_of B0.2.1 rfl, ob_s, ob_s, B_cnt B0, ob_s, B_lat B0, ob_s, if_neg (by decide), e1, ob_s, r1, ob_s]
  dsimp only
  rw [e3, ob_s, ob_s, ob_s]
end BE

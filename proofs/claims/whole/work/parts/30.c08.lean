abbrev rm_X7_lengthWithoutPoint : Room := { frames := 10, cells := 2, slots := 12, locals := 265 }
theorem k_X7_lengthWithoutPoint : g_CV yX7_lengthWithoutPoint cX7_lengthWithoutPoint 3 (some .int) 2 := ⟨⟨m_1056, m_1, by decide +kernel⟩, m_1054, m_1055⟩
set_option maxHeartbeats 4000000 in
set_option maxRecDepth 100000 in
theorem c_X7_lengthWithoutPoint (l : Launch) (hl0 : l.stackTraces = false) (V : Nat → Nat) (g : GH) (D : va_G) (cT : Nat → ClassId) (f : GH) (n : Nat) (a0 : Nat) (a1 : Int32) (a2 : Int32) (o : Nat ⊕ Int32) (hq : p_X7_lengthWithoutPoint V g f a0 a1 a2 = some o) : vx_Met l yX7_lengthWithoutPoint (Cond.code yX7_lengthWithoutPoint cX7_lengthWithoutPoint 3 (some .int) :: g_B) rm_X7_lengthWithoutPoint (va_Pc [.ref a0, .int a1, .int a2] (g_I V g D cT f n)) (g_Xi o n) (g_XX V D cT f o) 2 12 g_no := by
  refine g_beginX (own := RX7) [.ref a0, .int a1, .int a2] [(0, .ref a0), (1, .int a1), (2, .int a2)] g_no (fun _ h => h.elim) (by decide) rfl (Nat.le_of_ble_eq_true rfl) rfl ?_
  intro p e s m args below meth c hx hb hr hlocks ht0 hC hI ls hl
  obtain ⟨hx, hb, hml, hown, hB⟩ := id hC
  obtain ⟨H, hH⟩ : ∃ H, H = s.heap := ⟨_, rfl⟩
  obtain ⟨locs, hlocs⟩ : ∃ L : List Loc, L = [] := ⟨_, rfl⟩
  rw [← hH, ← hlocs] at hI ⊢
  clear hH hlocs
  unfold p_X7_lengthWithoutPoint at hq
  replace hq := (h_me_eq hq).2
  refine lv_aload_n hx hb dX7_lengthWithoutPoint_0 rfl (lv_at hl 0 rfl) ?_
  refine lv_iload_n hx hb dX7_lengthWithoutPoint_1 rfl (lv_at hl 1 rfl) ?_
  refine lv_iload_n hx hb dX7_lengthWithoutPoint_2 rfl (lv_at hl 2 rfl) ?_
  rcases x_b_eq hq with ⟨v1, ev1, hq⟩ | ⟨v1, ev1, hq⟩
  · exact gt_RR hlocks ht0 (g_runVX (As := [.int a1, .int a2]) (rest := []) (ci := 9) hC (c_X7_coastWithPoint l hl0 V g D cT f n a0 a1 a2 (.inl v1) ev1) k_X7_coastWithPoint m_770 rfl rfl ⟨Nat.le_of_ble_eq_true rfl, Nat.le_of_ble_eq_true rfl⟩ hI rfl rfl (h_me_eq ev1).1 rfl hl.1 rfl (Nat.le_of_ble_eq_true rfl) dX7_lengthWithoutPoint_3 ⟨by decide, by decide⟩) no_r hI hq (by decide) (by decide)
  · refine gx_r (g_runVX (As := [.int a1, .int a2]) (rest := []) (ci := 9) hC (c_X7_coastWithPoint l hl0 V g D cT f n a0 a1 a2 (.inr v1) ev1) k_X7_coastWithPoint m_770 rfl rfl ⟨Nat.le_of_ble_eq_true rfl, Nat.le_of_ble_eq_true rfl⟩ hI rfl rfl (h_me_eq ev1).1 rfl hl.1 rfl (Nat.le_of_ble_eq_true rfl) dX7_lengthWithoutPoint_3 ⟨by decide, by decide⟩) hI (fun H locs hI => ?_)
    refine lv_iload_n hx hb dX7_lengthWithoutPoint_6 rfl (lv_at hl 2 rfl) ?_
    refine lv_aload_n hx hb dX7_lengthWithoutPoint_7 rfl (lv_at hl 0 rfl) ?_
    obtain ⟨v2, ev2, hq⟩ := b_s hq
    refine fa_gr (own := RX7) (ref := "CoastlineRuler") (k := 0) hx hb hB inB_RX7 hown hI rfl (by decide) m_265 (fun _ h9 => h9) ev2 dX7_lengthWithoutPoint_8 ?_
    obtain ⟨v3, ev3, hq⟩ := b_s hq
    refine fa_gi (own := RX7) (ref := "CoastlineRuler$Chart") (k := 2) hx hb hB inB_RX1 hown hI rfl (by decide) m_83 (fun _ h9 => h9) ev3 dX7_lengthWithoutPoint_11 ?_
    obtain ⟨v4, ev4, hq⟩ := b_s hq
    refine gr_i (g_runV (As := [.int a2, .int v3]) (rest := []) (ci := 5) hC (c_X2_measureWithout l V g D cT f n v1 a2 v3 v4 ev4) k_X2_measureWithout m_1057 rfl rfl ⟨Nat.le_of_ble_eq_true rfl, Nat.le_of_ble_eq_true rfl⟩ hI rfl rfl (h_me_eq ev4).1 rfl hl.1 rfl (Nat.le_of_ble_eq_true rfl) dX7_lengthWithoutPoint_14 ⟨by decide, by decide⟩) hI (fun H locs hI => ?_)
    exact ge_Xi hx hb hlocks hr rfl hI hq dX7_lengthWithoutPoint_17

abbrev rm_X7_leastImportantPoint : Room := { frames := 9, cells := 1, slots := 6, locals := 265 }
theorem k_X7_leastImportantPoint : g_CV yX7_leastImportantPoint cX7_leastImportantPoint 7 (some .int) 1 := ⟨⟨m_1068, m_1, by decide +kernel⟩, m_1066, m_1067⟩
set_option maxHeartbeats 4000000 in
set_option maxRecDepth 100000 in
theorem c_X7_leastImportantPoint (l : Launch) (hl0 : l.stackTraces = false) (V : Nat → Nat) (g : GH) (D : va_G) (cT : Nat → ClassId) (f : GH) (n : Nat) (a0 : Nat) (a1 : Int32) (o : Nat ⊕ Int32) (hq : p_X7_leastImportantPoint V g f a0 a1 = some o) : vx_Met l yX7_leastImportantPoint (Cond.code yX7_leastImportantPoint cX7_leastImportantPoint 7 (some .int) :: g_B) rm_X7_leastImportantPoint (va_Pc [.ref a0, .int a1] (g_I V g D cT f n)) (g_Xi o n) (g_XX V D cT f o) 1 6 g_no := by
  refine g_beginX (own := RX7) [.ref a0, .int a1] [(0, .ref a0), (1, .int a1)] g_no (fun _ h => h.elim) (by decide) rfl (Nat.le_of_ble_eq_true rfl) rfl ?_
  intro p e s m args below meth c hx hb hr hlocks ht0 hC hI ls hl
  obtain ⟨hx, hb, hml, hown, hB⟩ := id hC
  obtain ⟨H, hH⟩ : ∃ H, H = s.heap := ⟨_, rfl⟩
  obtain ⟨locs, hlocs⟩ : ∃ L : List Loc, L = [] := ⟨_, rfl⟩
  rw [← hH, ← hlocs] at hI ⊢
  clear hH hlocs
  unfold p_X7_leastImportantPoint at hq
  replace hq := (h_me_eq hq).2
  refine lv_aload_n hx hb dX7_leastImportantPoint_0 rfl (lv_at hl 0 rfl) ?_
  refine lv_iload_n hx hb dX7_leastImportantPoint_1 rfl (lv_at hl 1 rfl) ?_
  rcases x_b_eq hq with ⟨v1, ev1, hq⟩ | ⟨v1, ev1, hq⟩
  · exact gt_RR hlocks ht0 (g_runVX (As := [.int a1]) (rest := []) (ci := 9) hC (c_X7_coastAt l hl0 V g D cT f n a0 a1 (.inl v1) ev1) k_X7_coastAt m_750 rfl rfl ⟨Nat.le_of_ble_eq_true rfl, Nat.le_of_ble_eq_true rfl⟩ hI rfl rfl (h_me_eq ev1).1 rfl hl.1 rfl (Nat.le_of_ble_eq_true rfl) dX7_leastImportantPoint_2 ⟨by decide, by decide⟩) no_r hI hq (by decide) (by decide)
  · refine gx_r (g_runVX (As := [.int a1]) (rest := []) (ci := 9) hC (c_X7_coastAt l hl0 V g D cT f n a0 a1 (.inr v1) ev1) k_X7_coastAt m_750 rfl rfl ⟨Nat.le_of_ble_eq_true rfl, Nat.le_of_ble_eq_true rfl⟩ hI rfl rfl (h_me_eq ev1).1 rfl hl.1 rfl (Nat.le_of_ble_eq_true rfl) dX7_leastImportantPoint_2 ⟨by decide, by decide⟩) hI (fun H locs hI => ?_)
    refine lv_astore_n (lv' := [(2, .ref v1), (0, .ref a0), (1, .int a1)]) hx hb dX7_leastImportantPoint_5 rfl hl (by decide) rfl (fun ls hl => ?_)
    refine lv_iconst (v := (-1 : Int32)) hx hb dX7_leastImportantPoint_6 (by decide) ?_
    refine lv_istore_n (lv' := [(3, .int (-1 : Int32)), (2, .ref v1), (0, .ref a0), (1, .int a1)]) hx hb dX7_leastImportantPoint_7 rfl hl (by decide) rfl (fun ls hl => ?_)
    refine lv_iconst (v := (-1 : Int32)) hx hb dX7_leastImportantPoint_8 (by decide) ?_
    refine lv_istore (lv' := [(4, .int (-1 : Int32)), (3, .int (-1 : Int32)), (2, .ref v1), (0, .ref a0), (1, .int a1)]) hx hb dX7_leastImportantPoint_9 hl (by decide) rfl (fun ls hl => ?_)
    refine lv_iconst (v := (0 : Int32)) hx hb dX7_leastImportantPoint_11 (by decide) ?_
    refine lv_istore (lv' := [(5, .int (0 : Int32)), (4, .int (-1 : Int32)), (3, .int (-1 : Int32)), (2, .ref v1), (0, .ref a0), (1, .int a1)]) hx hb dX7_leastImportantPoint_12 hl (by decide) rfl (fun ls hl => ?_)
    have hl14 : ∀ (K58 : Int32 → Option (Nat ⊕ Int32)) (hK58 : ∀ (x3 : Int32) (H : Heap) (locs : List Loc) (ls : Array Slot), g_at g_no V g D cT f n s H locs → lv_has ls 7 [(3, .int x3)] → K58 x3 = some o → W p l e rm_X7_leastImportantPoint s m args below meth c H locs 1 6 (vx_MQ below (g_Xi o n) (g_XX V D cT f o) args s 1 6 g_no) (F0 m 58 ls [])) (N : Nat) (x0 : Nat) (x2 : Nat) (x3 : Int32) (x4 : Int32) (x5 : Int32) (H : Heap) (locs : List Loc) (ls : Array Slot), g_at g_no V g D cT f n s H locs → lv_has ls 7 [(0, .ref x0), (2, .ref x2), (3, .int x3), (4, .int x4), (5, .int x5)] → p_X7_leastImportantPoint_l14 V g f K58 N x0 x2 x3 x4 x5 = some o → W p l e rm_X7_leastImportantPoint s m args below meth c H locs 1 6 (vx_MQ below (g_Xi o n) (g_XX V D cT f o) args s 1 6 g_no) (F0 m 14 ls []) := by
      intro K58 hK58 N
      induction N with
      | zero =>
        intro x0 x2 x3 x4 x5 H locs ls hI hl hq
        rw [p_X7_leastImportantPoint_l14] at hq
        cases hq
      | succ N ih =>
        intro x0 x2 x3 x4 x5 H locs ls hI hl hq
        rw [p_X7_leastImportantPoint_l14] at hq
        refine lv_iload hx hb dX7_leastImportantPoint_14 (lv_at hl 4 rfl) ?_
        refine lv_aload_n hx hb dX7_leastImportantPoint_16 rfl (lv_at hl 1 rfl) ?_
        obtain ⟨v2, ev2, hq⟩ := b_s hq
        refine fa_gi (own := RX7) (ref := "CoastlineRuler$Coast") (k := 2) hx hb hB inB_RX2 hown hI rfl (by decide) m_59 (fun _ h9 => h9) ev2 dX7_leastImportantPoint_17 ?_
        refine lv_icmp_ge (tgt := 58) hx hb dX7_leastImportantPoint_20 (by decide) (fun c3 => ?_) (fun c3 => ?_)
        · replace hq := i_t c3 hq
          exact hK58 x3 H locs ls hI (lv_sub hl [2] rfl) hq
        · replace hq := i_f c3 hq
          refine lv_aload_n hx hb dX7_leastImportantPoint_23 rfl (lv_at hl 1 rfl) ?_
          refine lv_iload hx hb dX7_leastImportantPoint_24 (lv_at hl 4 rfl) ?_
          refine lv_aload_n hx hb dX7_leastImportantPoint_26 rfl (lv_at hl 0 rfl) ?_
          obtain ⟨v4, ev4, hq⟩ := b_s hq
          refine fa_gr (own := RX7) (ref := "CoastlineRuler") (k := 0) hx hb hB inB_RX7 hown hI rfl (by decide) m_265 (fun _ h9 => h9) ev4 dX7_leastImportantPoint_27 ?_
          obtain ⟨v5, ev5, hq⟩ := b_s hq
          refine fa_gi (own := RX7) (ref := "CoastlineRuler$Chart") (k := 2) hx hb hB inB_RX1 hown hI rfl (by decide) m_83 (fun _ h9 => h9) ev5 dX7_leastImportantPoint_30 ?_
          obtain ⟨v6, ev6, hq⟩ := b_s hq
          refine gr_i (g_runV (As := [.int x5, .int v5]) (rest := []) (ci := 5) hC (c_X2_measureWithout l V g D cT f n x2 x5 v5 v6 ev6) k_X2_measureWithout m_1057 rfl rfl ⟨Nat.le_of_ble_eq_true rfl, Nat.le_of_ble_eq_true rfl⟩ hI rfl rfl (h_me_eq ev6).1 rfl hl.1 rfl (Nat.le_of_ble_eq_true rfl) dX7_leastImportantPoint_33 ⟨by decide, by decide⟩) hI (fun H locs hI => ?_)
          refine lv_istore (lv' := [(6, .int v6), (0, .ref x0), (2, .ref x2), (3, .int x3), (4, .int x4), (5, .int x5)]) hx hb dX7_leastImportantPoint_36 hl (by decide) rfl (fun ls hl => ?_)
          refine lv_iload hx hb dX7_leastImportantPoint_38 (lv_at hl 0 rfl) ?_
          refine lv_iload hx hb dX7_leastImportantPoint_40 (lv_at hl 4 rfl) ?_
          refine lv_icmp_le (tgt := 52) hx hb dX7_leastImportantPoint_42 (by decide) (fun c7 => ?_) (fun c7 => ?_)
          · replace hq := i_t c7 hq
            refine lv_iinc (v := x5 + (1 : Int32)) (lv' := [(5, .int (x5 + (1 : Int32))), (6, .int v6), (0, .ref x0), (2, .ref x2), (3, .int x3), (4, .int x4)]) hx hb dX7_leastImportantPoint_52 hl (k := 5) rfl rfl (by decide) rfl (fun ls hl => ?_)
            refine lv_goto (tgt := 14) hx hb dX7_leastImportantPoint_55 (by decide) ?_
            exact ih x0 x2 x3 x4 (x5 + (1 : Int32)) H locs ls hI (lv_sub hl [2, 3, 4, 5, 0] rfl) hq
          · replace hq := i_f c7 hq
            refine lv_iload hx hb dX7_leastImportantPoint_45 (lv_at hl 5 rfl) ?_
            refine lv_istore_n (lv' := [(3, .int x5), (6, .int v6), (0, .ref x0), (2, .ref x2), (4, .int x4), (5, .int x5)]) hx hb dX7_leastImportantPoint_47 rfl hl (by decide) rfl (fun ls hl => ?_)
            refine lv_iload hx hb dX7_leastImportantPoint_48 (lv_at hl 1 rfl) ?_
            refine lv_istore (lv' := [(4, .int v6), (3, .int x5), (6, .int v6), (0, .ref x0), (2, .ref x2), (5, .int x5)]) hx hb dX7_leastImportantPoint_50 hl (by decide) rfl (fun ls hl => ?_)
            refine lv_iinc (v := x5 + (1 : Int32)) (lv' := [(5, .int (x5 + (1 : Int32))), (4, .int v6), (3, .int x5), (6, .int v6), (0, .ref x0), (2, .ref x2)]) hx hb dX7_leastImportantPoint_52 hl (k := 5) rfl rfl (by decide) rfl (fun ls hl => ?_)
            refine lv_goto (tgt := 14) hx hb dX7_leastImportantPoint_55 (by decide) ?_
            exact ih x0 x2 x5 v6 (x5 + (1 : Int32)) H locs ls hI (lv_sub hl [4, 5, 2, 1, 0] rfl) hq
    refine hl14 _ ?_ FU a0 v1 (-1 : Int32) (-1 : Int32) (0 : Int32) H locs ls hI (lv_sub hl [4, 3, 2, 1, 0] rfl) hq
    · intro x3 H locs ls hI hl hq
      refine lv_iload_n hx hb dX7_leastImportantPoint_58 rfl (lv_at hl 0 rfl) ?_
      exact ge_Xi hx hb hlocks hr rfl hI hq dX7_leastImportantPoint_59

abbrev rm_X7_lengthInOtherMetric : Room := { frames := 9, cells := 2, slots := 12, locals := 238 }
theorem k_X7_lengthInOtherMetric : g_CV yX7_lengthInOtherMetric cX7_lengthInOtherMetric 4 (some .int) 2 := ⟨⟨m_1075, m_1, by decide +kernel⟩, m_1073, m_1074⟩
set_option maxHeartbeats 4000000 in
set_option maxRecDepth 100000 in
theorem c_X7_lengthInOtherMetric (l : Launch) (hl0 : l.stackTraces = false) (V : Nat → Nat) (g : GH) (D : va_G) (cT : Nat → ClassId) (f : GH) (n : Nat) (a0 : Nat) (a1 : Int32) (a2 : Int32) (o : Nat ⊕ Int32) (hq : p_X7_lengthInOtherMetric V g f a0 a1 a2 = some o) : vx_Met l yX7_lengthInOtherMetric (Cond.code yX7_lengthInOtherMetric cX7_lengthInOtherMetric 4 (some .int) :: g_B) rm_X7_lengthInOtherMetric (va_Pc [.ref a0, .int a1, .int a2] (g_I V g D cT f n)) (g_Xi o n) (g_XX V D cT f o) 2 12 g_no := by
  refine g_beginX (own := RX7) [.ref a0, .int a1, .int a2] [(0, .ref a0), (1, .int a1), (2, .int a2)] g_no (fun _ h => h.elim) (by decide) rfl (Nat.le_of_ble_eq_true rfl) rfl ?_
  intro p e s m args below meth c hx hb hr hlocks ht0 hC hI ls hl
  obtain ⟨hx, hb, hml, hown, hB⟩ := id hC
  obtain ⟨H, hH⟩ : ∃ H, H = s.heap := ⟨_, rfl⟩
  obtain ⟨locs, hlocs⟩ : ∃ L : List Loc, L = [] := ⟨_, rfl⟩
  rw [← hH, ← hlocs] at hI ⊢
  clear hH hlocs
  unfold p_X7_lengthInOtherMetric at hq
  replace hq := (h_me_eq hq).2
  refine lv_aload_n hx hb dX7_lengthInOtherMetric_0 rfl (lv_at hl 0 rfl) ?_
  refine lv_iload_n hx hb dX7_lengthInOtherMetric_1 rfl (lv_at hl 1 rfl) ?_
  rcases x_b_eq hq with ⟨v1, ev1, hq⟩ | ⟨v1, ev1, hq⟩
  · exact gt_RR hlocks ht0 (g_runVX (As := [.int a1]) (rest := []) (ci := 9) hC (c_X7_coastAt l hl0 V g D cT f n a0 a1 (.inl v1) ev1) k_X7_coastAt m_750 rfl rfl ⟨Nat.le_of_ble_eq_true rfl, Nat.le_of_ble_eq_true rfl⟩ hI rfl rfl (h_me_eq ev1).1 rfl hl.1 rfl (Nat.le_of_ble_eq_true rfl) dX7_lengthInOtherMetric_2 ⟨by decide, by decide⟩) no_r hI hq (by decide) (by decide)
  · refine gx_r (g_runVX (As := [.int a1]) (rest := []) (ci := 9) hC (c_X7_coastAt l hl0 V g D cT f n a0 a1 (.inr v1) ev1) k_X7_coastAt m_750 rfl rfl ⟨Nat.le_of_ble_eq_true rfl, Nat.le_of_ble_eq_true rfl⟩ hI rfl rfl (h_me_eq ev1).1 rfl hl.1 rfl (Nat.le_of_ble_eq_true rfl) dX7_lengthInOtherMetric_2 ⟨by decide, by decide⟩) hI (fun H locs hI => ?_)
    refine lv_astore_n (lv' := [(3, .ref v1), (0, .ref a0), (1, .int a1), (2, .int a2)]) hx hb dX7_lengthInOtherMetric_5 rfl hl (by decide) rfl (fun ls hl => ?_)
    refine lv_iload_n hx hb dX7_lengthInOtherMetric_6 rfl (lv_at hl 3 rfl) ?_
    refine lv_iconst (v := (0 : Int32)) hx hb dX7_lengthInOtherMetric_7 (by decide) ?_
    refine lv_bipush (v := (7 : Int32)) hx hb dX7_lengthInOtherMetric_8 (by decide) ?_
    rcases x_b_eq hq with ⟨v2, ev2, hq⟩ | ⟨v2, ev2, hq⟩
    · exact gt_RR hlocks ht0 (g_runSX (As := [.int a2, .int (0 : Int32), .int (7 : Int32)]) (rest := []) hC (c_X7_requireWithin l hl0 V g D cT f n a2 (0 : Int32) (7 : Int32) (.inl v2) ev2) k_X7_requireWithin m_618 rfl rfl ⟨Nat.le_of_ble_eq_true rfl, Nat.le_of_ble_eq_true rfl⟩ hI rfl hl.1 rfl (Nat.le_of_ble_eq_true rfl) dX7_lengthInOtherMetric_10 ⟨by decide, by decide⟩) no_v hI hq (by decide) (by decide)
    · refine gx_v (g_runSX (As := [.int a2, .int (0 : Int32), .int (7 : Int32)]) (rest := []) hC (c_X7_requireWithin l hl0 V g D cT f n a2 (0 : Int32) (7 : Int32) (.inr v2) ev2) k_X7_requireWithin m_618 rfl rfl ⟨Nat.le_of_ble_eq_true rfl, Nat.le_of_ble_eq_true rfl⟩ hI rfl hl.1 rfl (Nat.le_of_ble_eq_true rfl) dX7_lengthInOtherMetric_10 ⟨by decide, by decide⟩) hI (fun H locs hI => ?_)
      refine lv_aload_n hx hb dX7_lengthInOtherMetric_13 rfl (lv_at hl 0 rfl) ?_
      refine lv_iload_n hx hb dX7_lengthInOtherMetric_14 rfl (lv_at hl 3 rfl) ?_
      refine lv_aload_n hx hb dX7_lengthInOtherMetric_15 rfl (lv_at hl 1 rfl) ?_
      obtain ⟨v3, ev3, hq⟩ := b_s hq
      refine fa_gr (own := RX7) (ref := "CoastlineRuler") (k := 0) hx hb hB inB_RX7 hown hI rfl (by decide) m_265 (fun _ h9 => h9) ev3 dX7_lengthInOtherMetric_16 ?_
      obtain ⟨v4, ev4, hq⟩ := b_s hq
      refine fa_gi (own := RX7) (ref := "CoastlineRuler$Chart") (k := 2) hx hb hB inB_RX1 hown hI rfl (by decide) m_83 (fun _ h9 => h9) ev4 dX7_lengthInOtherMetric_19 ?_
      refine lv_if_ne (tgt := 29) hx hb dX7_lengthInOtherMetric_22 (by decide) (fun c5 => ?_) (fun c5 => ?_)
      · replace hq := i_f c5 hq
        refine lv_iconst (v := (0 : Int32)) hx hb dX7_lengthInOtherMetric_29 (by decide) ?_
        obtain ⟨v6, ev6, hq⟩ := b_s hq
        refine gr_i (g_runV (As := [.int a2, .int (0 : Int32)]) (rest := []) (ci := 5) hC (c_X2_measure l V g D cT f n v1 a2 (0 : Int32) v6 ev6) k_X2_measure m_812 rfl rfl ⟨Nat.le_of_ble_eq_true rfl, Nat.le_of_ble_eq_true rfl⟩ hI rfl rfl (h_me_eq ev6).1 rfl hl.1 rfl (Nat.le_of_ble_eq_true rfl) dX7_lengthInOtherMetric_30 ⟨by decide, by decide⟩) hI (fun H locs hI => ?_)
        exact ge_Xi hx hb hlocks hr rfl hI hq dX7_lengthInOtherMetric_33
      · replace hq := i_t c5 hq
        refine lv_iconst (v := (1 : Int32)) hx hb dX7_lengthInOtherMetric_25 (by decide) ?_
        refine lv_goto (tgt := 30) hx hb dX7_lengthInOtherMetric_26 (by decide) ?_
        obtain ⟨v7, ev7, hq⟩ := b_s hq
        refine gr_i (g_runV (As := [.int a2, .int (1 : Int32)]) (rest := []) (ci := 5) hC (c_X2_measure l V g D cT f n v1 a2 (1 : Int32) v7 ev7) k_X2_measure m_812 rfl rfl ⟨Nat.le_of_ble_eq_true rfl, Nat.le_of_ble_eq_true rfl⟩ hI rfl rfl (h_me_eq ev7).1 rfl hl.1 rfl (Nat.le_of_ble_eq_true rfl) dX7_lengthInOtherMetric_30 ⟨by decide, by decide⟩) hI (fun H locs hI => ?_)
        exact ge_Xi hx hb hlocks hr rfl hI hq dX7_lengthInOtherMetric_33

abbrev rm_X7_loadedPoints : Room := { frames := 2, cells := 0, slots := 0, locals := 120 }
theorem k_X7_loadedPoints : g_CV yX7_loadedPoints cX7_loadedPoints 1 (some .int) 0 := ⟨⟨m_332, m_1, by decide +kernel⟩, m_330, m_331⟩
set_option maxHeartbeats 4000000 in
set_option maxRecDepth 100000 in
theorem c_X7_loadedPoints (l : Launch) (V : Nat → Nat) (g : GH) (D : va_G) (cT : Nat → ClassId) (f : GH) (n : Nat) (a0 : Nat) (o : Int32) (hq : p_X7_loadedPoints V g f a0 = some o) : Met l yX7_loadedPoints (Cond.code yX7_loadedPoints cX7_loadedPoints 1 (some .int) :: g_B) rm_X7_loadedPoints (va_Pc [.ref a0] (g_I V g D cT f n)) (g_Ri o n) 0 0 g_no := by
  refine g_begin (own := RX7) [.ref a0] [(0, .ref a0)] g_no (fun _ h => h.elim) (by decide) rfl (Nat.le_of_ble_eq_true rfl) rfl ?_
  intro p e s m args below meth c hx hb hr hlocks hin hC hI ls hl
  obtain ⟨hx, hb, hml, hown, hB⟩ := id hC
  obtain ⟨H, hH⟩ : ∃ H, H = s.heap := ⟨_, rfl⟩
  obtain ⟨locs, hlocs⟩ : ∃ L : List Loc, L = [] := ⟨_, rfl⟩
  rw [← hH, ← hlocs] at hI ⊢
  clear hH hlocs
  unfold p_X7_loadedPoints at hq
  replace hq := (h_me_eq hq).2
  refine lv_aload_n hx hb dX7_loadedPoints_0 rfl (lv_at hl 0 rfl) ?_
  obtain ⟨v1, ev1, hq⟩ := b_s hq
  refine fa_gr (own := RX7) (ref := "CoastlineRuler") (k := 0) hx hb hB inB_RX7 hown hI rfl (by decide) m_265 (fun _ h9 => h9) ev1 dX7_loadedPoints_1 ?_
  obtain ⟨v2, ev2, hq⟩ := b_s hq
  refine fa_gi (own := RX7) (ref := "CoastlineRuler$Chart") (k := 3) hx hb hB inB_RX1 hown hI rfl (by decide) m_85 (fun _ h9 => h9) ev2 dX7_loadedPoints_4 ?_
  exact ge_Ri hx hb hlocks hr rfl hI hq dX7_loadedPoints_7

abbrev rm_X7_addedPoints : Room := { frames := 2, cells := 0, slots := 0, locals := 120 }
theorem k_X7_addedPoints : g_CV yX7_addedPoints cX7_addedPoints 1 (some .int) 0 := ⟨⟨m_336, m_1, by decide +kernel⟩, m_334, m_335⟩
set_option maxHeartbeats 4000000 in
set_option maxRecDepth 100000 in
theorem c_X7_addedPoints (l : Launch) (V : Nat → Nat) (g : GH) (D : va_G) (cT : Nat → ClassId) (f : GH) (n : Nat) (a0 : Nat) (o : Int32) (hq : p_X7_addedPoints V g f a0 = some o) : Met l yX7_addedPoints (Cond.code yX7_addedPoints cX7_addedPoints 1 (some .int) :: g_B) rm_X7_addedPoints (va_Pc [.ref a0] (g_I V g D cT f n)) (g_Ri o n) 0 0 g_no := by
  refine g_begin (own := RX7) [.ref a0] [(0, .ref a0)] g_no (fun _ h => h.elim) (by decide) rfl (Nat.le_of_ble_eq_true rfl) rfl ?_
  intro p e s m args below meth c hx hb hr hlocks hin hC hI ls hl
  obtain ⟨hx, hb, hml, hown, hB⟩ := id hC
  obtain ⟨H, hH⟩ : ∃ H, H = s.heap := ⟨_, rfl⟩
  obtain ⟨locs, hlocs⟩ : ∃ L : List Loc, L = [] := ⟨_, rfl⟩
  rw [← hH, ← hlocs] at hI ⊢
  clear hH hlocs
  unfold p_X7_addedPoints at hq
  replace hq := (h_me_eq hq).2
  refine lv_aload_n hx hb dX7_addedPoints_0 rfl (lv_at hl 0 rfl) ?_
  obtain ⟨v1, ev1, hq⟩ := b_s hq
  refine fa_gr (own := RX7) (ref := "CoastlineRuler") (k := 0) hx hb hB inB_RX7 hown hI rfl (by decide) m_265 (fun _ h9 => h9) ev1 dX7_addedPoints_1 ?_
  obtain ⟨v2, ev2, hq⟩ := b_s hq
  refine fa_gi (own := RX7) (ref := "CoastlineRuler$Chart") (k := 4) hx hb hB inB_RX1 hown hI rfl (by decide) m_87 (fun _ h9 => h9) ev2 dX7_addedPoints_4 ?_
  exact ge_Ri hx hb hlocks hr rfl hI hq dX7_addedPoints_7

abbrev rm_X7_removedPoints : Room := { frames := 2, cells := 0, slots := 0, locals := 120 }
theorem k_X7_removedPoints : g_CV yX7_removedPoints cX7_removedPoints 1 (some .int) 0 := ⟨⟨m_340, m_1, by decide +kernel⟩, m_338, m_339⟩
set_option maxHeartbeats 4000000 in
set_option maxRecDepth 100000 in
theorem c_X7_removedPoints (l : Launch) (V : Nat → Nat) (g : GH) (D : va_G) (cT : Nat → ClassId) (f : GH) (n : Nat) (a0 : Nat) (o : Int32) (hq : p_X7_removedPoints V g f a0 = some o) : Met l yX7_removedPoints (Cond.code yX7_removedPoints cX7_removedPoints 1 (some .int) :: g_B) rm_X7_removedPoints (va_Pc [.ref a0] (g_I V g D cT f n)) (g_Ri o n) 0 0 g_no := by
  refine g_begin (own := RX7) [.ref a0] [(0, .ref a0)] g_no (fun _ h => h.elim) (by decide) rfl (Nat.le_of_ble_eq_true rfl) rfl ?_
  intro p e s m args below meth c hx hb hr hlocks hin hC hI ls hl
  obtain ⟨hx, hb, hml, hown, hB⟩ := id hC
  obtain ⟨H, hH⟩ : ∃ H, H = s.heap := ⟨_, rfl⟩
  obtain ⟨locs, hlocs⟩ : ∃ L : List Loc, L = [] := ⟨_, rfl⟩
  rw [← hH, ← hlocs] at hI ⊢
  clear hH hlocs
  unfold p_X7_removedPoints at hq
  replace hq := (h_me_eq hq).2
  refine lv_aload_n hx hb dX7_removedPoints_0 rfl (lv_at hl 0 rfl) ?_
  obtain ⟨v1, ev1, hq⟩ := b_s hq
  refine fa_gr (own := RX7) (ref := "CoastlineRuler") (k := 0) hx hb hB inB_RX7 hown hI rfl (by decide) m_265 (fun _ h9 => h9) ev1 dX7_removedPoints_1 ?_
  obtain ⟨v2, ev2, hq⟩ := b_s hq
  refine fa_gi (own := RX7) (ref := "CoastlineRuler$Chart") (k := 5) hx hb hB inB_RX1 hown hI rfl (by decide) m_89 (fun _ h9 => h9) ev2 dX7_removedPoints_4 ?_
  exact ge_Ri hx hb hlocks hr rfl hI hq dX7_removedPoints_7

abbrev rm_X7_ledgerGap : Room := { frames := 3, cells := 0, slots := 0, locals := 142 }
theorem k_X7_ledgerGap : g_CV yX7_ledgerGap cX7_ledgerGap 1 (some .int) 0 := ⟨⟨m_344, m_1, by decide +kernel⟩, m_342, m_343⟩
set_option maxHeartbeats 4000000 in
set_option maxRecDepth 100000 in
theorem c_X7_ledgerGap (l : Launch) (V : Nat → Nat) (g : GH) (D : va_G) (cT : Nat → ClassId) (f : GH) (n : Nat) (a0 : Nat) (o : Int32) (hq : p_X7_ledgerGap V g f a0 = some o) : Met l yX7_ledgerGap (Cond.code yX7_ledgerGap cX7_ledgerGap 1 (some .int) :: g_B) rm_X7_ledgerGap (va_Pc [.ref a0] (g_I V g D cT f n)) (g_Ri o n) 0 0 g_no := by
  refine g_begin (own := RX7) [.ref a0] [(0, .ref a0)] g_no (fun _ h => h.elim) (by decide) rfl (Nat.le_of_ble_eq_true rfl) rfl ?_
  intro p e s m args below meth c hx hb hr hlocks hin hC hI ls hl
  obtain ⟨hx, hb, hml, hown, hB⟩ := id hC
  obtain ⟨H, hH⟩ : ∃ H, H = s.heap := ⟨_, rfl⟩
  obtain ⟨locs, hlocs⟩ : ∃ L : List Loc, L = [] := ⟨_, rfl⟩
  rw [← hH, ← hlocs] at hI ⊢
  clear hH hlocs
  unfold p_X7_ledgerGap at hq
  replace hq := (h_me_eq hq).2
  refine lv_aload_n hx hb dX7_ledgerGap_0 rfl (lv_at hl 0 rfl) ?_
  obtain ⟨v1, ev1, hq⟩ := b_s hq
  refine fa_gr (own := RX7) (ref := "CoastlineRuler") (k := 0) hx hb hB inB_RX7 hown hI rfl (by decide) m_265 (fun _ h9 => h9) ev1 dX7_ledgerGap_1 ?_
  obtain ⟨v2, ev2, hq⟩ := b_s hq
  refine fa_gi (own := RX7) (ref := "CoastlineRuler$Chart") (k := 3) hx hb hB inB_RX1 hown hI rfl (by decide) m_85 (fun _ h9 => h9) ev2 dX7_ledgerGap_4 ?_
  refine lv_aload_n hx hb dX7_ledgerGap_7 rfl (lv_at hl 0 rfl) ?_
  obtain ⟨v3, ev3, hq⟩ := b_s hq
  refine fa_gr (own := RX7) (ref := "CoastlineRuler") (k := 0) hx hb hB inB_RX7 hown hI rfl (by decide) m_265 (fun _ h9 => h9) ev3 dX7_ledgerGap_8 ?_
  obtain ⟨v4, ev4, hq⟩ := b_s hq
  refine fa_gi (own := RX7) (ref := "CoastlineRuler$Chart") (k := 4) hx hb hB inB_RX1 hown hI rfl (by decide) m_87 (fun _ h9 => h9) ev4 dX7_ledgerGap_11 ?_
  refine lv_iadd hx hb dX7_ledgerGap_14 ?_
  refine lv_aload_n hx hb dX7_ledgerGap_15 rfl (lv_at hl 0 rfl) ?_
  obtain ⟨v5, ev5, hq⟩ := b_s hq
  refine fa_gr (own := RX7) (ref := "CoastlineRuler") (k := 0) hx hb hB inB_RX7 hown hI rfl (by decide) m_265 (fun _ h9 => h9) ev5 dX7_ledgerGap_16 ?_
  obtain ⟨v6, ev6, hq⟩ := b_s hq
  refine fa_gi (own := RX7) (ref := "CoastlineRuler$Chart") (k := 5) hx hb hB inB_RX1 hown hI rfl (by decide) m_89 (fun _ h9 => h9) ev6 dX7_ledgerGap_19 ?_
  refine lv_isub hx hb dX7_ledgerGap_22 ?_
  refine lv_aload_n hx hb dX7_ledgerGap_23 rfl (lv_at hl 0 rfl) ?_
  obtain ⟨v7, ev7, hq⟩ := b_s hq
  refine fa_gr (own := RX7) (ref := "CoastlineRuler") (k := 0) hx hb hB inB_RX7 hown hI rfl (by decide) m_265 (fun _ h9 => h9) ev7 dX7_ledgerGap_24 ?_
  obtain ⟨v8, ev8, hq⟩ := b_s hq
  refine gr_i (g_runV (As := []) (rest := [.int ((v2 + v4) - v6)]) (ci := 4) hC (c_X1_pointTotal l V g D cT f n v7 v8 ev8) k_X1_pointTotal m_345 rfl rfl ⟨Nat.le_of_ble_eq_true rfl, Nat.le_of_ble_eq_true rfl⟩ hI rfl rfl (h_me_eq ev8).1 rfl hl.1 rfl (Nat.le_of_ble_eq_true rfl) dX7_ledgerGap_27 ⟨by decide, by decide⟩) hI (fun H locs hI => ?_)
  refine lv_isub hx hb dX7_ledgerGap_30 ?_
  obtain ⟨v9, ev9, hq⟩ := b_s hq
  refine gr_i (g_runS (As := [.int (((v2 + v4) - v6) - v8)]) (rest := []) hC (c_J9_abs_0f7a4 l V g D cT f n (((v2 + v4) - v6) - v8) v9 ev9) k_J9_abs_0f7a4 m_346 rfl rfl ⟨Nat.le_of_ble_eq_true rfl, Nat.le_of_ble_eq_true rfl⟩ hI rfl hl.1 rfl (Nat.le_of_ble_eq_true rfl) dX7_ledgerGap_31 ⟨by decide, by decide⟩) hI (fun H locs hI => ?_)
  exact ge_Ri hx hb hlocks hr rfl hI hq dX7_ledgerGap_34

abbrev rm_X7_refuse : Room := { frames := 8, cells := 1, slots := 6, locals := 120 }
theorem k_X7_refuse : g_CS yX7_refuse cX7_refuse 1 none 1 := ⟨⟨m_435, m_1, by decide +kernel⟩, m_434⟩
set_option maxHeartbeats 4000000 in
set_option maxRecDepth 100000 in
theorem c_X7_refuse (l : Launch) (hl0 : l.stackTraces = false) (V : Nat → Nat) (g : GH) (D : va_G) (cT : Nat → ClassId) (f : GH) (n : Nat) (a0 : Int32) (o : Nat ⊕ Unit) (hq : p_X7_refuse V g f a0 = some o) : vx_Met l yX7_refuse (Cond.code yX7_refuse cX7_refuse 1 none :: g_B) rm_X7_refuse (va_Pc [.int a0] (g_I V g D cT f n)) (g_Xv o n) (g_XX V D cT f o) 1 6 g_no := by
  refine g_beginX (own := RX7) [.int a0] [(0, .int a0)] g_no (fun _ h => h.elim) (by decide) rfl (Nat.le_of_ble_eq_true rfl) rfl ?_
  intro p e s m args below meth c hx hb hr hlocks ht0 hC hI ls hl
  obtain ⟨hx, hb, hml, hown, hB⟩ := id hC
  obtain ⟨H, hH⟩ : ∃ H, H = s.heap := ⟨_, rfl⟩
  obtain ⟨locs, hlocs⟩ : ∃ L : List Loc, L = [] := ⟨_, rfl⟩
  rw [← hH, ← hlocs] at hI ⊢
  clear hH hlocs
  unfold p_X7_refuse at hq
  refine lv_iload_n hx hb dX7_refuse_0 rfl (lv_at hl 0 rfl) ?_
  refine lv_iconst (v := (1 : Int32)) hx hb dX7_refuse_1 (by decide) ?_
  refine lv_icmp_ne (tgt := 16) hx hb dX7_refuse_2 (by decide) (fun c1 => ?_) (fun c1 => ?_)
  · replace hq := i_f c1 hq
    refine lv_iload_n hx hb dX7_refuse_16 rfl (lv_at hl 0 rfl) ?_
    refine lv_iconst (v := (2 : Int32)) hx hb dX7_refuse_17 (by decide) ?_
    refine lv_icmp_ne (tgt := 32) hx hb dX7_refuse_18 (by decide) (fun c2 => ?_) (fun c2 => ?_)
    · replace hq := i_f c2 hq
      refine lv_iload_n hx hb dX7_refuse_32 rfl (lv_at hl 0 rfl) ?_
      refine lv_iconst (v := (3 : Int32)) hx hb dX7_refuse_33 (by decide) ?_
      refine lv_icmp_ne (tgt := 48) hx hb dX7_refuse_34 (by decide) (fun c3 => ?_) (fun c3 => ?_)
      · replace hq := i_f c3 hq
        refine W.widen (k := 1) (n := 6) (by decide) (by decide) ?_
        exact ge_Xv hx hb hlocks hr hI hq dX7_refuse_48
      · replace hq := i_t c3 hq
        exact vx_throwSW (own := RX7) (cls := "java/lang/IllegalStateException") (names := ["java/lang/RuntimeException", "java/lang/Exception"]) hx hb hl0 hown (by decide +kernel) (by decide +kernel) (hB _ m_521) (hB _ m_23) (g_rtx hI (i := 2) rfl) (g_hat hB hI xat_RX7_330) xgd_RX7_330 (g_uns hI) (g_sup hI) hI.2.2.2.2.2.2.1 (hl.1.trans hml.symm) dX7_refuse_37 dX7_refuse_40 dX7_refuse_41 dX7_refuse_44 dX7_refuse_47 (fun x hx => (ht0 x hx).elim) (by decide) (by decide) (by decide) (by decide) hlocks (g_thrR hI hq) hI.2.2.2.2.2.2.1.2.2 (by decide) (by decide)
    · replace hq := i_t c2 hq
      exact vx_throwSW (own := RX7) (cls := "java/lang/IllegalArgumentException") (names := ["java/lang/RuntimeException", "java/lang/Exception"]) hx hb hl0 hown (by decide +kernel) (by decide +kernel) (hB _ m_505) (hB _ m_18) (g_rtx hI (i := 1) rfl) (g_hat hB hI xat_RX7_350) xgd_RX7_350 (g_uns hI) (g_sup hI) hI.2.2.2.2.2.2.1 (hl.1.trans hml.symm) dX7_refuse_21 dX7_refuse_24 dX7_refuse_25 dX7_refuse_28 dX7_refuse_31 (fun x hx => (ht0 x hx).elim) (by decide) (by decide) (by decide) (by decide) hlocks (g_thrR hI hq) hI.2.2.2.2.2.2.1.2.2 (by decide) (by decide)
  · replace hq := i_t c1 hq
    exact vx_throwSW (own := RX7) (cls := "java/lang/IndexOutOfBoundsException") (names := ["java/lang/RuntimeException", "java/lang/Exception"]) hx hb hl0 hown (by decide +kernel) (by decide +kernel) (hB _ m_436) (hB _ m_21) (g_rtx hI (i := 0) rfl) (g_hat hB hI xat_RX7_319) xgd_RX7_319 (g_uns hI) (g_sup hI) hI.2.2.2.2.2.2.1 (hl.1.trans hml.symm) dX7_refuse_5 dX7_refuse_8 dX7_refuse_9 dX7_refuse_12 dX7_refuse_15 (fun x hx => (ht0 x hx).elim) (by decide) (by decide) (by decide) (by decide) hlocks (g_thrR hI hq) hI.2.2.2.2.2.2.1.2.2 (by decide) (by decide)

abbrev rm_X7_rememberChart : Room := { frames := 4, cells := 0, slots := 0, locals := 163 }
theorem k_X7_rememberChart : g_CV yX7_rememberChart cX7_rememberChart 1 none 0 := ⟨⟨m_540, m_1, by decide +kernel⟩, m_539, ms_2⟩
set_option maxHeartbeats 4000000 in
set_option maxRecDepth 100000 in
theorem c_X7_rememberChart (l : Launch) (V : Nat → Nat) (g : GH) (D : va_G) (cT : Nat → ClassId) (f : GH) (n : Nat) (a0 : Nat) (o : GH) (hq : p_X7_rememberChart V g f a0 = some o) : Met l yX7_rememberChart (Cond.code yX7_rememberChart cX7_rememberChart 1 none :: g_B) rm_X7_rememberChart (va_Pc [.ref a0] (g_I V g D cT f n)) (g_Wv V D cT o n) 0 0 (g_A V) := by
  refine g_begin (own := RX7) [.ref a0] [(0, .ref a0)] (g_A V) (fun _ h => h) (by decide) rfl (Nat.le_of_ble_eq_true rfl) rfl ?_
  intro p e s m args below meth c hx hb hr hlocks hin hC hI ls hl
  obtain ⟨hx, hb, hml, hown, hB⟩ := id hC
  obtain ⟨H, hH⟩ : ∃ H, H = s.heap := ⟨_, rfl⟩
  obtain ⟨locs, hlocs⟩ : ∃ L : List Loc, L = [] := ⟨_, rfl⟩
  rw [← hH, ← hlocs] at hI ⊢
  clear hH hlocs
  unfold p_X7_rememberChart at hq
  replace hq := (h_me_eq hq).2
  refine lv_aload_n hx hb dX7_rememberChart_0 rfl (lv_at hl 0 rfl) ?_
  obtain ⟨v1, ev1, hq⟩ := b_s hq
  refine fa_gr (own := RX7) (ref := "CoastlineRuler") (k := 4) hx hb hB inB_RX7 hown hI rfl (by decide) m_269 (fun _ h9 => h9) ev1 dX7_rememberChart_1 ?_
  refine lv_aload_n hx hb dX7_rememberChart_4 rfl (lv_at hl 0 rfl) ?_
  obtain ⟨v2, ev2, hq⟩ := b_s hq
  refine fa_gi (own := RX7) (ref := "CoastlineRuler") (k := 6) hx hb hB inB_RX7 hown hI rfl (by decide) m_271 (fun _ h9 => h9) ev2 dX7_rememberChart_5 ?_
  obtain ⟨v3, ev3, hq⟩ := b_s hq
  refine fa_lq hx hb hI (by decide) rfl ev3 dX7_rememberChart_8 ?_
  refine lv_aload_n hx hb dX7_rememberChart_9 rfl (lv_at hl 0 rfl) ?_
  obtain ⟨v4, ev4, hq⟩ := b_s hq
  refine fa_gr (own := RX7) (ref := "CoastlineRuler") (k := 0) hx hb hB inB_RX7 hown hI rfl (by decide) m_265 (fun _ h9 => h9) ev4 dX7_rememberChart_10 ?_
  obtain ⟨v5, ev5, hq⟩ := b_s hq
  refine gw_v (g_runV (As := [.ref v4]) (rest := []) (ci := 4) hC (c_X1_copyFrom l V g D cT f n v3 v4 v5 ev5) k_X1_copyFrom m_541 rfl rfl ⟨Nat.le_of_ble_eq_true rfl, Nat.le_of_ble_eq_true rfl⟩ hI rfl rfl (h_me_eq ev5).1 rfl hl.1 rfl (Nat.le_of_ble_eq_true rfl) dX7_rememberChart_13 ⟨by decide, by decide⟩) hI (fun H locs hI => ?_)
  refine lv_aload_n hx hb dX7_rememberChart_16 rfl (lv_at hl 0 rfl) ?_
  refine lv_aload_n hx hb dX7_rememberChart_17 rfl (lv_at hl 0 rfl) ?_
  obtain ⟨v6, ev6, hq⟩ := b_s hq
  refine fa_gi (own := RX7) (ref := "CoastlineRuler") (k := 6) hx hb hB inB_RX7 hown hI rfl (by decide) m_271 (fun _ h9 => h9) ev6 dX7_rememberChart_18 ?_
  refine lv_bipush (v := (7 : Int32)) hx hb dX7_rememberChart_21 (by decide) ?_
  have hj36 : ∀ (x0 : Nat) (t0 : Int32) (t1 : Nat) (f : GH) (H : Heap) (locs : List Loc) (ls : Array Slot), g_at (g_A V) V g D cT f n s H locs → lv_has ls 1 [(0, .ref x0)] → p_X7_rememberChart_j36 V g x0 t0 t1 f = some o → W p l e rm_X7_rememberChart s m args below meth c H locs 0 0 (MQ below (g_Wv V D cT o n) args s 0 0 (g_A V)) (F0 m 36 ls [.int t0, .ref t1]) := by
    intro x0 t0 t1 f H locs ls hI hl hq
    unfold p_X7_rememberChart_j36 at hq
    obtain ⟨f7, ef7, hq⟩ := b_s hq
    refine fa_pt (own := RX7) (ref := "CoastlineRuler") (k := 6) hx hb hB inB_RX7 tyX7_ok nmX7 hown hI rfl (by decide) m_271 (fun _ h9 => h9) (by decide) rfl rfl ef7 dX7_rememberChart_36 (fun H locs hI => ?_)
    refine lv_aload_n hx hb dX7_rememberChart_39 rfl (lv_at hl 0 rfl) ?_
    obtain ⟨v8, ev8, hq⟩ := b_s hq
    refine fa_gi (own := RX7) (ref := "CoastlineRuler") (k := 5) hx hb hB inB_RX7 hown hI rfl (by decide) m_270 (fun _ h9 => h9) ev8 dX7_rememberChart_40 ?_
    refine lv_bipush (v := (8 : Int32)) hx hb dX7_rememberChart_43 (by decide) ?_
    refine lv_icmp_ge (tgt := 58) hx hb dX7_rememberChart_45 (by decide) (fun c9 => ?_) (fun c9 => ?_)
    · replace hq := i_t c9 hq
      exact ge_Wv hx hb hlocks hr hI (Option.some.inj hq) dX7_rememberChart_58
    · replace hq := i_f c9 hq
      refine lv_aload_n hx hb dX7_rememberChart_48 rfl (lv_at hl 0 rfl) ?_
      refine lv_dup hx hb dX7_rememberChart_49 rfl ?_
      obtain ⟨v10, ev10, hq⟩ := b_s hq
      refine fa_gi (own := RX7) (ref := "CoastlineRuler") (k := 5) hx hb hB inB_RX7 hown hI rfl (by decide) m_270 (fun _ h9 => h9) ev10 dX7_rememberChart_50 ?_
      refine lv_iconst (v := (1 : Int32)) hx hb dX7_rememberChart_53 (by decide) ?_
      refine lv_iadd hx hb dX7_rememberChart_54 ?_
      obtain ⟨f11, ef11, hq⟩ := b_s hq
      refine fa_pt (own := RX7) (ref := "CoastlineRuler") (k := 5) hx hb hB inB_RX7 tyX7_ok nmX7 hown hI rfl (by decide) m_270 (fun _ h9 => h9) (by decide) rfl rfl ef11 dX7_rememberChart_55 (fun H locs hI => ?_)
      exact ge_Wv hx hb hlocks hr hI (Option.some.inj hq) dX7_rememberChart_58
  refine lv_icmp_ne (tgt := 30) hx hb dX7_rememberChart_23 (by decide) (fun c12 => ?_) (fun c12 => ?_)
  · replace hq := i_f c12 hq
    refine lv_aload_n hx hb dX7_rememberChart_30 rfl (lv_at hl 0 rfl) ?_
    obtain ⟨v13, ev13, hq⟩ := b_s hq
    refine fa_gi (own := RX7) (ref := "CoastlineRuler") (k := 6) hx hb hB inB_RX7 hown hI rfl (by decide) m_271 (fun _ h9 => h9) ev13 dX7_rememberChart_31 ?_
    refine lv_iconst (v := (1 : Int32)) hx hb dX7_rememberChart_34 (by decide) ?_
    refine lv_iadd hx hb dX7_rememberChart_35 ?_
    exact hj36 a0 (v13 + (1 : Int32)) a0 v5 H locs ls hI (lv_sub hl [0] rfl) hq
  · replace hq := i_t c12 hq
    refine lv_iconst (v := (0 : Int32)) hx hb dX7_rememberChart_26 (by decide) ?_
    refine lv_goto (tgt := 36) hx hb dX7_rememberChart_27 (by decide) ?_
    exact hj36 a0 (0 : Int32) a0 v5 H locs ls hI (lv_sub hl [0] rfl) hq

abbrev rm_X7_change : Room := { frames := 9, cells := 1, slots := 6, locals := 257 }
theorem k_X7_change : g_CV yX7_change cX7_change 1 (some .int) 0 := ⟨⟨m_361, m_1, by decide +kernel⟩, m_360, ms_0⟩
set_option maxHeartbeats 4000000 in
set_option maxRecDepth 100000 in
theorem c_X7_change (l : Launch) (hl0 : l.stackTraces = false) (V : Nat → Nat) (g : GH) (D : va_G) (cT : Nat → ClassId) (f : GH) (n : Nat) (a0 : Nat) (o : (Nat × GH) ⊕ (Int32 × GH)) (hq : p_X7_change V g f a0 = some o) : vx_Met l yX7_change (Cond.code yX7_change cX7_change 1 (some .int) :: g_B) rm_X7_change (va_Pc [.ref a0] (g_I V g D cT f n)) (g_Yi V D cT o n) (g_YX V D cT o) 1 6 (g_A V) := by
  refine g_beginX (own := RX7) [.ref a0] [(0, .ref a0)] (g_A V) (fun _ h => h) (by decide) rfl (Nat.le_of_ble_eq_true rfl) rfl ?_
  intro p e s m args below meth c hx hb hr hlocks ht0 hC hI ls hl
  obtain ⟨hx, hb, hml, hown, hB⟩ := id hC
  obtain ⟨H, hH⟩ : ∃ H, H = s.heap := ⟨_, rfl⟩
  obtain ⟨locs, hlocs⟩ : ∃ L : List Loc, L = [] := ⟨_, rfl⟩
  rw [← hH, ← hlocs] at hI ⊢
  clear hH hlocs
  unfold p_X7_change at hq
  replace hq := (h_me_eq hq).2
  refine lv_aload_n hx hb dX7_change_0 rfl (lv_at hl 0 rfl) ?_
  obtain ⟨v1, ev1, hq⟩ := b_s hq
  refine fa_gr (own := RX7) (ref := "CoastlineRuler") (k := 0) hx hb hB inB_RX7 hown hI rfl (by decide) m_265 (fun _ h9 => h9) ev1 dX7_change_1 ?_
  refine lv_aload_n hx hb dX7_change_4 rfl (lv_at hl 0 rfl) ?_
  obtain ⟨v2, ev2, hq⟩ := b_s hq
  refine fa_gr (own := RX7) (ref := "CoastlineRuler") (k := 10) hx hb hB inB_RX7 hown hI rfl (by decide) m_275 (fun _ h9 => h9) ev2 dX7_change_5 ?_
  obtain ⟨v3, ev3, hq⟩ := b_s hq
  refine gr_i (g_runV (As := [.ref v2]) (rest := []) (ci := 4) hC (c_X1_refusalOf l V g D cT f n v1 v2 v3 ev3) k_X1_refusalOf m_362 rfl rfl ⟨Nat.le_of_ble_eq_true rfl, Nat.le_of_ble_eq_true rfl⟩ hI rfl rfl (h_me_eq ev3).1 rfl hl.1 rfl (Nat.le_of_ble_eq_true rfl) dX7_change_8 ⟨by decide, by decide⟩) hI (fun H locs hI => ?_)
  rcases x_b_eq hq with ⟨v4, ev4, hq⟩ | ⟨v4, ev4, hq⟩
  · exact gt_RW hlocks ht0 (g_runSX (As := [.int v3]) (rest := []) hC (c_X7_refuse l hl0 V g D cT f n v3 (.inl v4) ev4) k_X7_refuse m_433 rfl rfl ⟨Nat.le_of_ble_eq_true rfl, Nat.le_of_ble_eq_true rfl⟩ hI rfl hl.1 rfl (Nat.le_of_ble_eq_true rfl) dX7_change_11 ⟨by decide, by decide⟩) no_v hI hq (by decide) (by decide)
  · refine gx_v (g_runSX (As := [.int v3]) (rest := []) hC (c_X7_refuse l hl0 V g D cT f n v3 (.inr v4) ev4) k_X7_refuse m_433 rfl rfl ⟨Nat.le_of_ble_eq_true rfl, Nat.le_of_ble_eq_true rfl⟩ hI rfl hl.1 rfl (Nat.le_of_ble_eq_true rfl) dX7_change_11 ⟨by decide, by decide⟩) hI (fun H locs hI => ?_)
    refine lv_aload_n hx hb dX7_change_14 rfl (lv_at hl 0 rfl) ?_
    obtain ⟨v5, ev5, hq⟩ := b_s hq
    refine gw_v (g_runV (As := []) (rest := []) (ci := 9) hC (c_X7_rememberChart l V g D cT f n a0 v5 ev5) k_X7_rememberChart m_537 rfl rfl ⟨Nat.le_of_ble_eq_true rfl, Nat.le_of_ble_eq_true rfl⟩ hI rfl rfl (h_me_eq ev5).1 rfl hl.1 rfl (Nat.le_of_ble_eq_true rfl) dX7_change_15 ⟨by decide, by decide⟩) hI (fun H locs hI => ?_)
    refine lv_aload_n hx hb dX7_change_18 rfl (lv_at hl 0 rfl) ?_
    obtain ⟨v6, ev6, hq⟩ := b_s hq
    refine fa_gr (own := RX7) (ref := "CoastlineRuler") (k := 0) hx hb hB inB_RX7 hown hI rfl (by decide) m_265 (fun _ h9 => h9) ev6 dX7_change_19 ?_
    refine lv_aload_n hx hb dX7_change_22 rfl (lv_at hl 0 rfl) ?_
    obtain ⟨v7, ev7, hq⟩ := b_s hq
    refine fa_gr (own := RX7) (ref := "CoastlineRuler") (k := 10) hx hb hB inB_RX7 hown hI rfl (by decide) m_275 (fun _ h9 => h9) ev7 dX7_change_23 ?_
    obtain ⟨v8, ev8, hq⟩ := b_s hq
    refine gw_i (g_runV (As := [.ref v7]) (rest := []) (ci := 4) hC (c_X1_apply l V g D cT v5 n v6 v7 v8 ev8) k_X1_apply m_549 rfl rfl ⟨Nat.le_of_ble_eq_true rfl, Nat.le_of_ble_eq_true rfl⟩ hI rfl rfl (h_me_eq ev8).1 rfl hl.1 rfl (Nat.le_of_ble_eq_true rfl) dX7_change_26 ⟨by decide, by decide⟩) hI (fun H locs hI => ?_)
    exact ge_Yi hx hb hlocks hr rfl hI hq dX7_change_29

abbrev rm_X7_addCoast : Room := { frames := 10, cells := 3, slots := 18, locals := 293 }
theorem k_X7_addCoast : g_CV yX7_addCoast cX7_addCoast 3 (some .int) 1 := ⟨⟨m_1082, m_1, by decide +kernel⟩, m_1080, m_1081⟩
set_option maxHeartbeats 4000000 in
set_option maxRecDepth 100000 in
theorem c_X7_addCoast (l : Launch) (hl0 : l.stackTraces = false) (V : Nat → Nat) (g : GH) (D : va_G) (cT : Nat → ClassId) (f : GH) (n : Nat) (a0 : Nat) (a1 : Int32) (o : (Nat × GH) ⊕ (Int32 × GH)) (hq : p_X7_addCoast V g f a0 a1 = some o) : vx_Met l yX7_addCoast (Cond.code yX7_addCoast cX7_addCoast 3 (some .int) :: g_B) rm_X7_addCoast (va_Pc [.ref a0, .int a1] (g_I V g D cT f n)) (g_Yi V D cT o n) (g_YX V D cT o) 3 18 (g_A V) := by
  refine g_beginX (own := RX7) [.ref a0, .int a1] [(0, .ref a0), (1, .int a1)] (g_A V) (fun _ h => h) (by decide) rfl (Nat.le_of_ble_eq_true rfl) rfl ?_
  intro p e s m args below meth c hx hb hr hlocks ht0 hC hI ls hl
  obtain ⟨hx, hb, hml, hown, hB⟩ := id hC
  obtain ⟨H, hH⟩ : ∃ H, H = s.heap := ⟨_, rfl⟩
  obtain ⟨locs, hlocs⟩ : ∃ L : List Loc, L = [] := ⟨_, rfl⟩
  rw [← hH, ← hlocs] at hI ⊢
  clear hH hlocs
  unfold p_X7_addCoast at hq
  replace hq := (h_me_eq hq).2
  refine lv_aload_n hx hb dX7_addCoast_0 rfl (lv_at hl 0 rfl) ?_
  refine lv_iload_n hx hb dX7_addCoast_1 rfl (lv_at hl 1 rfl) ?_
  rcases x_b_eq hq with ⟨v1, ev1, hq⟩ | ⟨v1, ev1, hq⟩
  · exact gt_RW hlocks ht0 (g_runVX (As := [.int a1]) (rest := []) (ci := 9) hC (c_X7_requireText l hl0 V g D cT f n a0 a1 (.inl v1) ev1) k_X7_requireText m_614 rfl rfl ⟨Nat.le_of_ble_eq_true rfl, Nat.le_of_ble_eq_true rfl⟩ hI rfl rfl (h_me_eq ev1).1 rfl hl.1 rfl (Nat.le_of_ble_eq_true rfl) dX7_addCoast_2 ⟨by decide, by decide⟩) no_v hI hq (by decide) (by decide)
  · refine gx_v (g_runVX (As := [.int a1]) (rest := []) (ci := 9) hC (c_X7_requireText l hl0 V g D cT f n a0 a1 (.inr v1) ev1) k_X7_requireText m_614 rfl rfl ⟨Nat.le_of_ble_eq_true rfl, Nat.le_of_ble_eq_true rfl⟩ hI rfl rfl (h_me_eq ev1).1 rfl hl.1 rfl (Nat.le_of_ble_eq_true rfl) dX7_addCoast_2 ⟨by decide, by decide⟩) hI (fun H locs hI => ?_)
    refine lv_aload_n hx hb dX7_addCoast_5 rfl (lv_at hl 0 rfl) ?_
    obtain ⟨v2, ev2, hq⟩ := b_s hq
    refine fa_gr (own := RX7) (ref := "CoastlineRuler") (k := 10) hx hb hB inB_RX7 hown hI rfl (by decide) m_275 (fun _ h9 => h9) ev2 dX7_addCoast_6 ?_
    refine fs_gs (i := 0) hx hb hown hI rfl (hB _ m_1083) (fun _ h9 => h9) dX7_addCoast_9 ?_
    obtain ⟨f3, ef3, hq⟩ := b_s hq
    refine fa_pt (own := RX7) (ref := "CoastlineRuler$Command") (k := 0) hx hb hB inB_RX3 tyX3_ok nmX3 hown hI rfl (by decide) m_171 (fun _ h9 => h9) (by decide) rfl rfl ef3 dX7_addCoast_12 (fun H locs hI => ?_)
    refine lv_aload_n hx hb dX7_addCoast_15 rfl (lv_at hl 0 rfl) ?_
    obtain ⟨v4, ev4, hq⟩ := b_s hq
    refine fa_gr (own := RX7) (ref := "CoastlineRuler") (k := 0) hx hb hB inB_RX7 hown hI rfl (by decide) m_265 (fun _ h9 => h9) ev4 dX7_addCoast_16 ?_
    refine lv_aload_n hx hb dX7_addCoast_19 rfl (lv_at hl 0 rfl) ?_
    obtain ⟨v5, ev5, hq⟩ := b_s hq
    refine fa_gr (own := RX7) (ref := "CoastlineRuler") (k := 10) hx hb hB inB_RX7 hown hI rfl (by decide) m_275 (fun _ h9 => h9) ev5 dX7_addCoast_20 ?_
    obtain ⟨v6, ev6, hq⟩ := b_s hq
    refine gr_i (g_runV (As := [.ref v5]) (rest := []) (ci := 4) hC (c_X1_refusalOf l V g D cT f3 n v4 v5 v6 ev6) k_X1_refusalOf m_362 rfl rfl ⟨Nat.le_of_ble_eq_true rfl, Nat.le_of_ble_eq_true rfl⟩ hI rfl rfl (h_me_eq ev6).1 rfl hl.1 rfl (Nat.le_of_ble_eq_true rfl) dX7_addCoast_23 ⟨by decide, by decide⟩) hI (fun H locs hI => ?_)
    rcases x_b_eq hq with ⟨v7, ev7, hq⟩ | ⟨v7, ev7, hq⟩
    · exact gt_RW hlocks ht0 (g_runSX (As := [.int v6]) (rest := []) hC (c_X7_refuse l hl0 V g D cT f3 n v6 (.inl v7) ev7) k_X7_refuse m_433 rfl rfl ⟨Nat.le_of_ble_eq_true rfl, Nat.le_of_ble_eq_true rfl⟩ hI rfl hl.1 rfl (Nat.le_of_ble_eq_true rfl) dX7_addCoast_26 ⟨by decide, by decide⟩) no_v hI hq (by decide) (by decide)
    · refine gx_v (g_runSX (As := [.int v6]) (rest := []) hC (c_X7_refuse l hl0 V g D cT f3 n v6 (.inr v7) ev7) k_X7_refuse m_433 rfl rfl ⟨Nat.le_of_ble_eq_true rfl, Nat.le_of_ble_eq_true rfl⟩ hI rfl hl.1 rfl (Nat.le_of_ble_eq_true rfl) dX7_addCoast_26 ⟨by decide, by decide⟩) hI (fun H locs hI => ?_)
      refine lv_aload_n hx hb dX7_addCoast_29 rfl (lv_at hl 0 rfl) ?_
      obtain ⟨v8, ev8, hq⟩ := b_s hq
      refine fa_gr (own := RX7) (ref := "CoastlineRuler") (k := 8) hx hb hB inB_RX7 hown hI rfl (by decide) m_273 (fun _ h9 => h9) ev8 dX7_addCoast_30 ?_
      refine lv_iload_n hx hb dX7_addCoast_33 rfl (lv_at hl 1 rfl) ?_
      refine lv_aload_n hx hb dX7_addCoast_34 rfl (lv_at hl 0 rfl) ?_
      obtain ⟨v9, ev9, hq⟩ := b_s hq
      refine fa_gr (own := RX7) (ref := "CoastlineRuler") (k := 10) hx hb hB inB_RX7 hown hI rfl (by decide) m_275 (fun _ h9 => h9) ev9 dX7_addCoast_35 ?_
      obtain ⟨v10, ev10, hq⟩ := b_s hq
      refine fa_gr (own := RX7) (ref := "CoastlineRuler$Command") (k := 6) hx hb hB inB_RX3 hown hI rfl (by decide) m_190 (fun _ h9 => h9) ev10 dX7_addCoast_38 ?_
      obtain ⟨v11, ev11, hq⟩ := b_s hq
      refine gw_i (g_runV (As := [.int a1, .ref v10]) (rest := []) (ci := 7) hC (c_X4_readLoneCoast l V g D cT f3 n v8 a1 v10 v11 ev11) k_X4_readLoneCoast m_1085 rfl rfl ⟨Nat.le_of_ble_eq_true rfl, Nat.le_of_ble_eq_true rfl⟩ hI rfl rfl (h_me_eq ev11).1 rfl hl.1 rfl (Nat.le_of_ble_eq_true rfl) dX7_addCoast_41 ⟨by decide, by decide⟩) hI (fun H locs hI => ?_)
      refine lv_istore_n (lv' := [(2, .int v11.1), (0, .ref a0), (1, .int a1)]) hx hb dX7_addCoast_44 rfl hl (by decide) rfl (fun ls hl => ?_)
      refine lv_aload_n hx hb dX7_addCoast_45 rfl (lv_at hl 1 rfl) ?_
      obtain ⟨v12, ev12, hq⟩ := b_s hq
      refine fa_gr (own := RX7) (ref := "CoastlineRuler") (k := 7) hx hb hB inB_RX7 hown hI rfl (by decide) m_272 (fun _ h9 => h9) ev12 dX7_addCoast_46 ?_
      refine lv_iconst (v := (0 : Int32)) hx hb dX7_addCoast_49 (by decide) ?_
      obtain ⟨f13, ef13, hq⟩ := b_s hq
      refine fa_pt (own := RX7) (ref := "CoastlineRuler$Tokens") (k := 1) hx hb hB inB_RX5 tyX5_ok nmX5 hown hI rfl (by decide) m_111 (fun _ h9 => h9) (by decide) rfl rfl ef13 dX7_addCoast_50 (fun H locs hI => ?_)
      refine lv_iload_n hx hb dX7_addCoast_53 rfl (lv_at hl 0 rfl) ?_
      refine lv_if_eq (tgt := 64) hx hb dX7_addCoast_54 (by decide) (fun c14 => ?_) (fun c14 => ?_)
      · replace hq := i_t c14 hq
        refine lv_iconst (v := (-1 : Int32)) hx hb dX7_addCoast_64 (by decide) ?_
        refine W.widen (k := 3) (n := 18) (by decide) (by decide) ?_
        exact ge_Yi hx hb hlocks hr rfl hI hq dX7_addCoast_65
      · replace hq := i_f c14 hq
        refine lv_aload_n hx hb dX7_addCoast_57 rfl (lv_at hl 1 rfl) ?_
        rcases x_b_eq hq with ⟨v15, ev15, hq⟩ | ⟨v15, ev15, hq⟩
        · exact gt_WW hlocks ht0 (g_runVX (As := []) (rest := []) (ci := 9) hC (c_X7_change l hl0 V g D cT f13 n a0 (.inl v15) ev15) k_X7_change m_358 rfl rfl ⟨Nat.le_of_ble_eq_true rfl, Nat.le_of_ble_eq_true rfl⟩ hI rfl rfl (h_me_eq ev15).1 rfl hl.1 rfl (Nat.le_of_ble_eq_true rfl) dX7_addCoast_58 ⟨by decide, by decide⟩) noy_i hI hq (by decide) (by decide)
        · refine gy_i (g_runVX (As := []) (rest := []) (ci := 9) hC (c_X7_change l hl0 V g D cT f13 n a0 (.inr v15) ev15) k_X7_change m_358 rfl rfl ⟨Nat.le_of_ble_eq_true rfl, Nat.le_of_ble_eq_true rfl⟩ hI rfl rfl (h_me_eq ev15).1 rfl hl.1 rfl (Nat.le_of_ble_eq_true rfl) dX7_addCoast_58 ⟨by decide, by decide⟩) hI (fun H locs hI => ?_)
          refine lv_goto (tgt := 65) hx hb dX7_addCoast_61 (by decide) ?_
          exact ge_Yi hx hb hlocks hr rfl hI hq dX7_addCoast_65

abbrev rm_X7_removeCoast : Room := { frames := 10, cells := 1, slots := 6, locals := 277 }
theorem k_X7_removeCoast : g_CV yX7_removeCoast cX7_removeCoast 2 (some .int) 1 := ⟨⟨m_1095, m_1, by decide +kernel⟩, m_1093, m_1094⟩
set_option maxHeartbeats 4000000 in
set_option maxRecDepth 100000 in
theorem c_X7_removeCoast (l : Launch) (hl0 : l.stackTraces = false) (V : Nat → Nat) (g : GH) (D : va_G) (cT : Nat → ClassId) (f : GH) (n : Nat) (a0 : Nat) (a1 : Int32) (o : (Nat × GH) ⊕ (Int32 × GH)) (hq : p_X7_removeCoast V g f a0 a1 = some o) : vx_Met l yX7_removeCoast (Cond.code yX7_removeCoast cX7_removeCoast 2 (some .int) :: g_B) rm_X7_removeCoast (va_Pc [.ref a0, .int a1] (g_I V g D cT f n)) (g_Yi V D cT o n) (g_YX V D cT o) 1 6 (g_A V) := by
  refine g_beginX (own := RX7) [.ref a0, .int a1] [(0, .ref a0), (1, .int a1)] (g_A V) (fun _ h => h) (by decide) rfl (Nat.le_of_ble_eq_true rfl) rfl ?_
  intro p e s m args below meth c hx hb hr hlocks ht0 hC hI ls hl
  obtain ⟨hx, hb, hml, hown, hB⟩ := id hC
  obtain ⟨H, hH⟩ : ∃ H, H = s.heap := ⟨_, rfl⟩
  obtain ⟨locs, hlocs⟩ : ∃ L : List Loc, L = [] := ⟨_, rfl⟩
  rw [← hH, ← hlocs] at hI ⊢
  clear hH hlocs
  unfold p_X7_removeCoast at hq
  replace hq := (h_me_eq hq).2
  refine lv_aload_n hx hb dX7_removeCoast_0 rfl (lv_at hl 0 rfl) ?_
  obtain ⟨v1, ev1, hq⟩ := b_s hq
  refine fa_gr (own := RX7) (ref := "CoastlineRuler") (k := 10) hx hb hB inB_RX7 hown hI rfl (by decide) m_275 (fun _ h9 => h9) ev1 dX7_removeCoast_1 ?_
  refine fs_gs (i := 9) hx hb hown hI rfl (hB _ m_1096) (fun _ h9 => h9) dX7_removeCoast_4 ?_
  refine lv_iload_n hx hb dX7_removeCoast_7 rfl (lv_at hl 1 rfl) ?_
  refine lv_iconst (v := (0 : Int32)) hx hb dX7_removeCoast_8 (by decide) ?_
  refine lv_iconst (v := (0 : Int32)) hx hb dX7_removeCoast_9 (by decide) ?_
  refine lv_iconst (v := (0 : Int32)) hx hb dX7_removeCoast_10 (by decide) ?_
  obtain ⟨v2, ev2, hq⟩ := b_s hq
  refine gw_v (g_runV (As := [.ref (V 10), .int a1, .int (0 : Int32), .int (0 : Int32), .int (0 : Int32)]) (rest := []) (ci := 6) hC (c_X3_set l V g D cT f n v1 (V 10) a1 (0 : Int32) (0 : Int32) (0 : Int32) v2 ev2) k_X3_set m_354 rfl rfl ⟨Nat.le_of_ble_eq_true rfl, Nat.le_of_ble_eq_true rfl⟩ hI rfl rfl (h_me_eq ev2).1 rfl hl.1 rfl (Nat.le_of_ble_eq_true rfl) dX7_removeCoast_11 ⟨by decide, by decide⟩) hI (fun H locs hI => ?_)
  refine lv_aload_n hx hb dX7_removeCoast_14 rfl (lv_at hl 0 rfl) ?_
  rcases x_b_eq hq with ⟨v3, ev3, hq⟩ | ⟨v3, ev3, hq⟩
  · exact gt_WW hlocks ht0 (g_runVX (As := []) (rest := []) (ci := 9) hC (c_X7_change l hl0 V g D cT v2 n a0 (.inl v3) ev3) k_X7_change m_358 rfl rfl ⟨Nat.le_of_ble_eq_true rfl, Nat.le_of_ble_eq_true rfl⟩ hI rfl rfl (h_me_eq ev3).1 rfl hl.1 rfl (Nat.le_of_ble_eq_true rfl) dX7_removeCoast_15 ⟨by decide, by decide⟩) noy_i hI hq (by decide) (by decide)
  · refine gy_i (g_runVX (As := []) (rest := []) (ci := 9) hC (c_X7_change l hl0 V g D cT v2 n a0 (.inr v3) ev3) k_X7_change m_358 rfl rfl ⟨Nat.le_of_ble_eq_true rfl, Nat.le_of_ble_eq_true rfl⟩ hI rfl rfl (h_me_eq ev3).1 rfl hl.1 rfl (Nat.le_of_ble_eq_true rfl) dX7_removeCoast_15 ⟨by decide, by decide⟩) hI (fun H locs hI => ?_)
    exact ge_Yi hx hb hlocks hr rfl hI hq dX7_removeCoast_18

abbrev rm_X7_fold : Room := { frames := 10, cells := 1, slots := 6, locals := 277 }
theorem k_X7_fold : g_CV yX7_fold cX7_fold 3 (some .int) 2 := ⟨⟨m_1104, m_1, by decide +kernel⟩, m_1102, m_1103⟩
set_option maxHeartbeats 4000000 in
set_option maxRecDepth 100000 in
theorem c_X7_fold (l : Launch) (hl0 : l.stackTraces = false) (V : Nat → Nat) (g : GH) (D : va_G) (cT : Nat → ClassId) (f : GH) (n : Nat) (a0 : Nat) (a1 : Int32) (a2 : Int32) (o : (Nat × GH) ⊕ (Int32 × GH)) (hq : p_X7_fold V g f a0 a1 a2 = some o) : vx_Met l yX7_fold (Cond.code yX7_fold cX7_fold 3 (some .int) :: g_B) rm_X7_fold (va_Pc [.ref a0, .int a1, .int a2] (g_I V g D cT f n)) (g_Yi V D cT o n) (g_YX V D cT o) 1 6 (g_A V) := by
  refine g_beginX (own := RX7) [.ref a0, .int a1, .int a2] [(0, .ref a0), (1, .int a1), (2, .int a2)] (g_A V) (fun _ h => h) (by decide) rfl (Nat.le_of_ble_eq_true rfl) rfl ?_
  intro p e s m args below meth c hx hb hr hlocks ht0 hC hI ls hl
  obtain ⟨hx, hb, hml, hown, hB⟩ := id hC
  obtain ⟨H, hH⟩ : ∃ H, H = s.heap := ⟨_, rfl⟩
  obtain ⟨locs, hlocs⟩ : ∃ L : List Loc, L = [] := ⟨_, rfl⟩
  rw [← hH, ← hlocs] at hI ⊢
  clear hH hlocs
  unfold p_X7_fold at hq
  replace hq := (h_me_eq hq).2
  refine lv_aload_n hx hb dX7_fold_0 rfl (lv_at hl 0 rfl) ?_
  obtain ⟨v1, ev1, hq⟩ := b_s hq
  refine fa_gr (own := RX7) (ref := "CoastlineRuler") (k := 10) hx hb hB inB_RX7 hown hI rfl (by decide) m_275 (fun _ h9 => h9) ev1 dX7_fold_1 ?_
  refine fs_gs (i := 2) hx hb hown hI rfl (hB _ m_1105) (fun _ h9 => h9) dX7_fold_4 ?_
  refine lv_iload_n hx hb dX7_fold_7 rfl (lv_at hl 1 rfl) ?_
  refine lv_iconst (v := (0 : Int32)) hx hb dX7_fold_8 (by decide) ?_
  refine lv_iload_n hx hb dX7_fold_9 rfl (lv_at hl 2 rfl) ?_
  refine lv_iconst (v := (0 : Int32)) hx hb dX7_fold_10 (by decide) ?_
  obtain ⟨v2, ev2, hq⟩ := b_s hq
  refine gw_v (g_runV (As := [.ref (V 3), .int a1, .int (0 : Int32), .int a2, .int (0 : Int32)]) (rest := []) (ci := 6) hC (c_X3_set l V g D cT f n v1 (V 3) a1 (0 : Int32) a2 (0 : Int32) v2 ev2) k_X3_set m_354 rfl rfl ⟨Nat.le_of_ble_eq_true rfl, Nat.le_of_ble_eq_true rfl⟩ hI rfl rfl (h_me_eq ev2).1 rfl hl.1 rfl (Nat.le_of_ble_eq_true rfl) dX7_fold_11 ⟨by decide, by decide⟩) hI (fun H locs hI => ?_)
  refine lv_aload_n hx hb dX7_fold_14 rfl (lv_at hl 0 rfl) ?_
  rcases x_b_eq hq with ⟨v3, ev3, hq⟩ | ⟨v3, ev3, hq⟩
  · exact gt_WW hlocks ht0 (g_runVX (As := []) (rest := []) (ci := 9) hC (c_X7_change l hl0 V g D cT v2 n a0 (.inl v3) ev3) k_X7_change m_358 rfl rfl ⟨Nat.le_of_ble_eq_true rfl, Nat.le_of_ble_eq_true rfl⟩ hI rfl rfl (h_me_eq ev3).1 rfl hl.1 rfl (Nat.le_of_ble_eq_true rfl) dX7_fold_15 ⟨by decide, by decide⟩) noy_i hI hq (by decide) (by decide)
  · refine gy_i (g_runVX (As := []) (rest := []) (ci := 9) hC (c_X7_change l hl0 V g D cT v2 n a0 (.inr v3) ev3) k_X7_change m_358 rfl rfl ⟨Nat.le_of_ble_eq_true rfl, Nat.le_of_ble_eq_true rfl⟩ hI rfl rfl (h_me_eq ev3).1 rfl hl.1 rfl (Nat.le_of_ble_eq_true rfl) dX7_fold_15 ⟨by decide, by decide⟩) hI (fun H locs hI => ?_)
    exact ge_Yi hx hb hlocks hr rfl hI hq dX7_fold_18

abbrev rm_X7_unfold : Room := { frames := 10, cells := 1, slots := 6, locals := 277 }
theorem k_X7_unfold : g_CV yX7_unfold cX7_unfold 2 (some .int) 1 := ⟨⟨m_1113, m_1, by decide +kernel⟩, m_1111, m_1112⟩
set_option maxHeartbeats 4000000 in
set_option maxRecDepth 100000 in
theorem c_X7_unfold (l : Launch) (hl0 : l.stackTraces = false) (V : Nat → Nat) (g : GH) (D : va_G) (cT : Nat → ClassId) (f : GH) (n : Nat) (a0 : Nat) (a1 : Int32) (o : (Nat × GH) ⊕ (Int32 × GH)) (hq : p_X7_unfold V g f a0 a1 = some o) : vx_Met l yX7_unfold (Cond.code yX7_unfold cX7_unfold 2 (some .int) :: g_B) rm_X7_unfold (va_Pc [.ref a0, .int a1] (g_I V g D cT f n)) (g_Yi V D cT o n) (g_YX V D cT o) 1 6 (g_A V) := by
  refine g_beginX (own := RX7) [.ref a0, .int a1] [(0, .ref a0), (1, .int a1)] (g_A V) (fun _ h => h) (by decide) rfl (Nat.le_of_ble_eq_true rfl) rfl ?_
  intro p e s m args below meth c hx hb hr hlocks ht0 hC hI ls hl
  obtain ⟨hx, hb, hml, hown, hB⟩ := id hC
  obtain ⟨H, hH⟩ : ∃ H, H = s.heap := ⟨_, rfl⟩
  obtain ⟨locs, hlocs⟩ : ∃ L : List Loc, L = [] := ⟨_, rfl⟩
  rw [← hH, ← hlocs] at hI ⊢
  clear hH hlocs
  unfold p_X7_unfold at hq
  replace hq := (h_me_eq hq).2
  refine lv_aload_n hx hb dX7_unfold_0 rfl (lv_at hl 0 rfl) ?_
  obtain ⟨v1, ev1, hq⟩ := b_s hq
  refine fa_gr (own := RX7) (ref := "CoastlineRuler") (k := 10) hx hb hB inB_RX7 hown hI rfl (by decide) m_275 (fun _ h9 => h9) ev1 dX7_unfold_1 ?_
  refine fs_gs (i := 3) hx hb hown hI rfl (hB _ m_1114) (fun _ h9 => h9) dX7_unfold_4 ?_
  refine lv_iload_n hx hb dX7_unfold_7 rfl (lv_at hl 1 rfl) ?_
  refine lv_iconst (v := (0 : Int32)) hx hb dX7_unfold_8 (by decide) ?_
  refine lv_iconst (v := (0 : Int32)) hx hb dX7_unfold_9 (by decide) ?_
  refine lv_iconst (v := (0 : Int32)) hx hb dX7_unfold_10 (by decide) ?_
  obtain ⟨v2, ev2, hq⟩ := b_s hq
  refine gw_v (g_runV (As := [.ref (V 4), .int a1, .int (0 : Int32), .int (0 : Int32), .int (0 : Int32)]) (rest := []) (ci := 6) hC (c_X3_set l V g D cT f n v1 (V 4) a1 (0 : Int32) (0 : Int32) (0 : Int32) v2 ev2) k_X3_set m_354 rfl rfl ⟨Nat.le_of_ble_eq_true rfl, Nat.le_of_ble_eq_true rfl⟩ hI rfl rfl (h_me_eq ev2).1 rfl hl.1 rfl (Nat.le_of_ble_eq_true rfl) dX7_unfold_11 ⟨by decide, by decide⟩) hI (fun H locs hI => ?_)
  refine lv_aload_n hx hb dX7_unfold_14 rfl (lv_at hl 0 rfl) ?_
  rcases x_b_eq hq with ⟨v3, ev3, hq⟩ | ⟨v3, ev3, hq⟩
  · exact gt_WW hlocks ht0 (g_runVX (As := []) (rest := []) (ci := 9) hC (c_X7_change l hl0 V g D cT v2 n a0 (.inl v3) ev3) k_X7_change m_358 rfl rfl ⟨Nat.le_of_ble_eq_true rfl, Nat.le_of_ble_eq_true rfl⟩ hI rfl rfl (h_me_eq ev3).1 rfl hl.1 rfl (Nat.le_of_ble_eq_true rfl) dX7_unfold_15 ⟨by decide, by decide⟩) noy_i hI hq (by decide) (by decide)
  · refine gy_i (g_runVX (As := []) (rest := []) (ci := 9) hC (c_X7_change l hl0 V g D cT v2 n a0 (.inr v3) ev3) k_X7_change m_358 rfl rfl ⟨Nat.le_of_ble_eq_true rfl, Nat.le_of_ble_eq_true rfl⟩ hI rfl rfl (h_me_eq ev3).1 rfl hl.1 rfl (Nat.le_of_ble_eq_true rfl) dX7_unfold_15 ⟨by decide, by decide⟩) hI (fun H locs hI => ?_)
    exact ge_Yi hx hb hlocks hr rfl hI hq dX7_unfold_18

abbrev rm_X7_movePoint : Room := { frames := 10, cells := 1, slots := 6, locals := 277 }
theorem k_X7_movePoint : g_CV yX7_movePoint cX7_movePoint 5 (some .int) 4 := ⟨⟨m_1122, m_1, by decide +kernel⟩, m_1120, m_1121⟩
set_option maxHeartbeats 4000000 in
set_option maxRecDepth 100000 in
theorem c_X7_movePoint (l : Launch) (hl0 : l.stackTraces = false) (V : Nat → Nat) (g : GH) (D : va_G) (cT : Nat → ClassId) (f : GH) (n : Nat) (a0 : Nat) (a1 : Int32) (a2 : Int32) (a3 : Int32) (a4 : Int32) (o : (Nat × GH) ⊕ (Int32 × GH)) (hq : p_X7_movePoint V g f a0 a1 a2 a3 a4 = some o) : vx_Met l yX7_movePoint (Cond.code yX7_movePoint cX7_movePoint 5 (some .int) :: g_B) rm_X7_movePoint (va_Pc [.ref a0, .int a1, .int a2, .int a3, .int a4] (g_I V g D cT f n)) (g_Yi V D cT o n) (g_YX V D cT o) 1 6 (g_A V) := by
  refine g_beginX (own := RX7) [.ref a0, .int a1, .int a2, .int a3, .int a4] [(0, .ref a0), (1, .int a1), (2, .int a2), (3, .int a3), (4, .int a4)] (g_A V) (fun _ h => h) (by decide) rfl (Nat.le_of_ble_eq_true rfl) rfl ?_
  intro p e s m args below meth c hx hb hr hlocks ht0 hC hI ls hl
  obtain ⟨hx, hb, hml, hown, hB⟩ := id hC
  obtain ⟨H, hH⟩ : ∃ H, H = s.heap := ⟨_, rfl⟩
  obtain ⟨locs, hlocs⟩ : ∃ L : List Loc, L = [] := ⟨_, rfl⟩
  rw [← hH, ← hlocs] at hI ⊢
  clear hH hlocs
  unfold p_X7_movePoint at hq
  replace hq := (h_me_eq hq).2
  refine lv_aload_n hx hb dX7_movePoint_0 rfl (lv_at hl 0 rfl) ?_
  obtain ⟨v1, ev1, hq⟩ := b_s hq
  refine fa_gr (own := RX7) (ref := "CoastlineRuler") (k := 10) hx hb hB inB_RX7 hown hI rfl (by decide) m_275 (fun _ h9 => h9) ev1 dX7_movePoint_1 ?_
  refine fs_gs (i := 4) hx hb hown hI rfl (hB _ m_1123) (fun _ h9 => h9) dX7_movePoint_4 ?_
  refine lv_iload_n hx hb dX7_movePoint_7 rfl (lv_at hl 1 rfl) ?_
  refine lv_iload_n hx hb dX7_movePoint_8 rfl (lv_at hl 2 rfl) ?_
  refine lv_iload_n hx hb dX7_movePoint_9 rfl (lv_at hl 3 rfl) ?_
  refine lv_iload hx hb dX7_movePoint_10 (lv_at hl 4 rfl) ?_
  obtain ⟨v2, ev2, hq⟩ := b_s hq
  refine gw_v (g_runV (As := [.ref (V 5), .int a1, .int a2, .int a3, .int a4]) (rest := []) (ci := 6) hC (c_X3_set l V g D cT f n v1 (V 5) a1 a2 a3 a4 v2 ev2) k_X3_set m_354 rfl rfl ⟨Nat.le_of_ble_eq_true rfl, Nat.le_of_ble_eq_true rfl⟩ hI rfl rfl (h_me_eq ev2).1 rfl hl.1 rfl (Nat.le_of_ble_eq_true rfl) dX7_movePoint_12 ⟨by decide, by decide⟩) hI (fun H locs hI => ?_)
  refine lv_aload_n hx hb dX7_movePoint_15 rfl (lv_at hl 0 rfl) ?_
  rcases x_b_eq hq with ⟨v3, ev3, hq⟩ | ⟨v3, ev3, hq⟩
  · exact gt_WW hlocks ht0 (g_runVX (As := []) (rest := []) (ci := 9) hC (c_X7_change l hl0 V g D cT v2 n a0 (.inl v3) ev3) k_X7_change m_358 rfl rfl ⟨Nat.le_of_ble_eq_true rfl, Nat.le_of_ble_eq_true rfl⟩ hI rfl rfl (h_me_eq ev3).1 rfl hl.1 rfl (Nat.le_of_ble_eq_true rfl) dX7_movePoint_16 ⟨by decide, by decide⟩) noy_i hI hq (by decide) (by decide)
  · refine gy_i (g_runVX (As := []) (rest := []) (ci := 9) hC (c_X7_change l hl0 V g D cT v2 n a0 (.inr v3) ev3) k_X7_change m_358 rfl rfl ⟨Nat.le_of_ble_eq_true rfl, Nat.le_of_ble_eq_true rfl⟩ hI rfl rfl (h_me_eq ev3).1 rfl hl.1 rfl (Nat.le_of_ble_eq_true rfl) dX7_movePoint_16 ⟨by decide, by decide⟩) hI (fun H locs hI => ?_)
    exact ge_Yi hx hb hlocks hr rfl hI hq dX7_movePoint_19

abbrev rm_X7_insertPoint : Room := { frames := 10, cells := 1, slots := 6, locals := 277 }
theorem k_X7_insertPoint : g_CV yX7_insertPoint cX7_insertPoint 5 (some .int) 4 := ⟨⟨m_1131, m_1, by decide +kernel⟩, m_1129, m_1130⟩
set_option maxHeartbeats 4000000 in
set_option maxRecDepth 100000 in
theorem c_X7_insertPoint (l : Launch) (hl0 : l.stackTraces = false) (V : Nat → Nat) (g : GH) (D : va_G) (cT : Nat → ClassId) (f : GH) (n : Nat) (a0 : Nat) (a1 : Int32) (a2 : Int32) (a3 : Int32) (a4 : Int32) (o : (Nat × GH) ⊕ (Int32 × GH)) (hq : p_X7_insertPoint V g f a0 a1 a2 a3 a4 = some o) : vx_Met l yX7_insertPoint (Cond.code yX7_insertPoint cX7_insertPoint 5 (some .int) :: g_B) rm_X7_insertPoint (va_Pc [.ref a0, .int a1, .int a2, .int a3, .int a4] (g_I V g D cT f n)) (g_Yi V D cT o n) (g_YX V D cT o) 1 6 (g_A V) := by
  refine g_beginX (own := RX7) [.ref a0, .int a1, .int a2, .int a3, .int a4] [(0, .ref a0), (1, .int a1), (2, .int a2), (3, .int a3), (4, .int a4)] (g_A V) (fun _ h => h) (by decide) rfl (Nat.le_of_ble_eq_true rfl) rfl ?_
  intro p e s m args below meth c hx hb hr hlocks ht0 hC hI ls hl
  obtain ⟨hx, hb, hml, hown, hB⟩ := id hC
  obtain ⟨H, hH⟩ : ∃ H, H = s.heap := ⟨_, rfl⟩
  obtain ⟨locs, hlocs⟩ : ∃ L : List Loc, L = [] := ⟨_, rfl⟩
  rw [← hH, ← hlocs] at hI ⊢
  clear hH hlocs
  unfold p_X7_insertPoint at hq
  replace hq := (h_me_eq hq).2
  refine lv_aload_n hx hb dX7_insertPoint_0 rfl (lv_at hl 0 rfl) ?_
  obtain ⟨v1, ev1, hq⟩ := b_s hq
  refine fa_gr (own := RX7) (ref := "CoastlineRuler") (k := 10) hx hb hB inB_RX7 hown hI rfl (by decide) m_275 (fun _ h9 => h9) ev1 dX7_insertPoint_1 ?_
  refine fs_gs (i := 5) hx hb hown hI rfl (hB _ m_1132) (fun _ h9 => h9) dX7_insertPoint_4 ?_
  refine lv_iload_n hx hb dX7_insertPoint_7 rfl (lv_at hl 1 rfl) ?_
  refine lv_iload_n hx hb dX7_insertPoint_8 rfl (lv_at hl 2 rfl) ?_
  refine lv_iload_n hx hb dX7_insertPoint_9 rfl (lv_at hl 3 rfl) ?_
  refine lv_iload hx hb dX7_insertPoint_10 (lv_at hl 4 rfl) ?_
  obtain ⟨v2, ev2, hq⟩ := b_s hq
  refine gw_v (g_runV (As := [.ref (V 6), .int a1, .int a2, .int a3, .int a4]) (rest := []) (ci := 6) hC (c_X3_set l V g D cT f n v1 (V 6) a1 a2 a3 a4 v2 ev2) k_X3_set m_354 rfl rfl ⟨Nat.le_of_ble_eq_true rfl, Nat.le_of_ble_eq_true rfl⟩ hI rfl rfl (h_me_eq ev2).1 rfl hl.1 rfl (Nat.le_of_ble_eq_true rfl) dX7_insertPoint_12 ⟨by decide, by decide⟩) hI (fun H locs hI => ?_)
  refine lv_aload_n hx hb dX7_insertPoint_15 rfl (lv_at hl 0 rfl) ?_
  rcases x_b_eq hq with ⟨v3, ev3, hq⟩ | ⟨v3, ev3, hq⟩
  · exact gt_WW hlocks ht0 (g_runVX (As := []) (rest := []) (ci := 9) hC (c_X7_change l hl0 V g D cT v2 n a0 (.inl v3) ev3) k_X7_change m_358 rfl rfl ⟨Nat.le_of_ble_eq_true rfl, Nat.le_of_ble_eq_true rfl⟩ hI rfl rfl (h_me_eq ev3).1 rfl hl.1 rfl (Nat.le_of_ble_eq_true rfl) dX7_insertPoint_16 ⟨by decide, by decide⟩) noy_i hI hq (by decide) (by decide)
  · refine gy_i (g_runVX (As := []) (rest := []) (ci := 9) hC (c_X7_change l hl0 V g D cT v2 n a0 (.inr v3) ev3) k_X7_change m_358 rfl rfl ⟨Nat.le_of_ble_eq_true rfl, Nat.le_of_ble_eq_true rfl⟩ hI rfl rfl (h_me_eq ev3).1 rfl hl.1 rfl (Nat.le_of_ble_eq_true rfl) dX7_insertPoint_16 ⟨by decide, by decide⟩) hI (fun H locs hI => ?_)
    exact ge_Yi hx hb hlocks hr rfl hI hq dX7_insertPoint_19

abbrev rm_X7_removePoint : Room := { frames := 10, cells := 1, slots := 6, locals := 277 }
theorem k_X7_removePoint : g_CV yX7_removePoint cX7_removePoint 3 (some .int) 2 := ⟨⟨m_1139, m_1, by decide +kernel⟩, m_1137, m_1138⟩
set_option maxHeartbeats 4000000 in
set_option maxRecDepth 100000 in
theorem c_X7_removePoint (l : Launch) (hl0 : l.stackTraces = false) (V : Nat → Nat) (g : GH) (D : va_G) (cT : Nat → ClassId) (f : GH) (n : Nat) (a0 : Nat) (a1 : Int32) (a2 : Int32) (o : (Nat × GH) ⊕ (Int32 × GH)) (hq : p_X7_removePoint V g f a0 a1 a2 = some o) : vx_Met l yX7_removePoint (Cond.code yX7_removePoint cX7_removePoint 3 (some .int) :: g_B) rm_X7_removePoint (va_Pc [.ref a0, .int a1, .int a2] (g_I V g D cT f n)) (g_Yi V D cT o n) (g_YX V D cT o) 1 6 (g_A V) := by
  refine g_beginX (own := RX7) [.ref a0, .int a1, .int a2] [(0, .ref a0), (1, .int a1), (2, .int a2)] (g_A V) (fun _ h => h) (by decide) rfl (Nat.le_of_ble_eq_true rfl) rfl ?_
  intro p e s m args below meth c hx hb hr hlocks ht0 hC hI ls hl
  obtain ⟨hx, hb, hml, hown, hB⟩ := id hC
  obtain ⟨H, hH⟩ : ∃ H, H = s.heap := ⟨_, rfl⟩
  obtain ⟨locs, hlocs⟩ : ∃ L : List Loc, L = [] := ⟨_, rfl⟩
  rw [← hH, ← hlocs] at hI ⊢
  clear hH hlocs
  unfold p_X7_removePoint at hq
  replace hq := (h_me_eq hq).2
  refine lv_aload_n hx hb dX7_removePoint_0 rfl (lv_at hl 0 rfl) ?_
  obtain ⟨v1, ev1, hq⟩ := b_s hq
  refine fa_gr (own := RX7) (ref := "CoastlineRuler") (k := 10) hx hb hB inB_RX7 hown hI rfl (by decide) m_275 (fun _ h9 => h9) ev1 dX7_removePoint_1 ?_
  refine fs_gs (i := 6) hx hb hown hI rfl (hB _ m_1140) (fun _ h9 => h9) dX7_removePoint_4 ?_
  refine lv_iload_n hx hb dX7_removePoint_7 rfl (lv_at hl 1 rfl) ?_
  refine lv_iload_n hx hb dX7_removePoint_8 rfl (lv_at hl 2 rfl) ?_
  refine lv_iconst (v := (0 : Int32)) hx hb dX7_removePoint_9 (by decide) ?_
  refine lv_iconst (v := (0 : Int32)) hx hb dX7_removePoint_10 (by decide) ?_
  obtain ⟨v2, ev2, hq⟩ := b_s hq
  refine gw_v (g_runV (As := [.ref (V 7), .int a1, .int a2, .int (0 : Int32), .int (0 : Int32)]) (rest := []) (ci := 6) hC (c_X3_set l V g D cT f n v1 (V 7) a1 a2 (0 : Int32) (0 : Int32) v2 ev2) k_X3_set m_354 rfl rfl ⟨Nat.le_of_ble_eq_true rfl, Nat.le_of_ble_eq_true rfl⟩ hI rfl rfl (h_me_eq ev2).1 rfl hl.1 rfl (Nat.le_of_ble_eq_true rfl) dX7_removePoint_11 ⟨by decide, by decide⟩) hI (fun H locs hI => ?_)
  refine lv_aload_n hx hb dX7_removePoint_14 rfl (lv_at hl 0 rfl) ?_
  rcases x_b_eq hq with ⟨v3, ev3, hq⟩ | ⟨v3, ev3, hq⟩
  · exact gt_WW hlocks ht0 (g_runVX (As := []) (rest := []) (ci := 9) hC (c_X7_change l hl0 V g D cT v2 n a0 (.inl v3) ev3) k_X7_change m_358 rfl rfl ⟨Nat.le_of_ble_eq_true rfl, Nat.le_of_ble_eq_true rfl⟩ hI rfl rfl (h_me_eq ev3).1 rfl hl.1 rfl (Nat.le_of_ble_eq_true rfl) dX7_removePoint_15 ⟨by decide, by decide⟩) noy_i hI hq (by decide) (by decide)
  · refine gy_i (g_runVX (As := []) (rest := []) (ci := 9) hC (c_X7_change l hl0 V g D cT v2 n a0 (.inr v3) ev3) k_X7_change m_358 rfl rfl ⟨Nat.le_of_ble_eq_true rfl, Nat.le_of_ble_eq_true rfl⟩ hI rfl rfl (h_me_eq ev3).1 rfl hl.1 rfl (Nat.le_of_ble_eq_true rfl) dX7_removePoint_15 ⟨by decide, by decide⟩) hI (fun H locs hI => ?_)
    exact ge_Yi hx hb hlocks hr rfl hI hq dX7_removePoint_18

abbrev rm_X7_shift : Room := { frames := 10, cells := 1, slots := 6, locals := 277 }
theorem k_X7_shift : g_CV yX7_shift cX7_shift 4 (some .int) 3 := ⟨⟨m_1148, m_1, by decide +kernel⟩, m_1146, m_1147⟩
set_option maxHeartbeats 4000000 in
set_option maxRecDepth 100000 in
theorem c_X7_shift (l : Launch) (hl0 : l.stackTraces = false) (V : Nat → Nat) (g : GH) (D : va_G) (cT : Nat → ClassId) (f : GH) (n : Nat) (a0 : Nat) (a1 : Int32) (a2 : Int32) (a3 : Int32) (o : (Nat × GH) ⊕ (Int32 × GH)) (hq : p_X7_shift V g f a0 a1 a2 a3 = some o) : vx_Met l yX7_shift (Cond.code yX7_shift cX7_shift 4 (some .int) :: g_B) rm_X7_shift (va_Pc [.ref a0, .int a1, .int a2, .int a3] (g_I V g D cT f n)) (g_Yi V D cT o n) (g_YX V D cT o) 1 6 (g_A V) := by
  refine g_beginX (own := RX7) [.ref a0, .int a1, .int a2, .int a3] [(0, .ref a0), (1, .int a1), (2, .int a2), (3, .int a3)] (g_A V) (fun _ h => h) (by decide) rfl (Nat.le_of_ble_eq_true rfl) rfl ?_
  intro p e s m args below meth c hx hb hr hlocks ht0 hC hI ls hl
  obtain ⟨hx, hb, hml, hown, hB⟩ := id hC
  obtain ⟨H, hH⟩ : ∃ H, H = s.heap := ⟨_, rfl⟩
  obtain ⟨locs, hlocs⟩ : ∃ L : List Loc, L = [] := ⟨_, rfl⟩
  rw [← hH, ← hlocs] at hI ⊢
  clear hH hlocs
  unfold p_X7_shift at hq
  replace hq := (h_me_eq hq).2
  refine lv_aload_n hx hb dX7_shift_0 rfl (lv_at hl 0 rfl) ?_
  obtain ⟨v1, ev1, hq⟩ := b_s hq
  refine fa_gr (own := RX7) (ref := "CoastlineRuler") (k := 10) hx hb hB inB_RX7 hown hI rfl (by decide) m_275 (fun _ h9 => h9) ev1 dX7_shift_1 ?_
  refine fs_gs (i := 7) hx hb hown hI rfl (hB _ m_1149) (fun _ h9 => h9) dX7_shift_4 ?_
  refine lv_iload_n hx hb dX7_shift_7 rfl (lv_at hl 1 rfl) ?_
  refine lv_iconst (v := (0 : Int32)) hx hb dX7_shift_8 (by decide) ?_
  refine lv_iload_n hx hb dX7_shift_9 rfl (lv_at hl 2 rfl) ?_
  refine lv_iload_n hx hb dX7_shift_10 rfl (lv_at hl 3 rfl) ?_
  obtain ⟨v2, ev2, hq⟩ := b_s hq
  refine gw_v (g_runV (As := [.ref (V 8), .int a1, .int (0 : Int32), .int a2, .int a3]) (rest := []) (ci := 6) hC (c_X3_set l V g D cT f n v1 (V 8) a1 (0 : Int32) a2 a3 v2 ev2) k_X3_set m_354 rfl rfl ⟨Nat.le_of_ble_eq_true rfl, Nat.le_of_ble_eq_true rfl⟩ hI rfl rfl (h_me_eq ev2).1 rfl hl.1 rfl (Nat.le_of_ble_eq_true rfl) dX7_shift_11 ⟨by decide, by decide⟩) hI (fun H locs hI => ?_)
  refine lv_aload_n hx hb dX7_shift_14 rfl (lv_at hl 0 rfl) ?_
  rcases x_b_eq hq with ⟨v3, ev3, hq⟩ | ⟨v3, ev3, hq⟩
  · exact gt_WW hlocks ht0 (g_runVX (As := []) (rest := []) (ci := 9) hC (c_X7_change l hl0 V g D cT v2 n a0 (.inl v3) ev3) k_X7_change m_358 rfl rfl ⟨Nat.le_of_ble_eq_true rfl, Nat.le_of_ble_eq_true rfl⟩ hI rfl rfl (h_me_eq ev3).1 rfl hl.1 rfl (Nat.le_of_ble_eq_true rfl) dX7_shift_15 ⟨by decide, by decide⟩) noy_i hI hq (by decide) (by decide)
  · refine gy_i (g_runVX (As := []) (rest := []) (ci := 9) hC (c_X7_change l hl0 V g D cT v2 n a0 (.inr v3) ev3) k_X7_change m_358 rfl rfl ⟨Nat.le_of_ble_eq_true rfl, Nat.le_of_ble_eq_true rfl⟩ hI rfl rfl (h_me_eq ev3).1 rfl hl.1 rfl (Nat.le_of_ble_eq_true rfl) dX7_shift_15 ⟨by decide, by decide⟩) hI (fun H locs hI => ?_)
    exact ge_Yi hx hb hlocks hr rfl hI hq dX7_shift_18

abbrev rm_X7_reverse : Room := { frames := 10, cells := 1, slots := 6, locals := 277 }
theorem k_X7_reverse : g_CV yX7_reverse cX7_reverse 2 (some .int) 1 := ⟨⟨m_1157, m_1, by decide +kernel⟩, m_1155, m_1156⟩
set_option maxHeartbeats 4000000 in
set_option maxRecDepth 100000 in
theorem c_X7_reverse (l : Launch) (hl0 : l.stackTraces = false) (V : Nat → Nat) (g : GH) (D : va_G) (cT : Nat → ClassId) (f : GH) (n : Nat) (a0 : Nat) (a1 : Int32) (o : (Nat × GH) ⊕ (Int32 × GH)) (hq : p_X7_reverse V g f a0 a1 = some o) : vx_Met l yX7_reverse (Cond.code yX7_reverse cX7_reverse 2 (some .int) :: g_B) rm_X7_reverse (va_Pc [.ref a0, .int a1] (g_I V g D cT f n)) (g_Yi V D cT o n) (g_YX V D cT o) 1 6 (g_A V) := by
  refine g_beginX (own := RX7) [.ref a0, .int a1] [(0, .ref a0), (1, .int a1)] (g_A V) (fun _ h => h) (by decide) rfl (Nat.le_of_ble_eq_true rfl) rfl ?_
  intro p e s m args below meth c hx hb hr hlocks ht0 hC hI ls hl
  obtain ⟨hx, hb, hml, hown, hB⟩ := id hC
  obtain ⟨H, hH⟩ : ∃ H, H = s.heap := ⟨_, rfl⟩
  obtain ⟨locs, hlocs⟩ : ∃ L : List Loc, L = [] := ⟨_, rfl⟩
  rw [← hH, ← hlocs] at hI ⊢
  clear hH hlocs
  unfold p_X7_reverse at hq
  replace hq := (h_me_eq hq).2
  refine lv_aload_n hx hb dX7_reverse_0 rfl (lv_at hl 0 rfl) ?_
  obtain ⟨v1, ev1, hq⟩ := b_s hq
  refine fa_gr (own := RX7) (ref := "CoastlineRuler") (k := 10) hx hb hB inB_RX7 hown hI rfl (by decide) m_275 (fun _ h9 => h9) ev1 dX7_reverse_1 ?_
  refine fs_gs (i := 8) hx hb hown hI rfl (hB _ m_1158) (fun _ h9 => h9) dX7_reverse_4 ?_
  refine lv_iload_n hx hb dX7_reverse_7 rfl (lv_at hl 1 rfl) ?_
  refine lv_iconst (v := (0 : Int32)) hx hb dX7_reverse_8 (by decide) ?_
  refine lv_iconst (v := (0 : Int32)) hx hb dX7_reverse_9 (by decide) ?_
  refine lv_iconst (v := (0 : Int32)) hx hb dX7_reverse_10 (by decide) ?_
  obtain ⟨v2, ev2, hq⟩ := b_s hq
  refine gw_v (g_runV (As := [.ref (V 9), .int a1, .int (0 : Int32), .int (0 : Int32), .int (0 : Int32)]) (rest := []) (ci := 6) hC (c_X3_set l V g D cT f n v1 (V 9) a1 (0 : Int32) (0 : Int32) (0 : Int32) v2 ev2) k_X3_set m_354 rfl rfl ⟨Nat.le_of_ble_eq_true rfl, Nat.le_of_ble_eq_true rfl⟩ hI rfl rfl (h_me_eq ev2).1 rfl hl.1 rfl (Nat.le_of_ble_eq_true rfl) dX7_reverse_11 ⟨by decide, by decide⟩) hI (fun H locs hI => ?_)
  refine lv_aload_n hx hb dX7_reverse_14 rfl (lv_at hl 0 rfl) ?_
  rcases x_b_eq hq with ⟨v3, ev3, hq⟩ | ⟨v3, ev3, hq⟩
  · exact gt_WW hlocks ht0 (g_runVX (As := []) (rest := []) (ci := 9) hC (c_X7_change l hl0 V g D cT v2 n a0 (.inl v3) ev3) k_X7_change m_358 rfl rfl ⟨Nat.le_of_ble_eq_true rfl, Nat.le_of_ble_eq_true rfl⟩ hI rfl rfl (h_me_eq ev3).1 rfl hl.1 rfl (Nat.le_of_ble_eq_true rfl) dX7_reverse_15 ⟨by decide, by decide⟩) noy_i hI hq (by decide) (by decide)
  · refine gy_i (g_runVX (As := []) (rest := []) (ci := 9) hC (c_X7_change l hl0 V g D cT v2 n a0 (.inr v3) ev3) k_X7_change m_358 rfl rfl ⟨Nat.le_of_ble_eq_true rfl, Nat.le_of_ble_eq_true rfl⟩ hI rfl rfl (h_me_eq ev3).1 rfl hl.1 rfl (Nat.le_of_ble_eq_true rfl) dX7_reverse_15 ⟨by decide, by decide⟩) hI (fun H locs hI => ?_)
    exact ge_Yi hx hb hlocks hr rfl hI hq dX7_reverse_18

abbrev rm_X7_setKingMetric : Room := { frames := 10, cells := 1, slots := 6, locals := 277 }
theorem k_X7_setKingMetric : g_CV yX7_setKingMetric cX7_setKingMetric 2 (some .boolean) 1 := ⟨⟨m_352, m_1, by decide +kernel⟩, m_350, m_351⟩
set_option maxHeartbeats 4000000 in
set_option maxRecDepth 100000 in
theorem c_X7_setKingMetric (l : Launch) (hl0 : l.stackTraces = false) (V : Nat → Nat) (g : GH) (D : va_G) (cT : Nat → ClassId) (f : GH) (n : Nat) (a0 : Nat) (a1 : Int32) (o : (Nat × GH) ⊕ (Int32 × GH)) (hq : p_X7_setKingMetric V g f a0 a1 = some o) : vx_Met l yX7_setKingMetric (Cond.code yX7_setKingMetric cX7_setKingMetric 2 (some .boolean) :: g_B) rm_X7_setKingMetric (va_Pc [.ref a0, .int a1] (g_I V g D cT f n)) (g_Yi V D cT o n) (g_YX V D cT o) 1 6 (g_A V) := by
  refine g_beginX (own := RX7) [.ref a0, .int a1] [(0, .ref a0), (1, .int a1)] (g_A V) (fun _ h => h) (by decide) rfl (Nat.le_of_ble_eq_true rfl) rfl ?_
  intro p e s m args below meth c hx hb hr hlocks ht0 hC hI ls hl
  obtain ⟨hx, hb, hml, hown, hB⟩ := id hC
  obtain ⟨H, hH⟩ : ∃ H, H = s.heap := ⟨_, rfl⟩
  obtain ⟨locs, hlocs⟩ : ∃ L : List Loc, L = [] := ⟨_, rfl⟩
  rw [← hH, ← hlocs] at hI ⊢
  clear hH hlocs
  unfold p_X7_setKingMetric at hq
  replace hq := (h_me_eq hq).2
  refine lv_aload_n hx hb dX7_setKingMetric_0 rfl (lv_at hl 0 rfl) ?_
  obtain ⟨v1, ev1, hq⟩ := b_s hq
  refine fa_gr (own := RX7) (ref := "CoastlineRuler") (k := 10) hx hb hB inB_RX7 hown hI rfl (by decide) m_275 (fun _ h9 => h9) ev1 dX7_setKingMetric_1 ?_
  refine fs_gs (i := 10) hx hb hown hI rfl (hB _ m_353) (fun _ h9 => h9) dX7_setKingMetric_4 ?_
  refine lv_iconst (v := (0 : Int32)) hx hb dX7_setKingMetric_7 (by decide) ?_
  refine lv_iconst (v := (0 : Int32)) hx hb dX7_setKingMetric_8 (by decide) ?_
  refine lv_iconst (v := (0 : Int32)) hx hb dX7_setKingMetric_9 (by decide) ?_
  refine lv_iconst (v := (0 : Int32)) hx hb dX7_setKingMetric_10 (by decide) ?_
  obtain ⟨v2, ev2, hq⟩ := b_s hq
  refine gw_v (g_runV (As := [.ref (V 11), .int (0 : Int32), .int (0 : Int32), .int (0 : Int32), .int (0 : Int32)]) (rest := []) (ci := 6) hC (c_X3_set l V g D cT f n v1 (V 11) (0 : Int32) (0 : Int32) (0 : Int32) (0 : Int32) v2 ev2) k_X3_set m_354 rfl rfl ⟨Nat.le_of_ble_eq_true rfl, Nat.le_of_ble_eq_true rfl⟩ hI rfl rfl (h_me_eq ev2).1 rfl hl.1 rfl (Nat.le_of_ble_eq_true rfl) dX7_setKingMetric_11 ⟨by decide, by decide⟩) hI (fun H locs hI => ?_)
  refine lv_aload_n hx hb dX7_setKingMetric_14 rfl (lv_at hl 0 rfl) ?_
  obtain ⟨v3, ev3, hq⟩ := b_s hq
  refine fa_gr (own := RX7) (ref := "CoastlineRuler") (k := 10) hx hb hB inB_RX7 hown hI rfl (by decide) m_275 (fun _ h9 => h9) ev3 dX7_setKingMetric_15 ?_
  refine lv_iload_n hx hb dX7_setKingMetric_18 rfl (lv_at hl 1 rfl) ?_
  obtain ⟨_, ev4, hq⟩ := b_s hq
  obtain ⟨f5, ef5, hq⟩ := b_s hq
  refine fa_pt (own := RX7) (ref := "CoastlineRuler$Command") (k := 5) hx hb hB inB_RX3 tyX3_ok nmX3 hown hI rfl (by decide) m_186 (fun _ h9 => h9) (by decide) (h_bz_eq ev4).2.1 (h_bz_eq ev4).2.2 ef5 dX7_setKingMetric_19 (fun H locs hI => ?_)
  refine lv_aload_n hx hb dX7_setKingMetric_22 rfl (lv_at hl 0 rfl) ?_
  rcases x_b_eq hq with ⟨v6, ev6, hq⟩ | ⟨v6, ev6, hq⟩
  · exact gt_WW hlocks ht0 (g_runVX (As := []) (rest := []) (ci := 9) hC (c_X7_change l hl0 V g D cT f5 n a0 (.inl v6) ev6) k_X7_change m_358 rfl rfl ⟨Nat.le_of_ble_eq_true rfl, Nat.le_of_ble_eq_true rfl⟩ hI rfl rfl (h_me_eq ev6).1 rfl hl.1 rfl (Nat.le_of_ble_eq_true rfl) dX7_setKingMetric_23 ⟨by decide, by decide⟩) noy_i hI hq (by decide) (by decide)
  · refine gy_i (g_runVX (As := []) (rest := []) (ci := 9) hC (c_X7_change l hl0 V g D cT f5 n a0 (.inr v6) ev6) k_X7_change m_358 rfl rfl ⟨Nat.le_of_ble_eq_true rfl, Nat.le_of_ble_eq_true rfl⟩ hI rfl rfl (h_me_eq ev6).1 rfl hl.1 rfl (Nat.le_of_ble_eq_true rfl) dX7_setKingMetric_23 ⟨by decide, by decide⟩) hI (fun H locs hI => ?_)
    refine lv_iconst (v := (1 : Int32)) hx hb dX7_setKingMetric_26 (by decide) ?_
    refine lv_icmp_ne (tgt := 34) hx hb dX7_setKingMetric_27 (by decide) (fun c7 => ?_) (fun c7 => ?_)
    · replace hq := i_f c7 hq
      refine lv_iconst (v := (0 : Int32)) hx hb dX7_setKingMetric_34 (by decide) ?_
      exact ge_Yi hx hb hlocks hr (by decide +kernel) hI hq dX7_setKingMetric_35
    · replace hq := i_t c7 hq
      refine lv_iconst (v := (1 : Int32)) hx hb dX7_setKingMetric_30 (by decide) ?_
      refine lv_goto (tgt := 35) hx hb dX7_setKingMetric_31 (by decide) ?_
      exact ge_Yi hx hb hlocks hr (by decide +kernel) hI hq dX7_setKingMetric_35

abbrev rm_X7_runScript : Room := { frames := 11, cells := 1, slots := 6, locals := 317 }
theorem k_X7_runScript : g_CV yX7_runScript cX7_runScript 4 (some .int) 1 := ⟨⟨m_1166, m_1, by decide +kernel⟩, m_1164, m_1165⟩
set_option maxHeartbeats 4000000 in
set_option maxRecDepth 100000 in
theorem c_X7_runScript (l : Launch) (hl0 : l.stackTraces = false) (V : Nat → Nat) (g : GH) (D : va_G) (cT : Nat → ClassId) (f : GH) (n : Nat) (a0 : Nat) (a1 : Int32) (o : (Nat × GH) ⊕ (Int32 × GH)) (hq : p_X7_runScript V g f a0 a1 = some o) : vx_Met l yX7_runScript (Cond.code yX7_runScript cX7_runScript 4 (some .int) :: g_B) rm_X7_runScript (va_Pc [.ref a0, .int a1] (g_I V g D cT f n)) (g_Yi V D cT o n) (g_YX V D cT o) 1 6 (g_A V) := by
  refine g_beginX (own := RX7) [.ref a0, .int a1] [(0, .ref a0), (1, .int a1)] (g_A V) (fun _ h => h) (by decide) rfl (Nat.le_of_ble_eq_true rfl) rfl ?_
  intro p e s m args below meth c hx hb hr hlocks ht0 hC hI ls hl
  obtain ⟨hx, hb, hml, hown, hB⟩ := id hC
  obtain ⟨H, hH⟩ : ∃ H, H = s.heap := ⟨_, rfl⟩
  obtain ⟨locs, hlocs⟩ : ∃ L : List Loc, L = [] := ⟨_, rfl⟩
  rw [← hH, ← hlocs] at hI ⊢
  clear hH hlocs
  unfold p_X7_runScript at hq
  replace hq := (h_me_eq hq).2
  refine lv_aload_n hx hb dX7_runScript_0 rfl (lv_at hl 0 rfl) ?_
  refine lv_iload_n hx hb dX7_runScript_1 rfl (lv_at hl 1 rfl) ?_
  rcases x_b_eq hq with ⟨v1, ev1, hq⟩ | ⟨v1, ev1, hq⟩
  · exact gt_RW hlocks ht0 (g_runVX (As := [.int a1]) (rest := []) (ci := 9) hC (c_X7_requireText l hl0 V g D cT f n a0 a1 (.inl v1) ev1) k_X7_requireText m_614 rfl rfl ⟨Nat.le_of_ble_eq_true rfl, Nat.le_of_ble_eq_true rfl⟩ hI rfl rfl (h_me_eq ev1).1 rfl hl.1 rfl (Nat.le_of_ble_eq_true rfl) dX7_runScript_2 ⟨by decide, by decide⟩) no_v hI hq (by decide) (by decide)
  · refine gx_v (g_runVX (As := [.int a1]) (rest := []) (ci := 9) hC (c_X7_requireText l hl0 V g D cT f n a0 a1 (.inr v1) ev1) k_X7_requireText m_614 rfl rfl ⟨Nat.le_of_ble_eq_true rfl, Nat.le_of_ble_eq_true rfl⟩ hI rfl rfl (h_me_eq ev1).1 rfl hl.1 rfl (Nat.le_of_ble_eq_true rfl) dX7_runScript_2 ⟨by decide, by decide⟩) hI (fun H locs hI => ?_)
    refine lv_aload_n hx hb dX7_runScript_5 rfl (lv_at hl 0 rfl) ?_
    obtain ⟨v2, ev2, hq⟩ := b_s hq
    refine fa_gr (own := RX7) (ref := "CoastlineRuler") (k := 8) hx hb hB inB_RX7 hown hI rfl (by decide) m_273 (fun _ h9 => h9) ev2 dX7_runScript_6 ?_
    refine lv_iload_n hx hb dX7_runScript_9 rfl (lv_at hl 1 rfl) ?_
    refine lv_aload_n hx hb dX7_runScript_10 rfl (lv_at hl 0 rfl) ?_
    obtain ⟨v3, ev3, hq⟩ := b_s hq
    refine fa_gr (own := RX7) (ref := "CoastlineRuler") (k := 9) hx hb hB inB_RX7 hown hI rfl (by decide) m_274 (fun _ h9 => h9) ev3 dX7_runScript_11 ?_
    obtain ⟨v4, ev4, hq⟩ := b_s hq
    refine gw_i (g_runV (As := [.int a1, .ref v3]) (rest := []) (ci := 7) hC (c_X4_readScript l V g D cT f n v2 a1 v3 v4 ev4) k_X4_readScript m_1167 rfl rfl ⟨Nat.le_of_ble_eq_true rfl, Nat.le_of_ble_eq_true rfl⟩ hI rfl rfl (h_me_eq ev4).1 rfl hl.1 rfl (Nat.le_of_ble_eq_true rfl) dX7_runScript_14 ⟨by decide, by decide⟩) hI (fun H locs hI => ?_)
    refine lv_istore_n (lv' := [(2, .int v4.1), (0, .ref a0), (1, .int a1)]) hx hb dX7_runScript_17 rfl hl (by decide) rfl (fun ls hl => ?_)
    refine lv_aload_n hx hb dX7_runScript_18 rfl (lv_at hl 1 rfl) ?_
    obtain ⟨v5, ev5, hq⟩ := b_s hq
    refine fa_gr (own := RX7) (ref := "CoastlineRuler") (k := 7) hx hb hB inB_RX7 hown hI rfl (by decide) m_272 (fun _ h9 => h9) ev5 dX7_runScript_19 ?_
    refine lv_iconst (v := (0 : Int32)) hx hb dX7_runScript_22 (by decide) ?_
    obtain ⟨f6, ef6, hq⟩ := b_s hq
    refine fa_pt (own := RX7) (ref := "CoastlineRuler$Tokens") (k := 1) hx hb hB inB_RX5 tyX5_ok nmX5 hown hI rfl (by decide) m_111 (fun _ h9 => h9) (by decide) rfl rfl ef6 dX7_runScript_23 (fun H locs hI => ?_)
    refine lv_iload_n hx hb dX7_runScript_26 rfl (lv_at hl 0 rfl) ?_
    refine lv_if_ge (tgt := 32) hx hb dX7_runScript_27 (by decide) (fun c7 => ?_) (fun c7 => ?_)
    · replace hq := i_t c7 hq
      refine lv_aload_n hx hb dX7_runScript_32 rfl (lv_at hl 1 rfl) ?_
      obtain ⟨v8, ev8, hq⟩ := b_s hq
      refine gw_v (g_runV (As := []) (rest := []) (ci := 9) hC (c_X7_rememberChart l V g D cT f6 n a0 v8 ev8) k_X7_rememberChart m_537 rfl rfl ⟨Nat.le_of_ble_eq_true rfl, Nat.le_of_ble_eq_true rfl⟩ hI rfl rfl (h_me_eq ev8).1 rfl hl.1 rfl (Nat.le_of_ble_eq_true rfl) dX7_runScript_33 ⟨by decide, by decide⟩) hI (fun H locs hI => ?_)
      refine lv_iconst (v := (0 : Int32)) hx hb dX7_runScript_36 (by decide) ?_
      refine lv_istore_n (lv' := [(3, .int (0 : Int32)), (2, .int v4.1), (0, .ref a0), (1, .int a1)]) hx hb dX7_runScript_37 rfl hl (by decide) rfl (fun ls hl => ?_)
      have hl38 : ∀ (K59 : Int32 → GH → Option ((Nat × GH) ⊕ (Int32 × GH))) (hK59 : ∀ (x3 : Int32) (f : GH) (H : Heap) (locs : List Loc) (ls : Array Slot), g_at (g_A V) V g D cT f n s H locs → lv_has ls 4 [(3, .int x3)] → K59 x3 f = some o → W p l e rm_X7_runScript s m args below meth c H locs 1 6 (vx_MQ below (g_Yi V D cT o n) (g_YX V D cT o) args s 1 6 (g_A V)) (F0 m 59 ls [])) (K81 : Int32 → GH → Option ((Nat × GH) ⊕ (Int32 × GH))) (hK81 : ∀ (x2 : Int32) (f : GH) (H : Heap) (locs : List Loc) (ls : Array Slot), g_at (g_A V) V g D cT f n s H locs → lv_has ls 4 [(2, .int x2)] → K81 x2 f = some o → W p l e rm_X7_runScript s m args below meth c H locs 1 6 (vx_MQ below (g_Yi V D cT o n) (g_YX V D cT o) args s 1 6 (g_A V)) (F0 m 81 ls [])) (N : Nat) (x0 : Nat) (x2 : Int32) (x3 : Int32) (f : GH) (H : Heap) (locs : List Loc) (ls : Array Slot), g_at (g_A V) V g D cT f n s H locs → lv_has ls 4 [(0, .ref x0), (2, .int x2), (3, .int x3)] → p_X7_runScript_l38 V g K59 K81 N x0 x2 x3 f = some o → W p l e rm_X7_runScript s m args below meth c H locs 1 6 (vx_MQ below (g_Yi V D cT o n) (g_YX V D cT o) args s 1 6 (g_A V)) (F0 m 38 ls []) := by
        intro K59 hK59 K81 hK81 N
        induction N with
        | zero =>
          intro x0 x2 x3 f H locs ls hI hl hq
          rw [p_X7_runScript_l38] at hq
          cases hq
        | succ N ih =>
          intro x0 x2 x3 f H locs ls hI hl hq
          rw [p_X7_runScript_l38] at hq
          refine lv_iload_n hx hb dX7_runScript_38 rfl (lv_at hl 2 rfl) ?_
          refine lv_iload_n hx hb dX7_runScript_39 rfl (lv_at hl 1 rfl) ?_
          refine lv_icmp_ge (tgt := 81) hx hb dX7_runScript_40 (by decide) (fun c9 => ?_) (fun c9 => ?_)
          · replace hq := i_t c9 hq
            exact hK81 x2 f H locs ls hI (lv_sub hl [1] rfl) hq
          · replace hq := i_f c9 hq
            refine lv_aload_n hx hb dX7_runScript_43 rfl (lv_at hl 0 rfl) ?_
            obtain ⟨v10, ev10, hq⟩ := b_s hq
            refine fa_gr (own := RX7) (ref := "CoastlineRuler") (k := 0) hx hb hB inB_RX7 hown hI rfl (by decide) m_265 (fun _ h9 => h9) ev10 dX7_runScript_44 ?_
            refine lv_aload_n hx hb dX7_runScript_47 rfl (lv_at hl 0 rfl) ?_
            obtain ⟨v11, ev11, hq⟩ := b_s hq
            refine fa_gr (own := RX7) (ref := "CoastlineRuler") (k := 9) hx hb hB inB_RX7 hown hI rfl (by decide) m_274 (fun _ h9 => h9) ev11 dX7_runScript_48 ?_
            refine lv_iload_n hx hb dX7_runScript_51 rfl (lv_at hl 2 rfl) ?_
            obtain ⟨v12, ev12, hq⟩ := b_s hq
            refine fa_lq hx hb hI (by decide) rfl ev12 dX7_runScript_52 ?_
            obtain ⟨v13, ev13, hq⟩ := b_s hq
            refine gr_i (g_runV (As := [.ref v12]) (rest := []) (ci := 4) hC (c_X1_refusalOf l V g D cT f n v10 v12 v13 ev13) k_X1_refusalOf m_362 rfl rfl ⟨Nat.le_of_ble_eq_true rfl, Nat.le_of_ble_eq_true rfl⟩ hI rfl rfl (h_me_eq ev13).1 rfl hl.1 rfl (Nat.le_of_ble_eq_true rfl) dX7_runScript_53 ⟨by decide, by decide⟩) hI (fun H locs hI => ?_)
            refine lv_if_eq (tgt := 61) hx hb dX7_runScript_56 (by decide) (fun c14 => ?_) (fun c14 => ?_)
            · replace hq := i_t c14 hq
              refine lv_aload_n hx hb dX7_runScript_61 rfl (lv_at hl 0 rfl) ?_
              obtain ⟨v15, ev15, hq⟩ := b_s hq
              refine fa_gr (own := RX7) (ref := "CoastlineRuler") (k := 0) hx hb hB inB_RX7 hown hI rfl (by decide) m_265 (fun _ h9 => h9) ev15 dX7_runScript_62 ?_
              refine lv_aload_n hx hb dX7_runScript_65 rfl (lv_at hl 0 rfl) ?_
              obtain ⟨v16, ev16, hq⟩ := b_s hq
              refine fa_gr (own := RX7) (ref := "CoastlineRuler") (k := 9) hx hb hB inB_RX7 hown hI rfl (by decide) m_274 (fun _ h9 => h9) ev16 dX7_runScript_66 ?_
              refine lv_iload_n hx hb dX7_runScript_69 rfl (lv_at hl 2 rfl) ?_
              obtain ⟨v17, ev17, hq⟩ := b_s hq
              refine fa_lq hx hb hI (by decide) rfl ev17 dX7_runScript_70 ?_
              obtain ⟨v18, ev18, hq⟩ := b_s hq
              refine gw_i (g_runV (As := [.ref v17]) (rest := []) (ci := 4) hC (c_X1_apply l V g D cT f n v15 v17 v18 ev18) k_X1_apply m_549 rfl rfl ⟨Nat.le_of_ble_eq_true rfl, Nat.le_of_ble_eq_true rfl⟩ hI rfl rfl (h_me_eq ev18).1 rfl hl.1 rfl (Nat.le_of_ble_eq_true rfl) dX7_runScript_71 ⟨by decide, by decide⟩) hI (fun H locs hI => ?_)
              refine lv_pop hx hb dX7_runScript_74 rfl ?_
              refine lv_iinc (v := x3 + (1 : Int32)) (lv' := [(3, .int (x3 + (1 : Int32))), (0, .ref x0), (2, .int x2)]) hx hb dX7_runScript_75 hl (k := 2) rfl rfl (by decide) rfl (fun ls hl => ?_)
              refine lv_goto (tgt := 38) hx hb dX7_runScript_78 (by decide) ?_
              exact ih x0 x2 (x3 + (1 : Int32)) v18.2 H locs ls hI (lv_sub hl [1, 2, 0] rfl) hq
            · replace hq := i_f c14 hq
              exact hK59 x3 f H locs ls hI (lv_sub hl [2] rfl) hq
      refine hl38 _ ?_ _ ?_ FU a0 v4.1 (0 : Int32) v8 H locs ls hI (lv_sub hl [2, 1, 0] rfl) hq
      · intro x3 f H locs ls hI hl hq
        refine lv_iload_n hx hb dX7_runScript_59 rfl (lv_at hl 0 rfl) ?_
        exact ge_Yi hx hb hlocks hr rfl hI hq dX7_runScript_60
      · intro x2 f H locs ls hI hl hq
        refine lv_iload_n hx hb dX7_runScript_81 rfl (lv_at hl 0 rfl) ?_
        exact ge_Yi hx hb hlocks hr rfl hI hq dX7_runScript_82
    · replace hq := i_f c7 hq
      refine lv_iconst (v := (-1 : Int32)) hx hb dX7_runScript_30 (by decide) ?_
      exact ge_Yi hx hb hlocks hr rfl hI hq dX7_runScript_31

abbrev rm_J8_newLength_cabcc : Room := { frames := 3, cells := 0, slots := 0, locals := 141 }
theorem k_J8_newLength_cabcc : g_CS yJ8_newLength_cabcc cJ8_newLength_cabcc 4 (some .int) 3 := ⟨⟨m_1224, m_26, by decide +kernel⟩, m_1223⟩
set_option maxHeartbeats 4000000 in
set_option maxRecDepth 100000 in
theorem c_J8_newLength_cabcc (l : Launch) (V : Nat → Nat) (g : GH) (D : va_G) (cT : Nat → ClassId) (f : GH) (n : Nat) (a0 : Int32) (a1 : Int32) (a2 : Int32) (o : Int32) (hq : p_J8_newLength_cabcc V g f a0 a1 a2 = some o) : Met l yJ8_newLength_cabcc (Cond.code yJ8_newLength_cabcc cJ8_newLength_cabcc 4 (some .int) :: g_B) rm_J8_newLength_cabcc (va_Pc [.int a0, .int a1, .int a2] (g_I V g D cT f n)) (g_Ri o n) 0 0 g_no := by
  refine g_begin (own := RJ8) [.int a0, .int a1, .int a2] [(0, .int a0), (1, .int a1), (2, .int a2)] g_no (fun _ h => h.elim) (by decide) rfl (Nat.le_of_ble_eq_true rfl) rfl ?_
  intro p e s m args below meth c hx hb hr hlocks hin hC hI ls hl
  obtain ⟨hx, hb, hml, hown, hB⟩ := id hC
  obtain ⟨H, hH⟩ : ∃ H, H = s.heap := ⟨_, rfl⟩
  obtain ⟨locs, hlocs⟩ : ∃ L : List Loc, L = [] := ⟨_, rfl⟩
  rw [← hH, ← hlocs] at hI ⊢
  clear hH hlocs
  unfold p_J8_newLength_cabcc at hq
  refine lv_iload_n hx hb dJ8_newLength_cabcc_0 rfl (lv_at hl 0 rfl) ?_
  refine lv_iload_n hx hb dJ8_newLength_cabcc_1 rfl (lv_at hl 1 rfl) ?_
  refine lv_iload_n hx hb dJ8_newLength_cabcc_2 rfl (lv_at hl 2 rfl) ?_
  obtain ⟨v1, ev1, hq⟩ := b_s hq
  refine gr_i (g_runS (As := [.int a1, .int a2]) (rest := [.int a0]) hC (c_J9_max_7cf53 l V g D cT f n a1 a2 v1 ev1) k_J9_max_7cf53 m_1225 rfl rfl ⟨Nat.le_of_ble_eq_true rfl, Nat.le_of_ble_eq_true rfl⟩ hI rfl hl.1 rfl (Nat.le_of_ble_eq_true rfl) dJ8_newLength_cabcc_3 ⟨by decide, by decide⟩) hI (fun H locs hI => ?_)
  refine lv_iadd hx hb dJ8_newLength_cabcc_6 ?_
  refine lv_istore_n (lv' := [(3, .int (a0 + v1)), (0, .int a0), (1, .int a1), (2, .int a2)]) hx hb dJ8_newLength_cabcc_7 rfl hl (by decide) rfl (fun ls hl => ?_)
  refine lv_iconst (v := (0 : Int32)) hx hb dJ8_newLength_cabcc_8 (by decide) ?_
  refine lv_iload_n hx hb dJ8_newLength_cabcc_9 rfl (lv_at hl 0 rfl) ?_
  refine lv_icmp_ge (tgt := 21) hx hb dJ8_newLength_cabcc_10 (by decide) (fun c2 => ?_) (fun c2 => ?_)
  · replace hq := i_t c2 hq
    cases hq
  · replace hq := i_f c2 hq
    refine lv_iload_n hx hb dJ8_newLength_cabcc_13 rfl (lv_at hl 0 rfl) ?_
    refine lv_ldc (own := RJ8) (index := 200) (v := (2147483639 : Int32)) hx hb hown (hB _ m_1226) dJ8_newLength_cabcc_14 ?_
    refine lv_icmp_gt (tgt := 21) hx hb dJ8_newLength_cabcc_16 (by decide) (fun c3 => ?_) (fun c3 => ?_)
    · replace hq := i_t c3 hq
      cases hq
    · replace hq := i_f c3 hq
      refine lv_iload_n hx hb dJ8_newLength_cabcc_19 rfl (lv_at hl 0 rfl) ?_
      exact ge_Ri hx hb hlocks hr rfl hI hq dJ8_newLength_cabcc_20

abbrev rm_J5_newCapacity_0f7a4 : Room := { frames := 4, cells := 0, slots := 0, locals := 164 }
set_option maxHeartbeats 4000000 in
set_option maxRecDepth 100000 in
theorem c_J5_newCapacity_0f7a4 (l : Launch) (V : Nat → Nat) (g : GH) (D : va_G) (cT : Nat → ClassId) (f : GH) (n : Nat) (a0 : Nat) (a1 : Int32) (o : Int32) (hq : p_J5_newCapacity_0f7a4 V g f a0 a1 = some o) : Met l yJ5_newCapacity_0f7a4 (Cond.code yJ5_newCapacity_0f7a4 cJ5_newCapacity_0f7a4 6 (some .int) :: g_B) rm_J5_newCapacity_0f7a4 (va_Pc [.ref a0, .int a1] (g_I V g D cT f n)) (g_Ri o n) 0 0 g_no := by
  refine g_begin (own := RJ5) [.ref a0, .int a1] [(0, .ref a0), (1, .int a1)] g_no (fun _ h => h.elim) (by decide) rfl (Nat.le_of_ble_eq_true rfl) rfl ?_
  intro p e s m args below meth c hx hb hr hlocks hin hC hI ls hl
  obtain ⟨hx, hb, hml, hown, hB⟩ := id hC
  obtain ⟨H, hH⟩ : ∃ H, H = s.heap := ⟨_, rfl⟩
  obtain ⟨locs, hlocs⟩ : ∃ L : List Loc, L = [] := ⟨_, rfl⟩
  rw [← hH, ← hlocs] at hI ⊢
  clear hH hlocs
  unfold p_J5_newCapacity_0f7a4 at hq
  replace hq := (h_me_eq hq).2
  refine lv_aload_n hx hb dJ5_newCapacity_0f7a4_0 rfl (lv_at hl 0 rfl) ?_
  obtain ⟨v1, ev1, hq⟩ := b_s hq
  refine fa_gr (own := RJ5) (ref := "java/lang/AbstractStringBuilder") (k := 0) hx hb hB inB_RJ4 hown hI rfl (by decide) m_226 (fun _ h9 => h9) ev1 dJ5_newCapacity_0f7a4_1 ?_
  obtain ⟨v2, ev2, hq⟩ := b_s hq
  refine fa_al hx hb hI (by decide) ev2 dJ5_newCapacity_0f7a4_4 ?_
  refine lv_istore_n (lv' := [(2, .int v2), (0, .ref a0), (1, .int a1)]) hx hb dJ5_newCapacity_0f7a4_5 rfl hl (by decide) rfl (fun ls hl => ?_)
  refine lv_iload_n hx hb dJ5_newCapacity_0f7a4_6 rfl (lv_at hl 2 rfl) ?_
  refine lv_aload_n hx hb dJ5_newCapacity_0f7a4_7 rfl (lv_at hl 1 rfl) ?_
  obtain ⟨v3, ev3, hq⟩ := b_s hq
  refine fa_gi (own := RJ5) (ref := "java/lang/AbstractStringBuilder") (k := 1) hx hb hB inB_RJ4 hown hI rfl (by decide) m_227 (fun _ h9 => h9) ev3 dJ5_newCapacity_0f7a4_8 ?_
  refine lv_ishl hx hb dJ5_newCapacity_0f7a4_11 ?_
  refine lv_istore_n (lv' := [(3, .int (a1 <<< (v3 &&& 31))), (2, .int v2), (0, .ref a0), (1, .int a1)]) hx hb dJ5_newCapacity_0f7a4_12 rfl hl (by decide) rfl (fun ls hl => ?_)
  refine lv_iload_n hx hb dJ5_newCapacity_0f7a4_13 rfl (lv_at hl 0 rfl) ?_
  refine lv_iload_n hx hb dJ5_newCapacity_0f7a4_14 rfl (lv_at hl 1 rfl) ?_
  refine lv_isub hx hb dJ5_newCapacity_0f7a4_15 ?_
  refine lv_istore (lv' := [(4, .int ((a1 <<< (v3 &&& 31)) - v2)), (3, .int (a1 <<< (v3 &&& 31))), (2, .int v2), (0, .ref a0), (1, .int a1)]) hx hb dJ5_newCapacity_0f7a4_16 hl (by decide) rfl (fun ls hl => ?_)
  refine lv_iload_n hx hb dJ5_newCapacity_0f7a4_18 rfl (lv_at hl 2 rfl) ?_
  refine lv_iload hx hb dJ5_newCapacity_0f7a4_19 (lv_at hl 0 rfl) ?_
  refine lv_iload_n hx hb dJ5_newCapacity_0f7a4_21 rfl (lv_at hl 2 rfl) ?_
  refine lv_iconst (v := (2 : Int32)) hx hb dJ5_newCapacity_0f7a4_22 (by decide) ?_
  refine lv_aload_n hx hb dJ5_newCapacity_0f7a4_23 rfl (lv_at hl 3 rfl) ?_
  obtain ⟨v4, ev4, hq⟩ := b_s hq
  refine fa_gi (own := RJ5) (ref := "java/lang/AbstractStringBuilder") (k := 1) hx hb hB inB_RJ4 hown hI rfl (by decide) m_227 (fun _ h9 => h9) ev4 dJ5_newCapacity_0f7a4_24 ?_
  refine lv_ishl hx hb dJ5_newCapacity_0f7a4_27 ?_
  refine lv_iadd hx hb dJ5_newCapacity_0f7a4_28 ?_
  obtain ⟨v5, ev5, hq⟩ := b_s hq
  refine gr_i (g_runS (As := [.int v2, .int ((a1 <<< (v3 &&& 31)) - v2), .int (v2 + ((2 : Int32) <<< (v4 &&& 31)))]) (rest := []) hC (c_J8_newLength_cabcc l V g D cT f n v2 ((a1 <<< (v3 &&& 31)) - v2) (v2 + ((2 : Int32) <<< (v4 &&& 31))) v5 ev5) k_J8_newLength_cabcc m_1222 rfl rfl ⟨Nat.le_of_ble_eq_true rfl, Nat.le_of_ble_eq_true rfl⟩ hI rfl hl.1 rfl (Nat.le_of_ble_eq_true rfl) dJ5_newCapacity_0f7a4_29 ⟨by decide, by decide⟩) hI (fun H locs hI => ?_)
  refine lv_istore (lv' := [(5, .int v5), (4, .int ((a1 <<< (v3 &&& 31)) - v2)), (3, .int (a1 <<< (v3 &&& 31))), (2, .int v2), (0, .ref a0), (1, .int a1)]) hx hb dJ5_newCapacity_0f7a4_32 hl (by decide) rfl (fun ls hl => ?_)
  refine lv_iload hx hb dJ5_newCapacity_0f7a4_34 (lv_at hl 0 rfl) ?_
  refine lv_ldc (own := RJ5) (index := 39) (v := (2147483647 : Int32)) hx hb hown (hB _ m_1230) dJ5_newCapacity_0f7a4_36 ?_
  refine lv_icmp_ne (tgt := 51) hx hb dJ5_newCapacity_0f7a4_38 (by decide) (fun c6 => ?_) (fun c6 => ?_)
  · replace hq := i_f c6 hq
    refine lv_iload hx hb dJ5_newCapacity_0f7a4_51 (lv_at hl 0 rfl) ?_
    refine lv_aload_n hx hb dJ5_newCapacity_0f7a4_53 rfl (lv_at hl 4 rfl) ?_
    obtain ⟨v7, ev7, hq⟩ := b_s hq
    refine fa_gi (own := RJ5) (ref := "java/lang/AbstractStringBuilder") (k := 1) hx hb hB inB_RJ4 hown hI rfl (by decide) m_227 (fun _ h9 => h9) ev7 dJ5_newCapacity_0f7a4_54 ?_
    refine lv_ishr hx hb dJ5_newCapacity_0f7a4_57 ?_
    exact ge_Ri hx hb hlocks hr rfl hI hq dJ5_newCapacity_0f7a4_58
  · replace hq := i_t c6 hq
    cases hq


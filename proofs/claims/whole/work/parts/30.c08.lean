abbrev rm_X7_lengthWithoutPoint : Room := { frames := 10, cells := 2, slots := 12, locals := 265 }
theorem k_X7_lengthWithoutPoint : g_CV yX7_lengthWithoutPoint cX7_lengthWithoutPoint 3 (some .int) 2 := ⟨⟨m_1056, m_1, by decide +kernel⟩, m_1054, m_1055⟩
set_option maxHeartbeats 4000000 in
set_option maxRecDepth 100000 in
theorem c_X7_lengthWithoutPoint (l : Launch) (hl0 : l.stackTraces = false) (V : Nat → Nat) (g : GH) (D : va_G) (cT : Nat → ClassId) (f : GH) (n : Nat) (a0 : Nat) (a1 : Int32) (a2 : Int32) (o : Nat ⊕ Int32) (hq : p_X7_lengthWithoutPoint V g f a0 a1 a2 = some o) : vx_Met l yX7_lengthWithoutPoint (Cond.code yX7_lengthWithoutPoint cX7_lengthWithoutPoint 3 (some .int) :: g_B) rm_X7_lengthWithoutPoint (va_Pc [.ref a0, .int a1, .int a2] (g_I V g D cT f n)) (g_Xi o n) (g_XX V D cT f o) 2 12 g_no := by
  refine g_beginX (own := RX7) [.ref a0, .int a1, .int a2] [(0, .ref a0), (1, .int a1), (2, .int a2)] g_no (fun _ h => h.elim) (by decide) rfl (Nat.le_of_ble_eq_true rfl) rfl ?_
  intro p e s m args below meth c hx hb hr hlocks ht0 hC hI ls hl
  obtain ⟨hx, hb, hml, hown, hB⟩ := id hC
  obtain ⟨H, hH⟩ : ∃ H, H = s.heap := ⟨_, rfl⟩
  obtain ⟨locs, hlocs⟩ : ∃ L : List Loc, L = [] := ⟨_, rfl⟩
  rw [← hH, ← hlocs] at hI ⊢
  clear hH hlocs
  unfold p_X7_lengthWithoutPoint at hq
  replace hq := (h_me_eq hq).2
  refine lv_aload_n hx hb dX7_lengthWithoutPoint_0 rfl (lv_at hl 0 rfl) ?_
  refine lv_iload_n hx hb dX7_lengthWithoutPoint_1 rfl (lv_at hl 1 rfl) ?_
  refine lv_iload_n hx hb dX7_lengthWithoutPoint_2 rfl (lv_at hl 2 rfl) ?_
  rcases x_b_eq hq with ⟨v1, ev1, hq⟩ | ⟨v1, ev1, hq⟩
  · exact gt_RR hlocks ht0 (g_runVX (As := [.int a1, .int a2]) (rest := []) (ci := 9) hC (c_X7_coastWithPoint l hl0 V g D cT f n a0 a1 a2 (.inl v1) ev1) k_X7_coastWithPoint m_770 rfl rfl ⟨Nat.le_of_ble_eq_true rfl, Nat.le_of_ble_eq_true rfl⟩ hI rfl rfl (h_me_eq ev1).1 rfl hl.1 rfl (Nat.le_of_ble_eq_true rfl) dX7_lengthWithoutPoint_3 ⟨by decide, by decide⟩) no_r hI hq (by decide) (by decide)
  · refine gx_r (g_runVX (As := [.int a1, .int a2]) (rest := []) (ci := 9) hC (c_X7_coastWithPoint l hl0 V g D cT f n a0 a1 a2 (.inr v1) ev1) k_X7_coastWithPoint m_770 rfl rfl ⟨Nat.le_of_ble_eq_true rfl, Nat.le_of_ble_eq_true rfl⟩ hI rfl rfl (h_me_eq ev1).1 rfl hl.1 rfl (Nat.le_of_ble_eq_true rfl) dX7_lengthWithoutPoint_3 ⟨by decide, by decide⟩) hI (fun H locs hI => ?_)
    refine lv_iload_n hx hb dX7_lengthWithoutPoint_6 rfl (lv_at hl 2 rfl) ?_
    refine lv_aload_n hx hb dX7_lengthWithoutPoint_7 rfl (lv_at hl 0 rfl) ?_
    obtain ⟨v2, ev2, hq⟩ := b_s hq
    refine fa_gr (own := RX7) (ref := "CoastlineRuler") (k := 0) hx hb hB inB_RX7 hown hI rfl (by decide) m_265 (fun _ h9 => h9) ev2 dX7_lengthWithoutPoint_8 ?_
    obtain ⟨v3, ev3, hq⟩ := b_s hq
    refine fa_gi (own := RX7) (ref := "CoastlineRuler$Chart") (k := 2) hx hb hB inB_RX1 hown hI rfl (by decide) m_83 (fun _ h9 => h9) ev3 dX7_lengthWithoutPoint_11 ?_
    obtain ⟨v4, ev4, hq⟩ := b_s hq
    refine gr_i (g_runV (As := [.int a2, .int v3]) (rest := []) (ci := 5) hC (c_X2_measureWithout l V g D cT f n v1 a2 v3 v4 ev4) k_X2_measureWithout m_1057 rfl rfl ⟨Nat.le_of_ble_eq_true rfl, Nat.le_of_ble_eq_true rfl⟩ hI rfl rfl (h_me_eq ev4).1 rfl hl.1 rfl (Nat.le_of_ble_eq_true rfl) dX7_lengthWithoutPoint_14 ⟨by decide, by decide⟩) hI (fun H locs hI => ?_)
    exact ge_Xi hx hb hlocks hr rfl hI hq dX7_lengthWithoutPoint_17

abbrev rm_X7_leastImportantPoint : Room := { frames := 9, cells := 1, slots := 6, locals := 265 }
theorem k_X7_leastImportantPoint : g_CV yX7_leastImportantPoint cX7_leastImportantPoint 7 (some .int) 1 := ⟨⟨m_1068, m_1, by decide +kernel⟩, m_1066, m_1067⟩
set_option maxHeartbeats 4000000 in
set_option maxRecDepth 100000 in
theorem c_X7_leastImportantPoint (l : Launch) (hl0 : l.stackTraces = false) (V : Nat → Nat) (g : GH) (D : va_G) (cT : Nat → ClassId) (f : GH) (n : Nat) (a0 : Nat) (a1 : Int32) (o : Nat ⊕ Int32) (hq : p_X7_leastImportantPoint V g f a0 a1 = some o) : vx_Met l yX7_leastImportantPoint (Cond.code yX7_leastImportantPoint cX7_leastImportantPoint 7 (some .int) :: g_B) rm_X7_leastImportantPoint (va_Pc [.ref a0, .int a1] (g_I V g D cT f n)) (g_Xi o n) (g_XX V D cT f o) 1 6 g_no := by
  refine g_beginX (own := RX7) [.ref a0, .int a1] [(0, .ref a0), (1, .int a1)] g_no (fun _ h => h.elim) (by decide) rfl (Nat.le_of_ble_eq_true rfl) rfl ?_
  intro p e s m args below meth c hx hb hr hlocks ht0 hC hI ls hl
  obtain ⟨hx, hb, hml, hown, hB⟩ := id hC
  obtain ⟨H, hH⟩ : ∃ H, H = s.heap := ⟨_, rfl⟩
  obtain ⟨locs, hlocs⟩ : ∃ L : List Loc, L = [] := ⟨_, rfl⟩
  rw [← hH, ← hlocs] at hI ⊢
  clear hH hlocs
  unfold p_X7_leastImportantPoint at hq
  replace hq := (h_me_eq hq).2
  refine lv_aload_n hx hb dX7_leastImportantPoint_0 rfl (lv_at hl 0 rfl) ?_
  refine lv_iload_n hx hb dX7_leastImportantPoint_1 rfl (lv_at hl 1 rfl) ?_
  rcases x_b_eq hq with ⟨v1, ev1, hq⟩ | ⟨v1, ev1, hq⟩
  · exact gt_RR hlocks ht0 (g_runVX (As := [.int a1]) (rest := []) (ci := 9) hC (c_X7_coastAt l hl0 V g D cT f n a0 a1 (.inl v1) ev1) k_X7_coastAt m_750 rfl rfl ⟨Nat.le_of_ble_eq_true rfl, Nat.le_of_ble_eq_true rfl⟩ hI rfl rfl (h_me_eq ev1).1 rfl hl.1 rfl (Nat.le_of_ble_eq_true rfl) dX7_leastImportantPoint_2 ⟨by decide, by decide⟩) no_r hI hq (by decide) (by decide)
  · refine gx_r (g_runVX (As := [.int a1]) (rest := []) (ci := 9) hC (c_X7_coastAt l hl0 V g D cT f n a0 a1 (.inr v1) ev1) k_X7_coastAt m_750 rfl rfl ⟨Nat.le_of_ble_eq_true rfl, Nat.le_of_ble_eq_true rfl⟩ hI rfl rfl (h_me_eq ev1).1 rfl hl.1 rfl (Nat.le_of_ble_eq_true rfl) dX7_leastImportantPoint_2 ⟨by decide, by decide⟩) hI (fun H locs hI => ?_)
    refine lv_astore_n (lv' := [(2, .ref v1), (0, .ref a0), (1, .int a1)]) hx hb dX7_leastImportantPoint_5 rfl hl (by decide) rfl (fun ls hl => ?_)
    refine lv_iconst (v := (-1 : Int32)) hx hb dX7_leastImportantPoint_6 (by decide) ?_
    refine lv_istore_n (lv' := [(3, .int (-1 : Int32)), (2, .ref v1), (0, .ref a0), (1, .int a1)]) hx hb dX7_leastImportantPoint_7 rfl hl (by decide) rfl (fun ls hl => ?_)
    refine lv_iconst (v := (-1 : Int32)) hx hb dX7_leastImportantPoint_8 (by decide) ?_
    refine lv_istore (lv' := [(4, .int (-1 : Int32)), (3, .int (-1 : Int32)), (2, .ref v1), (0, .ref a0), (1, .int a1)]) hx hb dX7_leastImportantPoint_9 hl (by decide) rfl (fun ls hl => ?_)
    refine lv_iconst (v := (0 : Int32)) hx hb dX7_leastImportantPoint_11 (by decide) ?_
    refine lv_istore (lv' := [(5, .int (0 : Int32)), (4, .int (-1 : Int32)), (3, .int (-1 : Int32)), (2, .ref v1), (0, .ref a0), (1, .int a1)]) hx hb dX7_leastImportantPoint_12 hl (by decide) rfl (fun ls hl => ?_)
    have hl14 : ∀ (K58 : Int32 → Option (Nat ⊕ Int32)) (hK58 : ∀ (x3 : Int32) (H : Heap) (locs : List Loc) (ls : Array Slot), g_at g_no V g D cT f n s H locs → lv_has ls 7 [(3, .int x3)] → K58 x3 = some o → W p l e rm_X7_leastImportantPoint s m args below meth c H locs 1 6 (vx_MQ below (g_Xi o n) (g_XX V D cT f o) args s 1 6 g_no) (F0 m 58 ls [])) (N : Nat) (x0 : Nat) (x2 : Nat) (x3 : Int32) (x4 : Int32) (x5 : Int32) (H : Heap) (locs : List Loc) (ls : Array Slot), g_at g_no V g D cT f n s H locs → lv_has ls 7 [(0, .ref x0), (2, .ref x2), (3, .int x3), (4, .int x4), (5, .int x5)] → p_X7_leastImportantPoint_l14 V g f K58 N x0 x2 x3 x4 x5 = some o → W p l e rm_X7_leastImportantPoint s m args below meth c H locs 1 6 (vx_MQ below (g_Xi o n) (g_XX V D cT f o) args s 1 6 g_no) (F0 m 14 ls []) := by
      intro K58 hK58 N
      induction N with
      | zero =>
        intro x0 x2 x3 x4 x5 H locs ls hI hl hq
        rw [p_X7_leastImportantPoint_l14] at hq
        cases hq
      | succ N ih =>
        intro x0 x2 x3 x4 x5 H locs ls hI hl hq
        rw [p_X7_leastImportantPoint_l14] at hq
        refine lv_iload hx hb dX7_leastImportantPoint_14 (lv_at hl 4 rfl) ?_
        refine lv_aload_n hx hb dX7_leastImportantPoint_16 rfl (lv_at hl 1 rfl) ?_
        obtain ⟨v2, ev2, hq⟩ := b_s hq
        refine fa_gi (own := RX7) (ref := "CoastlineRuler$Coast") (k := 2) hx hb hB inB_RX2 hown hI rfl (by decide) m_59 (fun _ h9 => h9) ev2 dX7_leastImportantPoint_17 ?_
        refine lv_icmp_ge (tgt := 58) hx hb dX7_leastImportantPoint_20 (by decide) (fun c3 => ?_) (fun c3 => ?_)
        · replace hq := i_t c3 hq
          exact hK58 x3 H locs ls hI (lv_sub hl [2] rfl) hq
        · replace hq := i_f c3 hq
          refine lv_aload_n hx hb dX7_leastImportantPoint_23 rfl (lv_at hl 1 rfl) ?_
          refine lv_iload hx hb dX7_leastImportantPoint_24 (lv_at hl 4 rfl) ?_
          refine lv_aload_n hx hb dX7_leastImportantPoint_26 rfl (lv_at hl 0 rfl) ?_
          obtain ⟨v4, ev4, hq⟩ := b_s hq
          refine fa_gr (own := RX7) (ref := "CoastlineRuler") (k := 0) hx hb hB inB_RX7 hown hI rfl (by decide) m_265 (fun _ h9 => h9) ev4 dX7_leastImportantPoint_27 ?_
          obtain ⟨v5, ev5, hq⟩ := b_s hq
          refine fa_gi (own := RX7) (ref := "CoastlineRuler$Chart") (k := 2) hx hb hB inB_RX1 hown hI rfl (by decide) m_83 (fun _ h9 => h9) ev5 dX7_leastImportantPoint_30 ?_
          obtain ⟨v6, ev6, hq⟩ := b_s hq
          refine gr_i (g_runV (As := [.int x5, .int v5]) (rest := []) (ci := 5) hC (c_X2_measureWithout l V g D cT f n x2 x5 v5 v6 ev6) k_X2_measureWithout m_1057 rfl rfl ⟨Nat.le_of_ble_eq_true rfl, Nat.le_of_ble_eq_true rfl⟩ hI rfl rfl (h_me_eq ev6).1 rfl hl.1 rfl (Nat.le_of_ble_eq_true rfl) dX7_leastImportantPoint_33 ⟨by decide, by decide⟩) hI (fun H locs hI => ?_)
          refine lv_istore (lv' := [(6, .int v6), (0, .ref x0), (2, .ref x2), (3, .int x3), (4, .int x4), (5, .int x5)]) hx hb dX7_leastImportantPoint_36 hl (by decide) rfl (fun ls hl => ?_)
          refine lv_iload hx hb dX7_leastImportantPoint_38 (lv_at hl 0 rfl) ?_
          refine lv_iload hx hb dX7_leastImportantPoint_40 (lv_at hl 4 rfl) ?_
          refine lv_icmp_le (tgt := 52) hx hb dX7_leastImportantPoint_42 (by decide) (fun c7 => ?_) (fun c7 => ?_)
          · replace hq := i_t c7 hq
            refine lv_iinc (v := x5 + (1 : Int32)) (lv' := [(5, .int (x5 + (1 : Int32))), (6, .int v6), (0, .ref x0), (2, .ref x2), (3, .int x3), (4, .int x4)]) hx hb dX7_leastImportantPoint_52 hl (k := 5) rfl rfl (by decide) rfl (fun ls hl => ?_)
            refine lv_goto (tgt := 14) hx hb dX7_leastImportantPoint_55 (by decide) ?_
            exact ih x0 x2 x3 x4 (x5 + (1 : Int32)) H locs ls hI (lv_sub hl [2, 3, 4, 5, 0] rfl) hq
          · replace hq := i_f c7 hq
            refine lv_iload hx hb dX7_leastImportantPoint_45 (lv_at hl 5 rfl) ?_
            refine lv_istore_n (lv' := [(3, .int x5), (6, .int v6), (0, .ref x0), (2, .ref x2), (4, .int x4), (5, .int x5)]) hx hb dX7_leastImportantPoint_47 rfl hl (by decide) rfl (fun ls hl => ?_)
            refine lv_iload hx hb dX7_leastImportantPoint_48 (lv_at hl 1 rfl) ?_
            refine lv_istore (lv' := [(4, .int v6), (3, .int x5), (6, .int v6), (0, .ref x0), (2, .ref x2), (5, .int x5)]) hx hb dX7_leastImportantPoint_50 hl (by decide) rfl (fun ls hl => ?_)
            refine lv_iinc (v := x5 + (1 : Int32)) (lv' := [(5, .int (x5 + (1 : Int32))), (4, .int v6), (3, .int x5), (6, .int v6), (0, .ref x0), (2, .ref x2)]) hx hb dX7_leastImportantPoint_52 hl (k := 5) rfl rfl (by decide) rfl (fun ls hl => ?_)
            refine lv_goto (tgt := 14) hx hb dX7_leastImportantPoint_55 (by decide) ?_
            exact ih x0 x2 x5 v6 (x5 + (1 : Int32)) H locs ls hI (lv_sub hl [4, 5, 2, 1, 0] rfl) hq
    refine hl14 _ ?_ FU a0 v1 (-1 : Int32) (-1 : Int32) (0 : Int32) H locs ls hI (lv_sub hl [4, 3, 2, 1, 0] rfl) hq
    · intro x3 H locs ls hI hl hq
      refine lv_iload_n hx hb dX7_leastImportantPoint_58 rfl (lv_at hl 0 rfl) ?_
      exact ge_Xi hx hb hlocks hr rfl hI hq dX7_leastImportantPoint_59

abbrev rm_X7_lengthInOtherMetric : Room := { frames := 9, cells := 2, slots := 12, locals := 238 }
theorem k_X7_lengthInOtherMetric : g_CV yX7_lengthInOtherMetric cX7_lengthInOtherMetric 4 (some .int) 2 := ⟨⟨m_1075, m_1, by decide +kernel⟩, m_1073, m_1074⟩
set_option maxHeartbeats 4000000 in
set_option maxRecDepth 100000 in
theorem c_X7_lengthInOtherMetric (l : Launch) (hl0 : l.stackTraces = false) (V : Nat → Nat) (g : GH) (D : va_G) (cT : Nat → ClassId) (f : GH) (n : Nat) (a0 : Nat) (a1 : Int32) (a2 : Int32) (o : Nat ⊕ Int32) (hq : p_X7_lengthInOtherMetric V g f a0 a1 a2 = some o) : vx_Met l yX7_lengthInOtherMetric (Cond.code yX7_lengthInOtherMetric cX7_lengthInOtherMetric 4 (some .int) :: g_B) rm_X7_lengthInOtherMetric (va_Pc [.ref a0, .int a1, .int a2] (g_I V g D cT f n)) (g_Xi o n) (g_XX V D cT f o) 2 12 g_no := by
  refine g_beginX (own := RX7) [.ref a0, .int a1, .int a2] [(0, .ref a0), (1, .int a1), (2, .int a2)] g_no (fun _ h => h.elim) (by decide) rfl (Nat.le_of_ble_eq_true rfl) rfl ?_
  intro p e s m args below meth c hx hb hr hlocks ht0 hC hI ls hl
  obtain ⟨hx, hb, hml, hown, hB⟩ := id hC
  obtain ⟨H, hH⟩ : ∃ H, H = s.heap := ⟨_, rfl⟩
  obtain ⟨locs, hlocs⟩ : ∃ L : List Loc, L = [] := ⟨_, rfl⟩
  rw [← hH, ← hlocs] at hI ⊢
  clear hH hlocs
  unfold p_X7_lengthInOtherMetric at hq
  replace hq := (h_me_eq hq).2
  refine lv_aload_n hx hb dX7_lengthInOtherMetric_0 rfl (lv_at hl 0 rfl) ?_
  refine lv_iload_n hx hb dX7_lengthInOtherMetric_1 rfl (lv_at hl 1 rfl) ?_
  rcases x_b_eq hq with ⟨v1, ev1, hq⟩ | ⟨v1, ev1, hq⟩
  · exact gt_RR hlocks ht0 (g_runVX (As := [.int a1]) (rest := []) (ci := 9) hC (c_X7_coastAt l hl0 V g D cT f n a0 a1 (.inl v1) ev1) k_X7_coastAt m_750 rfl rfl ⟨Nat.le_of_ble_eq_true rfl, Nat.le_of_ble_eq_true rfl⟩ hI rfl rfl (h_me_eq ev1).1 rfl hl.1 rfl (Nat.le_of_ble_eq_true rfl) dX7_lengthInOtherMetric_2 ⟨by decide, by decide⟩) no_r hI hq (by decide) (by decide)
  · refine gx_r (g_runVX (As := [.int a1]) (rest := []) (ci := 9) hC (c_X7_coastAt l hl0 V g D cT f n a0 a1 (.inr v1) ev1) k_X7_coastAt m_750 rfl rfl ⟨Nat.le_of_ble_eq_true rfl, Nat.le_of_ble_eq_true rfl⟩ hI rfl rfl (h_me_eq ev1).1 rfl hl.1 rfl (Nat.le_of_ble_eq_true rfl) dX7_lengthInOtherMetric_2 ⟨by decide, by decide⟩) hI (fun H locs hI => ?_)
    refine lv_astore_n (lv' := [(3, .ref v1), (0, .ref a0), (1, .int a1), (2, .int a2)]) hx hb dX7_lengthInOtherMetric_5 rfl hl (by decide) rfl (fun ls hl => ?_)
    refine lv_iload_n hx hb dX7_lengthInOtherMetric_6 rfl (lv_at hl 3 rfl) ?_
    refine lv_iconst (v := (0 : Int32)) hx hb dX7_lengthInOtherMetric_7 (by decide) ?_
    refine lv_bipush (v := (7 : Int32)) hx hb dX7_lengthInOtherMetric_8 (by decide) ?_
    rcases x_b_eq hq with ⟨v2, ev2, hq⟩ | ⟨v2, ev2, hq⟩
    · exact gt_RR hlocks ht0 (g_runSX (As := [.int a2, .int (0 : Int32), .int (7 : Int32)]) (rest := []) hC (c_X7_requireWithin l hl0 V g D cT f n a2 (0 : Int32) (7 : Int32) (.inl v2) ev2) k_X7_requireWithin m_618 rfl rfl ⟨Nat.le_of_ble_eq_true rfl, Nat.le_of_ble_eq_true rfl⟩ hI rfl hl.1 rfl (Nat.le_of_ble_eq_true rfl) dX7_lengthInOtherMetric_10 ⟨by decide, by decide⟩) no_v hI hq (by decide) (by decide)
    · refine gx_v (g_runSX (As := [.int a2, .int (0 : Int32), .int (7 : Int32)]) (rest := []) hC (c_X7_requireWithin l hl0 V g D cT f n a2 (0 : Int32) (7 : Int32) (.inr v2) ev2) k_X7_requireWithin m_618 rfl rfl ⟨Nat.le_of_ble_eq_true rfl, Nat.le_of_ble_eq_true rfl⟩ hI rfl hl.1 rfl (Nat.le_of_ble_eq_true rfl) dX7_lengthInOtherMetric_10 ⟨by decide, by decide⟩) hI (fun H locs hI => ?_)
      refine lv_aload_n hx hb dX7_lengthInOtherMetric_13 rfl (lv_at hl 0 rfl) ?_
      refine lv_iload_n hx hb dX7_lengthInOtherMetric_14 rfl (lv_at hl 3 rfl) ?_
      refine lv_aload_n hx hb dX7_lengthInOtherMetric_15 rfl (lv_at hl 1 rfl) ?_
      obtain ⟨v3, ev3, hq⟩ := b_s hq
      refine fa_gr (own := RX7) (ref := "CoastlineRuler") (k := 0) hx hb hB inB_RX7 hown hI rfl (by decide) m_265 (fun _ h9 => h9) ev3 dX7_lengthInOtherMetric_16 ?_
      obtain ⟨v4, ev4, hq⟩ := b_s hq
      refine fa_gi (own := RX7) (ref := "CoastlineRuler$Chart") (k := 2) hx hb hB inB_RX1 hown hI rfl (by decide) m_83 (fun _ h9 => h9) ev4 dX7_lengthInOtherMetric_19 ?_
      refine lv_if_ne (tgt := 29) hx hb dX7_lengthInOtherMetric_22 (by decide) (fun c5 => ?_) (fun c5 => ?_)
      · replace hq := i_f c5 hq
        refine lv_iconst (v := (0 : Int32)) hx hb dX7_lengthInOtherMetric_29 (by decide) ?_
        obtain ⟨v6, ev6, hq⟩ := b_s hq
        refine gr_i (g_runV (As := [.int a2, .int (0 : Int32)]) (rest := []) (ci := 5) hC (c_X2_measure l V g D cT f n v1 a2 (0 : Int32) v6 ev6) k_X2_measure m_812 rfl rfl ⟨Nat.le_of_ble_eq_true rfl, Nat.le_of_ble_eq_true rfl⟩ hI rfl rfl (h_me_eq ev6).1 rfl hl.1 rfl (Nat.le_of_ble_eq_true rfl) dX7_lengthInOtherMetric_30 ⟨by decide, by decide⟩) hI (fun H locs hI => ?_)
        exact ge_Xi hx hb hlocks hr rfl hI hq dX7_lengthInOtherMetric_33
      · replace hq := i_t c5 hq
        refine lv_iconst (v := (1 : Int32)) hx hb dX7_lengthInOtherMetric_25 (by decide) ?_
        refine lv_goto (tgt := 30) hx hb dX7_lengthInOtherMetric_26 (by decide) ?_
        obtain ⟨v7, ev7, hq⟩ := b_s hq
        refine gr_i (g_runV (As := [.int a2, .int (1 : Int32)]) (rest := []) (ci := 5) hC (c_X2_measure l V g D cT f n v1 a2 (1 : Int32) v7 ev7) k_X2_measure m_812 rfl rfl ⟨Nat.le_of_ble_eq_true rfl, Nat.le_of_ble_eq_true rfl⟩ hI rfl rfl (h_me_eq ev7).1 rfl hl.1 rfl (Nat.le_of_ble_eq_true rfl) dX7_lengthInOtherMetric_30 ⟨by decide, by decide⟩) hI (fun H locs hI => ?_)
        exact ge_Xi hx hb hlocks hr rfl hI hq dX7_lengthInOtherMetric_33

abbrev rm_X7_loadedPoints : Room := { frames := 2, cells := 0, slots := 0, locals := 120 }
theorem k_X7_loadedPoints : g_CV yX7_loadedPoints cX7_loadedPoints 1 (some .int) 0 := ⟨⟨m_332, m_1, by decide +kernel⟩, m_330, m_331⟩
set_option maxHeartbeats 4000000 in
set_option maxRecDepth 100000 in
theorem c_X7_loadedPoints (l : Launch) (V : Nat → Nat) (g : GH) (D : va_G) (cT : Nat → ClassId) (f : GH) (n : Nat) (a0 : Nat) (o : Int32) (hq : p_X7_loadedPoints V g f a0 = some o) : Met l yX7_loadedPoints (Cond.code yX7_loadedPoints cX7_loadedPoints 1 (some .int) :: g_B) rm_X7_loadedPoints (va_Pc [.ref a0] (g_I V g D cT f n)) (g_Ri o n) 0 0 g_no := by
  refine g_begin (own := RX7) [.ref a0] [(0, .ref a0)] g_no (fun _ h => h.elim) (by decide) rfl (Nat.le_of_ble_eq_true rfl) rfl ?_
  intro p e s m args below meth c hx hb hr hlocks hin hC hI ls hl
  obtain ⟨hx, hb, hml, hown, hB⟩ := id hC
  obtain ⟨H, hH⟩ : ∃ H, H = s.heap := ⟨_, rfl⟩
  obtain ⟨locs, hlocs⟩ : ∃ L : List Loc, L = [] := ⟨_, rfl⟩
  rw [← hH, ← hlocs] at hI ⊢
  clear hH hlocs
  unfold p_X7_loadedPoints at hq
  replace hq := (h_me_eq hq).2
  refine lv_aload_n hx hb dX7_loadedPoints_0 rfl (lv_at hl 0 rfl) ?_
  obtain ⟨v1, ev1, hq⟩ := b_s hq
  refine fa_gr (own := RX7) (ref := "CoastlineRuler") (k := 0) hx hb hB inB_RX7 hown hI rfl (by decide) m_265 (fun _ h9 => h9) ev1 dX7_loadedPoints_1 ?_
  obtain ⟨v2, ev2, hq⟩ := b_s hq
  refine fa_gi (own := RX7) (ref := "CoastlineRuler$Chart") (k := 3) hx hb hB inB_RX1 hown hI rfl (by decide) m_85 (fun _ h9 => h9) ev2 dX7_loadedPoints_4 ?_
  exact ge_Ri hx hb hlocks hr rfl hI hq dX7_loadedPoints_7

abbrev rm_X7_addedPoints : Room := { frames := 2, cells := 0, slots := 0, locals := 120 }
theorem k_X7_addedPoints : g_CV yX7_addedPoints cX7_addedPoints 1 (some .int) 0 := ⟨⟨m_336, m_1, by decide +kernel⟩, m_334, m_335⟩
set_option maxHeartbeats 4000000 in
set_option maxRecDepth 100000 in
theorem c_X7_addedPoints (l : Launch) (V : Nat → Nat) (g : GH) (D : va_G) (cT : Nat → ClassId) (f : GH) (n : Nat) (a0 : Nat) (o : Int32) (hq : p_X7_addedPoints V g f a0 = some o) : Met l yX7_addedPoints (Cond.code yX7_addedPoints cX7_addedPoints 1 (some .int) :: g_B) rm_X7_addedPoints (va_Pc [.ref a0] (g_I V g D cT f n)) (g_Ri o n) 0 0 g_no := by
  refine g_begin (own := RX7) [.ref a0] [(0, .ref a0)] g_no (fun _ h => h.elim) (by decide) rfl (Nat.le_of_ble_eq_true rfl) rfl ?_
  intro p e s m args below meth c hx hb hr hlocks hin hC hI ls hl
  obtain ⟨hx, hb, hml, hown, hB⟩ := id hC
  obtain ⟨H, hH⟩ : ∃ H, H = s.heap := ⟨_, rfl⟩
  obtain ⟨locs, hlocs⟩ : ∃ L : List Loc, L = [] := ⟨_, rfl⟩
  rw [← hH, ← hlocs] at hI ⊢
  clear hH hlocs
  unfold p_X7_addedPoints at hq
  replace hq := (h_me_eq hq).2
  refine lv_aload_n hx hb dX7_addedPoints_0 rfl (lv_at hl 0 rfl) ?_
  obtain ⟨v1, ev1, hq⟩ := b_s hq
  refine fa_gr (own := RX7) (ref := "CoastlineRuler") (k := 0) hx hb hB inB_RX7 hown hI rfl (by decide) m_265 (fun _ h9 => h9) ev1 dX7_addedPoints_1 ?_
  obtain ⟨v2, ev2, hq⟩ := b_s hq
  refine fa_gi (own := RX7) (ref := "CoastlineRuler$Chart") (k := 4) hx hb hB inB_RX1 hown hI rfl (by decide) m_87 (fun _ h9 => h9) ev2 dX7_addedPoints_4 ?_
  exact ge_Ri hx hb hlocks hr rfl hI hq dX7_addedPoints_7

abbrev rm_X7_removedPoints : Room := { frames := 2, cells := 0, slots := 0, locals := 120 }
theorem k_X7_removedPoints : g_CV yX7_removedPoints cX7_removedPoints 1 (some .int) 0 := ⟨⟨m_340, m_1, by decide +kernel⟩, m_338, m_339⟩
set_option maxHeartbeats 4000000 in
set_option maxRecDepth 100000 in
theorem c_X7_removedPoints (l : Launch) (V : Nat → Nat) (g : GH) (D : va_G) (cT : Nat → ClassId) (f : GH) (n : Nat) (a0 : Nat) (o : Int32) (hq : p_X7_removedPoints V g f a0 = some o) : Met l yX7_removedPoints (Cond.code yX7_removedPoints cX7_removedPoints 1 (some .int) :: g_B) rm_X7_removedPoints (va_Pc [.ref a0] (g_I V g D cT f n)) (g_Ri o n) 0 0 g_no := by
  refine g_begin (own := RX7) [.ref a0] [(0, .ref a0)] g_no (fun _ h => h.elim) (by decide) rfl (Nat.le_of_ble_eq_true rfl) rfl ?_
  intro p e s m args below meth c hx hb hr hlocks hin hC hI ls hl
  obtain ⟨hx, hb, hml, hown, hB⟩ := id hC
  obtain ⟨H, hH⟩ : ∃ H, H = s.heap := ⟨_, rfl⟩
  obtain ⟨locs, hlocs⟩ : ∃ L : List Loc, L = [] := ⟨_, rfl⟩
  rw [← hH, ← hlocs] at hI ⊢
  clear hH hlocs
  unfold p_X7_removedPoints at hq
  replace hq := (h_me_eq hq).2
  refine lv_aload_n hx hb dX7_removedPoints_0 rfl (lv_at hl 0 rfl) ?_
  obtain ⟨v1, ev1, hq⟩ := b_s hq
  refine fa_gr (own := RX7) (ref := "CoastlineRuler") (k := 0) hx hb hB inB_RX7 hown hI rfl (by decide) m_265 (fun _ h9 => h9) ev1 dX7_removedPoints_1 ?_
  obtain ⟨v2, ev2, hq⟩ := b_s hq
  refine fa_gi (own := RX7) (ref := "CoastlineRuler$Chart") (k := 5) hx hb hB inB_RX1 hown hI rfl (by decide) m_89 (fun _ h9 => h9) ev2 dX7_removedPoints_4 ?_
  exact ge_Ri hx hb hlocks hr rfl hI hq dX7_removedPoints_7

abbrev rm_X7_ledgerGap : Room := { frames := 3, cells := 0, slots := 0, locals := 142 }
theorem k_X7_ledgerGap : g_CV yX7_ledgerGap cX7_ledgerGap 1 (some .int) 0 := ⟨⟨m_344, m_1, by decide +kernel⟩, m_342, m_343⟩
set_option maxHeartbeats 4000000 in
set_option maxRecDepth 100000 in
theorem c_X7_ledgerGap (l : Launch) (V : Nat → Nat) (g : GH) (D : va_G) (cT : Nat → ClassId) (f : GH) (n : Nat) (a0 : Nat) (o : Int32) (hq : p_X7_ledgerGap V g f a0 = some o) : Met l yX7_ledgerGap (Cond.code yX7_ledgerGap cX7_ledgerGap 1 (some .int) :: g_B) rm_X7_ledgerGap (va_Pc [.ref a0] (g_I V g D cT f n)) (g_Ri o n) 0 0 g_no := by
  refine g_begin (own := RX7) [.ref a0] [(0, .ref a0)] g_no (fun _ h => h.elim) (by decide) rfl (Nat.le_of_ble_eq_true rfl) rfl ?_
  intro p e s m args below meth c hx hb hr hlocks hin hC hI ls hl
  obtain ⟨hx, hb, hml, hown, hB⟩ := id hC
  obtain ⟨H, hH⟩ : ∃ H, H = s.heap := ⟨_, rfl⟩
  obtain ⟨locs, hlocs⟩ : ∃ L : List Loc, L = [] := ⟨_, rfl⟩
  rw [← hH, ← hlocs] at hI ⊢
  clear hH hlocs
  unfold p_X7_ledgerGap at hq
  replace hq := (h_me_eq hq).2
  refine lv_aload_n hx hb dX7_ledgerGap_0 rfl (lv_at hl 0 rfl) ?_
  obtain ⟨v1, ev1, hq⟩ := b_s hq
  refine fa_gr (own := RX7) (ref := "CoastlineRuler") (k := 0) hx hb hB inB_RX7 hown hI rfl (by decide) m_265 (fun _ h9 => h9) ev1 dX7_ledgerGap_1 ?_
  obtain ⟨v2, ev2, hq⟩ := b_s hq
  refine fa_gi (own := RX7) (ref := "CoastlineRuler$Chart") (k := 3) hx hb hB inB_RX1 hown hI rfl (by decide) m_85 (fun _ h9 => h9) ev2 dX7_ledgerGap_4 ?_
  refine lv_aload_n hx hb dX7_ledgerGap_7 rfl (lv_at hl 0 rfl) ?_
  obtain ⟨v3, ev3, hq⟩ := b_s hq
  refine fa_gr (own := RX7) (ref := "CoastlineRuler") (k := 0) hx hb hB inB_RX7 hown hI rfl (by decide) m_265 (fun _ h9 => h9) ev3 dX7_ledgerGap_8 ?_
  obtain ⟨v4, ev4, hq⟩ := b_s hq
  refine fa_gi (own := RX7) (ref := "CoastlineRuler$Chart") (k := 4) hx hb hB inB_RX1 hown hI rfl (by decide) m_87 (fun _ h9 => h9) ev4 dX7_ledgerGap_11 ?_
  refine lv_iadd hx hb dX7_ledgerGap_14 ?_
  refine lv_aload_n hx hb dX7_ledgerGap_15 rfl (lv_at hl 0 rfl) ?_
  obtain ⟨v5, ev5, hq⟩ := b_s hq
  refine fa_gr (own := RX7) (ref := "CoastlineRuler") (k := 0) hx hb hB inB_RX7 hown hI rfl (by decide) m_265 (fun _ h9 => h9) ev5 dX7_ledgerGap_16 ?_
  obtain ⟨v6, ev6, hq⟩ := b_s hq
  refine fa_gi (own := RX7) (ref := "CoastlineRuler$Chart") (k := 5) hx hb hB inB_RX1 hown hI rfl (by decide) m_89 (fun _ h9 => h9) ev6 dX7_ledgerGap_19 ?_
  refine lv_isub hx hb dX7_ledgerGap_22 ?_
  refine lv_aload_n hx hb dX7_ledgerGap_23 rfl (lv_at hl 0 rfl) ?_
  obtain ⟨v7, ev7, hq⟩ := b_s hq
  refine fa_gr (own := RX7) (ref := "CoastlineRuler") (k := 0) hx hb hB inB_RX7 hown hI rfl (by decide) m_265 (fun _ h9 => h9) ev7 dX7_ledgerGap_24 ?_
  obtain ⟨v8, ev8, hq⟩ := b_s hq
  refine gr_i (g_runV (As := []) (rest := [.int ((v2 + v4) - v6)]) (ci := 4) hC (c_X1_pointTotal l V g D cT f n v7 v8 ev8) k_X1_pointTotal m_345 rfl rfl ⟨Nat.le_of_ble_eq_true rfl, Nat.le_of_ble_eq_true rfl⟩ hI rfl rfl (h_me_eq ev8).1 rfl hl.1 rfl (Nat.le_of_ble_eq_true rfl) dX7_ledgerGap_27 ⟨by decide, by decide⟩) hI (fun H locs hI => ?_)
  refine lv_isub hx hb dX7_ledgerGap_30 ?_
  obtain ⟨v9, ev9, hq⟩ := b_s hq
  refine g_abs hx hb (hml.trans hl.1.symm) hown (hB _ m_346) (hB _ m_347) (hB _ m_22) (hB _ m_348) (Nat.le_of_ble_eq_true rfl) (Nat.le_of_ble_eq_true rfl) (Nat.le_of_ble_eq_true rfl) (Nat.le_of_ble_eq_true rfl) ev9 dX7_ledgerGap_31 ?_
  exact ge_Ri hx hb hlocks hr rfl hI hq dX7_ledgerGap_34

abbrev rm_X7_refuse : Room := { frames := 8, cells := 1, slots := 6, locals := 120 }
theorem k_X7_refuse : g_CS yX7_refuse cX7_refuse 1 none 1 := ⟨⟨m_435, m_1, by decide +kernel⟩, m_434⟩
set_option maxHeartbeats 4000000 in
set_option maxRecDepth 100000 in
theorem c_X7_refuse (l : Launch) (hl0 : l.stackTraces = false) (V : Nat → Nat) (g : GH) (D : va_G) (cT : Nat → ClassId) (f : GH) (n : Nat) (a0 : Int32) (o : Nat ⊕ Unit) (hq : p_X7_refuse V g f a0 = some o) : vx_Met l yX7_refuse (Cond.code yX7_refuse cX7_refuse 1 none :: g_B) rm_X7_refuse (va_Pc [.int a0] (g_I V g D cT f n)) (g_Xv o n) (g_XX V D cT f o) 1 6 g_no := by
  refine g_beginX (own := RX7) [.int a0] [(0, .int a0)] g_no (fun _ h => h.elim) (by decide) rfl (Nat.le_of_ble_eq_true rfl) rfl ?_
  intro p e s m args below meth c hx hb hr hlocks ht0 hC hI ls hl
  obtain ⟨hx, hb, hml, hown, hB⟩ := id hC
  obtain ⟨H, hH⟩ : ∃ H, H = s.heap := ⟨_, rfl⟩
  obtain ⟨locs, hlocs⟩ : ∃ L : List Loc, L = [] := ⟨_, rfl⟩
  rw [← hH, ← hlocs] at hI ⊢
  clear hH hlocs
  unfold p_X7_refuse at hq
  refine lv_iload_n hx hb dX7_refuse_0 rfl (lv_at hl 0 rfl) ?_
  refine lv_iconst (v := (1 : Int32)) hx hb dX7_refuse_1 (by decide) ?_
  refine lv_icmp_ne (tgt := 16) hx hb dX7_refuse_2 (by decide) (fun c1 => ?_) (fun c1 => ?_)
  · replace hq := i_f c1 hq
    refine lv_iload_n hx hb dX7_refuse_16 rfl (lv_at hl 0 rfl) ?_
    refine lv_iconst (v := (2 : Int32)) hx hb dX7_refuse_17 (by decide) ?_
    refine lv_icmp_ne (tgt := 32) hx hb dX7_refuse_18 (by decide) (fun c2 => ?_) (fun c2 => ?_)
    · replace hq := i_f c2 hq
      refine lv_iload_n hx hb dX7_refuse_32 rfl (lv_at hl 0 rfl) ?_
      refine lv_iconst (v := (3 : Int32)) hx hb dX7_refuse_33 (by decide) ?_
      refine lv_icmp_ne (tgt := 48) hx hb dX7_refuse_34 (by decide) (fun c3 => ?_) (fun c3 => ?_)
      · replace hq := i_f c3 hq
        refine W.widen (k := 1) (n := 6) (by decide) (by decide) ?_
        exact ge_Xv hx hb hlocks hr hI hq dX7_refuse_48
      · replace hq := i_t c3 hq
        exact vx_throwSW (own := RX7) (cls := "java/lang/IllegalStateException") (names := ["java/lang/RuntimeException", "java/lang/Exception"]) hx hb hl0 hown (by decide +kernel) (by decide +kernel) (hB _ m_521) (hB _ m_23) (g_rtq hI rt_2) (g_hat hB hI xat_RX7_330) xgd_RX7_330 (g_uns hI) (g_sup hI) hI.2.2.2.2.2.2.1 (hl.1.trans hml.symm) dX7_refuse_37 dX7_refuse_40 dX7_refuse_41 dX7_refuse_44 dX7_refuse_47 (fun x hx => (ht0 x hx).elim) (by decide) (by decide) (by decide) (by decide) hlocks (g_thrR hI hq) hI.2.2.2.2.2.2.1.2.2 (by decide) (by decide)
    · replace hq := i_t c2 hq
      exact vx_throwSW (own := RX7) (cls := "java/lang/IllegalArgumentException") (names := ["java/lang/RuntimeException", "java/lang/Exception"]) hx hb hl0 hown (by decide +kernel) (by decide +kernel) (hB _ m_505) (hB _ m_18) (g_rtq hI rt_1) (g_hat hB hI xat_RX7_350) xgd_RX7_350 (g_uns hI) (g_sup hI) hI.2.2.2.2.2.2.1 (hl.1.trans hml.symm) dX7_refuse_21 dX7_refuse_24 dX7_refuse_25 dX7_refuse_28 dX7_refuse_31 (fun x hx => (ht0 x hx).elim) (by decide) (by decide) (by decide) (by decide) hlocks (g_thrR hI hq) hI.2.2.2.2.2.2.1.2.2 (by decide) (by decide)
  · replace hq := i_t c1 hq
    exact vx_throwSW (own := RX7) (cls := "java/lang/IndexOutOfBoundsException") (names := ["java/lang/RuntimeException", "java/lang/Exception"]) hx hb hl0 hown (by decide +kernel) (by decide +kernel) (hB _ m_436) (hB _ m_21) (g_rtq hI rt_0) (g_hat hB hI xat_RX7_319) xgd_RX7_319 (g_uns hI) (g_sup hI) hI.2.2.2.2.2.2.1 (hl.1.trans hml.symm) dX7_refuse_5 dX7_refuse_8 dX7_refuse_9 dX7_refuse_12 dX7_refuse_15 (fun x hx => (ht0 x hx).elim) (by decide) (by decide) (by decide) (by decide) hlocks (g_thrR hI hq) hI.2.2.2.2.2.2.1.2.2 (by decide) (by decide)

abbrev rm_X7_rememberChart : Room := { frames := 4, cells := 0, slots := 0, locals := 163 }
theorem k_X7_rememberChart : g_CV yX7_rememberChart cX7_rememberChart 1 none 0 := ⟨⟨m_540, m_1, by decide +kernel⟩, m_539, ms_2⟩
set_option maxHeartbeats 4000000 in
set_option maxRecDepth 100000 in
theorem c_X7_rememberChart (l : Launch) (V : Nat → Nat) (g : GH) (D : va_G) (cT : Nat → ClassId) (f : GH) (n : Nat) (a0 : Nat) (o : GH) (hq : p_X7_rememberChart V g f a0 = some o) : Met l yX7_rememberChart (Cond.code yX7_rememberChart cX7_rememberChart 1 none :: g_B) rm_X7_rememberChart (va_Pc [.ref a0] (g_I V g D cT f n)) (g_Wv V D cT o n) 0 0 (g_A V) := by
  refine g_begin (own := RX7) [.ref a0] [(0, .ref a0)] (g_A V) (fun _ h => h) (by decide) rfl (Nat.le_of_ble_eq_true rfl) rfl ?_
  intro p e s m args below meth c hx hb hr hlocks hin hC hI ls hl
  obtain ⟨hx, hb, hml, hown, hB⟩ := id hC
  obtain ⟨H, hH⟩ : ∃ H, H = s.heap := ⟨_, rfl⟩
  obtain ⟨locs, hlocs⟩ : ∃ L : List Loc, L = [] := ⟨_, rfl⟩
  rw [← hH, ← hlocs] at hI ⊢
  clear hH hlocs
  unfold p_X7_rememberChart at hq
  replace hq := (h_me_eq hq).2
  refine lv_aload_n hx hb dX7_rememberChart_0 rfl (lv_at hl 0 rfl) ?_
  obtain ⟨v1, ev1, hq⟩ := b_s hq
  refine fa_gr (own := RX7) (ref := "CoastlineRuler") (k := 4) hx hb hB inB_RX7 hown hI rfl (by decide) m_269 (fun _ h9 => h9) ev1 dX7_rememberChart_1 ?_
  refine lv_aload_n hx hb dX7_rememberChart_4 rfl (lv_at hl 0 rfl) ?_
  obtain ⟨v2, ev2, hq⟩ := b_s hq
  refine fa_gi (own := RX7) (ref := "CoastlineRuler") (k := 6) hx hb hB inB_RX7 hown hI rfl (by decide) m_271 (fun _ h9 => h9) ev2 dX7_rememberChart_5 ?_
  obtain ⟨v3, ev3, hq⟩ := b_s hq
  refine fa_lq hx hb hI (by decide) rfl ev3 dX7_rememberChart_8 ?_
  refine lv_aload_n hx hb dX7_rememberChart_9 rfl (lv_at hl 0 rfl) ?_
  obtain ⟨v4, ev4, hq⟩ := b_s hq
  refine fa_gr (own := RX7) (ref := "CoastlineRuler") (k := 0) hx hb hB inB_RX7 hown hI rfl (by decide) m_265 (fun _ h9 => h9) ev4 dX7_rememberChart_10 ?_
  obtain ⟨v5, ev5, hq⟩ := b_s hq
  refine gw_v (g_runV (As := [.ref v4]) (rest := []) (ci := 4) hC (c_X1_copyFrom l V g D cT f n v3 v4 v5 ev5) k_X1_copyFrom m_541 rfl rfl ⟨Nat.le_of_ble_eq_true rfl, Nat.le_of_ble_eq_true rfl⟩ hI rfl rfl (h_me_eq ev5).1 rfl hl.1 rfl (Nat.le_of_ble_eq_true rfl) dX7_rememberChart_13 ⟨by decide, by decide⟩) hI (fun H locs hI => ?_)
  refine lv_aload_n hx hb dX7_rememberChart_16 rfl (lv_at hl 0 rfl) ?_
  refine lv_aload_n hx hb dX7_rememberChart_17 rfl (lv_at hl 0 rfl) ?_
  obtain ⟨v6, ev6, hq⟩ := b_s hq
  refine fa_gi (own := RX7) (ref := "CoastlineRuler") (k := 6) hx hb hB inB_RX7 hown hI rfl (by decide) m_271 (fun _ h9 => h9) ev6 dX7_rememberChart_18 ?_
  refine lv_bipush (v := (7 : Int32)) hx hb dX7_rememberChart_21 (by decide) ?_
  have hj36 : ∀ (x0 : Nat) (t0 : Int32) (t1 : Nat) (f : GH) (H : Heap) (locs : List Loc) (ls : Array Slot), g_at (g_A V) V g D cT f n s H locs → lv_has ls 1 [(0, .ref x0)] → p_X7_rememberChart_j36 V g x0 t0 t1 f = some o → W p l e rm_X7_rememberChart s m args below meth c H locs 0 0 (MQ below (g_Wv V D cT o n) args s 0 0 (g_A V)) (F0 m 36 ls [.int t0, .ref t1]) := by
    intro x0 t0 t1 f H locs ls hI hl hq
    unfold p_X7_rememberChart_j36 at hq
    obtain ⟨f7, ef7, hq⟩ := b_s hq
    refine fa_pt (own := RX7) (ref := "CoastlineRuler") (k := 6) hx hb hB inB_RX7 tyX7_ok nmX7 hown hI rfl (by decide) m_271 (fun _ h9 => h9) (by decide) rfl rfl ef7 dX7_rememberChart_36 (fun H locs hI => ?_)
    refine lv_aload_n hx hb dX7_rememberChart_39 rfl (lv_at hl 0 rfl) ?_
    obtain ⟨v8, ev8, hq⟩ := b_s hq
    refine fa_gi (own := RX7) (ref := "CoastlineRuler") (k := 5) hx hb hB inB_RX7 hown hI rfl (by decide) m_270 (fun _ h9 => h9) ev8 dX7_rememberChart_40 ?_
    refine lv_bipush (v := (8 : Int32)) hx hb dX7_rememberChart_43 (by decide) ?_
    refine lv_icmp_ge (tgt := 58) hx hb dX7_rememberChart_45 (by decide) (fun c9 => ?_) (fun c9 => ?_)
    · replace hq := i_t c9 hq
      exact ge_Wv hx hb hlocks hr hI (Option.some.inj hq) dX7_rememberChart_58
    · replace hq := i_f c9 hq
      refine lv_aload_n hx hb dX7_rememberChart_48 rfl (lv_at hl 0 rfl) ?_
      refine lv_dup hx hb dX7_rememberChart_49 rfl ?_
      obtain ⟨v10, ev10, hq⟩ := b_s hq
      refine fa_gi (own := RX7) (ref := "CoastlineRuler") (k := 5) hx hb hB inB_RX7 hown hI rfl (by decide) m_270 (fun _ h9 => h9) ev10 dX7_rememberChart_50 ?_
      refine lv_iconst (v := (1 : Int32)) hx hb dX7_rememberChart_53 (by decide) ?_
      refine lv_iadd hx hb dX7_rememberChart_54 ?_
      obtain ⟨f11, ef11, hq⟩ := b_s hq
      refine fa_pt (own := RX7) (ref := "CoastlineRuler") (k := 5) hx hb hB inB_RX7 tyX7_ok nmX7 hown hI rfl (by decide) m_270 (fun _ h9 => h9) (by decide) rfl rfl ef11 dX7_rememberChart_55 (fun H locs hI => ?_)
      exact ge_Wv hx hb hlocks hr hI (Option.some.inj hq) dX7_rememberChart_58
  refine lv_icmp_ne (tgt := 30) hx hb dX7_rememberChart_23 (by decide) (fun c12 => ?_) (fun c12 => ?_)
  · replace hq := i_f c12 hq
    refine lv_aload_n hx hb dX7_rememberChart_30 rfl (lv_at hl 0 rfl) ?_
    obtain ⟨v13, ev13, hq⟩ := b_s hq
    refine fa_gi (own := RX7) (ref := "CoastlineRuler") (k := 6) hx hb hB inB_RX7 hown hI rfl (by decide) m_271 (fun _ h9 => h9) ev13 dX7_rememberChart_31 ?_
    refine lv_iconst (v := (1 : Int32)) hx hb dX7_rememberChart_34 (by decide) ?_
    refine lv_iadd hx hb dX7_rememberChart_35 ?_
    exact hj36 a0 (v13 + (1 : Int32)) a0 v5 H locs ls hI (lv_sub hl [0] rfl) hq
  · replace hq := i_t c12 hq
    refine lv_iconst (v := (0 : Int32)) hx hb dX7_rememberChart_26 (by decide) ?_
    refine lv_goto (tgt := 36) hx hb dX7_rememberChart_27 (by decide) ?_
    exact hj36 a0 (0 : Int32) a0 v5 H locs ls hI (lv_sub hl [0] rfl) hq

abbrev rm_X7_change : Room := { frames := 9, cells := 1, slots := 6, locals := 257 }
theorem k_X7_change : g_CV yX7_change cX7_change 1 (some .int) 0 := ⟨⟨m_361, m_1, by decide +kernel⟩, m_360, ms_0⟩
set_option maxHeartbeats 4000000 in
set_option maxRecDepth 100000 in
theorem c_X7_change (l : Launch) (hl0 : l.stackTraces = false) (V : Nat → Nat) (g : GH) (D : va_G) (cT : Nat → ClassId) (f : GH) (n : Nat) (a0 : Nat) (o : (Nat × GH) ⊕ (Int32 × GH)) (hq : p_X7_change V g f a0 = some o) : vx_Met l yX7_change (Cond.code yX7_change cX7_change 1 (some .int) :: g_B) rm_X7_change (va_Pc [.ref a0] (g_I V g D cT f n)) (g_Yi V D cT o n) (g_YX V D cT o) 1 6 (g_A V) := by
  refine g_beginX (own := RX7) [.ref a0] [(0, .ref a0)] (g_A V) (fun _ h => h) (by decide) rfl (Nat.le_of_ble_eq_true rfl) rfl ?_
  intro p e s m args below meth c hx hb hr hlocks ht0 hC hI ls hl
  obtain ⟨hx, hb, hml, hown, hB⟩ := id hC
  obtain ⟨H, hH⟩ : ∃ H, H = s.heap := ⟨_, rfl⟩
  obtain ⟨locs, hlocs⟩ : ∃ L : List Loc, L = [] := ⟨_, rfl⟩
  rw [← hH, ← hlocs] at hI ⊢
  clear hH hlocs
  unfold p_X7_change at hq
  replace hq := (h_me_eq hq).2
  refine lv_aload_n hx hb dX7_change_0 rfl (lv_at hl 0 rfl) ?_
  obtain ⟨v1, ev1, hq⟩ := b_s hq
  refine fa_gr (own := RX7) (ref := "CoastlineRuler") (k := 0) hx hb hB inB_RX7 hown hI rfl (by decide) m_265 (fun _ h9 => h9) ev1 dX7_change_1 ?_
  refine lv_aload_n hx hb dX7_change_4 rfl (lv_at hl 0 rfl) ?_
  obtain ⟨v2, ev2, hq⟩ := b_s hq
  refine fa_gr (own := RX7) (ref := "CoastlineRuler") (k := 10) hx hb hB inB_RX7 hown hI rfl (by decide) m_275 (fun _ h9 => h9) ev2 dX7_change_5 ?_
  obtain ⟨v3, ev3, hq⟩ := b_s hq
  refine gr_i (g_runV (As := [.ref v2]) (rest := []) (ci := 4) hC (c_X1_refusalOf l V g D cT f n v1 v2 v3 ev3) k_X1_refusalOf m_362 rfl rfl ⟨Nat.le_of_ble_eq_true rfl, Nat.le_of_ble_eq_true rfl⟩ hI rfl rfl (h_me_eq ev3).1 rfl hl.1 rfl (Nat.le_of_ble_eq_true rfl) dX7_change_8 ⟨by decide, by decide⟩) hI (fun H locs hI => ?_)
  rcases x_b_eq hq with ⟨v4, ev4, hq⟩ | ⟨v4, ev4, hq⟩
  · exact gt_RW hlocks ht0 (g_runSX (As := [.int v3]) (rest := []) hC (c_X7_refuse l hl0 V g D cT f n v3 (.inl v4) ev4) k_X7_refuse m_433 rfl rfl ⟨Nat.le_of_ble_eq_true rfl, Nat.le_of_ble_eq_true rfl⟩ hI rfl hl.1 rfl (Nat.le_of_ble_eq_true rfl) dX7_change_11 ⟨by decide, by decide⟩) no_v hI hq (by decide) (by decide)
  · refine gx_v (g_runSX (As := [.int v3]) (rest := []) hC (c_X7_refuse l hl0 V g D cT f n v3 (.inr v4) ev4) k_X7_refuse m_433 rfl rfl ⟨Nat.le_of_ble_eq_true rfl, Nat.le_of_ble_eq_true rfl⟩ hI rfl hl.1 rfl (Nat.le_of_ble_eq_true rfl) dX7_change_11 ⟨by decide, by decide⟩) hI (fun H locs hI => ?_)
    refine lv_aload_n hx hb dX7_change_14 rfl (lv_at hl 0 rfl) ?_
    obtain ⟨v5, ev5, hq⟩ := b_s hq
    refine gw_v (g_runV (As := []) (rest := []) (ci := 9) hC (c_X7_rememberChart l V g D cT f n a0 v5 ev5) k_X7_rememberChart m_537 rfl rfl ⟨Nat.le_of_ble_eq_true rfl, Nat.le_of_ble_eq_true rfl⟩ hI rfl rfl (h_me_eq ev5).1 rfl hl.1 rfl (Nat.le_of_ble_eq_true rfl) dX7_change_15 ⟨by decide, by decide⟩) hI (fun H locs hI => ?_)
    refine lv_aload_n hx hb dX7_change_18 rfl (lv_at hl 0 rfl) ?_
    obtain ⟨v6, ev6, hq⟩ := b_s hq
    refine fa_gr (own := RX7) (ref := "CoastlineRuler") (k := 0) hx hb hB inB_RX7 hown hI rfl (by decide) m_265 (fun _ h9 => h9) ev6 dX7_change_19 ?_
    refine lv_aload_n hx hb dX7_change_22 rfl (lv_at hl 0 rfl) ?_
    obtain ⟨v7, ev7, hq⟩ := b_s hq
    refine fa_gr (own := RX7) (ref := "CoastlineRuler") (k := 10) hx hb hB inB_RX7 hown hI rfl (by decide) m_275 (fun _ h9 => h9) ev7 dX7_change_23 ?_
    obtain ⟨v8, ev8, hq⟩ := b_s hq
    refine gw_i (g_runV (As := [.ref v7]) (rest := []) (ci := 4) hC (c_X1_apply l V g D cT v5 n v6 v7 v8 ev8) k_X1_apply m_549 rfl rfl ⟨Nat.le_of_ble_eq_true rfl, Nat.le_of_ble_eq_true rfl⟩ hI rfl rfl (h_me_eq ev8).1 rfl hl.1 rfl (Nat.le_of_ble_eq_true rfl) dX7_change_26 ⟨by decide, by decide⟩) hI (fun H locs hI => ?_)
    exact ge_Yi hx hb hlocks hr rfl hI hq dX7_change_29

abbrev rm_X7_addCoast : Room := { frames := 10, cells := 3, slots := 18, locals := 293 }
theorem k_X7_addCoast : g_CV yX7_addCoast cX7_addCoast 3 (some .int) 1 := ⟨⟨m_1082, m_1, by decide +kernel⟩, m_1080, m_1081⟩
set_option maxHeartbeats 4000000 in
set_option maxRecDepth 100000 in
theorem c_X7_addCoast (l : Launch) (hl0 : l.stackTraces = false) (V : Nat → Nat) (g : GH) (D : va_G) (cT : Nat → ClassId) (f : GH) (n : Nat) (a0 : Nat) (a1 : Int32) (o : (Nat × GH) ⊕ (Int32 × GH)) (hq : p_X7_addCoast V g f a0 a1 = some o) : vx_Met l yX7_addCoast (Cond.code yX7_addCoast cX7_addCoast 3 (some .int) :: g_B) rm_X7_addCoast (va_Pc [.ref a0, .int a1] (g_I V g D cT f n)) (g_Yi V D cT o n) (g_YX V D cT o) 3 18 (g_A V) := by
  refine g_beginX (own := RX7) [.ref a0, .int a1] [(0, .ref a0), (1, .int a1)] (g_A V) (fun _ h => h) (by decide) rfl (Nat.le_of_ble_eq_true rfl) rfl ?_
  intro p e s m args below meth c hx hb hr hlocks ht0 hC hI ls hl
  obtain ⟨hx, hb, hml, hown, hB⟩ := id hC
  obtain ⟨H, hH⟩ : ∃ H, H = s.heap := ⟨_, rfl⟩
  obtain ⟨locs, hlocs⟩ : ∃ L : List Loc, L = [] := ⟨_, rfl⟩
  rw [← hH, ← hlocs] at hI ⊢
  clear hH hlocs
  unfold p_X7_addCoast at hq
  replace hq := (h_me_eq hq).2
  refine lv_aload_n hx hb dX7_addCoast_0 rfl (lv_at hl 0 rfl) ?_
  refine lv_iload_n hx hb dX7_addCoast_1 rfl (lv_at hl 1 rfl) ?_
  rcases x_b_eq hq with ⟨v1, ev1, hq⟩ | ⟨v1, ev1, hq⟩
  · exact gt_RW hlocks ht0 (g_runVX (As := [.int a1]) (rest := []) (ci := 9) hC (c_X7_requireText l hl0 V g D cT f n a0 a1 (.inl v1) ev1) k_X7_requireText m_614 rfl rfl ⟨Nat.le_of_ble_eq_true rfl, Nat.le_of_ble_eq_true rfl⟩ hI rfl rfl (h_me_eq ev1).1 rfl hl.1 rfl (Nat.le_of_ble_eq_true rfl) dX7_addCoast_2 ⟨by decide, by decide⟩) no_v hI hq (by decide) (by decide)
  · refine gx_v (g_runVX (As := [.int a1]) (rest := []) (ci := 9) hC (c_X7_requireText l hl0 V g D cT f n a0 a1 (.inr v1) ev1) k_X7_requireText m_614 rfl rfl ⟨Nat.le_of_ble_eq_true rfl, Nat.le_of_ble_eq_true rfl⟩ hI rfl rfl (h_me_eq ev1).1 rfl hl.1 rfl (Nat.le_of_ble_eq_true rfl) dX7_addCoast_2 ⟨by decide, by decide⟩) hI (fun H locs hI => ?_)
    refine lv_aload_n hx hb dX7_addCoast_5 rfl (lv_at hl 0 rfl) ?_
    obtain ⟨v2, ev2, hq⟩ := b_s hq
    refine fa_gr (own := RX7) (ref := "CoastlineRuler") (k := 10) hx hb hB inB_RX7 hown hI rfl (by decide) m_275 (fun _ h9 => h9) ev2 dX7_addCoast_6 ?_
    refine fs_gs (i := 0) hx hb hown hI rfl (hB _ m_1083) (fun _ h9 => h9) dX7_addCoast_9 ?_
    obtain ⟨f3, ef3, hq⟩ := b_s hq
    refine fa_pt (own := RX7) (ref := "CoastlineRuler$Command") (k := 0) hx hb hB inB_RX3 tyX3_ok nmX3 hown hI rfl (by decide) m_171 (fun _ h9 => h9) (by decide) rfl rfl ef3 dX7_addCoast_12 (fun H locs hI => ?_)
    refine lv_aload_n hx hb dX7_addCoast_15 rfl (lv_at hl 0 rfl) ?_
    obtain ⟨v4, ev4, hq⟩ := b_s hq
    refine fa_gr (own := RX7) (ref := "CoastlineRuler") (k := 0) hx hb hB inB_RX7 hown hI rfl (by decide) m_265 (fun _ h9 => h9) ev4 dX7_addCoast_16 ?_
    refine lv_aload_n hx hb dX7_addCoast_19 rfl (lv_at hl 0 rfl) ?_
    obtain ⟨v5, ev5, hq⟩ := b_s hq
    refine fa_gr (own := RX7) (ref := "CoastlineRuler") (k := 10) hx hb hB inB_RX7 hown hI rfl (by decide) m_275 (fun _ h9 => h9) ev5 dX7_addCoast_20 ?_
    obtain ⟨v6, ev6, hq⟩ := b_s hq
    refine gr_i (g_runV (As := [.ref v5]) (rest := []) (ci := 4) hC (c_X1_refusalOf l V g D cT f3 n v4 v5 v6 ev6) k_X1_refusalOf m_362 rfl rfl ⟨Nat.le_of_ble_eq_true rfl, Nat.le_of_ble_eq_true rfl⟩ hI rfl rfl (h_me_eq ev6).1 rfl hl.1 rfl (Nat.le_of_ble_eq_true rfl) dX7_addCoast_23 ⟨by decide, by decide⟩) hI (fun H locs hI => ?_)
    rcases x_b_eq hq with ⟨v7, ev7, hq⟩ | ⟨v7, ev7, hq⟩
    · exact gt_RW hlocks ht0 (g_runSX (As := [.int v6]) (rest := []) hC (c_X7_refuse l hl0 V g D cT f3 n v6 (.inl v7) ev7) k_X7_refuse m_433 rfl rfl ⟨Nat.le_of_ble_eq_true rfl, Nat.le_of_ble_eq_true rfl⟩ hI rfl hl.1 rfl (Nat.le_of_ble_eq_true rfl) dX7_addCoast_26 ⟨by decide, by decide⟩) no_v hI hq (by decide) (by decide)
    · refine gx_v (g_runSX (As := [.int v6]) (rest := []) hC (c_X7_refuse l hl0 V g D cT f3 n v6 (.inr v7) ev7) k_X7_refuse m_433 rfl rfl ⟨Nat.le_of_ble_eq_true rfl, Nat.le_of_ble_eq_true rfl⟩ hI rfl hl.1 rfl (Nat.le_of_ble_eq_true rfl) dX7_addCoast_26 ⟨by decide, by decide⟩) hI (fun H locs hI => ?_)
      refine lv_aload_n hx hb dX7_addCoast_29 rfl (lv_at hl 0 rfl) ?_
      obtain ⟨v8, ev8, hq⟩ := b_s hq
      refine fa_gr (own := RX7) (ref := "CoastlineRuler") (k := 8) hx hb hB inB_RX7 hown hI rfl (by decide) m_273 (fun _ h9 => h9) ev8 dX7_addCoast_30 ?_
      refine lv_iload_n hx hb dX7_addCoast_33 rfl (lv_at hl 1 rfl) ?_
      refine lv_aload_n hx hb dX7_addCoast_34 rfl (lv_at hl 0 rfl) ?_
      obtain ⟨v9, ev9, hq⟩ := b_s hq
      refine fa_gr (own := RX7) (ref := "CoastlineRuler") (k := 10) hx hb hB inB_RX7 hown hI rfl (by decide) m_275 (fun _ h9 => h9) ev9 dX7_addCoast_35 ?_
      obtain ⟨v10, ev10, hq⟩ := b_s hq
      refine fa_gr (own := RX7) (ref := "CoastlineRuler$Command") (k := 6) hx hb hB inB_RX3 hown hI rfl (by decide) m_190 (fun _ h9 => h9) ev10 dX7_addCoast_38 ?_
      obtain ⟨v11, ev11, hq⟩ := b_s hq
      refine gw_i (g_runV (As := [.int a1, .ref v10]) (rest := []) (ci := 7) hC (c_X4_readLoneCoast l V g D cT f3 n v8 a1 v10 v11 ev11) k_X4_readLoneCoast m_1085 rfl rfl ⟨Nat.le_of_ble_eq_true rfl, Nat.le_of_ble_eq_true rfl⟩ hI rfl rfl (h_me_eq ev11).1 rfl hl.1 rfl (Nat.le_of_ble_eq_true rfl) dX7_addCoast_41 ⟨by decide, by decide⟩) hI (fun H locs hI => ?_)
      refine lv_istore_n (lv' := [(2, .int v11.1), (0, .ref a0), (1, .int a1)]) hx hb dX7_addCoast_44 rfl hl (by decide) rfl (fun ls hl => ?_)
      refine lv_aload_n hx hb dX7_addCoast_45 rfl (lv_at hl 1 rfl) ?_
      obtain ⟨v12, ev12, hq⟩ := b_s hq
      refine fa_gr (own := RX7) (ref := "CoastlineRuler") (k := 7) hx hb hB inB_RX7 hown hI rfl (by decide) m_272 (fun _ h9 => h9) ev12 dX7_addCoast_46 ?_
      refine lv_iconst (v := (0 : Int32)) hx hb dX7_addCoast_49 (by decide) ?_
      obtain ⟨f13, ef13, hq⟩ := b_s hq
      refine fa_pt (own := RX7) (ref := "CoastlineRuler$Tokens") (k := 1) hx hb hB inB_RX5 tyX5_ok nmX5 hown hI rfl (by decide) m_111 (fun _ h9 => h9) (by decide) rfl rfl ef13 dX7_addCoast_50 (fun H locs hI => ?_)
      refine lv_iload_n hx hb dX7_addCoast_53 rfl (lv_at hl 0 rfl) ?_
      refine lv_if_eq (tgt := 64) hx hb dX7_addCoast_54 (by decide) (fun c14 => ?_) (fun c14 => ?_)
      · replace hq := i_t c14 hq
        refine lv_iconst (v := (-1 : Int32)) hx hb dX7_addCoast_64 (by decide) ?_
        refine W.widen (k := 3) (n := 18) (by decide) (by decide) ?_
        exact ge_Yi hx hb hlocks hr rfl hI hq dX7_addCoast_65
      · replace hq := i_f c14 hq
        refine lv_aload_n hx hb dX7_addCoast_57 rfl (lv_at hl 1 rfl) ?_
        rcases x_b_eq hq with ⟨v15, ev15, hq⟩ | ⟨v15, ev15, hq⟩
        · exact gt_WW hlocks ht0 (g_runVX (As := []) (rest := []) (ci := 9) hC (c_X7_change l hl0 V g D cT f13 n a0 (.inl v15) ev15) k_X7_change m_358 rfl rfl ⟨Nat.le_of_ble_eq_true rfl, Nat.le_of_ble_eq_true rfl⟩ hI rfl rfl (h_me_eq ev15).1 rfl hl.1 rfl (Nat.le_of_ble_eq_true rfl) dX7_addCoast_58 ⟨by decide, by decide⟩) noy_i hI hq (by decide) (by decide)
        · refine gy_i (g_runVX (As := []) (rest := []) (ci := 9) hC (c_X7_change l hl0 V g D cT f13 n a0 (.inr v15) ev15) k_X7_change m_358 rfl rfl ⟨Nat.le_of_ble_eq_true rfl, Nat.le_of_ble_eq_true rfl⟩ hI rfl rfl (h_me_eq ev15).1 rfl hl.1 rfl (Nat.le_of_ble_eq_true rfl) dX7_addCoast_58 ⟨by decide, by decide⟩) hI (fun H locs hI => ?_)
          refine lv_goto (tgt := 65) hx hb dX7_addCoast_61 (by decide) ?_
          exact ge_Yi hx hb hlocks hr rfl hI hq dX7_addCoast_65

abbrev rm_X7_removeCoast : Room := { frames := 10, cells := 1, slots := 6, locals := 277 }
theorem k_X7_removeCoast : g_CV yX7_removeCoast cX7_removeCoast 2 (some .int) 1 := ⟨⟨m_1095, m_1, by decide +kernel⟩, m_1093, m_1094⟩
set_option maxHeartbeats 4000000 in
set_option maxRecDepth 100000 in
theorem c_X7_removeCoast (l : Launch) (hl0 : l.stackTraces = false) (V : Nat → Nat) (g : GH) (D : va_G) (cT : Nat → ClassId) (f : GH) (n : Nat) (a0 : Nat) (a1 : Int32) (o : (Nat × GH) ⊕ (Int32 × GH)) (hq : p_X7_removeCoast V g f a0 a1 = some o) : vx_Met l yX7_removeCoast (Cond.code yX7_removeCoast cX7_removeCoast 2 (some .int) :: g_B) rm_X7_removeCoast (va_Pc [.ref a0, .int a1] (g_I V g D cT f n)) (g_Yi V D cT o n) (g_YX V D cT o) 1 6 (g_A V) := by
  refine g_beginX (own := RX7) [.ref a0, .int a1] [(0, .ref a0), (1, .int a1)] (g_A V) (fun _ h => h) (by decide) rfl (Nat.le_of_ble_eq_true rfl) rfl ?_
  intro p e s m args below meth c hx hb hr hlocks ht0 hC hI ls hl
  obtain ⟨hx, hb, hml, hown, hB⟩ := id hC
  obtain ⟨H, hH⟩ : ∃ H, H = s.heap := ⟨_, rfl⟩
  obtain ⟨locs, hlocs⟩ : ∃ L : List Loc, L = [] := ⟨_, rfl⟩
  rw [← hH, ← hlocs] at hI ⊢
  clear hH hlocs
  unfold p_X7_removeCoast at hq
  replace hq := (h_me_eq hq).2
  refine lv_aload_n hx hb dX7_removeCoast_0 rfl (lv_at hl 0 rfl) ?_
  obtain ⟨v1, ev1, hq⟩ := b_s hq
  refine fa_gr (own := RX7) (ref := "CoastlineRuler") (k := 10) hx hb hB inB_RX7 hown hI rfl (by decide) m_275 (fun _ h9 => h9) ev1 dX7_removeCoast_1 ?_
  refine fs_gs (i := 9) hx hb hown hI rfl (hB _ m_1096) (fun _ h9 => h9) dX7_removeCoast_4 ?_
  refine lv_iload_n hx hb dX7_removeCoast_7 rfl (lv_at hl 1 rfl) ?_
  refine lv_iconst (v := (0 : Int32)) hx hb dX7_removeCoast_8 (by decide) ?_
  refine lv_iconst (v := (0 : Int32)) hx hb dX7_removeCoast_9 (by decide) ?_
  refine lv_iconst (v := (0 : Int32)) hx hb dX7_removeCoast_10 (by decide) ?_
  obtain ⟨v2, ev2, hq⟩ := b_s hq
  refine gw_v (g_runV (As := [.ref (V 10), .int a1, .int (0 : Int32), .int (0 : Int32), .int (0 : Int32)]) (rest := []) (ci := 6) hC (c_X3_set l V g D cT f n v1 (V 10) a1 (0 : Int32) (0 : Int32) (0 : Int32) v2 ev2) k_X3_set m_354 rfl rfl ⟨Nat.le_of_ble_eq_true rfl, Nat.le_of_ble_eq_true rfl⟩ hI rfl rfl (h_me_eq ev2).1 rfl hl.1 rfl (Nat.le_of_ble_eq_true rfl) dX7_removeCoast_11 ⟨by decide, by decide⟩) hI (fun H locs hI => ?_)
  refine lv_aload_n hx hb dX7_removeCoast_14 rfl (lv_at hl 0 rfl) ?_
  rcases x_b_eq hq with ⟨v3, ev3, hq⟩ | ⟨v3, ev3, hq⟩
  · exact gt_WW hlocks ht0 (g_runVX (As := []) (rest := []) (ci := 9) hC (c_X7_change l hl0 V g D cT v2 n a0 (.inl v3) ev3) k_X7_change m_358 rfl rfl ⟨Nat.le_of_ble_eq_true rfl, Nat.le_of_ble_eq_true rfl⟩ hI rfl rfl (h_me_eq ev3).1 rfl hl.1 rfl (Nat.le_of_ble_eq_true rfl) dX7_removeCoast_15 ⟨by decide, by decide⟩) noy_i hI hq (by decide) (by decide)
  · refine gy_i (g_runVX (As := []) (rest := []) (ci := 9) hC (c_X7_change l hl0 V g D cT v2 n a0 (.inr v3) ev3) k_X7_change m_358 rfl rfl ⟨Nat.le_of_ble_eq_true rfl, Nat.le_of_ble_eq_true rfl⟩ hI rfl rfl (h_me_eq ev3).1 rfl hl.1 rfl (Nat.le_of_ble_eq_true rfl) dX7_removeCoast_15 ⟨by decide, by decide⟩) hI (fun H locs hI => ?_)
    exact ge_Yi hx hb hlocks hr rfl hI hq dX7_removeCoast_18

abbrev rm_X7_fold : Room := { frames := 10, cells := 1, slots := 6, locals := 277 }
theorem k_X7_fold : g_CV yX7_fold cX7_fold 3 (some .int) 2 := ⟨⟨m_1104, m_1, by decide +kernel⟩, m_1102, m_1103⟩
set_option maxHeartbeats 4000000 in
set_option maxRecDepth 100000 in
theorem c_X7_fold (l : Launch) (hl0 : l.stackTraces = false) (V : Nat → Nat) (g : GH) (D : va_G) (cT : Nat → ClassId) (f : GH) (n : Nat) (a0 : Nat) (a1 : Int32) (a2 : Int32) (o : (Nat × GH) ⊕ (Int32 × GH)) (hq : p_X7_fold V g f a0 a1 a2 = some o) : vx_Met l yX7_fold (Cond.code yX7_fold cX7_fold 3 (some .int) :: g_B) rm_X7_fold (va_Pc [.ref a0, .int a1, .int a2] (g_I V g D cT f n)) (g_Yi V D cT o n) (g_YX V D cT o) 1 6 (g_A V) := by
  refine g_beginX (own := RX7) [.ref a0, .int a1, .int a2] [(0, .ref a0), (1, .int a1), (2, .int a2)] (g_A V) (fun _ h => h) (by decide) rfl (Nat.le_of_ble_eq_true rfl) rfl ?_
  intro p e s m args below meth c hx hb hr hlocks ht0 hC hI ls hl
  obtain ⟨hx, hb, hml, hown, hB⟩ := id hC
  obtain ⟨H, hH⟩ : ∃ H, H = s.heap := ⟨_, rfl⟩
  obtain ⟨locs, hlocs⟩ : ∃ L : List Loc, L = [] := ⟨_, rfl⟩
  rw [← hH, ← hlocs] at hI ⊢
  clear hH hlocs
  unfold p_X7_fold at hq
  replace hq := (h_me_eq hq).2
  refine lv_aload_n hx hb dX7_fold_0 rfl (lv_at hl 0 rfl) ?_
  obtain ⟨v1, ev1, hq⟩ := b_s hq
  refine fa_gr (own := RX7) (ref := "CoastlineRuler") (k := 10) hx hb hB inB_RX7 hown hI rfl (by decide) m_275 (fun _ h9 => h9) ev1 dX7_fold_1 ?_
  refine fs_gs (i := 2) hx hb hown hI rfl (hB _ m_1105) (fun _ h9 => h9) dX7_fold_4 ?_
  refine lv_iload_n hx hb dX7_fold_7 rfl (lv_at hl 1 rfl) ?_
  refine lv_iconst (v := (0 : Int32)) hx hb dX7_fold_8 (by decide) ?_
  refine lv_iload_n hx hb dX7_fold_9 rfl (lv_at hl 2 rfl) ?_
  refine lv_iconst (v := (0 : Int32)) hx hb dX7_fold_10 (by decide) ?_
  obtain ⟨v2, ev2, hq⟩ := b_s hq
  refine gw_v (g_runV (As := [.ref (V 3), .int a1, .int (0 : Int32), .int a2, .int (0 : Int32)]) (rest := []) (ci := 6) hC (c_X3_set l V g D cT f n v1 (V 3) a1 (0 : Int32) a2 (0 : Int32) v2 ev2) k_X3_set m_354 rfl rfl ⟨Nat.le_of_ble_eq_true rfl, Nat.le_of_ble_eq_true rfl⟩ hI rfl rfl (h_me_eq ev2).1 rfl hl.1 rfl (Nat.le_of_ble_eq_true rfl) dX7_fold_11 ⟨by decide, by decide⟩) hI (fun H locs hI => ?_)
  refine lv_aload_n hx hb dX7_fold_14 rfl (lv_at hl 0 rfl) ?_
  rcases x_b_eq hq with ⟨v3, ev3, hq⟩ | ⟨v3, ev3, hq⟩
  · exact gt_WW hlocks ht0 (g_runVX (As := []) (rest := []) (ci := 9) hC (c_X7_change l hl0 V g D cT v2 n a0 (.inl v3) ev3) k_X7_change m_358 rfl rfl ⟨Nat.le_of_ble_eq_true rfl, Nat.le_of_ble_eq_true rfl⟩ hI rfl rfl (h_me_eq ev3).1 rfl hl.1 rfl (Nat.le_of_ble_eq_true rfl) dX7_fold_15 ⟨by decide, by decide⟩) noy_i hI hq (by decide) (by decide)
  · refine gy_i (g_runVX (As := []) (rest := []) (ci := 9) hC (c_X7_change l hl0 V g D cT v2 n a0 (.inr v3) ev3) k_X7_change m_358 rfl rfl ⟨Nat.le_of_ble_eq_true rfl, Nat.le_of_ble_eq_true rfl⟩ hI rfl rfl (h_me_eq ev3).1 rfl hl.1 rfl (Nat.le_of_ble_eq_true rfl) dX7_fold_15 ⟨by decide, by decide⟩) hI (fun H locs hI => ?_)
    exact ge_Yi hx hb hlocks hr rfl hI hq dX7_fold_18

abbrev rm_X7_unfold : Room := { frames := 10, cells := 1, slots := 6, locals := 277 }
theorem k_X7_unfold : g_CV yX7_unfold cX7_unfold 2 (some .int) 1 := ⟨⟨m_1113, m_1, by decide +kernel⟩, m_1111, m_1112⟩
set_option maxHeartbeats 4000000 in
set_option maxRecDepth 100000 in
theorem c_X7_unfold (l : Launch) (hl0 : l.stackTraces = false) (V : Nat → Nat) (g : GH) (D : va_G) (cT : Nat → ClassId) (f : GH) (n : Nat) (a0 : Nat) (a1 : Int32) (o : (Nat × GH) ⊕ (Int32 × GH)) (hq : p_X7_unfold V g f a0 a1 = some o) : vx_Met l yX7_unfold (Cond.code yX7_unfold cX7_unfold 2 (some .int) :: g_B) rm_X7_unfold (va_Pc [.ref a0, .int a1] (g_I V g D cT f n)) (g_Yi V D cT o n) (g_YX V D cT o) 1 6 (g_A V) := by
  refine g_beginX (own := RX7) [.ref a0, .int a1] [(0, .ref a0), (1, .int a1)] (g_A V) (fun _ h => h) (by decide) rfl (Nat.le_of_ble_eq_true rfl) rfl ?_
  intro p e s m args below meth c hx hb hr hlocks ht0 hC hI ls hl
  obtain ⟨hx, hb, hml, hown, hB⟩ := id hC
  obtain ⟨H, hH⟩ : ∃ H, H = s.heap := ⟨_, rfl⟩
  obtain ⟨locs, hlocs⟩ : ∃ L : List Loc, L = [] := ⟨_, rfl⟩
  rw [← hH, ← hlocs] at hI ⊢
  clear hH hlocs
  unfold p_X7_unfold at hq
  replace hq := (h_me_eq hq).2
  refine lv_aload_n hx hb dX7_unfold_0 rfl (lv_at hl 0 rfl) ?_
  obtain ⟨v1, ev1, hq⟩ := b_s hq
  refine fa_gr (own := RX7) (ref := "CoastlineRuler") (k := 10) hx hb hB inB_RX7 hown hI rfl (by decide) m_275 (fun _ h9 => h9) ev1 dX7_unfold_1 ?_
  refine fs_gs (i := 3) hx hb hown hI rfl (hB _ m_1114) (fun _ h9 => h9) dX7_unfold_4 ?_
  refine lv_iload_n hx hb dX7_unfold_7 rfl (lv_at hl 1 rfl) ?_
  refine lv_iconst (v := (0 : Int32)) hx hb dX7_unfold_8 (by decide) ?_
  refine lv_iconst (v := (0 : Int32)) hx hb dX7_unfold_9 (by decide) ?_
  refine lv_iconst (v := (0 : Int32)) hx hb dX7_unfold_10 (by decide) ?_
  obtain ⟨v2, ev2, hq⟩ := b_s hq
  refine gw_v (g_runV (As := [.ref (V 4), .int a1, .int (0 : Int32), .int (0 : Int32), .int (0 : Int32)]) (rest := []) (ci := 6) hC (c_X3_set l V g D cT f n v1 (V 4) a1 (0 : Int32) (0 : Int32) (0 : Int32) v2 ev2) k_X3_set m_354 rfl rfl ⟨Nat.le_of_ble_eq_true rfl, Nat.le_of_ble_eq_true rfl⟩ hI rfl rfl (h_me_eq ev2).1 rfl hl.1 rfl (Nat.le_of_ble_eq_true rfl) dX7_unfold_11 ⟨by decide, by decide⟩) hI (fun H locs hI => ?_)
  refine lv_aload_n hx hb dX7_unfold_14 rfl (lv_at hl 0 rfl) ?_
  rcases x_b_eq hq with ⟨v3, ev3, hq⟩ | ⟨v3, ev3, hq⟩
  · exact gt_WW hlocks ht0 (g_runVX (As := []) (rest := []) (ci := 9) hC (c_X7_change l hl0 V g D cT v2 n a0 (.inl v3) ev3) k_X7_change m_358 rfl rfl ⟨Nat.le_of_ble_eq_true rfl, Nat.le_of_ble_eq_true rfl⟩ hI rfl rfl (h_me_eq ev3).1 rfl hl.1 rfl (Nat.le_of_ble_eq_true rfl) dX7_unfold_15 ⟨by decide, by decide⟩) noy_i hI hq (by decide) (by decide)
  · refine gy_i (g_runVX (As := []) (rest := []) (ci := 9) hC (c_X7_change l hl0 V g D cT v2 n a0 (.inr v3) ev3) k_X7_change m_358 rfl rfl ⟨Nat.le_of_ble_eq_true rfl, Nat.le_of_ble_eq_true rfl⟩ hI rfl rfl (h_me_eq ev3).1 rfl hl.1 rfl (Nat.le_of_ble_eq_true rfl) dX7_unfold_15 ⟨by decide, by decide⟩) hI (fun H locs hI => ?_)
    exact ge_Yi hx hb hlocks hr rfl hI hq dX7_unfold_18

abbrev rm_X7_movePoint : Room := { frames := 10, cells := 1, slots := 6, locals := 277 }
theorem k_X7_movePoint : g_CV yX7_movePoint cX7_movePoint 5 (some .int) 4 := ⟨⟨m_1122, m_1, by decide +kernel⟩, m_1120, m_1121⟩
set_option maxHeartbeats 4000000 in
set_option maxRecDepth 100000 in
theorem c_X7_movePoint (l : Launch) (hl0 : l.stackTraces = false) (V : Nat → Nat) (g : GH) (D : va_G) (cT : Nat → ClassId) (f : GH) (n : Nat) (a0 : Nat) (a1 : Int32) (a2 : Int32) (a3 : Int32) (a4 : Int32) (o : (Nat × GH) ⊕ (Int32 × GH)) (hq : p_X7_movePoint V g f a0 a1 a2 a3 a4 = some o) : vx_Met l yX7_movePoint (Cond.code yX7_movePoint cX7_movePoint 5 (some .int) :: g_B) rm_X7_movePoint (va_Pc [.ref a0, .int a1, .int a2, .int a3, .int a4] (g_I V g D cT f n)) (g_Yi V D cT o n) (g_YX V D cT o) 1 6 (g_A V) := by
  refine g_beginX (own := RX7) [.ref a0, .int a1, .int a2, .int a3, .int a4] [(0, .ref a0), (1, .int a1), (2, .int a2), (3, .int a3), (4, .int a4)] (g_A V) (fun _ h => h) (by decide) rfl (Nat.le_of_ble_eq_true rfl) rfl ?_
  intro p e s m args below meth c hx hb hr hlocks ht0 hC hI ls hl
  obtain ⟨hx, hb, hml, hown, hB⟩ := id hC
  obtain ⟨H, hH⟩ : ∃ H, H = s.heap := ⟨_, rfl⟩
  obtain ⟨locs, hlocs⟩ : ∃ L : List Loc, L = [] := ⟨_, rfl⟩
  rw [← hH, ← hlocs] at hI ⊢
  clear hH hlocs
  unfold p_X7_movePoint at hq
  replace hq := (h_me_eq hq).2
  refine lv_aload_n hx hb dX7_movePoint_0 rfl (lv_at hl 0 rfl) ?_
  obtain ⟨v1, ev1, hq⟩ := b_s hq
  refine fa_gr (own := RX7) (ref := "CoastlineRuler") (k := 10) hx hb hB inB_RX7 hown hI rfl (by decide) m_275 (fun _ h9 => h9) ev1 dX7_movePoint_1 ?_
  refine fs_gs (i := 4) hx hb hown hI rfl (hB _ m_1123) (fun _ h9 => h9) dX7_movePoint_4 ?_
  refine lv_iload_n hx hb dX7_movePoint_7 rfl (lv_at hl 1 rfl) ?_
  refine lv_iload_n hx hb dX7_movePoint_8 rfl (lv_at hl 2 rfl) ?_
  refine lv_iload_n hx hb dX7_movePoint_9 rfl (lv_at hl 3 rfl) ?_
  refine lv_iload hx hb dX7_movePoint_10 (lv_at hl 4 rfl) ?_
  obtain ⟨v2, ev2, hq⟩ := b_s hq
  refine gw_v (g_runV (As := [.ref (V 5), .int a1, .int a2, .int a3, .int a4]) (rest := []) (ci := 6) hC (c_X3_set l V g D cT f n v1 (V 5) a1 a2 a3 a4 v2 ev2) k_X3_set m_354 rfl rfl ⟨Nat.le_of_ble_eq_true rfl, Nat.le_of_ble_eq_true rfl⟩ hI rfl rfl (h_me_eq ev2).1 rfl hl.1 rfl (Nat.le_of_ble_eq_true rfl) dX7_movePoint_12 ⟨by decide, by decide⟩) hI (fun H locs hI => ?_)
  refine lv_aload_n hx hb dX7_movePoint_15 rfl (lv_at hl 0 rfl) ?_
  rcases x_b_eq hq with ⟨v3, ev3, hq⟩ | ⟨v3, ev3, hq⟩
  · exact gt_WW hlocks ht0 (g_runVX (As := []) (rest := []) (ci := 9) hC (c_X7_change l hl0 V g D cT v2 n a0 (.inl v3) ev3) k_X7_change m_358 rfl rfl ⟨Nat.le_of_ble_eq_true rfl, Nat.le_of_ble_eq_true rfl⟩ hI rfl rfl (h_me_eq ev3).1 rfl hl.1 rfl (Nat.le_of_ble_eq_true rfl) dX7_movePoint_16 ⟨by decide, by decide⟩) noy_i hI hq (by decide) (by decide)
  · refine gy_i (g_runVX (As := []) (rest := []) (ci := 9) hC (c_X7_change l hl0 V g D cT v2 n a0 (.inr v3) ev3) k_X7_change m_358 rfl rfl ⟨Nat.le_of_ble_eq_true rfl, Nat.le_of_ble_eq_true rfl⟩ hI rfl rfl (h_me_eq ev3).1 rfl hl.1 rfl (Nat.le_of_ble_eq_true rfl) dX7_movePoint_16 ⟨by decide, by decide⟩) hI (fun H locs hI => ?_)
    exact ge_Yi hx hb hlocks hr rfl hI hq dX7_movePoint_19

abbrev rm_X7_insertPoint : Room := { frames := 10, cells := 1, slots := 6, locals := 277 }
theorem k_X7_insertPoint : g_CV yX7_insertPoint cX7_insertPoint 5 (some .int) 4 := ⟨⟨m_1131, m_1, by decide +kernel⟩, m_1129, m_1130⟩
set_option maxHeartbeats 4000000 in
set_option maxRecDepth 100000 in
theorem c_X7_insertPoint (l : Launch) (hl0 : l.stackTraces = false) (V : Nat → Nat) (g : GH) (D : va_G) (cT : Nat → ClassId) (f : GH) (n : Nat) (a0 : Nat) (a1 : Int32) (a2 : Int32) (a3 : Int32) (a4 : Int32) (o : (Nat × GH) ⊕ (Int32 × GH)) (hq : p_X7_insertPoint V g f a0 a1 a2 a3 a4 = some o) : vx_Met l yX7_insertPoint (Cond.code yX7_insertPoint cX7_insertPoint 5 (some .int) :: g_B) rm_X7_insertPoint (va_Pc [.ref a0, .int a1, .int a2, .int a3, .int a4] (g_I V g D cT f n)) (g_Yi V D cT o n) (g_YX V D cT o) 1 6 (g_A V) := by
  refine g_beginX (own := RX7) [.ref a0, .int a1, .int a2, .int a3, .int a4] [(0, .ref a0), (1, .int a1), (2, .int a2), (3, .int a3), (4, .int a4)] (g_A V) (fun _ h => h) (by decide) rfl (Nat.le_of_ble_eq_true rfl) rfl ?_
  intro p e s m args below meth c hx hb hr hlocks ht0 hC hI ls hl
  obtain ⟨hx, hb, hml, hown, hB⟩ := id hC
  obtain ⟨H, hH⟩ : ∃ H, H = s.heap := ⟨_, rfl⟩
  obtain ⟨locs, hlocs⟩ : ∃ L : List Loc, L = [] := ⟨_, rfl⟩
  rw [← hH, ← hlocs] at hI ⊢
  clear hH hlocs
  unfold p_X7_insertPoint at hq
  replace hq := (h_me_eq hq).2
  refine lv_aload_n hx hb dX7_insertPoint_0 rfl (lv_at hl 0 rfl) ?_
  obtain ⟨v1, ev1, hq⟩ := b_s hq
  refine fa_gr (own := RX7) (ref := "CoastlineRuler") (k := 10) hx hb hB inB_RX7 hown hI rfl (by decide) m_275 (fun _ h9 => h9) ev1 dX7_insertPoint_1 ?_
  refine fs_gs (i := 5) hx hb hown hI rfl (hB _ m_1132) (fun _ h9 => h9) dX7_insertPoint_4 ?_
  refine lv_iload_n hx hb dX7_insertPoint_7 rfl (lv_at hl 1 rfl) ?_
  refine lv_iload_n hx hb dX7_insertPoint_8 rfl (lv_at hl 2 rfl) ?_
  refine lv_iload_n hx hb dX7_insertPoint_9 rfl (lv_at hl 3 rfl) ?_
  refine lv_iload hx hb dX7_insertPoint_10 (lv_at hl 4 rfl) ?_
  obtain ⟨v2, ev2, hq⟩ := b_s hq
  refine gw_v (g_runV (As := [.ref (V 6), .int a1, .int a2, .int a3, .int a4]) (rest := []) (ci := 6) hC (c_X3_set l V g D cT f n v1 (V 6) a1 a2 a3 a4 v2 ev2) k_X3_set m_354 rfl rfl ⟨Nat.le_of_ble_eq_true rfl, Nat.le_of_ble_eq_true rfl⟩ hI rfl rfl (h_me_eq ev2).1 rfl hl.1 rfl (Nat.le_of_ble_eq_true rfl) dX7_insertPoint_12 ⟨by decide, by decide⟩) hI (fun H locs hI => ?_)
  refine lv_aload_n hx hb dX7_insertPoint_15 rfl (lv_at hl 0 rfl) ?_
  rcases x_b_eq hq with ⟨v3, ev3, hq⟩ | ⟨v3, ev3, hq⟩
  · exact gt_WW hlocks ht0 (g_runVX (As := []) (rest := []) (ci := 9) hC (c_X7_change l hl0 V g D cT v2 n a0 (.inl v3) ev3) k_X7_change m_358 rfl rfl ⟨Nat.le_of_ble_eq_true rfl, Nat.le_of_ble_eq_true rfl⟩ hI rfl rfl (h_me_eq ev3).1 rfl hl.1 rfl (Nat.le_of_ble_eq_true rfl) dX7_insertPoint_16 ⟨by decide, by decide⟩) noy_i hI hq (by decide) (by decide)
  · refine gy_i (g_runVX (As := []) (rest := []) (ci := 9) hC (c_X7_change l hl0 V g D cT v2 n a0 (.inr v3) ev3) k_X7_change m_358 rfl rfl ⟨Nat.le_of_ble_eq_true rfl, Nat.le_of_ble_eq_true rfl⟩ hI rfl rfl (h_me_eq ev3).1 rfl hl.1 rfl (Nat.le_of_ble_eq_true rfl) dX7_insertPoint_16 ⟨by decide, by decide⟩) hI (fun H locs hI => ?_)
    exact ge_Yi hx hb hlocks hr rfl hI hq dX7_insertPoint_19

abbrev rm_X7_removePoint : Room := { frames := 10, cells := 1, slots := 6, locals := 277 }
theorem k_X7_removePoint : g_CV yX7_removePoint cX7_removePoint 3 (some .int) 2 := ⟨⟨m_1139, m_1, by decide +kernel⟩, m_1137, m_1138⟩
set_option maxHeartbeats 4000000 in
set_option maxRecDepth 100000 in
theorem c_X7_removePoint (l : Launch) (hl0 : l.stackTraces = false) (V : Nat → Nat) (g : GH) (D : va_G) (cT : Nat → ClassId) (f : GH) (n : Nat) (a0 : Nat) (a1 : Int32) (a2 : Int32) (o : (Nat × GH) ⊕ (Int32 × GH)) (hq : p_X7_removePoint V g f a0 a1 a2 = some o) : vx_Met l yX7_removePoint (Cond.code yX7_removePoint cX7_removePoint 3 (some .int) :: g_B) rm_X7_removePoint (va_Pc [.ref a0, .int a1, .int a2] (g_I V g D cT f n)) (g_Yi V D cT o n) (g_YX V D cT o) 1 6 (g_A V) := by
  refine g_beginX (own := RX7) [.ref a0, .int a1, .int a2] [(0, .ref a0), (1, .int a1), (2, .int a2)] (g_A V) (fun _ h => h) (by decide) rfl (Nat.le_of_ble_eq_true rfl) rfl ?_
  intro p e s m args below meth c hx hb hr hlocks ht0 hC hI ls hl
  obtain ⟨hx, hb, hml, hown, hB⟩ := id hC
  obtain ⟨H, hH⟩ : ∃ H, H = s.heap := ⟨_, rfl⟩
  obtain ⟨locs, hlocs⟩ : ∃ L : List Loc, L = [] := ⟨_, rfl⟩
  rw [← hH, ← hlocs] at hI ⊢
  clear hH hlocs
  unfold p_X7_removePoint at hq
  replace hq := (h_me_eq hq).2
  refine lv_aload_n hx hb dX7_removePoint_0 rfl (lv_at hl 0 rfl) ?_
  obtain ⟨v1, ev1, hq⟩ := b_s hq
  refine fa_gr (own := RX7) (ref := "CoastlineRuler") (k := 10) hx hb hB inB_RX7 hown hI rfl (by decide) m_275 (fun _ h9 => h9) ev1 dX7_removePoint_1 ?_
  refine fs_gs (i := 6) hx hb hown hI rfl (hB _ m_1140) (fun _ h9 => h9) dX7_removePoint_4 ?_
  refine lv_iload_n hx hb dX7_removePoint_7 rfl (lv_at hl 1 rfl) ?_
  refine lv_iload_n hx hb dX7_removePoint_8 rfl (lv_at hl 2 rfl) ?_
  refine lv_iconst (v := (0 : Int32)) hx hb dX7_removePoint_9 (by decide) ?_
  refine lv_iconst (v := (0 : Int32)) hx hb dX7_removePoint_10 (by decide) ?_
  obtain ⟨v2, ev2, hq⟩ := b_s hq
  refine gw_v (g_runV (As := [.ref (V 7), .int a1, .int a2, .int (0 : Int32), .int (0 : Int32)]) (rest := []) (ci := 6) hC (c_X3_set l V g D cT f n v1 (V 7) a1 a2 (0 : Int32) (0 : Int32) v2 ev2) k_X3_set m_354 rfl rfl ⟨Nat.le_of_ble_eq_true rfl, Nat.le_of_ble_eq_true rfl⟩ hI rfl rfl (h_me_eq ev2).1 rfl hl.1 rfl (Nat.le_of_ble_eq_true rfl) dX7_removePoint_11 ⟨by decide, by decide⟩) hI (fun H locs hI => ?_)
  refine lv_aload_n hx hb dX7_removePoint_14 rfl (lv_at hl 0 rfl) ?_
  rcases x_b_eq hq with ⟨v3, ev3, hq⟩ | ⟨v3, ev3, hq⟩
  · exact gt_WW hlocks ht0 (g_runVX (As := []) (rest := []) (ci := 9) hC (c_X7_change l hl0 V g D cT v2 n a0 (.inl v3) ev3) k_X7_change m_358 rfl rfl ⟨Nat.le_of_ble_eq_true rfl, Nat.le_of_ble_eq_true rfl⟩ hI rfl rfl (h_me_eq ev3).1 rfl hl.1 rfl (Nat.le_of_ble_eq_true rfl) dX7_removePoint_15 ⟨by decide, by decide⟩) noy_i hI hq (by decide) (by decide)
  · refine gy_i (g_runVX (As := []) (rest := []) (ci := 9) hC (c_X7_change l hl0 V g D cT v2 n a0 (.inr v3) ev3) k_X7_change m_358 rfl rfl ⟨Nat.le_of_ble_eq_true rfl, Nat.le_of_ble_eq_true rfl⟩ hI rfl rfl (h_me_eq ev3).1 rfl hl.1 rfl (Nat.le_of_ble_eq_true rfl) dX7_removePoint_15 ⟨by decide, by decide⟩) hI (fun H locs hI => ?_)
    exact ge_Yi hx hb hlocks hr rfl hI hq dX7_removePoint_18

abbrev rm_X7_shift : Room := { frames := 10, cells := 1, slots := 6, locals := 277 }
theorem k_X7_shift : g_CV yX7_shift cX7_shift 4 (some .int) 3 := ⟨⟨m_1148, m_1, by decide +kernel⟩, m_1146, m_1147⟩
set_option maxHeartbeats 4000000 in
set_option maxRecDepth 100000 in
theorem c_X7_shift (l : Launch) (hl0 : l.stackTraces = false) (V : Nat → Nat) (g : GH) (D : va_G) (cT : Nat → ClassId) (f : GH) (n : Nat) (a0 : Nat) (a1 : Int32) (a2 : Int32) (a3 : Int32) (o : (Nat × GH) ⊕ (Int32 × GH)) (hq : p_X7_shift V g f a0 a1 a2 a3 = some o) : vx_Met l yX7_shift (Cond.code yX7_shift cX7_shift 4 (some .int) :: g_B) rm_X7_shift (va_Pc [.ref a0, .int a1, .int a2, .int a3] (g_I V g D cT f n)) (g_Yi V D cT o n) (g_YX V D cT o) 1 6 (g_A V) := by
  refine g_beginX (own := RX7) [.ref a0, .int a1, .int a2, .int a3] [(0, .ref a0), (1, .int a1), (2, .int a2), (3, .int a3)] (g_A V) (fun _ h => h) (by decide) rfl (Nat.le_of_ble_eq_true rfl) rfl ?_
  intro p e s m args below meth c hx hb hr hlocks ht0 hC hI ls hl
  obtain ⟨hx, hb, hml, hown, hB⟩ := id hC
  obtain ⟨H, hH⟩ : ∃ H, H = s.heap := ⟨_, rfl⟩
  obtain ⟨locs, hlocs⟩ : ∃ L : List Loc, L = [] := ⟨_, rfl⟩
  rw [← hH, ← hlocs] at hI ⊢
  clear hH hlocs
  unfold p_X7_shift at hq
  replace hq := (h_me_eq hq).2
  refine lv_aload_n hx hb dX7_shift_0 rfl (lv_at hl 0 rfl) ?_
  obtain ⟨v1, ev1, hq⟩ := b_s hq
  refine fa_gr (own := RX7) (ref := "CoastlineRuler") (k := 10) hx hb hB inB_RX7 hown hI rfl (by decide) m_275 (fun _ h9 => h9) ev1 dX7_shift_1 ?_
  refine fs_gs (i := 7) hx hb hown hI rfl (hB _ m_1149) (fun _ h9 => h9) dX7_shift_4 ?_
  refine lv_iload_n hx hb dX7_shift_7 rfl (lv_at hl 1 rfl) ?_
  refine lv_iconst (v := (0 : Int32)) hx hb dX7_shift_8 (by decide) ?_
  refine lv_iload_n hx hb dX7_shift_9 rfl (lv_at hl 2 rfl) ?_
  refine lv_iload_n hx hb dX7_shift_10 rfl (lv_at hl 3 rfl) ?_
  obtain ⟨v2, ev2, hq⟩ := b_s hq
  refine gw_v (g_runV (As := [.ref (V 8), .int a1, .int (0 : Int32), .int a2, .int a3]) (rest := []) (ci := 6) hC (c_X3_set l V g D cT f n v1 (V 8) a1 (0 : Int32) a2 a3 v2 ev2) k_X3_set m_354 rfl rfl ⟨Nat.le_of_ble_eq_true rfl, Nat.le_of_ble_eq_true rfl⟩ hI rfl rfl (h_me_eq ev2).1 rfl hl.1 rfl (Nat.le_of_ble_eq_true rfl) dX7_shift_11 ⟨by decide, by decide⟩) hI (fun H locs hI => ?_)
  refine lv_aload_n hx hb dX7_shift_14 rfl (lv_at hl 0 rfl) ?_
  rcases x_b_eq hq with ⟨v3, ev3, hq⟩ | ⟨v3, ev3, hq⟩
  · exact gt_WW hlocks ht0 (g_runVX (As := []) (rest := []) (ci := 9) hC (c_X7_change l hl0 V g D cT v2 n a0 (.inl v3) ev3) k_X7_change m_358 rfl rfl ⟨Nat.le_of_ble_eq_true rfl, Nat.le_of_ble_eq_true rfl⟩ hI rfl rfl (h_me_eq ev3).1 rfl hl.1 rfl (Nat.le_of_ble_eq_true rfl) dX7_shift_15 ⟨by decide, by decide⟩) noy_i hI hq (by decide) (by decide)
  · refine gy_i (g_runVX (As := []) (rest := []) (ci := 9) hC (c_X7_change l hl0 V g D cT v2 n a0 (.inr v3) ev3) k_X7_change m_358 rfl rfl ⟨Nat.le_of_ble_eq_true rfl, Nat.le_of_ble_eq_true rfl⟩ hI rfl rfl (h_me_eq ev3).1 rfl hl.1 rfl (Nat.le_of_ble_eq_true rfl) dX7_shift_15 ⟨by decide, by decide⟩) hI (fun H locs hI => ?_)
    exact ge_Yi hx hb hlocks hr rfl hI hq dX7_shift_18

abbrev rm_X7_reverse : Room := { frames := 10, cells := 1, slots := 6, locals := 277 }
theorem k_X7_reverse : g_CV yX7_reverse cX7_reverse 2 (some .int) 1 := ⟨⟨m_1157, m_1, by decide +kernel⟩, m_1155, m_1156⟩
set_option maxHeartbeats 4000000 in
set_option maxRecDepth 100000 in
theorem c_X7_reverse (l : Launch) (hl0 : l.stackTraces = false) (V : Nat → Nat) (g : GH) (D : va_G) (cT : Nat → ClassId) (f : GH) (n : Nat) (a0 : Nat) (a1 : Int32) (o : (Nat × GH) ⊕ (Int32 × GH)) (hq : p_X7_reverse V g f a0 a1 = some o) : vx_Met l yX7_reverse (Cond.code yX7_reverse cX7_reverse 2 (some .int) :: g_B) rm_X7_reverse (va_Pc [.ref a0, .int a1] (g_I V g D cT f n)) (g_Yi V D cT o n) (g_YX V D cT o) 1 6 (g_A V) := by
  refine g_beginX (own := RX7) [.ref a0, .int a1] [(0, .ref a0), (1, .int a1)] (g_A V) (fun _ h => h) (by decide) rfl (Nat.le_of_ble_eq_true rfl) rfl ?_
  intro p e s m args below meth c hx hb hr hlocks ht0 hC hI ls hl
  obtain ⟨hx, hb, hml, hown, hB⟩ := id hC
  obtain ⟨H, hH⟩ : ∃ H, H = s.heap := ⟨_, rfl⟩
  obtain ⟨locs, hlocs⟩ : ∃ L : List Loc, L = [] := ⟨_, rfl⟩
  rw [← hH, ← hlocs] at hI ⊢
  clear hH hlocs
  unfold p_X7_reverse at hq
  replace hq := (h_me_eq hq).2
  refine lv_aload_n hx hb dX7_reverse_0 rfl (lv_at hl 0 rfl) ?_
  obtain ⟨v1, ev1, hq⟩ := b_s hq
  refine fa_gr (own := RX7) (ref := "CoastlineRuler") (k := 10) hx hb hB inB_RX7 hown hI rfl (by decide) m_275 (fun _ h9 => h9) ev1 dX7_reverse_1 ?_
  refine fs_gs (i := 8) hx hb hown hI rfl (hB _ m_1158) (fun _ h9 => h9) dX7_reverse_4 ?_
  refine lv_iload_n hx hb dX7_reverse_7 rfl (lv_at hl 1 rfl) ?_
  refine lv_iconst (v := (0 : Int32)) hx hb dX7_reverse_8 (by decide) ?_
  refine lv_iconst (v := (0 : Int32)) hx hb dX7_reverse_9 (by decide) ?_
  refine lv_iconst (v := (0 : Int32)) hx hb dX7_reverse_10 (by decide) ?_
  obtain ⟨v2, ev2, hq⟩ := b_s hq
  refine gw_v (g_runV (As := [.ref (V 9), .int a1, .int (0 : Int32), .int (0 : Int32), .int (0 : Int32)]) (rest := []) (ci := 6) hC (c_X3_set l V g D cT f n v1 (V 9) a1 (0 : Int32) (0 : Int32) (0 : Int32) v2 ev2) k_X3_set m_354 rfl rfl ⟨Nat.le_of_ble_eq_true rfl, Nat.le_of_ble_eq_true rfl⟩ hI rfl rfl (h_me_eq ev2).1 rfl hl.1 rfl (Nat.le_of_ble_eq_true rfl) dX7_reverse_11 ⟨by decide, by decide⟩) hI (fun H locs hI => ?_)
  refine lv_aload_n hx hb dX7_reverse_14 rfl (lv_at hl 0 rfl) ?_
  rcases x_b_eq hq with ⟨v3, ev3, hq⟩ | ⟨v3, ev3, hq⟩
  · exact gt_WW hlocks ht0 (g_runVX (As := []) (rest := []) (ci := 9) hC (c_X7_change l hl0 V g D cT v2 n a0 (.inl v3) ev3) k_X7_change m_358 rfl rfl ⟨Nat.le_of_ble_eq_true rfl, Nat.le_of_ble_eq_true rfl⟩ hI rfl rfl (h_me_eq ev3).1 rfl hl.1 rfl (Nat.le_of_ble_eq_true rfl) dX7_reverse_15 ⟨by decide, by decide⟩) noy_i hI hq (by decide) (by decide)
  · refine gy_i (g_runVX (As := []) (rest := []) (ci := 9) hC (c_X7_change l hl0 V g D cT v2 n a0 (.inr v3) ev3) k_X7_change m_358 rfl rfl ⟨Nat.le_of_ble_eq_true rfl, Nat.le_of_ble_eq_true rfl⟩ hI rfl rfl (h_me_eq ev3).1 rfl hl.1 rfl (Nat.le_of_ble_eq_true rfl) dX7_reverse_15 ⟨by decide, by decide⟩) hI (fun H locs hI => ?_)
    exact ge_Yi hx hb hlocks hr rfl hI hq dX7_reverse_18

abbrev rm_X7_setKingMetric : Room := { frames := 10, cells := 1, slots := 6, locals := 277 }
theorem k_X7_setKingMetric : g_CV yX7_setKingMetric cX7_setKingMetric 2 (some .boolean) 1 := ⟨⟨m_352, m_1, by decide +kernel⟩, m_350, m_351⟩
set_option maxHeartbeats 4000000 in
set_option maxRecDepth 100000 in
theorem c_X7_setKingMetric (l : Launch) (hl0 : l.stackTraces = false) (V : Nat → Nat) (g : GH) (D : va_G) (cT : Nat → ClassId) (f : GH) (n : Nat) (a0 : Nat) (a1 : Int32) (o : (Nat × GH) ⊕ (Int32 × GH)) (hq : p_X7_setKingMetric V g f a0 a1 = some o) : vx_Met l yX7_setKingMetric (Cond.code yX7_setKingMetric cX7_setKingMetric 2 (some .boolean) :: g_B) rm_X7_setKingMetric (va_Pc [.ref a0, .int a1] (g_I V g D cT f n)) (g_Yi V D cT o n) (g_YX V D cT o) 1 6 (g_A V) := by
  refine g_beginX (own := RX7) [.ref a0, .int a1] [(0, .ref a0), (1, .int a1)] (g_A V) (fun _ h => h) (by decide) rfl (Nat.le_of_ble_eq_true rfl) rfl ?_
  intro p e s m args below meth c hx hb hr hlocks ht0 hC hI ls hl
  obtain ⟨hx, hb, hml, hown, hB⟩ := id hC
  obtain ⟨H, hH⟩ : ∃ H, H = s.heap := ⟨_, rfl⟩
  obtain ⟨locs, hlocs⟩ : ∃ L : List Loc, L = [] := ⟨_, rfl⟩
  rw [← hH, ← hlocs] at hI ⊢
  clear hH hlocs
  unfold p_X7_setKingMetric at hq
  replace hq := (h_me_eq hq).2
  refine lv_aload_n hx hb dX7_setKingMetric_0 rfl (lv_at hl 0 rfl) ?_
  obtain ⟨v1, ev1, hq⟩ := b_s hq
  refine fa_gr (own := RX7) (ref := "CoastlineRuler") (k := 10) hx hb hB inB_RX7 hown hI rfl (by decide) m_275 (fun _ h9 => h9) ev1 dX7_setKingMetric_1 ?_
  refine fs_gs (i := 10) hx hb hown hI rfl (hB _ m_353) (fun _ h9 => h9) dX7_setKingMetric_4 ?_
  refine lv_iconst (v := (0 : Int32)) hx hb dX7_setKingMetric_7 (by decide) ?_
  refine lv_iconst (v := (0 : Int32)) hx hb dX7_setKingMetric_8 (by decide) ?_
  refine lv_iconst (v := (0 : Int32)) hx hb dX7_setKingMetric_9 (by decide) ?_
  refine lv_iconst (v := (0 : Int32)) hx hb dX7_setKingMetric_10 (by decide) ?_
  obtain ⟨v2, ev2, hq⟩ := b_s hq
  refine gw_v (g_runV (As := [.ref (V 11), .int (0 : Int32), .int (0 : Int32), .int (0 : Int32), .int (0 : Int32)]) (rest := []) (ci := 6) hC (c_X3_set l V g D cT f n v1 (V 11) (0 : Int32) (0 : Int32) (0 : Int32) (0 : Int32) v2 ev2) k_X3_set m_354 rfl rfl ⟨Nat.le_of_ble_eq_true rfl, Nat.le_of_ble_eq_true rfl⟩ hI rfl rfl (h_me_eq ev2).1 rfl hl.1 rfl (Nat.le_of_ble_eq_true rfl) dX7_setKingMetric_11 ⟨by decide, by decide⟩) hI (fun H locs hI => ?_)
  refine lv_aload_n hx hb dX7_setKingMetric_14 rfl (lv_at hl 0 rfl) ?_
  obtain ⟨v3, ev3, hq⟩ := b_s hq
  refine fa_gr (own := RX7) (ref := "CoastlineRuler") (k := 10) hx hb hB inB_RX7 hown hI rfl (by decide) m_275 (fun _ h9 => h9) ev3 dX7_setKingMetric_15 ?_
  refine lv_iload_n hx hb dX7_setKingMetric_18 rfl (lv_at hl 1 rfl) ?_
  obtain ⟨_, ev4, hq⟩ := b_s hq
  obtain ⟨f5, ef5, hq⟩ := b_s hq
  refine fa_pt (own := RX7) (ref := "CoastlineRuler$Command") (k := 5) hx hb hB inB_RX3 tyX3_ok nmX3 hown hI rfl (by decide) m_186 (fun _ h9 => h9) (by decide) (h_bz_eq ev4).2.1 (h_bz_eq ev4).2.2 ef5 dX7_setKingMetric_19 (fun H locs hI => ?_)
  refine lv_aload_n hx hb dX7_setKingMetric_22 rfl (lv_at hl 0 rfl) ?_
  rcases x_b_eq hq with ⟨v6, ev6, hq⟩ | ⟨v6, ev6, hq⟩
  · exact gt_WW hlocks ht0 (g_runVX (As := []) (rest := []) (ci := 9) hC (c_X7_change l hl0 V g D cT f5 n a0 (.inl v6) ev6) k_X7_change m_358 rfl rfl ⟨Nat.le_of_ble_eq_true rfl, Nat.le_of_ble_eq_true rfl⟩ hI rfl rfl (h_me_eq ev6).1 rfl hl.1 rfl (Nat.le_of_ble_eq_true rfl) dX7_setKingMetric_23 ⟨by decide, by decide⟩) noy_i hI hq (by decide) (by decide)
  · refine gy_i (g_runVX (As := []) (rest := []) (ci := 9) hC (c_X7_change l hl0 V g D cT f5 n a0 (.inr v6) ev6) k_X7_change m_358 rfl rfl ⟨Nat.le_of_ble_eq_true rfl, Nat.le_of_ble_eq_true rfl⟩ hI rfl rfl (h_me_eq ev6).1 rfl hl.1 rfl (Nat.le_of_ble_eq_true rfl) dX7_setKingMetric_23 ⟨by decide, by decide⟩) hI (fun H locs hI => ?_)
    refine lv_iconst (v := (1 : Int32)) hx hb dX7_setKingMetric_26 (by decide) ?_
    refine lv_icmp_ne (tgt := 34) hx hb dX7_setKingMetric_27 (by decide) (fun c7 => ?_) (fun c7 => ?_)
    · replace hq := i_f c7 hq
      refine lv_iconst (v := (0 : Int32)) hx hb dX7_setKingMetric_34 (by decide) ?_
      exact ge_Yi hx hb hlocks hr (by decide +kernel) hI hq dX7_setKingMetric_35
    · replace hq := i_t c7 hq
      refine lv_iconst (v := (1 : Int32)) hx hb dX7_setKingMetric_30 (by decide) ?_
      refine lv_goto (tgt := 35) hx hb dX7_setKingMetric_31 (by decide) ?_
      exact ge_Yi hx hb hlocks hr (by decide +kernel) hI hq dX7_setKingMetric_35

abbrev rm_X7_runScript : Room := { frames := 11, cells := 1, slots := 6, locals := 317 }
theorem k_X7_runScript : g_CV yX7_runScript cX7_runScript 4 (some .int) 1 := ⟨⟨m_1166, m_1, by decide +kernel⟩, m_1164, m_1165⟩
set_option maxHeartbeats 4000000 in
set_option maxRecDepth 100000 in
theorem c_X7_runScript (l : Launch) (hl0 : l.stackTraces = false) (V : Nat → Nat) (g : GH) (D : va_G) (cT : Nat → ClassId) (f : GH) (n : Nat) (a0 : Nat) (a1 : Int32) (o : (Nat × GH) ⊕ (Int32 × GH)) (hq : p_X7_runScript V g f a0 a1 = some o) : vx_Met l yX7_runScript (Cond.code yX7_runScript cX7_runScript 4 (some .int) :: g_B) rm_X7_runScript (va_Pc [.ref a0, .int a1] (g_I V g D cT f n)) (g_Yi V D cT o n) (g_YX V D cT o) 1 6 (g_A V) := by
  refine g_beginX (own := RX7) [.ref a0, .int a1] [(0, .ref a0), (1, .int a1)] (g_A V) (fun _ h => h) (by decide) rfl (Nat.le_of_ble_eq_true rfl) rfl ?_
  intro p e s m args below meth c hx hb hr hlocks ht0 hC hI ls hl
  obtain ⟨hx, hb, hml, hown, hB⟩ := id hC
  obtain ⟨H, hH⟩ : ∃ H, H = s.heap := ⟨_, rfl⟩
  obtain ⟨locs, hlocs⟩ : ∃ L : List Loc, L = [] := ⟨_, rfl⟩
  rw [← hH, ← hlocs] at hI ⊢
  clear hH hlocs
  unfold p_X7_runScript at hq
  replace hq := (h_me_eq hq).2
  refine lv_aload_n hx hb dX7_runScript_0 rfl (lv_at hl 0 rfl) ?_
  refine lv_iload_n hx hb dX7_runScript_1 rfl (lv_at hl 1 rfl) ?_
  rcases x_b_eq hq with ⟨v1, ev1, hq⟩ | ⟨v1, ev1, hq⟩
  · exact gt_RW hlocks ht0 (g_runVX (As := [.int a1]) (rest := []) (ci := 9) hC (c_X7_requireText l hl0 V g D cT f n a0 a1 (.inl v1) ev1) k_X7_requireText m_614 rfl rfl ⟨Nat.le_of_ble_eq_true rfl, Nat.le_of_ble_eq_true rfl⟩ hI rfl rfl (h_me_eq ev1).1 rfl hl.1 rfl (Nat.le_of_ble_eq_true rfl) dX7_runScript_2 ⟨by decide, by decide⟩) no_v hI hq (by decide) (by decide)
  · refine gx_v (g_runVX (As := [.int a1]) (rest := []) (ci := 9) hC (c_X7_requireText l hl0 V g D cT f n a0 a1 (.inr v1) ev1) k_X7_requireText m_614 rfl rfl ⟨Nat.le_of_ble_eq_true rfl, Nat.le_of_ble_eq_true rfl⟩ hI rfl rfl (h_me_eq ev1).1 rfl hl.1 rfl (Nat.le_of_ble_eq_true rfl) dX7_runScript_2 ⟨by decide, by decide⟩) hI (fun H locs hI => ?_)
    refine lv_aload_n hx hb dX7_runScript_5 rfl (lv_at hl 0 rfl) ?_
    obtain ⟨v2, ev2, hq⟩ := b_s hq
    refine fa_gr (own := RX7) (ref := "CoastlineRuler") (k := 8) hx hb hB inB_RX7 hown hI rfl (by decide) m_273 (fun _ h9 => h9) ev2 dX7_runScript_6 ?_
    refine lv_iload_n hx hb dX7_runScript_9 rfl (lv_at hl 1 rfl) ?_
    refine lv_aload_n hx hb dX7_runScript_10 rfl (lv_at hl 0 rfl) ?_
    obtain ⟨v3, ev3, hq⟩ := b_s hq
    refine fa_gr (own := RX7) (ref := "CoastlineRuler") (k := 9) hx hb hB inB_RX7 hown hI rfl (by decide) m_274 (fun _ h9 => h9) ev3 dX7_runScript_11 ?_
    obtain ⟨v4, ev4, hq⟩ := b_s hq
    refine gw_i (g_runV (As := [.int a1, .ref v3]) (rest := []) (ci := 7) hC (c_X4_readScript l V g D cT f n v2 a1 v3 v4 ev4) k_X4_readScript m_1167 rfl rfl ⟨Nat.le_of_ble_eq_true rfl, Nat.le_of_ble_eq_true rfl⟩ hI rfl rfl (h_me_eq ev4).1 rfl hl.1 rfl (Nat.le_of_ble_eq_true rfl) dX7_runScript_14 ⟨by decide, by decide⟩) hI (fun H locs hI => ?_)
    refine lv_istore_n (lv' := [(2, .int v4.1), (0, .ref a0), (1, .int a1)]) hx hb dX7_runScript_17 rfl hl (by decide) rfl (fun ls hl => ?_)
    refine lv_aload_n hx hb dX7_runScript_18 rfl (lv_at hl 1 rfl) ?_
    obtain ⟨v5, ev5, hq⟩ := b_s hq
    refine fa_gr (own := RX7) (ref := "CoastlineRuler") (k := 7) hx hb hB inB_RX7 hown hI rfl (by decide) m_272 (fun _ h9 => h9) ev5 dX7_runScript_19 ?_
    refine lv_iconst (v := (0 : Int32)) hx hb dX7_runScript_22 (by decide) ?_
    obtain ⟨f6, ef6, hq⟩ := b_s hq
    refine fa_pt (own := RX7) (ref := "CoastlineRuler$Tokens") (k := 1) hx hb hB inB_RX5 tyX5_ok nmX5 hown hI rfl (by decide) m_111 (fun _ h9 => h9) (by decide) rfl rfl ef6 dX7_runScript_23 (fun H locs hI => ?_)
    refine lv_iload_n hx hb dX7_runScript_26 rfl (lv_at hl 0 rfl) ?_
    refine lv_if_ge (tgt := 32) hx hb dX7_runScript_27 (by decide) (fun c7 => ?_) (fun c7 => ?_)
    · replace hq := i_t c7 hq
      refine lv_aload_n hx hb dX7_runScript_32 rfl (lv_at hl 1 rfl) ?_
      obtain ⟨v8, ev8, hq⟩ := b_s hq
      refine gw_v (g_runV (As := []) (rest := []) (ci := 9) hC (c_X7_rememberChart l V g D cT f6 n a0 v8 ev8) k_X7_rememberChart m_537 rfl rfl ⟨Nat.le_of_ble_eq_true rfl, Nat.le_of_ble_eq_true rfl⟩ hI rfl rfl (h_me_eq ev8).1 rfl hl.1 rfl (Nat.le_of_ble_eq_true rfl) dX7_runScript_33 ⟨by decide, by decide⟩) hI (fun H locs hI => ?_)
      refine lv_iconst (v := (0 : Int32)) hx hb dX7_runScript_36 (by decide) ?_
      refine lv_istore_n (lv' := [(3, .int (0 : Int32)), (2, .int v4.1), (0, .ref a0), (1, .int a1)]) hx hb dX7_runScript_37 rfl hl (by decide) rfl (fun ls hl => ?_)
      have hl38 : ∀ (K59 : Int32 → GH → Option ((Nat × GH) ⊕ (Int32 × GH))) (hK59 : ∀ (x3 : Int32) (f : GH) (H : Heap) (locs : List Loc) (ls : Array Slot), g_at (g_A V) V g D cT f n s H locs → lv_has ls 4 [(3, .int x3)] → K59 x3 f = some o → W p l e rm_X7_runScript s m args below meth c H locs 1 6 (vx_MQ below (g_Yi V D cT o n) (g_YX V D cT o) args s 1 6 (g_A V)) (F0 m 59 ls [])) (K81 : Int32 → GH → Option ((Nat × GH) ⊕ (Int32 × GH))) (hK81 : ∀ (x2 : Int32) (f : GH) (H : Heap) (locs : List Loc) (ls : Array Slot), g_at (g_A V) V g D cT f n s H locs → lv_has ls 4 [(2, .int x2)] → K81 x2 f = some o → W p l e rm_X7_runScript s m args below meth c H locs 1 6 (vx_MQ below (g_Yi V D cT o n) (g_YX V D cT o) args s 1 6 (g_A V)) (F0 m 81 ls [])) (N : Nat) (x0 : Nat) (x2 : Int32) (x3 : Int32) (f : GH) (H : Heap) (locs : List Loc) (ls : Array Slot), g_at (g_A V) V g D cT f n s H locs → lv_has ls 4 [(0, .ref x0), (2, .int x2), (3, .int x3)] → p_X7_runScript_l38 V g K59 K81 N x0 x2 x3 f = some o → W p l e rm_X7_runScript s m args below meth c H locs 1 6 (vx_MQ below (g_Yi V D cT o n) (g_YX V D cT o) args s 1 6 (g_A V)) (F0 m 38 ls []) := by
        intro K59 hK59 K81 hK81 N
        induction N with
        | zero =>
          intro x0 x2 x3 f H locs ls hI hl hq
          rw [p_X7_runScript_l38] at hq
          cases hq
        | succ N ih =>
          intro x0 x2 x3 f H locs ls hI hl hq
          rw [p_X7_runScript_l38] at hq
          refine lv_iload_n hx hb dX7_runScript_38 rfl (lv_at hl 2 rfl) ?_
          refine lv_iload_n hx hb dX7_runScript_39 rfl (lv_at hl 1 rfl) ?_
          refine lv_icmp_ge (tgt := 81) hx hb dX7_runScript_40 (by decide) (fun c9 => ?_) (fun c9 => ?_)
          · replace hq := i_t c9 hq
            exact hK81 x2 f H locs ls hI (lv_sub hl [1] rfl) hq
          · replace hq := i_f c9 hq
            refine lv_aload_n hx hb dX7_runScript_43 rfl (lv_at hl 0 rfl) ?_
            obtain ⟨v10, ev10, hq⟩ := b_s hq
            refine fa_gr (own := RX7) (ref := "CoastlineRuler") (k := 0) hx hb hB inB_RX7 hown hI rfl (by decide) m_265 (fun _ h9 => h9) ev10 dX7_runScript_44 ?_
            refine lv_aload_n hx hb dX7_runScript_47 rfl (lv_at hl 0 rfl) ?_
            obtain ⟨v11, ev11, hq⟩ := b_s hq
            refine fa_gr (own := RX7) (ref := "CoastlineRuler") (k := 9) hx hb hB inB_RX7 hown hI rfl (by decide) m_274 (fun _ h9 => h9) ev11 dX7_runScript_48 ?_
            refine lv_iload_n hx hb dX7_runScript_51 rfl (lv_at hl 2 rfl) ?_
            obtain ⟨v12, ev12, hq⟩ := b_s hq
            refine fa_lq hx hb hI (by decide) rfl ev12 dX7_runScript_52 ?_
            obtain ⟨v13, ev13, hq⟩ := b_s hq
            refine gr_i (g_runV (As := [.ref v12]) (rest := []) (ci := 4) hC (c_X1_refusalOf l V g D cT f n v10 v12 v13 ev13) k_X1_refusalOf m_362 rfl rfl ⟨Nat.le_of_ble_eq_true rfl, Nat.le_of_ble_eq_true rfl⟩ hI rfl rfl (h_me_eq ev13).1 rfl hl.1 rfl (Nat.le_of_ble_eq_true rfl) dX7_runScript_53 ⟨by decide, by decide⟩) hI (fun H locs hI => ?_)
            refine lv_if_eq (tgt := 61) hx hb dX7_runScript_56 (by decide) (fun c14 => ?_) (fun c14 => ?_)
            · replace hq := i_t c14 hq
              refine lv_aload_n hx hb dX7_runScript_61 rfl (lv_at hl 0 rfl) ?_
              obtain ⟨v15, ev15, hq⟩ := b_s hq
              refine fa_gr (own := RX7) (ref := "CoastlineRuler") (k := 0) hx hb hB inB_RX7 hown hI rfl (by decide) m_265 (fun _ h9 => h9) ev15 dX7_runScript_62 ?_
              refine lv_aload_n hx hb dX7_runScript_65 rfl (lv_at hl 0 rfl) ?_
              obtain ⟨v16, ev16, hq⟩ := b_s hq
              refine fa_gr (own := RX7) (ref := "CoastlineRuler") (k := 9) hx hb hB inB_RX7 hown hI rfl (by decide) m_274 (fun _ h9 => h9) ev16 dX7_runScript_66 ?_
              refine lv_iload_n hx hb dX7_runScript_69 rfl (lv_at hl 2 rfl) ?_
              obtain ⟨v17, ev17, hq⟩ := b_s hq
              refine fa_lq hx hb hI (by decide) rfl ev17 dX7_runScript_70 ?_
              obtain ⟨v18, ev18, hq⟩ := b_s hq
              refine gw_i (g_runV (As := [.ref v17]) (rest := []) (ci := 4) hC (c_X1_apply l V g D cT f n v15 v17 v18 ev18) k_X1_apply m_549 rfl rfl ⟨Nat.le_of_ble_eq_true rfl, Nat.le_of_ble_eq_true rfl⟩ hI rfl rfl (h_me_eq ev18).1 rfl hl.1 rfl (Nat.le_of_ble_eq_true rfl) dX7_runScript_71 ⟨by decide, by decide⟩) hI (fun H locs hI => ?_)
              refine lv_pop hx hb dX7_runScript_74 rfl ?_
              refine lv_iinc (v := x3 + (1 : Int32)) (lv' := [(3, .int (x3 + (1 : Int32))), (0, .ref x0), (2, .int x2)]) hx hb dX7_runScript_75 hl (k := 2) rfl rfl (by decide) rfl (fun ls hl => ?_)
              refine lv_goto (tgt := 38) hx hb dX7_runScript_78 (by decide) ?_
              exact ih x0 x2 (x3 + (1 : Int32)) v18.2 H locs ls hI (lv_sub hl [1, 2, 0] rfl) hq
            · replace hq := i_f c14 hq
              exact hK59 x3 f H locs ls hI (lv_sub hl [2] rfl) hq
      refine hl38 _ ?_ _ ?_ FU a0 v4.1 (0 : Int32) v8 H locs ls hI (lv_sub hl [2, 1, 0] rfl) hq
      · intro x3 f H locs ls hI hl hq
        refine lv_iload_n hx hb dX7_runScript_59 rfl (lv_at hl 0 rfl) ?_
        exact ge_Yi hx hb hlocks hr rfl hI hq dX7_runScript_60
      · intro x2 f H locs ls hI hl hq
        refine lv_iload_n hx hb dX7_runScript_81 rfl (lv_at hl 0 rfl) ?_
        exact ge_Yi hx hb hlocks hr rfl hI hq dX7_runScript_82
    · replace hq := i_f c7 hq
      refine lv_iconst (v := (-1 : Int32)) hx hb dX7_runScript_30 (by decide) ?_
      exact ge_Yi hx hb hlocks hr rfl hI hq dX7_runScript_31

abbrev rm_X7_writeLengths : Room := { frames := 9, cells := 17, slots := 3206, locals := 255 }
theorem k_X7_writeLengths : g_CV yX7_writeLengths cX7_writeLengths 5 (some .int) 1 := ⟨⟨m_1187, m_1, by decide +kernel⟩, m_1185, m_1186⟩
set_option maxHeartbeats 4000000 in
set_option maxRecDepth 100000 in
theorem sg_X7_writeLengths_8 {p : Program} {l : Launch} (hl0 : l.stackTraces = false) {e : Env} {s : State} {m : MethodId} {args : Array Value} {below : List Frame} {meth : Method} {c : Code} {V : Nat → Nat} {g : GH} {D : va_G} {cT : Nat → ClassId} {o : (Nat × GH) ⊕ (Int32 × GH × Nat)} (hx : p.tables.exec = Jvm.exec) (hb : c.code = cX7_writeLengths) (hr : meth.sig.returnType = (some .int)) (hlocks : meth.locks = false) (ht0 : ∀ x ∈ c.exceptionTable.toList, False) (hC : CallFix p m c cX7_writeLengths 5 s args g_B RX7) : ∀ (x0 : Nat) (x2 : Nat) (x3 : Int32) (f : GH) (n : Nat) (H : Heap) (locs : List Loc) (ls : Array Slot), g_at (g_A V) V g D cT f n s H locs → lv_has ls 5 [(0, .ref x0), (2, .ref x2), (3, .int x3), (4, .int (7 : Int32))] → p_X7_writeLengths_s8 V g x0 x2 x3 f n = some o → W p l e rm_X7_writeLengths s m args below meth c H locs 17 3206 (vx_MQ below (g_Zi V D cT o) (g_YX V D cT o) args s 17 3206 (g_A V)) (F0 m 103 ls []) := by
  intro x0 x2 x3 f n H locs ls hI hl hq
  obtain ⟨_, _, hml, hown, hB⟩ := id hC
  unfold p_X7_writeLengths_s8 at hq
  refine lv_iinc (v := (8 : Int32)) (lv' := [(4, .int (8 : Int32)), (0, .ref x0), (2, .ref x2), (3, .int x3)]) hx hb dX7_writeLengths_103 hl (k := 3) rfl (by decide) (by decide) rfl (fun ls hl => ?_)
  refine lv_goto (tgt := 50) hx hb dX7_writeLengths_106 (by decide) ?_
  refine lv_iload hx hb dX7_writeLengths_50 (lv_at hl 0 rfl) ?_
  refine lv_bipush (v := (7 : Int32)) hx hb dX7_writeLengths_52 (by decide) ?_
  refine lv_icmp_gt (tgt := 109) hx hb dX7_writeLengths_54 (by decide) (fun _ => ?_) (fun c => absurd (by decide) c)
  refine lv_aload_n hx hb dX7_writeLengths_109 rfl (lv_at hl 1 rfl) ?_
  obtain ⟨v73, ev73, hq⟩ := b_s hq
  refine fa_gr (own := RX7) (ref := "CoastlineRuler") (k := 12) hx hb hB inB_RX7 hown hI rfl (by decide) m_277 (fun _ h9 => h9) ev73 dX7_writeLengths_110 ?_
  obtain ⟨v74, ev74, hq⟩ := b_s hq
  refine gr_i (g_runV (As := []) (rest := []) (ci := 1) hC (c_J4_length_8abf5 l V g D cT f n v73 v74 ev74) k_J4_length_8abf5 m_1449 rfl rfl ⟨Nat.le_of_ble_eq_true rfl, Nat.le_of_ble_eq_true rfl⟩ hI rfl rfl (h_me_eq ev74).1 rfl hl.1 rfl (Nat.le_of_ble_eq_true rfl) dX7_writeLengths_113 ⟨by decide, by decide⟩) hI (fun H locs hI => ?_)
  exact ge_Zi hx hb hlocks hr rfl hI hq dX7_writeLengths_116

set_option maxHeartbeats 4000000 in
set_option maxRecDepth 100000 in
theorem sg_X7_writeLengths_7 {p : Program} {l : Launch} (hl0 : l.stackTraces = false) {e : Env} {s : State} {m : MethodId} {args : Array Value} {below : List Frame} {meth : Method} {c : Code} {V : Nat → Nat} {g : GH} {D : va_G} {cT : Nat → ClassId} {o : (Nat × GH) ⊕ (Int32 × GH × Nat)} (hx : p.tables.exec = Jvm.exec) (hb : c.code = cX7_writeLengths) (hr : meth.sig.returnType = (some .int)) (hlocks : meth.locks = false) (ht0 : ∀ x ∈ c.exceptionTable.toList, False) (hC : CallFix p m c cX7_writeLengths 5 s args g_B RX7) : ∀ (x0 : Nat) (x2 : Nat) (x3 : Int32) (f : GH) (n : Nat) (H : Heap) (locs : List Loc) (ls : Array Slot), g_at (g_A V) V g D cT f n s H locs → lv_has ls 5 [(0, .ref x0), (2, .ref x2), (3, .int x3), (4, .int (6 : Int32))] → p_X7_writeLengths_s7 V g x0 x2 x3 f n = some o → W p l e rm_X7_writeLengths s m args below meth c H locs 15 2806 (vx_MQ below (g_Zi V D cT o) (g_YX V D cT o) args s 17 3206 (g_A V)) (F0 m 103 ls []) := by
  intro x0 x2 x3 f n H locs ls hI hl hq
  obtain ⟨_, _, hml, hown, hB⟩ := id hC
  unfold p_X7_writeLengths_s7 at hq
  refine lv_iinc (v := (7 : Int32)) (lv' := [(4, .int (7 : Int32)), (0, .ref x0), (2, .ref x2), (3, .int x3)]) hx hb dX7_writeLengths_103 hl (k := 3) rfl (by decide) (by decide) rfl (fun ls hl => ?_)
  refine lv_goto (tgt := 50) hx hb dX7_writeLengths_106 (by decide) ?_
  refine lv_iload hx hb dX7_writeLengths_50 (lv_at hl 0 rfl) ?_
  refine lv_bipush (v := (7 : Int32)) hx hb dX7_writeLengths_52 (by decide) ?_
  refine lv_icmp_gt (tgt := 109) hx hb dX7_writeLengths_54 (by decide) (fun c => absurd c (by decide)) (fun _ => ?_)
  refine lv_aload_n hx hb dX7_writeLengths_57 rfl (lv_at hl 2 rfl) ?_
  refine lv_iload hx hb dX7_writeLengths_58 (lv_at hl 0 rfl) ?_
  refine lv_iconst (v := (1 : Int32)) hx hb dX7_writeLengths_60 (by decide) ?_
  refine lv_isub hx hb dX7_writeLengths_61 ?_
  obtain ⟨v64, ev64, hq⟩ := b_s hq
  refine gr_i (g_runV (As := [.int ((7 : Int32) - (1 : Int32))]) (rest := []) (ci := 5) hC (c_X2_sticks l V g D cT f n x2 ((7 : Int32) - (1 : Int32)) v64 ev64) k_X2_sticks m_840 rfl rfl ⟨Nat.le_of_ble_eq_true rfl, Nat.le_of_ble_eq_true rfl⟩ hI rfl rfl (h_me_eq ev64).1 rfl hl.1 rfl (Nat.le_of_ble_eq_true rfl) dX7_writeLengths_62 ⟨by decide, by decide⟩) hI (fun H locs hI => ?_)
  refine lv_iload_n hx hb dX7_writeLengths_65 rfl (lv_at hl 3 rfl) ?_
  refine lv_icmp_gt (tgt := 72) hx hb dX7_writeLengths_66 (by decide) (fun c65 => ?_) (fun c65 => ?_)
  · replace hq := i_t c65 hq
    refine lv_aload_n hx hb dX7_writeLengths_72 rfl (lv_at hl 1 rfl) ?_
    obtain ⟨v66, ev66, hq⟩ := b_s hq
    refine fa_gr (own := RX7) (ref := "CoastlineRuler") (k := 12) hx hb hB inB_RX7 hown hI rfl (by decide) m_277 (fun _ h9 => h9) ev66 dX7_writeLengths_73 ?_
    refine lv_bipush (v := (32 : Int32)) hx hb dX7_writeLengths_76 (by decide) ?_
    obtain ⟨v67, ev67, hq⟩ := b_s hq
    refine gw_r (g_runV (As := [.int (32 : Int32)]) (rest := []) (ci := 1) hC (c_J4_append_cf468 l V g D cT f n v66 (32 : Int32) v67 ev67) k_J4_append_cf468 m_1436 rfl rfl ⟨Nat.le_of_ble_eq_true rfl, Nat.le_of_ble_eq_true rfl⟩ hI rfl rfl (h_me_eq ev67).1 rfl hl.1 rfl (Nat.le_of_ble_eq_true rfl) dX7_writeLengths_78 ⟨by decide, by decide⟩) hI (fun H locs hI => ?_)
    refine lv_pop hx hb dX7_writeLengths_81 rfl ?_
    refine lv_aload_n hx hb dX7_writeLengths_82 rfl (lv_at hl 1 rfl) ?_
    obtain ⟨v68, ev68, hq⟩ := b_s hq
    refine fa_gr (own := RX7) (ref := "CoastlineRuler") (k := 12) hx hb hB inB_RX7 hown hI rfl (by decide) m_277 (fun _ h9 => h9) ev68 dX7_writeLengths_83 ?_
    refine lv_aload_n hx hb dX7_writeLengths_86 rfl (lv_at hl 2 rfl) ?_
    refine lv_iload hx hb dX7_writeLengths_87 (lv_at hl 0 rfl) ?_
    refine lv_aload_n hx hb dX7_writeLengths_89 rfl (lv_at hl 1 rfl) ?_
    obtain ⟨v69, ev69, hq⟩ := b_s hq
    refine fa_gr (own := RX7) (ref := "CoastlineRuler") (k := 0) hx hb hB inB_RX7 hown hI rfl (by decide) m_265 (fun _ h9 => h9) ev69 dX7_writeLengths_90 ?_
    obtain ⟨v70, ev70, hq⟩ := b_s hq
    refine fa_gi (own := RX7) (ref := "CoastlineRuler$Chart") (k := 2) hx hb hB inB_RX1 hown hI rfl (by decide) m_83 (fun _ h9 => h9) ev70 dX7_writeLengths_93 ?_
    obtain ⟨v71, ev71, hq⟩ := b_s hq
    refine gr_i (g_runV (As := [.int (7 : Int32), .int v70]) (rest := [.ref v68]) (ci := 5) hC (c_X2_measure l V g D cT v67.2.1 v67.2.2 x2 (7 : Int32) v70 v71 ev71) k_X2_measure m_812 rfl rfl ⟨Nat.le_of_ble_eq_true rfl, Nat.le_of_ble_eq_true rfl⟩ hI rfl rfl (h_me_eq ev71).1 rfl hl.1 rfl (Nat.le_of_ble_eq_true rfl) dX7_writeLengths_96 ⟨by decide, by decide⟩) hI (fun H locs hI => ?_)
    obtain ⟨v72, ev72, hq⟩ := b_s hq
    refine gw_r (g_runV (As := [.int v71]) (rest := []) (ci := 1) hC (c_J4_append_bf812 l V g D cT v67.2.1 v67.2.2 v68 v71 v72 ev72) k_J4_append_bf812 m_1435 rfl rfl ⟨Nat.le_of_ble_eq_true rfl, Nat.le_of_ble_eq_true rfl⟩ hI rfl rfl (h_me_eq ev72).1 rfl hl.1 rfl (Nat.le_of_ble_eq_true rfl) dX7_writeLengths_99 ⟨by decide, by decide⟩) hI (fun H locs hI => ?_)
    refine lv_pop hx hb dX7_writeLengths_102 rfl ?_
    exact sg_X7_writeLengths_8 hl0 hx hb hr hlocks ht0 hC x0 x2 x3 v72.2.1 v72.2.2 H locs ls hI (lv_sub hl [1, 2, 3, 0] rfl) hq
  · replace hq := i_f c65 hq
    refine lv_goto (tgt := 109) hx hb dX7_writeLengths_69 (by decide) ?_
    refine lv_aload_n hx hb dX7_writeLengths_109 rfl (lv_at hl 1 rfl) ?_
    obtain ⟨v75, ev75, hq⟩ := b_s hq
    refine fa_gr (own := RX7) (ref := "CoastlineRuler") (k := 12) hx hb hB inB_RX7 hown hI rfl (by decide) m_277 (fun _ h9 => h9) ev75 dX7_writeLengths_110 ?_
    obtain ⟨v76, ev76, hq⟩ := b_s hq
    refine gr_i (g_runV (As := []) (rest := []) (ci := 1) hC (c_J4_length_8abf5 l V g D cT f n v75 v76 ev76) k_J4_length_8abf5 m_1449 rfl rfl ⟨Nat.le_of_ble_eq_true rfl, Nat.le_of_ble_eq_true rfl⟩ hI rfl rfl (h_me_eq ev76).1 rfl hl.1 rfl (Nat.le_of_ble_eq_true rfl) dX7_writeLengths_113 ⟨by decide, by decide⟩) hI (fun H locs hI => ?_)
    refine W.widen (k := 17) (n := 3206) (by decide) (by decide) ?_
    exact ge_Zi hx hb hlocks hr rfl hI hq dX7_writeLengths_116

set_option maxHeartbeats 4000000 in
set_option maxRecDepth 100000 in
theorem sg_X7_writeLengths_6 {p : Program} {l : Launch} (hl0 : l.stackTraces = false) {e : Env} {s : State} {m : MethodId} {args : Array Value} {below : List Frame} {meth : Method} {c : Code} {V : Nat → Nat} {g : GH} {D : va_G} {cT : Nat → ClassId} {o : (Nat × GH) ⊕ (Int32 × GH × Nat)} (hx : p.tables.exec = Jvm.exec) (hb : c.code = cX7_writeLengths) (hr : meth.sig.returnType = (some .int)) (hlocks : meth.locks = false) (ht0 : ∀ x ∈ c.exceptionTable.toList, False) (hC : CallFix p m c cX7_writeLengths 5 s args g_B RX7) : ∀ (x0 : Nat) (x2 : Nat) (x3 : Int32) (f : GH) (n : Nat) (H : Heap) (locs : List Loc) (ls : Array Slot), g_at (g_A V) V g D cT f n s H locs → lv_has ls 5 [(0, .ref x0), (2, .ref x2), (3, .int x3), (4, .int (5 : Int32))] → p_X7_writeLengths_s6 V g x0 x2 x3 f n = some o → W p l e rm_X7_writeLengths s m args below meth c H locs 13 2406 (vx_MQ below (g_Zi V D cT o) (g_YX V D cT o) args s 17 3206 (g_A V)) (F0 m 103 ls []) := by
  intro x0 x2 x3 f n H locs ls hI hl hq
  obtain ⟨_, _, hml, hown, hB⟩ := id hC
  unfold p_X7_writeLengths_s6 at hq
  refine lv_iinc (v := (6 : Int32)) (lv' := [(4, .int (6 : Int32)), (0, .ref x0), (2, .ref x2), (3, .int x3)]) hx hb dX7_writeLengths_103 hl (k := 3) rfl (by decide) (by decide) rfl (fun ls hl => ?_)
  refine lv_goto (tgt := 50) hx hb dX7_writeLengths_106 (by decide) ?_
  refine lv_iload hx hb dX7_writeLengths_50 (lv_at hl 0 rfl) ?_
  refine lv_bipush (v := (7 : Int32)) hx hb dX7_writeLengths_52 (by decide) ?_
  refine lv_icmp_gt (tgt := 109) hx hb dX7_writeLengths_54 (by decide) (fun c => absurd c (by decide)) (fun _ => ?_)
  refine lv_aload_n hx hb dX7_writeLengths_57 rfl (lv_at hl 2 rfl) ?_
  refine lv_iload hx hb dX7_writeLengths_58 (lv_at hl 0 rfl) ?_
  refine lv_iconst (v := (1 : Int32)) hx hb dX7_writeLengths_60 (by decide) ?_
  refine lv_isub hx hb dX7_writeLengths_61 ?_
  obtain ⟨v55, ev55, hq⟩ := b_s hq
  refine gr_i (g_runV (As := [.int ((6 : Int32) - (1 : Int32))]) (rest := []) (ci := 5) hC (c_X2_sticks l V g D cT f n x2 ((6 : Int32) - (1 : Int32)) v55 ev55) k_X2_sticks m_840 rfl rfl ⟨Nat.le_of_ble_eq_true rfl, Nat.le_of_ble_eq_true rfl⟩ hI rfl rfl (h_me_eq ev55).1 rfl hl.1 rfl (Nat.le_of_ble_eq_true rfl) dX7_writeLengths_62 ⟨by decide, by decide⟩) hI (fun H locs hI => ?_)
  refine lv_iload_n hx hb dX7_writeLengths_65 rfl (lv_at hl 3 rfl) ?_
  refine lv_icmp_gt (tgt := 72) hx hb dX7_writeLengths_66 (by decide) (fun c56 => ?_) (fun c56 => ?_)
  · replace hq := i_t c56 hq
    refine lv_aload_n hx hb dX7_writeLengths_72 rfl (lv_at hl 1 rfl) ?_
    obtain ⟨v57, ev57, hq⟩ := b_s hq
    refine fa_gr (own := RX7) (ref := "CoastlineRuler") (k := 12) hx hb hB inB_RX7 hown hI rfl (by decide) m_277 (fun _ h9 => h9) ev57 dX7_writeLengths_73 ?_
    refine lv_bipush (v := (32 : Int32)) hx hb dX7_writeLengths_76 (by decide) ?_
    obtain ⟨v58, ev58, hq⟩ := b_s hq
    refine gw_r (g_runV (As := [.int (32 : Int32)]) (rest := []) (ci := 1) hC (c_J4_append_cf468 l V g D cT f n v57 (32 : Int32) v58 ev58) k_J4_append_cf468 m_1436 rfl rfl ⟨Nat.le_of_ble_eq_true rfl, Nat.le_of_ble_eq_true rfl⟩ hI rfl rfl (h_me_eq ev58).1 rfl hl.1 rfl (Nat.le_of_ble_eq_true rfl) dX7_writeLengths_78 ⟨by decide, by decide⟩) hI (fun H locs hI => ?_)
    refine lv_pop hx hb dX7_writeLengths_81 rfl ?_
    refine lv_aload_n hx hb dX7_writeLengths_82 rfl (lv_at hl 1 rfl) ?_
    obtain ⟨v59, ev59, hq⟩ := b_s hq
    refine fa_gr (own := RX7) (ref := "CoastlineRuler") (k := 12) hx hb hB inB_RX7 hown hI rfl (by decide) m_277 (fun _ h9 => h9) ev59 dX7_writeLengths_83 ?_
    refine lv_aload_n hx hb dX7_writeLengths_86 rfl (lv_at hl 2 rfl) ?_
    refine lv_iload hx hb dX7_writeLengths_87 (lv_at hl 0 rfl) ?_
    refine lv_aload_n hx hb dX7_writeLengths_89 rfl (lv_at hl 1 rfl) ?_
    obtain ⟨v60, ev60, hq⟩ := b_s hq
    refine fa_gr (own := RX7) (ref := "CoastlineRuler") (k := 0) hx hb hB inB_RX7 hown hI rfl (by decide) m_265 (fun _ h9 => h9) ev60 dX7_writeLengths_90 ?_
    obtain ⟨v61, ev61, hq⟩ := b_s hq
    refine fa_gi (own := RX7) (ref := "CoastlineRuler$Chart") (k := 2) hx hb hB inB_RX1 hown hI rfl (by decide) m_83 (fun _ h9 => h9) ev61 dX7_writeLengths_93 ?_
    obtain ⟨v62, ev62, hq⟩ := b_s hq
    refine gr_i (g_runV (As := [.int (6 : Int32), .int v61]) (rest := [.ref v59]) (ci := 5) hC (c_X2_measure l V g D cT v58.2.1 v58.2.2 x2 (6 : Int32) v61 v62 ev62) k_X2_measure m_812 rfl rfl ⟨Nat.le_of_ble_eq_true rfl, Nat.le_of_ble_eq_true rfl⟩ hI rfl rfl (h_me_eq ev62).1 rfl hl.1 rfl (Nat.le_of_ble_eq_true rfl) dX7_writeLengths_96 ⟨by decide, by decide⟩) hI (fun H locs hI => ?_)
    obtain ⟨v63, ev63, hq⟩ := b_s hq
    refine gw_r (g_runV (As := [.int v62]) (rest := []) (ci := 1) hC (c_J4_append_bf812 l V g D cT v58.2.1 v58.2.2 v59 v62 v63 ev63) k_J4_append_bf812 m_1435 rfl rfl ⟨Nat.le_of_ble_eq_true rfl, Nat.le_of_ble_eq_true rfl⟩ hI rfl rfl (h_me_eq ev63).1 rfl hl.1 rfl (Nat.le_of_ble_eq_true rfl) dX7_writeLengths_99 ⟨by decide, by decide⟩) hI (fun H locs hI => ?_)
    refine lv_pop hx hb dX7_writeLengths_102 rfl ?_
    exact sg_X7_writeLengths_7 hl0 hx hb hr hlocks ht0 hC x0 x2 x3 v63.2.1 v63.2.2 H locs ls hI (lv_sub hl [1, 2, 3, 0] rfl) hq
  · replace hq := i_f c56 hq
    refine lv_goto (tgt := 109) hx hb dX7_writeLengths_69 (by decide) ?_
    refine lv_aload_n hx hb dX7_writeLengths_109 rfl (lv_at hl 1 rfl) ?_
    obtain ⟨v77, ev77, hq⟩ := b_s hq
    refine fa_gr (own := RX7) (ref := "CoastlineRuler") (k := 12) hx hb hB inB_RX7 hown hI rfl (by decide) m_277 (fun _ h9 => h9) ev77 dX7_writeLengths_110 ?_
    obtain ⟨v78, ev78, hq⟩ := b_s hq
    refine gr_i (g_runV (As := []) (rest := []) (ci := 1) hC (c_J4_length_8abf5 l V g D cT f n v77 v78 ev78) k_J4_length_8abf5 m_1449 rfl rfl ⟨Nat.le_of_ble_eq_true rfl, Nat.le_of_ble_eq_true rfl⟩ hI rfl rfl (h_me_eq ev78).1 rfl hl.1 rfl (Nat.le_of_ble_eq_true rfl) dX7_writeLengths_113 ⟨by decide, by decide⟩) hI (fun H locs hI => ?_)
    refine W.widen (k := 17) (n := 3206) (by decide) (by decide) ?_
    exact ge_Zi hx hb hlocks hr rfl hI hq dX7_writeLengths_116

set_option maxHeartbeats 4000000 in
set_option maxRecDepth 100000 in
theorem sg_X7_writeLengths_5 {p : Program} {l : Launch} (hl0 : l.stackTraces = false) {e : Env} {s : State} {m : MethodId} {args : Array Value} {below : List Frame} {meth : Method} {c : Code} {V : Nat → Nat} {g : GH} {D : va_G} {cT : Nat → ClassId} {o : (Nat × GH) ⊕ (Int32 × GH × Nat)} (hx : p.tables.exec = Jvm.exec) (hb : c.code = cX7_writeLengths) (hr : meth.sig.returnType = (some .int)) (hlocks : meth.locks = false) (ht0 : ∀ x ∈ c.exceptionTable.toList, False) (hC : CallFix p m c cX7_writeLengths 5 s args g_B RX7) : ∀ (x0 : Nat) (x2 : Nat) (x3 : Int32) (f : GH) (n : Nat) (H : Heap) (locs : List Loc) (ls : Array Slot), g_at (g_A V) V g D cT f n s H locs → lv_has ls 5 [(0, .ref x0), (2, .ref x2), (3, .int x3), (4, .int (4 : Int32))] → p_X7_writeLengths_s5 V g x0 x2 x3 f n = some o → W p l e rm_X7_writeLengths s m args below meth c H locs 11 2006 (vx_MQ below (g_Zi V D cT o) (g_YX V D cT o) args s 17 3206 (g_A V)) (F0 m 103 ls []) := by
  intro x0 x2 x3 f n H locs ls hI hl hq
  obtain ⟨_, _, hml, hown, hB⟩ := id hC
  unfold p_X7_writeLengths_s5 at hq
  refine lv_iinc (v := (5 : Int32)) (lv' := [(4, .int (5 : Int32)), (0, .ref x0), (2, .ref x2), (3, .int x3)]) hx hb dX7_writeLengths_103 hl (k := 3) rfl (by decide) (by decide) rfl (fun ls hl => ?_)
  refine lv_goto (tgt := 50) hx hb dX7_writeLengths_106 (by decide) ?_
  refine lv_iload hx hb dX7_writeLengths_50 (lv_at hl 0 rfl) ?_
  refine lv_bipush (v := (7 : Int32)) hx hb dX7_writeLengths_52 (by decide) ?_
  refine lv_icmp_gt (tgt := 109) hx hb dX7_writeLengths_54 (by decide) (fun c => absurd c (by decide)) (fun _ => ?_)
  refine lv_aload_n hx hb dX7_writeLengths_57 rfl (lv_at hl 2 rfl) ?_
  refine lv_iload hx hb dX7_writeLengths_58 (lv_at hl 0 rfl) ?_
  refine lv_iconst (v := (1 : Int32)) hx hb dX7_writeLengths_60 (by decide) ?_
  refine lv_isub hx hb dX7_writeLengths_61 ?_
  obtain ⟨v46, ev46, hq⟩ := b_s hq
  refine gr_i (g_runV (As := [.int ((5 : Int32) - (1 : Int32))]) (rest := []) (ci := 5) hC (c_X2_sticks l V g D cT f n x2 ((5 : Int32) - (1 : Int32)) v46 ev46) k_X2_sticks m_840 rfl rfl ⟨Nat.le_of_ble_eq_true rfl, Nat.le_of_ble_eq_true rfl⟩ hI rfl rfl (h_me_eq ev46).1 rfl hl.1 rfl (Nat.le_of_ble_eq_true rfl) dX7_writeLengths_62 ⟨by decide, by decide⟩) hI (fun H locs hI => ?_)
  refine lv_iload_n hx hb dX7_writeLengths_65 rfl (lv_at hl 3 rfl) ?_
  refine lv_icmp_gt (tgt := 72) hx hb dX7_writeLengths_66 (by decide) (fun c47 => ?_) (fun c47 => ?_)
  · replace hq := i_t c47 hq
    refine lv_aload_n hx hb dX7_writeLengths_72 rfl (lv_at hl 1 rfl) ?_
    obtain ⟨v48, ev48, hq⟩ := b_s hq
    refine fa_gr (own := RX7) (ref := "CoastlineRuler") (k := 12) hx hb hB inB_RX7 hown hI rfl (by decide) m_277 (fun _ h9 => h9) ev48 dX7_writeLengths_73 ?_
    refine lv_bipush (v := (32 : Int32)) hx hb dX7_writeLengths_76 (by decide) ?_
    obtain ⟨v49, ev49, hq⟩ := b_s hq
    refine gw_r (g_runV (As := [.int (32 : Int32)]) (rest := []) (ci := 1) hC (c_J4_append_cf468 l V g D cT f n v48 (32 : Int32) v49 ev49) k_J4_append_cf468 m_1436 rfl rfl ⟨Nat.le_of_ble_eq_true rfl, Nat.le_of_ble_eq_true rfl⟩ hI rfl rfl (h_me_eq ev49).1 rfl hl.1 rfl (Nat.le_of_ble_eq_true rfl) dX7_writeLengths_78 ⟨by decide, by decide⟩) hI (fun H locs hI => ?_)
    refine lv_pop hx hb dX7_writeLengths_81 rfl ?_
    refine lv_aload_n hx hb dX7_writeLengths_82 rfl (lv_at hl 1 rfl) ?_
    obtain ⟨v50, ev50, hq⟩ := b_s hq
    refine fa_gr (own := RX7) (ref := "CoastlineRuler") (k := 12) hx hb hB inB_RX7 hown hI rfl (by decide) m_277 (fun _ h9 => h9) ev50 dX7_writeLengths_83 ?_
    refine lv_aload_n hx hb dX7_writeLengths_86 rfl (lv_at hl 2 rfl) ?_
    refine lv_iload hx hb dX7_writeLengths_87 (lv_at hl 0 rfl) ?_
    refine lv_aload_n hx hb dX7_writeLengths_89 rfl (lv_at hl 1 rfl) ?_
    obtain ⟨v51, ev51, hq⟩ := b_s hq
    refine fa_gr (own := RX7) (ref := "CoastlineRuler") (k := 0) hx hb hB inB_RX7 hown hI rfl (by decide) m_265 (fun _ h9 => h9) ev51 dX7_writeLengths_90 ?_
    obtain ⟨v52, ev52, hq⟩ := b_s hq
    refine fa_gi (own := RX7) (ref := "CoastlineRuler$Chart") (k := 2) hx hb hB inB_RX1 hown hI rfl (by decide) m_83 (fun _ h9 => h9) ev52 dX7_writeLengths_93 ?_
    obtain ⟨v53, ev53, hq⟩ := b_s hq
    refine gr_i (g_runV (As := [.int (5 : Int32), .int v52]) (rest := [.ref v50]) (ci := 5) hC (c_X2_measure l V g D cT v49.2.1 v49.2.2 x2 (5 : Int32) v52 v53 ev53) k_X2_measure m_812 rfl rfl ⟨Nat.le_of_ble_eq_true rfl, Nat.le_of_ble_eq_true rfl⟩ hI rfl rfl (h_me_eq ev53).1 rfl hl.1 rfl (Nat.le_of_ble_eq_true rfl) dX7_writeLengths_96 ⟨by decide, by decide⟩) hI (fun H locs hI => ?_)
    obtain ⟨v54, ev54, hq⟩ := b_s hq
    refine gw_r (g_runV (As := [.int v53]) (rest := []) (ci := 1) hC (c_J4_append_bf812 l V g D cT v49.2.1 v49.2.2 v50 v53 v54 ev54) k_J4_append_bf812 m_1435 rfl rfl ⟨Nat.le_of_ble_eq_true rfl, Nat.le_of_ble_eq_true rfl⟩ hI rfl rfl (h_me_eq ev54).1 rfl hl.1 rfl (Nat.le_of_ble_eq_true rfl) dX7_writeLengths_99 ⟨by decide, by decide⟩) hI (fun H locs hI => ?_)
    refine lv_pop hx hb dX7_writeLengths_102 rfl ?_
    exact sg_X7_writeLengths_6 hl0 hx hb hr hlocks ht0 hC x0 x2 x3 v54.2.1 v54.2.2 H locs ls hI (lv_sub hl [1, 2, 3, 0] rfl) hq
  · replace hq := i_f c47 hq
    refine lv_goto (tgt := 109) hx hb dX7_writeLengths_69 (by decide) ?_
    refine lv_aload_n hx hb dX7_writeLengths_109 rfl (lv_at hl 1 rfl) ?_
    obtain ⟨v79, ev79, hq⟩ := b_s hq
    refine fa_gr (own := RX7) (ref := "CoastlineRuler") (k := 12) hx hb hB inB_RX7 hown hI rfl (by decide) m_277 (fun _ h9 => h9) ev79 dX7_writeLengths_110 ?_
    obtain ⟨v80, ev80, hq⟩ := b_s hq
    refine gr_i (g_runV (As := []) (rest := []) (ci := 1) hC (c_J4_length_8abf5 l V g D cT f n v79 v80 ev80) k_J4_length_8abf5 m_1449 rfl rfl ⟨Nat.le_of_ble_eq_true rfl, Nat.le_of_ble_eq_true rfl⟩ hI rfl rfl (h_me_eq ev80).1 rfl hl.1 rfl (Nat.le_of_ble_eq_true rfl) dX7_writeLengths_113 ⟨by decide, by decide⟩) hI (fun H locs hI => ?_)
    refine W.widen (k := 17) (n := 3206) (by decide) (by decide) ?_
    exact ge_Zi hx hb hlocks hr rfl hI hq dX7_writeLengths_116

set_option maxHeartbeats 4000000 in
set_option maxRecDepth 100000 in
theorem sg_X7_writeLengths_9 {p : Program} {l : Launch} (hl0 : l.stackTraces = false) {e : Env} {s : State} {m : MethodId} {args : Array Value} {below : List Frame} {meth : Method} {c : Code} {V : Nat → Nat} {g : GH} {D : va_G} {cT : Nat → ClassId} {o : (Nat × GH) ⊕ (Int32 × GH × Nat)} (hx : p.tables.exec = Jvm.exec) (hb : c.code = cX7_writeLengths) (hr : meth.sig.returnType = (some .int)) (hlocks : meth.locks = false) (ht0 : ∀ x ∈ c.exceptionTable.toList, False) (hC : CallFix p m c cX7_writeLengths 5 s args g_B RX7) : ∀ (x0 : Nat) (f : GH) (n : Nat) (H : Heap) (locs : List Loc) (ls : Array Slot), g_at (g_A V) V g D cT f n s H locs → lv_has ls 5 [(0, .ref x0)] → p_X7_writeLengths_s9 V g x0 f n = some o → W p l e rm_X7_writeLengths s m args below meth c H locs 9 1606 (vx_MQ below (g_Zi V D cT o) (g_YX V D cT o) args s 17 3206 (g_A V)) (F0 m 69 ls []) := by
  intro x0 f n H locs ls hI hl hq
  obtain ⟨_, _, hml, hown, hB⟩ := id hC
  unfold p_X7_writeLengths_s9 at hq
  refine lv_goto (tgt := 109) hx hb dX7_writeLengths_69 (by decide) ?_
  refine lv_aload_n hx hb dX7_writeLengths_109 rfl (lv_at hl 0 rfl) ?_
  obtain ⟨v81, ev81, hq⟩ := b_s hq
  refine fa_gr (own := RX7) (ref := "CoastlineRuler") (k := 12) hx hb hB inB_RX7 hown hI rfl (by decide) m_277 (fun _ h9 => h9) ev81 dX7_writeLengths_110 ?_
  obtain ⟨v82, ev82, hq⟩ := b_s hq
  refine gr_i (g_runV (As := []) (rest := []) (ci := 1) hC (c_J4_length_8abf5 l V g D cT f n v81 v82 ev82) k_J4_length_8abf5 m_1449 rfl rfl ⟨Nat.le_of_ble_eq_true rfl, Nat.le_of_ble_eq_true rfl⟩ hI rfl rfl (h_me_eq ev82).1 rfl hl.1 rfl (Nat.le_of_ble_eq_true rfl) dX7_writeLengths_113 ⟨by decide, by decide⟩) hI (fun H locs hI => ?_)
  refine W.widen (k := 17) (n := 3206) (by decide) (by decide) ?_
  exact ge_Zi hx hb hlocks hr rfl hI hq dX7_writeLengths_116

set_option maxHeartbeats 4000000 in
set_option maxRecDepth 100000 in
theorem sg_X7_writeLengths_4 {p : Program} {l : Launch} (hl0 : l.stackTraces = false) {e : Env} {s : State} {m : MethodId} {args : Array Value} {below : List Frame} {meth : Method} {c : Code} {V : Nat → Nat} {g : GH} {D : va_G} {cT : Nat → ClassId} {o : (Nat × GH) ⊕ (Int32 × GH × Nat)} (hx : p.tables.exec = Jvm.exec) (hb : c.code = cX7_writeLengths) (hr : meth.sig.returnType = (some .int)) (hlocks : meth.locks = false) (ht0 : ∀ x ∈ c.exceptionTable.toList, False) (hC : CallFix p m c cX7_writeLengths 5 s args g_B RX7) : ∀ (x0 : Nat) (x2 : Nat) (x3 : Int32) (f : GH) (n : Nat) (H : Heap) (locs : List Loc) (ls : Array Slot), g_at (g_A V) V g D cT f n s H locs → lv_has ls 5 [(0, .ref x0), (2, .ref x2), (3, .int x3), (4, .int (3 : Int32))] → p_X7_writeLengths_s4 V g x0 x2 x3 f n = some o → W p l e rm_X7_writeLengths s m args below meth c H locs 9 1606 (vx_MQ below (g_Zi V D cT o) (g_YX V D cT o) args s 17 3206 (g_A V)) (F0 m 103 ls []) := by
  intro x0 x2 x3 f n H locs ls hI hl hq
  obtain ⟨_, _, hml, hown, hB⟩ := id hC
  unfold p_X7_writeLengths_s4 at hq
  refine lv_iinc (v := (4 : Int32)) (lv' := [(4, .int (4 : Int32)), (0, .ref x0), (2, .ref x2), (3, .int x3)]) hx hb dX7_writeLengths_103 hl (k := 3) rfl (by decide) (by decide) rfl (fun ls hl => ?_)
  refine lv_goto (tgt := 50) hx hb dX7_writeLengths_106 (by decide) ?_
  refine lv_iload hx hb dX7_writeLengths_50 (lv_at hl 0 rfl) ?_
  refine lv_bipush (v := (7 : Int32)) hx hb dX7_writeLengths_52 (by decide) ?_
  refine lv_icmp_gt (tgt := 109) hx hb dX7_writeLengths_54 (by decide) (fun c => absurd c (by decide)) (fun _ => ?_)
  refine lv_aload_n hx hb dX7_writeLengths_57 rfl (lv_at hl 2 rfl) ?_
  refine lv_iload hx hb dX7_writeLengths_58 (lv_at hl 0 rfl) ?_
  refine lv_iconst (v := (1 : Int32)) hx hb dX7_writeLengths_60 (by decide) ?_
  refine lv_isub hx hb dX7_writeLengths_61 ?_
  obtain ⟨v37, ev37, hq⟩ := b_s hq
  refine gr_i (g_runV (As := [.int ((4 : Int32) - (1 : Int32))]) (rest := []) (ci := 5) hC (c_X2_sticks l V g D cT f n x2 ((4 : Int32) - (1 : Int32)) v37 ev37) k_X2_sticks m_840 rfl rfl ⟨Nat.le_of_ble_eq_true rfl, Nat.le_of_ble_eq_true rfl⟩ hI rfl rfl (h_me_eq ev37).1 rfl hl.1 rfl (Nat.le_of_ble_eq_true rfl) dX7_writeLengths_62 ⟨by decide, by decide⟩) hI (fun H locs hI => ?_)
  refine lv_iload_n hx hb dX7_writeLengths_65 rfl (lv_at hl 3 rfl) ?_
  refine lv_icmp_gt (tgt := 72) hx hb dX7_writeLengths_66 (by decide) (fun c38 => ?_) (fun c38 => ?_)
  · replace hq := i_t c38 hq
    refine lv_aload_n hx hb dX7_writeLengths_72 rfl (lv_at hl 1 rfl) ?_
    obtain ⟨v39, ev39, hq⟩ := b_s hq
    refine fa_gr (own := RX7) (ref := "CoastlineRuler") (k := 12) hx hb hB inB_RX7 hown hI rfl (by decide) m_277 (fun _ h9 => h9) ev39 dX7_writeLengths_73 ?_
    refine lv_bipush (v := (32 : Int32)) hx hb dX7_writeLengths_76 (by decide) ?_
    obtain ⟨v40, ev40, hq⟩ := b_s hq
    refine gw_r (g_runV (As := [.int (32 : Int32)]) (rest := []) (ci := 1) hC (c_J4_append_cf468 l V g D cT f n v39 (32 : Int32) v40 ev40) k_J4_append_cf468 m_1436 rfl rfl ⟨Nat.le_of_ble_eq_true rfl, Nat.le_of_ble_eq_true rfl⟩ hI rfl rfl (h_me_eq ev40).1 rfl hl.1 rfl (Nat.le_of_ble_eq_true rfl) dX7_writeLengths_78 ⟨by decide, by decide⟩) hI (fun H locs hI => ?_)
    refine lv_pop hx hb dX7_writeLengths_81 rfl ?_
    refine lv_aload_n hx hb dX7_writeLengths_82 rfl (lv_at hl 1 rfl) ?_
    obtain ⟨v41, ev41, hq⟩ := b_s hq
    refine fa_gr (own := RX7) (ref := "CoastlineRuler") (k := 12) hx hb hB inB_RX7 hown hI rfl (by decide) m_277 (fun _ h9 => h9) ev41 dX7_writeLengths_83 ?_
    refine lv_aload_n hx hb dX7_writeLengths_86 rfl (lv_at hl 2 rfl) ?_
    refine lv_iload hx hb dX7_writeLengths_87 (lv_at hl 0 rfl) ?_
    refine lv_aload_n hx hb dX7_writeLengths_89 rfl (lv_at hl 1 rfl) ?_
    obtain ⟨v42, ev42, hq⟩ := b_s hq
    refine fa_gr (own := RX7) (ref := "CoastlineRuler") (k := 0) hx hb hB inB_RX7 hown hI rfl (by decide) m_265 (fun _ h9 => h9) ev42 dX7_writeLengths_90 ?_
    obtain ⟨v43, ev43, hq⟩ := b_s hq
    refine fa_gi (own := RX7) (ref := "CoastlineRuler$Chart") (k := 2) hx hb hB inB_RX1 hown hI rfl (by decide) m_83 (fun _ h9 => h9) ev43 dX7_writeLengths_93 ?_
    obtain ⟨v44, ev44, hq⟩ := b_s hq
    refine gr_i (g_runV (As := [.int (4 : Int32), .int v43]) (rest := [.ref v41]) (ci := 5) hC (c_X2_measure l V g D cT v40.2.1 v40.2.2 x2 (4 : Int32) v43 v44 ev44) k_X2_measure m_812 rfl rfl ⟨Nat.le_of_ble_eq_true rfl, Nat.le_of_ble_eq_true rfl⟩ hI rfl rfl (h_me_eq ev44).1 rfl hl.1 rfl (Nat.le_of_ble_eq_true rfl) dX7_writeLengths_96 ⟨by decide, by decide⟩) hI (fun H locs hI => ?_)
    obtain ⟨v45, ev45, hq⟩ := b_s hq
    refine gw_r (g_runV (As := [.int v44]) (rest := []) (ci := 1) hC (c_J4_append_bf812 l V g D cT v40.2.1 v40.2.2 v41 v44 v45 ev45) k_J4_append_bf812 m_1435 rfl rfl ⟨Nat.le_of_ble_eq_true rfl, Nat.le_of_ble_eq_true rfl⟩ hI rfl rfl (h_me_eq ev45).1 rfl hl.1 rfl (Nat.le_of_ble_eq_true rfl) dX7_writeLengths_99 ⟨by decide, by decide⟩) hI (fun H locs hI => ?_)
    refine lv_pop hx hb dX7_writeLengths_102 rfl ?_
    exact sg_X7_writeLengths_5 hl0 hx hb hr hlocks ht0 hC x0 x2 x3 v45.2.1 v45.2.2 H locs ls hI (lv_sub hl [1, 2, 3, 0] rfl) hq
  · replace hq := i_f c38 hq
    exact sg_X7_writeLengths_9 hl0 hx hb hr hlocks ht0 hC x0 f n H locs ls hI (lv_sub hl [1] rfl) hq

set_option maxHeartbeats 4000000 in
set_option maxRecDepth 100000 in
theorem sg_X7_writeLengths_3 {p : Program} {l : Launch} (hl0 : l.stackTraces = false) {e : Env} {s : State} {m : MethodId} {args : Array Value} {below : List Frame} {meth : Method} {c : Code} {V : Nat → Nat} {g : GH} {D : va_G} {cT : Nat → ClassId} {o : (Nat × GH) ⊕ (Int32 × GH × Nat)} (hx : p.tables.exec = Jvm.exec) (hb : c.code = cX7_writeLengths) (hr : meth.sig.returnType = (some .int)) (hlocks : meth.locks = false) (ht0 : ∀ x ∈ c.exceptionTable.toList, False) (hC : CallFix p m c cX7_writeLengths 5 s args g_B RX7) : ∀ (x0 : Nat) (x2 : Nat) (x3 : Int32) (f : GH) (n : Nat) (H : Heap) (locs : List Loc) (ls : Array Slot), g_at (g_A V) V g D cT f n s H locs → lv_has ls 5 [(0, .ref x0), (2, .ref x2), (3, .int x3), (4, .int (2 : Int32))] → p_X7_writeLengths_s3 V g x0 x2 x3 f n = some o → W p l e rm_X7_writeLengths s m args below meth c H locs 7 1206 (vx_MQ below (g_Zi V D cT o) (g_YX V D cT o) args s 17 3206 (g_A V)) (F0 m 103 ls []) := by
  intro x0 x2 x3 f n H locs ls hI hl hq
  obtain ⟨_, _, hml, hown, hB⟩ := id hC
  unfold p_X7_writeLengths_s3 at hq
  refine lv_iinc (v := (3 : Int32)) (lv' := [(4, .int (3 : Int32)), (0, .ref x0), (2, .ref x2), (3, .int x3)]) hx hb dX7_writeLengths_103 hl (k := 3) rfl (by decide) (by decide) rfl (fun ls hl => ?_)
  refine lv_goto (tgt := 50) hx hb dX7_writeLengths_106 (by decide) ?_
  refine lv_iload hx hb dX7_writeLengths_50 (lv_at hl 0 rfl) ?_
  refine lv_bipush (v := (7 : Int32)) hx hb dX7_writeLengths_52 (by decide) ?_
  refine lv_icmp_gt (tgt := 109) hx hb dX7_writeLengths_54 (by decide) (fun c => absurd c (by decide)) (fun _ => ?_)
  refine lv_aload_n hx hb dX7_writeLengths_57 rfl (lv_at hl 2 rfl) ?_
  refine lv_iload hx hb dX7_writeLengths_58 (lv_at hl 0 rfl) ?_
  refine lv_iconst (v := (1 : Int32)) hx hb dX7_writeLengths_60 (by decide) ?_
  refine lv_isub hx hb dX7_writeLengths_61 ?_
  obtain ⟨v28, ev28, hq⟩ := b_s hq
  refine gr_i (g_runV (As := [.int ((3 : Int32) - (1 : Int32))]) (rest := []) (ci := 5) hC (c_X2_sticks l V g D cT f n x2 ((3 : Int32) - (1 : Int32)) v28 ev28) k_X2_sticks m_840 rfl rfl ⟨Nat.le_of_ble_eq_true rfl, Nat.le_of_ble_eq_true rfl⟩ hI rfl rfl (h_me_eq ev28).1 rfl hl.1 rfl (Nat.le_of_ble_eq_true rfl) dX7_writeLengths_62 ⟨by decide, by decide⟩) hI (fun H locs hI => ?_)
  refine lv_iload_n hx hb dX7_writeLengths_65 rfl (lv_at hl 3 rfl) ?_
  refine lv_icmp_gt (tgt := 72) hx hb dX7_writeLengths_66 (by decide) (fun c29 => ?_) (fun c29 => ?_)
  · replace hq := i_t c29 hq
    refine lv_aload_n hx hb dX7_writeLengths_72 rfl (lv_at hl 1 rfl) ?_
    obtain ⟨v30, ev30, hq⟩ := b_s hq
    refine fa_gr (own := RX7) (ref := "CoastlineRuler") (k := 12) hx hb hB inB_RX7 hown hI rfl (by decide) m_277 (fun _ h9 => h9) ev30 dX7_writeLengths_73 ?_
    refine lv_bipush (v := (32 : Int32)) hx hb dX7_writeLengths_76 (by decide) ?_
    obtain ⟨v31, ev31, hq⟩ := b_s hq
    refine gw_r (g_runV (As := [.int (32 : Int32)]) (rest := []) (ci := 1) hC (c_J4_append_cf468 l V g D cT f n v30 (32 : Int32) v31 ev31) k_J4_append_cf468 m_1436 rfl rfl ⟨Nat.le_of_ble_eq_true rfl, Nat.le_of_ble_eq_true rfl⟩ hI rfl rfl (h_me_eq ev31).1 rfl hl.1 rfl (Nat.le_of_ble_eq_true rfl) dX7_writeLengths_78 ⟨by decide, by decide⟩) hI (fun H locs hI => ?_)
    refine lv_pop hx hb dX7_writeLengths_81 rfl ?_
    refine lv_aload_n hx hb dX7_writeLengths_82 rfl (lv_at hl 1 rfl) ?_
    obtain ⟨v32, ev32, hq⟩ := b_s hq
    refine fa_gr (own := RX7) (ref := "CoastlineRuler") (k := 12) hx hb hB inB_RX7 hown hI rfl (by decide) m_277 (fun _ h9 => h9) ev32 dX7_writeLengths_83 ?_
    refine lv_aload_n hx hb dX7_writeLengths_86 rfl (lv_at hl 2 rfl) ?_
    refine lv_iload hx hb dX7_writeLengths_87 (lv_at hl 0 rfl) ?_
    refine lv_aload_n hx hb dX7_writeLengths_89 rfl (lv_at hl 1 rfl) ?_
    obtain ⟨v33, ev33, hq⟩ := b_s hq
    refine fa_gr (own := RX7) (ref := "CoastlineRuler") (k := 0) hx hb hB inB_RX7 hown hI rfl (by decide) m_265 (fun _ h9 => h9) ev33 dX7_writeLengths_90 ?_
    obtain ⟨v34, ev34, hq⟩ := b_s hq
    refine fa_gi (own := RX7) (ref := "CoastlineRuler$Chart") (k := 2) hx hb hB inB_RX1 hown hI rfl (by decide) m_83 (fun _ h9 => h9) ev34 dX7_writeLengths_93 ?_
    obtain ⟨v35, ev35, hq⟩ := b_s hq
    refine gr_i (g_runV (As := [.int (3 : Int32), .int v34]) (rest := [.ref v32]) (ci := 5) hC (c_X2_measure l V g D cT v31.2.1 v31.2.2 x2 (3 : Int32) v34 v35 ev35) k_X2_measure m_812 rfl rfl ⟨Nat.le_of_ble_eq_true rfl, Nat.le_of_ble_eq_true rfl⟩ hI rfl rfl (h_me_eq ev35).1 rfl hl.1 rfl (Nat.le_of_ble_eq_true rfl) dX7_writeLengths_96 ⟨by decide, by decide⟩) hI (fun H locs hI => ?_)
    obtain ⟨v36, ev36, hq⟩ := b_s hq
    refine gw_r (g_runV (As := [.int v35]) (rest := []) (ci := 1) hC (c_J4_append_bf812 l V g D cT v31.2.1 v31.2.2 v32 v35 v36 ev36) k_J4_append_bf812 m_1435 rfl rfl ⟨Nat.le_of_ble_eq_true rfl, Nat.le_of_ble_eq_true rfl⟩ hI rfl rfl (h_me_eq ev36).1 rfl hl.1 rfl (Nat.le_of_ble_eq_true rfl) dX7_writeLengths_99 ⟨by decide, by decide⟩) hI (fun H locs hI => ?_)
    refine lv_pop hx hb dX7_writeLengths_102 rfl ?_
    exact sg_X7_writeLengths_4 hl0 hx hb hr hlocks ht0 hC x0 x2 x3 v36.2.1 v36.2.2 H locs ls hI (lv_sub hl [1, 2, 3, 0] rfl) hq
  · replace hq := i_f c29 hq
    refine lv_goto (tgt := 109) hx hb dX7_writeLengths_69 (by decide) ?_
    refine lv_aload_n hx hb dX7_writeLengths_109 rfl (lv_at hl 1 rfl) ?_
    obtain ⟨v83, ev83, hq⟩ := b_s hq
    refine fa_gr (own := RX7) (ref := "CoastlineRuler") (k := 12) hx hb hB inB_RX7 hown hI rfl (by decide) m_277 (fun _ h9 => h9) ev83 dX7_writeLengths_110 ?_
    obtain ⟨v84, ev84, hq⟩ := b_s hq
    refine gr_i (g_runV (As := []) (rest := []) (ci := 1) hC (c_J4_length_8abf5 l V g D cT f n v83 v84 ev84) k_J4_length_8abf5 m_1449 rfl rfl ⟨Nat.le_of_ble_eq_true rfl, Nat.le_of_ble_eq_true rfl⟩ hI rfl rfl (h_me_eq ev84).1 rfl hl.1 rfl (Nat.le_of_ble_eq_true rfl) dX7_writeLengths_113 ⟨by decide, by decide⟩) hI (fun H locs hI => ?_)
    refine W.widen (k := 17) (n := 3206) (by decide) (by decide) ?_
    exact ge_Zi hx hb hlocks hr rfl hI hq dX7_writeLengths_116

set_option maxHeartbeats 4000000 in
set_option maxRecDepth 100000 in
theorem sg_X7_writeLengths_2 {p : Program} {l : Launch} (hl0 : l.stackTraces = false) {e : Env} {s : State} {m : MethodId} {args : Array Value} {below : List Frame} {meth : Method} {c : Code} {V : Nat → Nat} {g : GH} {D : va_G} {cT : Nat → ClassId} {o : (Nat × GH) ⊕ (Int32 × GH × Nat)} (hx : p.tables.exec = Jvm.exec) (hb : c.code = cX7_writeLengths) (hr : meth.sig.returnType = (some .int)) (hlocks : meth.locks = false) (ht0 : ∀ x ∈ c.exceptionTable.toList, False) (hC : CallFix p m c cX7_writeLengths 5 s args g_B RX7) : ∀ (x0 : Nat) (x2 : Nat) (x3 : Int32) (f : GH) (n : Nat) (H : Heap) (locs : List Loc) (ls : Array Slot), g_at (g_A V) V g D cT f n s H locs → lv_has ls 5 [(0, .ref x0), (2, .ref x2), (3, .int x3), (4, .int (1 : Int32))] → p_X7_writeLengths_s2 V g x0 x2 x3 f n = some o → W p l e rm_X7_writeLengths s m args below meth c H locs 5 806 (vx_MQ below (g_Zi V D cT o) (g_YX V D cT o) args s 17 3206 (g_A V)) (F0 m 103 ls []) := by
  intro x0 x2 x3 f n H locs ls hI hl hq
  obtain ⟨_, _, hml, hown, hB⟩ := id hC
  unfold p_X7_writeLengths_s2 at hq
  refine lv_iinc (v := (2 : Int32)) (lv' := [(4, .int (2 : Int32)), (0, .ref x0), (2, .ref x2), (3, .int x3)]) hx hb dX7_writeLengths_103 hl (k := 3) rfl (by decide) (by decide) rfl (fun ls hl => ?_)
  refine lv_goto (tgt := 50) hx hb dX7_writeLengths_106 (by decide) ?_
  refine lv_iload hx hb dX7_writeLengths_50 (lv_at hl 0 rfl) ?_
  refine lv_bipush (v := (7 : Int32)) hx hb dX7_writeLengths_52 (by decide) ?_
  refine lv_icmp_gt (tgt := 109) hx hb dX7_writeLengths_54 (by decide) (fun c => absurd c (by decide)) (fun _ => ?_)
  refine lv_aload_n hx hb dX7_writeLengths_57 rfl (lv_at hl 2 rfl) ?_
  refine lv_iload hx hb dX7_writeLengths_58 (lv_at hl 0 rfl) ?_
  refine lv_iconst (v := (1 : Int32)) hx hb dX7_writeLengths_60 (by decide) ?_
  refine lv_isub hx hb dX7_writeLengths_61 ?_
  obtain ⟨v19, ev19, hq⟩ := b_s hq
  refine gr_i (g_runV (As := [.int ((2 : Int32) - (1 : Int32))]) (rest := []) (ci := 5) hC (c_X2_sticks l V g D cT f n x2 ((2 : Int32) - (1 : Int32)) v19 ev19) k_X2_sticks m_840 rfl rfl ⟨Nat.le_of_ble_eq_true rfl, Nat.le_of_ble_eq_true rfl⟩ hI rfl rfl (h_me_eq ev19).1 rfl hl.1 rfl (Nat.le_of_ble_eq_true rfl) dX7_writeLengths_62 ⟨by decide, by decide⟩) hI (fun H locs hI => ?_)
  refine lv_iload_n hx hb dX7_writeLengths_65 rfl (lv_at hl 3 rfl) ?_
  refine lv_icmp_gt (tgt := 72) hx hb dX7_writeLengths_66 (by decide) (fun c20 => ?_) (fun c20 => ?_)
  · replace hq := i_t c20 hq
    refine lv_aload_n hx hb dX7_writeLengths_72 rfl (lv_at hl 1 rfl) ?_
    obtain ⟨v21, ev21, hq⟩ := b_s hq
    refine fa_gr (own := RX7) (ref := "CoastlineRuler") (k := 12) hx hb hB inB_RX7 hown hI rfl (by decide) m_277 (fun _ h9 => h9) ev21 dX7_writeLengths_73 ?_
    refine lv_bipush (v := (32 : Int32)) hx hb dX7_writeLengths_76 (by decide) ?_
    obtain ⟨v22, ev22, hq⟩ := b_s hq
    refine gw_r (g_runV (As := [.int (32 : Int32)]) (rest := []) (ci := 1) hC (c_J4_append_cf468 l V g D cT f n v21 (32 : Int32) v22 ev22) k_J4_append_cf468 m_1436 rfl rfl ⟨Nat.le_of_ble_eq_true rfl, Nat.le_of_ble_eq_true rfl⟩ hI rfl rfl (h_me_eq ev22).1 rfl hl.1 rfl (Nat.le_of_ble_eq_true rfl) dX7_writeLengths_78 ⟨by decide, by decide⟩) hI (fun H locs hI => ?_)
    refine lv_pop hx hb dX7_writeLengths_81 rfl ?_
    refine lv_aload_n hx hb dX7_writeLengths_82 rfl (lv_at hl 1 rfl) ?_
    obtain ⟨v23, ev23, hq⟩ := b_s hq
    refine fa_gr (own := RX7) (ref := "CoastlineRuler") (k := 12) hx hb hB inB_RX7 hown hI rfl (by decide) m_277 (fun _ h9 => h9) ev23 dX7_writeLengths_83 ?_
    refine lv_aload_n hx hb dX7_writeLengths_86 rfl (lv_at hl 2 rfl) ?_
    refine lv_iload hx hb dX7_writeLengths_87 (lv_at hl 0 rfl) ?_
    refine lv_aload_n hx hb dX7_writeLengths_89 rfl (lv_at hl 1 rfl) ?_
    obtain ⟨v24, ev24, hq⟩ := b_s hq
    refine fa_gr (own := RX7) (ref := "CoastlineRuler") (k := 0) hx hb hB inB_RX7 hown hI rfl (by decide) m_265 (fun _ h9 => h9) ev24 dX7_writeLengths_90 ?_
    obtain ⟨v25, ev25, hq⟩ := b_s hq
    refine fa_gi (own := RX7) (ref := "CoastlineRuler$Chart") (k := 2) hx hb hB inB_RX1 hown hI rfl (by decide) m_83 (fun _ h9 => h9) ev25 dX7_writeLengths_93 ?_
    obtain ⟨v26, ev26, hq⟩ := b_s hq
    refine gr_i (g_runV (As := [.int (2 : Int32), .int v25]) (rest := [.ref v23]) (ci := 5) hC (c_X2_measure l V g D cT v22.2.1 v22.2.2 x2 (2 : Int32) v25 v26 ev26) k_X2_measure m_812 rfl rfl ⟨Nat.le_of_ble_eq_true rfl, Nat.le_of_ble_eq_true rfl⟩ hI rfl rfl (h_me_eq ev26).1 rfl hl.1 rfl (Nat.le_of_ble_eq_true rfl) dX7_writeLengths_96 ⟨by decide, by decide⟩) hI (fun H locs hI => ?_)
    obtain ⟨v27, ev27, hq⟩ := b_s hq
    refine gw_r (g_runV (As := [.int v26]) (rest := []) (ci := 1) hC (c_J4_append_bf812 l V g D cT v22.2.1 v22.2.2 v23 v26 v27 ev27) k_J4_append_bf812 m_1435 rfl rfl ⟨Nat.le_of_ble_eq_true rfl, Nat.le_of_ble_eq_true rfl⟩ hI rfl rfl (h_me_eq ev27).1 rfl hl.1 rfl (Nat.le_of_ble_eq_true rfl) dX7_writeLengths_99 ⟨by decide, by decide⟩) hI (fun H locs hI => ?_)
    refine lv_pop hx hb dX7_writeLengths_102 rfl ?_
    exact sg_X7_writeLengths_3 hl0 hx hb hr hlocks ht0 hC x0 x2 x3 v27.2.1 v27.2.2 H locs ls hI (lv_sub hl [1, 2, 3, 0] rfl) hq
  · replace hq := i_f c20 hq
    refine lv_goto (tgt := 109) hx hb dX7_writeLengths_69 (by decide) ?_
    refine lv_aload_n hx hb dX7_writeLengths_109 rfl (lv_at hl 1 rfl) ?_
    obtain ⟨v85, ev85, hq⟩ := b_s hq
    refine fa_gr (own := RX7) (ref := "CoastlineRuler") (k := 12) hx hb hB inB_RX7 hown hI rfl (by decide) m_277 (fun _ h9 => h9) ev85 dX7_writeLengths_110 ?_
    obtain ⟨v86, ev86, hq⟩ := b_s hq
    refine gr_i (g_runV (As := []) (rest := []) (ci := 1) hC (c_J4_length_8abf5 l V g D cT f n v85 v86 ev86) k_J4_length_8abf5 m_1449 rfl rfl ⟨Nat.le_of_ble_eq_true rfl, Nat.le_of_ble_eq_true rfl⟩ hI rfl rfl (h_me_eq ev86).1 rfl hl.1 rfl (Nat.le_of_ble_eq_true rfl) dX7_writeLengths_113 ⟨by decide, by decide⟩) hI (fun H locs hI => ?_)
    refine W.widen (k := 17) (n := 3206) (by decide) (by decide) ?_
    exact ge_Zi hx hb hlocks hr rfl hI hq dX7_writeLengths_116

set_option maxHeartbeats 4000000 in
set_option maxRecDepth 100000 in
theorem sg_X7_writeLengths_1 {p : Program} {l : Launch} (hl0 : l.stackTraces = false) {e : Env} {s : State} {m : MethodId} {args : Array Value} {below : List Frame} {meth : Method} {c : Code} {V : Nat → Nat} {g : GH} {D : va_G} {cT : Nat → ClassId} {o : (Nat × GH) ⊕ (Int32 × GH × Nat)} (hx : p.tables.exec = Jvm.exec) (hb : c.code = cX7_writeLengths) (hr : meth.sig.returnType = (some .int)) (hlocks : meth.locks = false) (ht0 : ∀ x ∈ c.exceptionTable.toList, False) (hC : CallFix p m c cX7_writeLengths 5 s args g_B RX7) : ∀ (x0 : Nat) (x2 : Nat) (x3 : Int32) (f : GH) (n : Nat) (H : Heap) (locs : List Loc) (ls : Array Slot), g_at (g_A V) V g D cT f n s H locs → lv_has ls 5 [(0, .ref x0), (2, .ref x2), (3, .int x3)] → p_X7_writeLengths_s1 V g x0 x2 x3 f n = some o → W p l e rm_X7_writeLengths s m args below meth c H locs 3 406 (vx_MQ below (g_Zi V D cT o) (g_YX V D cT o) args s 17 3206 (g_A V)) (F0 m 47 ls []) := by
  intro x0 x2 x3 f n H locs ls hI hl hq
  obtain ⟨_, _, hml, hown, hB⟩ := id hC
  unfold p_X7_writeLengths_s1 at hq
  refine lv_iconst (v := (1 : Int32)) hx hb dX7_writeLengths_47 (by decide) ?_
  refine lv_istore (lv' := [(4, .int (1 : Int32)), (0, .ref x0), (2, .ref x2), (3, .int x3)]) hx hb dX7_writeLengths_48 hl (by decide) rfl (fun ls hl => ?_)
  refine lv_iload hx hb dX7_writeLengths_50 (lv_at hl 0 rfl) ?_
  refine lv_bipush (v := (7 : Int32)) hx hb dX7_writeLengths_52 (by decide) ?_
  refine lv_icmp_gt (tgt := 109) hx hb dX7_writeLengths_54 (by decide) (fun c => absurd c (by decide)) (fun _ => ?_)
  refine lv_aload_n hx hb dX7_writeLengths_57 rfl (lv_at hl 2 rfl) ?_
  refine lv_iload hx hb dX7_writeLengths_58 (lv_at hl 0 rfl) ?_
  refine lv_iconst (v := (1 : Int32)) hx hb dX7_writeLengths_60 (by decide) ?_
  refine lv_isub hx hb dX7_writeLengths_61 ?_
  obtain ⟨v10, ev10, hq⟩ := b_s hq
  refine gr_i (g_runV (As := [.int ((1 : Int32) - (1 : Int32))]) (rest := []) (ci := 5) hC (c_X2_sticks l V g D cT f n x2 ((1 : Int32) - (1 : Int32)) v10 ev10) k_X2_sticks m_840 rfl rfl ⟨Nat.le_of_ble_eq_true rfl, Nat.le_of_ble_eq_true rfl⟩ hI rfl rfl (h_me_eq ev10).1 rfl hl.1 rfl (Nat.le_of_ble_eq_true rfl) dX7_writeLengths_62 ⟨by decide, by decide⟩) hI (fun H locs hI => ?_)
  refine lv_iload_n hx hb dX7_writeLengths_65 rfl (lv_at hl 3 rfl) ?_
  refine lv_icmp_gt (tgt := 72) hx hb dX7_writeLengths_66 (by decide) (fun c11 => ?_) (fun c11 => ?_)
  · replace hq := i_t c11 hq
    refine lv_aload_n hx hb dX7_writeLengths_72 rfl (lv_at hl 1 rfl) ?_
    obtain ⟨v12, ev12, hq⟩ := b_s hq
    refine fa_gr (own := RX7) (ref := "CoastlineRuler") (k := 12) hx hb hB inB_RX7 hown hI rfl (by decide) m_277 (fun _ h9 => h9) ev12 dX7_writeLengths_73 ?_
    refine lv_bipush (v := (32 : Int32)) hx hb dX7_writeLengths_76 (by decide) ?_
    obtain ⟨v13, ev13, hq⟩ := b_s hq
    refine gw_r (g_runV (As := [.int (32 : Int32)]) (rest := []) (ci := 1) hC (c_J4_append_cf468 l V g D cT f n v12 (32 : Int32) v13 ev13) k_J4_append_cf468 m_1436 rfl rfl ⟨Nat.le_of_ble_eq_true rfl, Nat.le_of_ble_eq_true rfl⟩ hI rfl rfl (h_me_eq ev13).1 rfl hl.1 rfl (Nat.le_of_ble_eq_true rfl) dX7_writeLengths_78 ⟨by decide, by decide⟩) hI (fun H locs hI => ?_)
    refine lv_pop hx hb dX7_writeLengths_81 rfl ?_
    refine lv_aload_n hx hb dX7_writeLengths_82 rfl (lv_at hl 1 rfl) ?_
    obtain ⟨v14, ev14, hq⟩ := b_s hq
    refine fa_gr (own := RX7) (ref := "CoastlineRuler") (k := 12) hx hb hB inB_RX7 hown hI rfl (by decide) m_277 (fun _ h9 => h9) ev14 dX7_writeLengths_83 ?_
    refine lv_aload_n hx hb dX7_writeLengths_86 rfl (lv_at hl 2 rfl) ?_
    refine lv_iload hx hb dX7_writeLengths_87 (lv_at hl 0 rfl) ?_
    refine lv_aload_n hx hb dX7_writeLengths_89 rfl (lv_at hl 1 rfl) ?_
    obtain ⟨v15, ev15, hq⟩ := b_s hq
    refine fa_gr (own := RX7) (ref := "CoastlineRuler") (k := 0) hx hb hB inB_RX7 hown hI rfl (by decide) m_265 (fun _ h9 => h9) ev15 dX7_writeLengths_90 ?_
    obtain ⟨v16, ev16, hq⟩ := b_s hq
    refine fa_gi (own := RX7) (ref := "CoastlineRuler$Chart") (k := 2) hx hb hB inB_RX1 hown hI rfl (by decide) m_83 (fun _ h9 => h9) ev16 dX7_writeLengths_93 ?_
    obtain ⟨v17, ev17, hq⟩ := b_s hq
    refine gr_i (g_runV (As := [.int (1 : Int32), .int v16]) (rest := [.ref v14]) (ci := 5) hC (c_X2_measure l V g D cT v13.2.1 v13.2.2 x2 (1 : Int32) v16 v17 ev17) k_X2_measure m_812 rfl rfl ⟨Nat.le_of_ble_eq_true rfl, Nat.le_of_ble_eq_true rfl⟩ hI rfl rfl (h_me_eq ev17).1 rfl hl.1 rfl (Nat.le_of_ble_eq_true rfl) dX7_writeLengths_96 ⟨by decide, by decide⟩) hI (fun H locs hI => ?_)
    obtain ⟨v18, ev18, hq⟩ := b_s hq
    refine gw_r (g_runV (As := [.int v17]) (rest := []) (ci := 1) hC (c_J4_append_bf812 l V g D cT v13.2.1 v13.2.2 v14 v17 v18 ev18) k_J4_append_bf812 m_1435 rfl rfl ⟨Nat.le_of_ble_eq_true rfl, Nat.le_of_ble_eq_true rfl⟩ hI rfl rfl (h_me_eq ev18).1 rfl hl.1 rfl (Nat.le_of_ble_eq_true rfl) dX7_writeLengths_99 ⟨by decide, by decide⟩) hI (fun H locs hI => ?_)
    refine lv_pop hx hb dX7_writeLengths_102 rfl ?_
    exact sg_X7_writeLengths_2 hl0 hx hb hr hlocks ht0 hC x0 x2 x3 v18.2.1 v18.2.2 H locs ls hI (lv_sub hl [1, 2, 3, 0] rfl) hq
  · replace hq := i_f c11 hq
    refine lv_goto (tgt := 109) hx hb dX7_writeLengths_69 (by decide) ?_
    refine lv_aload_n hx hb dX7_writeLengths_109 rfl (lv_at hl 1 rfl) ?_
    obtain ⟨v87, ev87, hq⟩ := b_s hq
    refine fa_gr (own := RX7) (ref := "CoastlineRuler") (k := 12) hx hb hB inB_RX7 hown hI rfl (by decide) m_277 (fun _ h9 => h9) ev87 dX7_writeLengths_110 ?_
    obtain ⟨v88, ev88, hq⟩ := b_s hq
    refine gr_i (g_runV (As := []) (rest := []) (ci := 1) hC (c_J4_length_8abf5 l V g D cT f n v87 v88 ev88) k_J4_length_8abf5 m_1449 rfl rfl ⟨Nat.le_of_ble_eq_true rfl, Nat.le_of_ble_eq_true rfl⟩ hI rfl rfl (h_me_eq ev88).1 rfl hl.1 rfl (Nat.le_of_ble_eq_true rfl) dX7_writeLengths_113 ⟨by decide, by decide⟩) hI (fun H locs hI => ?_)
    refine W.widen (k := 17) (n := 3206) (by decide) (by decide) ?_
    exact ge_Zi hx hb hlocks hr rfl hI hq dX7_writeLengths_116

set_option maxHeartbeats 4000000 in
set_option maxRecDepth 100000 in
theorem c_X7_writeLengths (l : Launch) (hl0 : l.stackTraces = false) (V : Nat → Nat) (g : GH) (D : va_G) (cT : Nat → ClassId) (f : GH) (n : Nat) (a0 : Nat) (a1 : Int32) (o : (Nat × GH) ⊕ (Int32 × GH × Nat)) (hq : p_X7_writeLengths V g f n a0 a1 = some o) : vx_Met l yX7_writeLengths (Cond.code yX7_writeLengths cX7_writeLengths 5 (some .int) :: g_B) rm_X7_writeLengths (va_Pc [.ref a0, .int a1] (g_I V g D cT f n)) (g_Zi V D cT o) (g_YX V D cT o) 17 3206 (g_A V) := by
  refine g_beginX (own := RX7) [.ref a0, .int a1] [(0, .ref a0), (1, .int a1)] (g_A V) (fun _ h => h) (by decide) rfl (Nat.le_of_ble_eq_true rfl) rfl ?_
  intro p e s m args below meth c hx hb hr hlocks ht0 hC hI ls hl
  obtain ⟨hx, hb, hml, hown, hB⟩ := id hC
  obtain ⟨H, hH⟩ : ∃ H, H = s.heap := ⟨_, rfl⟩
  obtain ⟨locs, hlocs⟩ : ∃ L : List Loc, L = [] := ⟨_, rfl⟩
  rw [← hH, ← hlocs] at hI ⊢
  clear hH hlocs
  unfold p_X7_writeLengths at hq
  replace hq := (h_me_eq hq).2
  refine lv_aload_n hx hb dX7_writeLengths_0 rfl (lv_at hl 0 rfl) ?_
  refine lv_iload_n hx hb dX7_writeLengths_1 rfl (lv_at hl 1 rfl) ?_
  rcases x_b_eq hq with ⟨v1, ev1, hq⟩ | ⟨v1, ev1, hq⟩
  · exact gt_RW hlocks ht0 (g_runVX (As := [.int a1]) (rest := []) (ci := 9) hC (c_X7_coastAt l hl0 V g D cT f n a0 a1 (.inl v1) ev1) k_X7_coastAt m_750 rfl rfl ⟨Nat.le_of_ble_eq_true rfl, Nat.le_of_ble_eq_true rfl⟩ hI rfl rfl (h_me_eq ev1).1 rfl hl.1 rfl (Nat.le_of_ble_eq_true rfl) dX7_writeLengths_2 ⟨by decide, by decide⟩) no_r hI hq (by decide) (by decide)
  · refine gx_r (g_runVX (As := [.int a1]) (rest := []) (ci := 9) hC (c_X7_coastAt l hl0 V g D cT f n a0 a1 (.inr v1) ev1) k_X7_coastAt m_750 rfl rfl ⟨Nat.le_of_ble_eq_true rfl, Nat.le_of_ble_eq_true rfl⟩ hI rfl rfl (h_me_eq ev1).1 rfl hl.1 rfl (Nat.le_of_ble_eq_true rfl) dX7_writeLengths_2 ⟨by decide, by decide⟩) hI (fun H locs hI => ?_)
    refine lv_astore_n (lv' := [(2, .ref v1), (0, .ref a0), (1, .int a1)]) hx hb dX7_writeLengths_5 rfl hl (by decide) rfl (fun ls hl => ?_)
    refine lv_aload_n hx hb dX7_writeLengths_6 rfl (lv_at hl 0 rfl) ?_
    obtain ⟨v2, ev2, hq⟩ := b_s hq
    refine fa_gi (own := RX7) (ref := "CoastlineRuler$Coast") (k := 3) hx hb hB inB_RX2 hown hI rfl (by decide) m_63 (fun _ h9 => h9) ev2 dX7_writeLengths_7 ?_
    have hj18 : ∀ (x0 : Nat) (x2 : Nat) (t0 : Int32) (f : GH) (n : Nat) (H : Heap) (locs : List Loc) (ls : Array Slot), g_at (g_A V) V g D cT f n s H locs → lv_has ls 5 [(0, .ref x0), (2, .ref x2)] → p_X7_writeLengths_j18 V g x0 x2 t0 f n = some o → W p l e rm_X7_writeLengths s m args below meth c H locs 1 6 (vx_MQ below (g_Zi V D cT o) (g_YX V D cT o) args s 17 3206 (g_A V)) (F0 m 18 ls [.int t0]) := by
      intro x0 x2 t0 f n H locs ls hI hl hq
      unfold p_X7_writeLengths_j18 at hq
      refine lv_istore_n (lv' := [(3, .int t0), (0, .ref x0), (2, .ref x2)]) hx hb dX7_writeLengths_18 rfl hl (by decide) rfl (fun ls hl => ?_)
      refine lv_aload_n hx hb dX7_writeLengths_19 rfl (lv_at hl 1 rfl) ?_
      obtain ⟨v3, ev3, hq⟩ := b_s hq
      refine fa_gr (own := RX7) (ref := "CoastlineRuler") (k := 12) hx hb hB inB_RX7 hown hI rfl (by decide) m_277 (fun _ h9 => h9) ev3 dX7_writeLengths_20 ?_
      refine lv_iconst (v := (0 : Int32)) hx hb dX7_writeLengths_23 (by decide) ?_
      obtain ⟨v4, ev4, hq⟩ := b_s hq
      refine gw_v (g_runV (As := [.int (0 : Int32)]) (rest := []) (ci := 1) hC (c_J4_setLength_d00df l V g D cT f n v3 (0 : Int32) v4 ev4) k_J4_setLength_d00df m_1188 rfl rfl ⟨Nat.le_of_ble_eq_true rfl, Nat.le_of_ble_eq_true rfl⟩ hI rfl rfl (h_me_eq ev4).1 rfl hl.1 rfl (Nat.le_of_ble_eq_true rfl) dX7_writeLengths_24 ⟨by decide, by decide⟩) hI (fun H locs hI => ?_)
      refine lv_aload_n hx hb dX7_writeLengths_27 rfl (lv_at hl 1 rfl) ?_
      obtain ⟨v5, ev5, hq⟩ := b_s hq
      refine fa_gr (own := RX7) (ref := "CoastlineRuler") (k := 12) hx hb hB inB_RX7 hown hI rfl (by decide) m_277 (fun _ h9 => h9) ev5 dX7_writeLengths_28 ?_
      refine lv_aload_n hx hb dX7_writeLengths_31 rfl (lv_at hl 2 rfl) ?_
      refine lv_iconst (v := (0 : Int32)) hx hb dX7_writeLengths_32 (by decide) ?_
      refine lv_aload_n hx hb dX7_writeLengths_33 rfl (lv_at hl 1 rfl) ?_
      obtain ⟨v6, ev6, hq⟩ := b_s hq
      refine fa_gr (own := RX7) (ref := "CoastlineRuler") (k := 0) hx hb hB inB_RX7 hown hI rfl (by decide) m_265 (fun _ h9 => h9) ev6 dX7_writeLengths_34 ?_
      obtain ⟨v7, ev7, hq⟩ := b_s hq
      refine fa_gi (own := RX7) (ref := "CoastlineRuler$Chart") (k := 2) hx hb hB inB_RX1 hown hI rfl (by decide) m_83 (fun _ h9 => h9) ev7 dX7_writeLengths_37 ?_
      obtain ⟨v8, ev8, hq⟩ := b_s hq
      refine gr_i (g_runV (As := [.int (0 : Int32), .int v7]) (rest := [.ref v5]) (ci := 5) hC (c_X2_measure l V g D cT v4.1 v4.2 x2 (0 : Int32) v7 v8 ev8) k_X2_measure m_812 rfl rfl ⟨Nat.le_of_ble_eq_true rfl, Nat.le_of_ble_eq_true rfl⟩ hI rfl rfl (h_me_eq ev8).1 rfl hl.1 rfl (Nat.le_of_ble_eq_true rfl) dX7_writeLengths_40 ⟨by decide, by decide⟩) hI (fun H locs hI => ?_)
      obtain ⟨v9, ev9, hq⟩ := b_s hq
      refine gw_r (g_runV (As := [.int v8]) (rest := []) (ci := 1) hC (c_J4_append_bf812 l V g D cT v4.1 v4.2 v5 v8 v9 ev9) k_J4_append_bf812 m_1435 rfl rfl ⟨Nat.le_of_ble_eq_true rfl, Nat.le_of_ble_eq_true rfl⟩ hI rfl rfl (h_me_eq ev9).1 rfl hl.1 rfl (Nat.le_of_ble_eq_true rfl) dX7_writeLengths_43 ⟨by decide, by decide⟩) hI (fun H locs hI => ?_)
      refine lv_pop hx hb dX7_writeLengths_46 rfl ?_
      exact sg_X7_writeLengths_1 hl0 hx hb hr hlocks ht0 hC x0 x2 t0 v9.2.1 v9.2.2 H locs ls hI (lv_sub hl [1, 2, 0] rfl) hq
    refine lv_if_eq (tgt := 17) hx hb dX7_writeLengths_10 (by decide) (fun c89 => ?_) (fun c89 => ?_)
    · replace hq := i_t c89 hq
      refine lv_iconst (v := (1 : Int32)) hx hb dX7_writeLengths_17 (by decide) ?_
      exact hj18 a0 v1 (1 : Int32) f n H locs ls hI (lv_sub hl [1, 0] rfl) hq
    · replace hq := i_f c89 hq
      refine lv_iconst (v := (2 : Int32)) hx hb dX7_writeLengths_13 (by decide) ?_
      refine lv_goto (tgt := 18) hx hb dX7_writeLengths_14 (by decide) ?_
      exact hj18 a0 v1 (2 : Int32) f n H locs ls hI (lv_sub hl [1, 0] rfl) hq


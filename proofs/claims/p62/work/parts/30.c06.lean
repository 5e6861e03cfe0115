abbrev rm_X7_coarsestLevelFor : Room := { frames := 9, cells := 2, slots := 12, locals := 261 }
theorem k_X7_coarsestLevelFor : g_CV yX7_coarsestLevelFor cX7_coarsestLevelFor 4 (some .int) 2 := ⟨⟨m_717, m_1, by decide +kernel⟩, m_715, m_716⟩
set_option maxHeartbeats 4000000 in
set_option maxRecDepth 100000 in
theorem c_X7_coarsestLevelFor (l : Launch) (hl0 : l.stackTraces = false) (V : Nat → Nat) (g : GH) (D : va_G) (cT : Nat → ClassId) (f : GH) (n : Nat) (a0 : Nat) (a1 : Int32) (a2 : Int32) (o : Nat ⊕ Int32) (hq : p_X7_coarsestLevelFor V g f a0 a1 a2 = some o) : vx_Met l yX7_coarsestLevelFor (Cond.code yX7_coarsestLevelFor cX7_coarsestLevelFor 4 (some .int) :: g_B) rm_X7_coarsestLevelFor (va_Pc [.ref a0, .int a1, .int a2] (g_I V g D cT f n)) (g_Xi o n) (g_XX V D cT f o) 2 12 g_no := by
  refine g_beginX (own := RX7) [.ref a0, .int a1, .int a2] [(0, .ref a0), (1, .int a1), (2, .int a2)] g_no (fun _ h => h.elim) (by decide) rfl (Nat.le_of_ble_eq_true rfl) rfl ?_
  intro p e s m args below meth c hx hb hr hlocks ht0 hC hI ls hl
  obtain ⟨hx, hb, hml, hown, hB⟩ := id hC
  obtain ⟨H, hH⟩ : ∃ H, H = s.heap := ⟨_, rfl⟩
  obtain ⟨locs, hlocs⟩ : ∃ L : List Loc, L = [] := ⟨_, rfl⟩
  rw [← hH, ← hlocs] at hI ⊢
  clear hH hlocs
  unfold p_X7_coarsestLevelFor at hq
  replace hq := (h_me_eq hq).2
  refine lv_aload_n hx hb dX7_coarsestLevelFor_0 rfl (lv_at hl 0 rfl) ?_
  refine lv_iload_n hx hb dX7_coarsestLevelFor_1 rfl (lv_at hl 1 rfl) ?_
  rcases x_b_eq hq with ⟨v1, ev1, hq⟩ | ⟨v1, ev1, hq⟩
  · exact gt_RR hlocks ht0 (g_runVX (As := [.int a1]) (rest := []) (ci := 9) hC (c_X7_coastAt l hl0 V g D cT f n a0 a1 (.inl v1) ev1) k_X7_coastAt m_577 rfl rfl ⟨Nat.le_of_ble_eq_true rfl, Nat.le_of_ble_eq_true rfl⟩ hI rfl rfl (h_me_eq ev1).1 rfl hl.1 rfl (Nat.le_of_ble_eq_true rfl) dX7_coarsestLevelFor_2 ⟨by decide, by decide⟩) no_r hI hq (by decide) (by decide)
  · refine gx_r (g_runVX (As := [.int a1]) (rest := []) (ci := 9) hC (c_X7_coastAt l hl0 V g D cT f n a0 a1 (.inr v1) ev1) k_X7_coastAt m_577 rfl rfl ⟨Nat.le_of_ble_eq_true rfl, Nat.le_of_ble_eq_true rfl⟩ hI rfl rfl (h_me_eq ev1).1 rfl hl.1 rfl (Nat.le_of_ble_eq_true rfl) dX7_coarsestLevelFor_2 ⟨by decide, by decide⟩) hI (fun H locs hI => ?_)
    refine lv_astore_n (lv' := [(3, .ref v1), (0, .ref a0), (1, .int a1), (2, .int a2)]) hx hb dX7_coarsestLevelFor_5 rfl hl (by decide) rfl (fun ls hl => ?_)
    refine lv_iload_n hx hb dX7_coarsestLevelFor_6 rfl (lv_at hl 3 rfl) ?_
    refine lv_iconst (v := (0 : Int32)) hx hb dX7_coarsestLevelFor_7 (by decide) ?_
    refine lv_ldc (own := RX7) (index := 176) (v := (2147483647 : Int32)) hx hb hown (hB _ m_718) dX7_coarsestLevelFor_8 ?_
    rcases x_b_eq hq with ⟨v2, ev2, hq⟩ | ⟨v2, ev2, hq⟩
    · exact gt_RR hlocks ht0 (g_runSX (As := [.int a2, .int (0 : Int32), .int (2147483647 : Int32)]) (rest := []) hC (c_X7_requireWithin l hl0 V g D cT f n a2 (0 : Int32) (2147483647 : Int32) (.inl v2) ev2) k_X7_requireWithin m_301 rfl rfl ⟨Nat.le_of_ble_eq_true rfl, Nat.le_of_ble_eq_true rfl⟩ hI rfl hl.1 rfl (Nat.le_of_ble_eq_true rfl) dX7_coarsestLevelFor_10 ⟨by decide, by decide⟩) no_v hI hq (by decide) (by decide)
    · refine gx_v (g_runSX (As := [.int a2, .int (0 : Int32), .int (2147483647 : Int32)]) (rest := []) hC (c_X7_requireWithin l hl0 V g D cT f n a2 (0 : Int32) (2147483647 : Int32) (.inr v2) ev2) k_X7_requireWithin m_301 rfl rfl ⟨Nat.le_of_ble_eq_true rfl, Nat.le_of_ble_eq_true rfl⟩ hI rfl hl.1 rfl (Nat.le_of_ble_eq_true rfl) dX7_coarsestLevelFor_10 ⟨by decide, by decide⟩) hI (fun H locs hI => ?_)
      refine lv_aload_n hx hb dX7_coarsestLevelFor_13 rfl (lv_at hl 0 rfl) ?_
      refine lv_iload_n hx hb dX7_coarsestLevelFor_14 rfl (lv_at hl 3 rfl) ?_
      refine lv_aload_n hx hb dX7_coarsestLevelFor_15 rfl (lv_at hl 1 rfl) ?_
      obtain ⟨v3, ev3, hq⟩ := b_s hq
      refine fa_gr (own := RX7) (ref := "CoastlineRuler") (k := 0) hx hb hB inB_RX7 hown hI rfl (by decide) m_253 (fun _ h9 => h9) ev3 dX7_coarsestLevelFor_16 ?_
      obtain ⟨v4, ev4, hq⟩ := b_s hq
      refine fa_gi (own := RX7) (ref := "CoastlineRuler$Chart") (k := 2) hx hb hB inB_RX1 hown hI rfl (by decide) m_80 (fun _ h9 => h9) ev4 dX7_coarsestLevelFor_19 ?_
      obtain ⟨v5, ev5, hq⟩ := b_s hq
      refine gr_i (g_runV (As := [.int a2, .int v4]) (rest := []) (ci := 5) hC (c_X2_coarsestReaching l V g D cT f n v1 a2 v4 v5 ev5) k_X2_coarsestReaching m_719 rfl rfl ⟨Nat.le_of_ble_eq_true rfl, Nat.le_of_ble_eq_true rfl⟩ hI rfl rfl (h_me_eq ev5).1 rfl hl.1 rfl (Nat.le_of_ble_eq_true rfl) dX7_coarsestLevelFor_22 ⟨by decide, by decide⟩) hI (fun H locs hI => ?_)
      exact ge_Xi hx hb hlocks hr rfl hI hq dX7_coarsestLevelFor_25

abbrev rm_X7_coarsestExactLevel : Room := { frames := 9, cells := 1, slots := 6, locals := 261 }
theorem k_X7_coarsestExactLevel : g_CV yX7_coarsestExactLevel cX7_coarsestExactLevel 3 (some .int) 1 := ⟨⟨m_730, m_1, by decide +kernel⟩, m_728, m_729⟩
set_option maxHeartbeats 4000000 in
set_option maxRecDepth 100000 in
theorem c_X7_coarsestExactLevel (l : Launch) (hl0 : l.stackTraces = false) (V : Nat → Nat) (g : GH) (D : va_G) (cT : Nat → ClassId) (f : GH) (n : Nat) (a0 : Nat) (a1 : Int32) (o : Nat ⊕ Int32) (hq : p_X7_coarsestExactLevel V g f a0 a1 = some o) : vx_Met l yX7_coarsestExactLevel (Cond.code yX7_coarsestExactLevel cX7_coarsestExactLevel 3 (some .int) :: g_B) rm_X7_coarsestExactLevel (va_Pc [.ref a0, .int a1] (g_I V g D cT f n)) (g_Xi o n) (g_XX V D cT f o) 1 6 g_no := by
  refine g_beginX (own := RX7) [.ref a0, .int a1] [(0, .ref a0), (1, .int a1)] g_no (fun _ h => h.elim) (by decide) rfl (Nat.le_of_ble_eq_true rfl) rfl ?_
  intro p e s m args below meth c hx hb hr hlocks ht0 hC hI ls hl
  obtain ⟨hx, hb, hml, hown, hB⟩ := id hC
  obtain ⟨H, hH⟩ : ∃ H, H = s.heap := ⟨_, rfl⟩
  obtain ⟨locs, hlocs⟩ : ∃ L : List Loc, L = [] := ⟨_, rfl⟩
  rw [← hH, ← hlocs] at hI ⊢
  clear hH hlocs
  unfold p_X7_coarsestExactLevel at hq
  replace hq := (h_me_eq hq).2
  refine lv_aload_n hx hb dX7_coarsestExactLevel_0 rfl (lv_at hl 0 rfl) ?_
  refine lv_iload_n hx hb dX7_coarsestExactLevel_1 rfl (lv_at hl 1 rfl) ?_
  rcases x_b_eq hq with ⟨v1, ev1, hq⟩ | ⟨v1, ev1, hq⟩
  · exact gt_RR hlocks ht0 (g_runVX (As := [.int a1]) (rest := []) (ci := 9) hC (c_X7_coastAt l hl0 V g D cT f n a0 a1 (.inl v1) ev1) k_X7_coastAt m_577 rfl rfl ⟨Nat.le_of_ble_eq_true rfl, Nat.le_of_ble_eq_true rfl⟩ hI rfl rfl (h_me_eq ev1).1 rfl hl.1 rfl (Nat.le_of_ble_eq_true rfl) dX7_coarsestExactLevel_2 ⟨by decide, by decide⟩) no_r hI hq (by decide) (by decide)
  · refine gx_r (g_runVX (As := [.int a1]) (rest := []) (ci := 9) hC (c_X7_coastAt l hl0 V g D cT f n a0 a1 (.inr v1) ev1) k_X7_coastAt m_577 rfl rfl ⟨Nat.le_of_ble_eq_true rfl, Nat.le_of_ble_eq_true rfl⟩ hI rfl rfl (h_me_eq ev1).1 rfl hl.1 rfl (Nat.le_of_ble_eq_true rfl) dX7_coarsestExactLevel_2 ⟨by decide, by decide⟩) hI (fun H locs hI => ?_)
    refine lv_astore_n (lv' := [(2, .ref v1), (0, .ref a0), (1, .int a1)]) hx hb dX7_coarsestExactLevel_5 rfl hl (by decide) rfl (fun ls hl => ?_)
    refine lv_aload_n hx hb dX7_coarsestExactLevel_6 rfl (lv_at hl 0 rfl) ?_
    refine lv_aload_n hx hb dX7_coarsestExactLevel_7 rfl (lv_at hl 0 rfl) ?_
    refine lv_iconst (v := (0 : Int32)) hx hb dX7_coarsestExactLevel_8 (by decide) ?_
    refine lv_aload_n hx hb dX7_coarsestExactLevel_9 rfl (lv_at hl 1 rfl) ?_
    obtain ⟨v2, ev2, hq⟩ := b_s hq
    refine fa_gr (own := RX7) (ref := "CoastlineRuler") (k := 0) hx hb hB inB_RX7 hown hI rfl (by decide) m_253 (fun _ h9 => h9) ev2 dX7_coarsestExactLevel_10 ?_
    obtain ⟨v3, ev3, hq⟩ := b_s hq
    refine fa_gi (own := RX7) (ref := "CoastlineRuler$Chart") (k := 2) hx hb hB inB_RX1 hown hI rfl (by decide) m_80 (fun _ h9 => h9) ev3 dX7_coarsestExactLevel_13 ?_
    obtain ⟨v4, ev4, hq⟩ := b_s hq
    refine gr_i (g_runV (As := [.int (0 : Int32), .int v3]) (rest := [.ref v1]) (ci := 5) hC (c_X2_measure l V g D cT f n v1 (0 : Int32) v3 v4 ev4) k_X2_measure m_695 rfl rfl ⟨Nat.le_of_ble_eq_true rfl, Nat.le_of_ble_eq_true rfl⟩ hI rfl rfl (h_me_eq ev4).1 rfl hl.1 rfl (Nat.le_of_ble_eq_true rfl) dX7_coarsestExactLevel_16 ⟨by decide, by decide⟩) hI (fun H locs hI => ?_)
    refine lv_aload_n hx hb dX7_coarsestExactLevel_19 rfl (lv_at hl 1 rfl) ?_
    obtain ⟨v5, ev5, hq⟩ := b_s hq
    refine fa_gr (own := RX7) (ref := "CoastlineRuler") (k := 0) hx hb hB inB_RX7 hown hI rfl (by decide) m_253 (fun _ h9 => h9) ev5 dX7_coarsestExactLevel_20 ?_
    obtain ⟨v6, ev6, hq⟩ := b_s hq
    refine fa_gi (own := RX7) (ref := "CoastlineRuler$Chart") (k := 2) hx hb hB inB_RX1 hown hI rfl (by decide) m_80 (fun _ h9 => h9) ev6 dX7_coarsestExactLevel_23 ?_
    obtain ⟨v7, ev7, hq⟩ := b_s hq
    refine gr_i (g_runV (As := [.int v4, .int v6]) (rest := []) (ci := 5) hC (c_X2_coarsestReaching l V g D cT f n v1 v4 v6 v7 ev7) k_X2_coarsestReaching m_719 rfl rfl ⟨Nat.le_of_ble_eq_true rfl, Nat.le_of_ble_eq_true rfl⟩ hI rfl rfl (h_me_eq ev7).1 rfl hl.1 rfl (Nat.le_of_ble_eq_true rfl) dX7_coarsestExactLevel_26 ⟨by decide, by decide⟩) hI (fun H locs hI => ?_)
    exact ge_Xi hx hb hlocks hr rfl hI hq dX7_coarsestExactLevel_29

abbrev rm_X7_totalLength : Room := { frames := 9, cells := 1, slots := 6, locals := 238 }
theorem k_X7_totalLength : g_CV yX7_totalLength cX7_totalLength 4 (some .int) 1 := ⟨⟨m_842, m_1, by decide +kernel⟩, m_840, m_841⟩
set_option maxHeartbeats 4000000 in
set_option maxRecDepth 100000 in
theorem c_X7_totalLength (l : Launch) (hl0 : l.stackTraces = false) (V : Nat → Nat) (g : GH) (D : va_G) (cT : Nat → ClassId) (f : GH) (n : Nat) (a0 : Nat) (a1 : Int32) (o : Nat ⊕ Int32) (hq : p_X7_totalLength V g f a0 a1 = some o) : vx_Met l yX7_totalLength (Cond.code yX7_totalLength cX7_totalLength 4 (some .int) :: g_B) rm_X7_totalLength (va_Pc [.ref a0, .int a1] (g_I V g D cT f n)) (g_Xi o n) (g_XX V D cT f o) 1 6 g_no := by
  refine g_beginX (own := RX7) [.ref a0, .int a1] [(0, .ref a0), (1, .int a1)] g_no (fun _ h => h.elim) (by decide) rfl (Nat.le_of_ble_eq_true rfl) rfl ?_
  intro p e s m args below meth c hx hb hr hlocks ht0 hC hI ls hl
  obtain ⟨hx, hb, hml, hown, hB⟩ := id hC
  obtain ⟨H, hH⟩ : ∃ H, H = s.heap := ⟨_, rfl⟩
  obtain ⟨locs, hlocs⟩ : ∃ L : List Loc, L = [] := ⟨_, rfl⟩
  rw [← hH, ← hlocs] at hI ⊢
  clear hH hlocs
  unfold p_X7_totalLength at hq
  replace hq := (h_me_eq hq).2
  refine lv_iload_n hx hb dX7_totalLength_0 rfl (lv_at hl 1 rfl) ?_
  refine lv_iconst (v := (0 : Int32)) hx hb dX7_totalLength_1 (by decide) ?_
  refine lv_bipush (v := (7 : Int32)) hx hb dX7_totalLength_2 (by decide) ?_
  rcases x_b_eq hq with ⟨v1, ev1, hq⟩ | ⟨v1, ev1, hq⟩
  · exact gt_RR hlocks ht0 (g_runSX (As := [.int a1, .int (0 : Int32), .int (7 : Int32)]) (rest := []) hC (c_X7_requireWithin l hl0 V g D cT f n a1 (0 : Int32) (7 : Int32) (.inl v1) ev1) k_X7_requireWithin m_301 rfl rfl ⟨Nat.le_of_ble_eq_true rfl, Nat.le_of_ble_eq_true rfl⟩ hI rfl hl.1 rfl (Nat.le_of_ble_eq_true rfl) dX7_totalLength_4 ⟨by decide, by decide⟩) no_v hI hq (by decide) (by decide)
  · refine gx_v (g_runSX (As := [.int a1, .int (0 : Int32), .int (7 : Int32)]) (rest := []) hC (c_X7_requireWithin l hl0 V g D cT f n a1 (0 : Int32) (7 : Int32) (.inr v1) ev1) k_X7_requireWithin m_301 rfl rfl ⟨Nat.le_of_ble_eq_true rfl, Nat.le_of_ble_eq_true rfl⟩ hI rfl hl.1 rfl (Nat.le_of_ble_eq_true rfl) dX7_totalLength_4 ⟨by decide, by decide⟩) hI (fun H locs hI => ?_)
    refine lv_iconst (v := (0 : Int32)) hx hb dX7_totalLength_7 (by decide) ?_
    refine lv_istore_n (lv' := [(2, .int (0 : Int32)), (0, .ref a0), (1, .int a1)]) hx hb dX7_totalLength_8 rfl hl (by decide) rfl (fun ls hl => ?_)
    refine lv_iconst (v := (0 : Int32)) hx hb dX7_totalLength_9 (by decide) ?_
    refine lv_istore_n (lv' := [(3, .int (0 : Int32)), (2, .int (0 : Int32)), (0, .ref a0), (1, .int a1)]) hx hb dX7_totalLength_10 rfl hl (by decide) rfl (fun ls hl => ?_)
    have hl11 : ∀ (K51 : Int32 → Option (Nat ⊕ Int32)) (hK51 : ∀ (x2 : Int32) (H : Heap) (locs : List Loc) (ls : Array Slot), g_at g_no V g D cT f n s H locs → lv_has ls 4 [(2, .int x2)] → K51 x2 = some o → W p l e rm_X7_totalLength s m args below meth c H locs 1 6 (vx_MQ below (g_Xi o n) (g_XX V D cT f o) args s 1 6 g_no) (F0 m 51 ls [])) (N : Nat) (x0 : Nat) (x1 : Int32) (x2 : Int32) (x3 : Int32) (H : Heap) (locs : List Loc) (ls : Array Slot), g_at g_no V g D cT f n s H locs → lv_has ls 4 [(0, .ref x0), (1, .int x1), (2, .int x2), (3, .int x3)] → p_X7_totalLength_l11 V g f K51 N x0 x1 x2 x3 = some o → W p l e rm_X7_totalLength s m args below meth c H locs 1 6 (vx_MQ below (g_Xi o n) (g_XX V D cT f o) args s 1 6 g_no) (F0 m 11 ls []) := by
      intro K51 hK51 N
      induction N with
      | zero =>
        intro x0 x1 x2 x3 H locs ls hI hl hq
        rw [p_X7_totalLength_l11] at hq
        cases hq
      | succ N ih =>
        intro x0 x1 x2 x3 H locs ls hI hl hq
        rw [p_X7_totalLength_l11] at hq
        refine lv_iload_n hx hb dX7_totalLength_11 rfl (lv_at hl 3 rfl) ?_
        refine lv_aload_n hx hb dX7_totalLength_12 rfl (lv_at hl 0 rfl) ?_
        obtain ⟨v2, ev2, hq⟩ := b_s hq
        refine fa_gr (own := RX7) (ref := "CoastlineRuler") (k := 0) hx hb hB inB_RX7 hown hI rfl (by decide) m_253 (fun _ h9 => h9) ev2 dX7_totalLength_13 ?_
        obtain ⟨v3, ev3, hq⟩ := b_s hq
        refine fa_gi (own := RX7) (ref := "CoastlineRuler$Chart") (k := 1) hx hb hB inB_RX1 hown hI rfl (by decide) m_77 (fun _ h9 => h9) ev3 dX7_totalLength_16 ?_
        refine lv_icmp_ge (tgt := 51) hx hb dX7_totalLength_19 (by decide) (fun c4 => ?_) (fun c4 => ?_)
        · replace hq := i_t c4 hq
          exact hK51 x2 H locs ls hI (lv_sub hl [2] rfl) hq
        · replace hq := i_f c4 hq
          refine lv_iload_n hx hb dX7_totalLength_22 rfl (lv_at hl 2 rfl) ?_
          refine lv_aload_n hx hb dX7_totalLength_23 rfl (lv_at hl 0 rfl) ?_
          obtain ⟨v5, ev5, hq⟩ := b_s hq
          refine fa_gr (own := RX7) (ref := "CoastlineRuler") (k := 0) hx hb hB inB_RX7 hown hI rfl (by decide) m_253 (fun _ h9 => h9) ev5 dX7_totalLength_24 ?_
          obtain ⟨v6, ev6, hq⟩ := b_s hq
          refine fa_gr (own := RX7) (ref := "CoastlineRuler$Chart") (k := 0) hx hb hB inB_RX1 hown hI rfl (by decide) m_74 (fun _ h9 => h9) ev6 dX7_totalLength_27 ?_
          refine lv_iload_n hx hb dX7_totalLength_30 rfl (lv_at hl 3 rfl) ?_
          obtain ⟨v7, ev7, hq⟩ := b_s hq
          refine fa_lq hx hb hI (by decide) rfl ev7 dX7_totalLength_31 ?_
          refine lv_iload_n hx hb dX7_totalLength_32 rfl (lv_at hl 1 rfl) ?_
          refine lv_aload_n hx hb dX7_totalLength_33 rfl (lv_at hl 0 rfl) ?_
          obtain ⟨v8, ev8, hq⟩ := b_s hq
          refine fa_gr (own := RX7) (ref := "CoastlineRuler") (k := 0) hx hb hB inB_RX7 hown hI rfl (by decide) m_253 (fun _ h9 => h9) ev8 dX7_totalLength_34 ?_
          obtain ⟨v9, ev9, hq⟩ := b_s hq
          refine fa_gi (own := RX7) (ref := "CoastlineRuler$Chart") (k := 2) hx hb hB inB_RX1 hown hI rfl (by decide) m_80 (fun _ h9 => h9) ev9 dX7_totalLength_37 ?_
          obtain ⟨v10, ev10, hq⟩ := b_s hq
          refine gr_i (g_runV (As := [.int x1, .int v9]) (rest := [.int x2]) (ci := 5) hC (c_X2_measure l V g D cT f n v7 x1 v9 v10 ev10) k_X2_measure m_695 rfl rfl ⟨Nat.le_of_ble_eq_true rfl, Nat.le_of_ble_eq_true rfl⟩ hI rfl rfl (h_me_eq ev10).1 rfl hl.1 rfl (Nat.le_of_ble_eq_true rfl) dX7_totalLength_40 ⟨by decide, by decide⟩) hI (fun H locs hI => ?_)
          refine lv_iadd hx hb dX7_totalLength_43 ?_
          refine lv_istore_n (lv' := [(2, .int (x2 + v10)), (0, .ref x0), (1, .int x1), (3, .int x3)]) hx hb dX7_totalLength_44 rfl hl (by decide) rfl (fun ls hl => ?_)
          refine lv_iinc (v := x3 + (1 : Int32)) (lv' := [(3, .int (x3 + (1 : Int32))), (2, .int (x2 + v10)), (0, .ref x0), (1, .int x1)]) hx hb dX7_totalLength_45 hl (k := 3) rfl rfl (by decide) rfl (fun ls hl => ?_)
          refine lv_goto (tgt := 11) hx hb dX7_totalLength_48 (by decide) ?_
          exact ih x0 x1 (x2 + v10) (x3 + (1 : Int32)) H locs ls hI (lv_sub hl [2, 3, 1, 0] rfl) hq
    refine hl11 _ ?_ FU a0 a1 (0 : Int32) (0 : Int32) H locs ls hI (lv_sub hl [2, 3, 1, 0] rfl) hq
    · intro x2 H locs ls hI hl hq
      refine lv_iload_n hx hb dX7_totalLength_51 rfl (lv_at hl 0 rfl) ?_
      exact ge_Xi hx hb hlocks hr rfl hI hq dX7_totalLength_52

abbrev rm_X7_longestCoast : Room := { frames := 9, cells := 1, slots := 6, locals := 238 }
theorem k_X7_longestCoast : g_CV yX7_longestCoast cX7_longestCoast 6 (some .int) 1 := ⟨⟨m_812, m_1, by decide +kernel⟩, m_810, m_811⟩
set_option maxHeartbeats 4000000 in
set_option maxRecDepth 100000 in
theorem c_X7_longestCoast (l : Launch) (hl0 : l.stackTraces = false) (V : Nat → Nat) (g : GH) (D : va_G) (cT : Nat → ClassId) (f : GH) (n : Nat) (a0 : Nat) (a1 : Int32) (o : Nat ⊕ Int32) (hq : p_X7_longestCoast V g f a0 a1 = some o) : vx_Met l yX7_longestCoast (Cond.code yX7_longestCoast cX7_longestCoast 6 (some .int) :: g_B) rm_X7_longestCoast (va_Pc [.ref a0, .int a1] (g_I V g D cT f n)) (g_Xi o n) (g_XX V D cT f o) 1 6 g_no := by
  refine g_beginX (own := RX7) [.ref a0, .int a1] [(0, .ref a0), (1, .int a1)] g_no (fun _ h => h.elim) (by decide) rfl (Nat.le_of_ble_eq_true rfl) rfl ?_
  intro p e s m args below meth c hx hb hr hlocks ht0 hC hI ls hl
  obtain ⟨hx, hb, hml, hown, hB⟩ := id hC
  obtain ⟨H, hH⟩ : ∃ H, H = s.heap := ⟨_, rfl⟩
  obtain ⟨locs, hlocs⟩ : ∃ L : List Loc, L = [] := ⟨_, rfl⟩
  rw [← hH, ← hlocs] at hI ⊢
  clear hH hlocs
  unfold p_X7_longestCoast at hq
  replace hq := (h_me_eq hq).2
  refine lv_iload_n hx hb dX7_longestCoast_0 rfl (lv_at hl 1 rfl) ?_
  refine lv_iconst (v := (0 : Int32)) hx hb dX7_longestCoast_1 (by decide) ?_
  refine lv_bipush (v := (7 : Int32)) hx hb dX7_longestCoast_2 (by decide) ?_
  rcases x_b_eq hq with ⟨v1, ev1, hq⟩ | ⟨v1, ev1, hq⟩
  · exact gt_RR hlocks ht0 (g_runSX (As := [.int a1, .int (0 : Int32), .int (7 : Int32)]) (rest := []) hC (c_X7_requireWithin l hl0 V g D cT f n a1 (0 : Int32) (7 : Int32) (.inl v1) ev1) k_X7_requireWithin m_301 rfl rfl ⟨Nat.le_of_ble_eq_true rfl, Nat.le_of_ble_eq_true rfl⟩ hI rfl hl.1 rfl (Nat.le_of_ble_eq_true rfl) dX7_longestCoast_4 ⟨by decide, by decide⟩) no_v hI hq (by decide) (by decide)
  · refine gx_v (g_runSX (As := [.int a1, .int (0 : Int32), .int (7 : Int32)]) (rest := []) hC (c_X7_requireWithin l hl0 V g D cT f n a1 (0 : Int32) (7 : Int32) (.inr v1) ev1) k_X7_requireWithin m_301 rfl rfl ⟨Nat.le_of_ble_eq_true rfl, Nat.le_of_ble_eq_true rfl⟩ hI rfl hl.1 rfl (Nat.le_of_ble_eq_true rfl) dX7_longestCoast_4 ⟨by decide, by decide⟩) hI (fun H locs hI => ?_)
    refine lv_iconst (v := (-1 : Int32)) hx hb dX7_longestCoast_7 (by decide) ?_
    refine lv_istore_n (lv' := [(2, .int (-1 : Int32)), (0, .ref a0), (1, .int a1)]) hx hb dX7_longestCoast_8 rfl hl (by decide) rfl (fun ls hl => ?_)
    refine lv_iconst (v := (-1 : Int32)) hx hb dX7_longestCoast_9 (by decide) ?_
    refine lv_istore_n (lv' := [(3, .int (-1 : Int32)), (2, .int (-1 : Int32)), (0, .ref a0), (1, .int a1)]) hx hb dX7_longestCoast_10 rfl hl (by decide) rfl (fun ls hl => ?_)
    refine lv_iconst (v := (0 : Int32)) hx hb dX7_longestCoast_11 (by decide) ?_
    refine lv_istore (lv' := [(4, .int (0 : Int32)), (3, .int (-1 : Int32)), (2, .int (-1 : Int32)), (0, .ref a0), (1, .int a1)]) hx hb dX7_longestCoast_12 hl (by decide) rfl (fun ls hl => ?_)
    have hl14 : ∀ (K67 : Int32 → Option (Nat ⊕ Int32)) (hK67 : ∀ (x2 : Int32) (H : Heap) (locs : List Loc) (ls : Array Slot), g_at g_no V g D cT f n s H locs → lv_has ls 6 [(2, .int x2)] → K67 x2 = some o → W p l e rm_X7_longestCoast s m args below meth c H locs 1 6 (vx_MQ below (g_Xi o n) (g_XX V D cT f o) args s 1 6 g_no) (F0 m 67 ls [])) (N : Nat) (x0 : Nat) (x1 : Int32) (x2 : Int32) (x3 : Int32) (x4 : Int32) (H : Heap) (locs : List Loc) (ls : Array Slot), g_at g_no V g D cT f n s H locs → lv_has ls 6 [(0, .ref x0), (1, .int x1), (2, .int x2), (3, .int x3), (4, .int x4)] → p_X7_longestCoast_l14 V g f K67 N x0 x1 x2 x3 x4 = some o → W p l e rm_X7_longestCoast s m args below meth c H locs 1 6 (vx_MQ below (g_Xi o n) (g_XX V D cT f o) args s 1 6 g_no) (F0 m 14 ls []) := by
      intro K67 hK67 N
      induction N with
      | zero =>
        intro x0 x1 x2 x3 x4 H locs ls hI hl hq
        rw [p_X7_longestCoast_l14] at hq
        cases hq
      | succ N ih =>
        intro x0 x1 x2 x3 x4 H locs ls hI hl hq
        rw [p_X7_longestCoast_l14] at hq
        refine lv_iload hx hb dX7_longestCoast_14 (lv_at hl 4 rfl) ?_
        refine lv_aload_n hx hb dX7_longestCoast_16 rfl (lv_at hl 0 rfl) ?_
        obtain ⟨v2, ev2, hq⟩ := b_s hq
        refine fa_gr (own := RX7) (ref := "CoastlineRuler") (k := 0) hx hb hB inB_RX7 hown hI rfl (by decide) m_253 (fun _ h9 => h9) ev2 dX7_longestCoast_17 ?_
        obtain ⟨v3, ev3, hq⟩ := b_s hq
        refine fa_gi (own := RX7) (ref := "CoastlineRuler$Chart") (k := 1) hx hb hB inB_RX1 hown hI rfl (by decide) m_77 (fun _ h9 => h9) ev3 dX7_longestCoast_20 ?_
        refine lv_icmp_ge (tgt := 67) hx hb dX7_longestCoast_23 (by decide) (fun c4 => ?_) (fun c4 => ?_)
        · replace hq := i_t c4 hq
          exact hK67 x2 H locs ls hI (lv_sub hl [2] rfl) hq
        · replace hq := i_f c4 hq
          refine lv_aload_n hx hb dX7_longestCoast_26 rfl (lv_at hl 0 rfl) ?_
          obtain ⟨v5, ev5, hq⟩ := b_s hq
          refine fa_gr (own := RX7) (ref := "CoastlineRuler") (k := 0) hx hb hB inB_RX7 hown hI rfl (by decide) m_253 (fun _ h9 => h9) ev5 dX7_longestCoast_27 ?_
          obtain ⟨v6, ev6, hq⟩ := b_s hq
          refine fa_gr (own := RX7) (ref := "CoastlineRuler$Chart") (k := 0) hx hb hB inB_RX1 hown hI rfl (by decide) m_74 (fun _ h9 => h9) ev6 dX7_longestCoast_30 ?_
          refine lv_iload hx hb dX7_longestCoast_33 (lv_at hl 4 rfl) ?_
          obtain ⟨v7, ev7, hq⟩ := b_s hq
          refine fa_lq hx hb hI (by decide) rfl ev7 dX7_longestCoast_35 ?_
          refine lv_iload_n hx hb dX7_longestCoast_36 rfl (lv_at hl 1 rfl) ?_
          refine lv_aload_n hx hb dX7_longestCoast_37 rfl (lv_at hl 0 rfl) ?_
          obtain ⟨v8, ev8, hq⟩ := b_s hq
          refine fa_gr (own := RX7) (ref := "CoastlineRuler") (k := 0) hx hb hB inB_RX7 hown hI rfl (by decide) m_253 (fun _ h9 => h9) ev8 dX7_longestCoast_38 ?_
          obtain ⟨v9, ev9, hq⟩ := b_s hq
          refine fa_gi (own := RX7) (ref := "CoastlineRuler$Chart") (k := 2) hx hb hB inB_RX1 hown hI rfl (by decide) m_80 (fun _ h9 => h9) ev9 dX7_longestCoast_41 ?_
          obtain ⟨v10, ev10, hq⟩ := b_s hq
          refine gr_i (g_runV (As := [.int x1, .int v9]) (rest := []) (ci := 5) hC (c_X2_measure l V g D cT f n v7 x1 v9 v10 ev10) k_X2_measure m_695 rfl rfl ⟨Nat.le_of_ble_eq_true rfl, Nat.le_of_ble_eq_true rfl⟩ hI rfl rfl (h_me_eq ev10).1 rfl hl.1 rfl (Nat.le_of_ble_eq_true rfl) dX7_longestCoast_44 ⟨by decide, by decide⟩) hI (fun H locs hI => ?_)
          refine lv_istore (lv' := [(5, .int v10), (0, .ref x0), (1, .int x1), (2, .int x2), (3, .int x3), (4, .int x4)]) hx hb dX7_longestCoast_47 hl (by decide) rfl (fun ls hl => ?_)
          refine lv_iload hx hb dX7_longestCoast_49 (lv_at hl 0 rfl) ?_
          refine lv_iload_n hx hb dX7_longestCoast_51 rfl (lv_at hl 4 rfl) ?_
          refine lv_icmp_le (tgt := 61) hx hb dX7_longestCoast_52 (by decide) (fun c11 => ?_) (fun c11 => ?_)
          · replace hq := i_t c11 hq
            refine lv_iinc (v := x4 + (1 : Int32)) (lv' := [(4, .int (x4 + (1 : Int32))), (5, .int v10), (0, .ref x0), (1, .int x1), (2, .int x2), (3, .int x3)]) hx hb dX7_longestCoast_61 hl (k := 5) rfl rfl (by decide) rfl (fun ls hl => ?_)
            refine lv_goto (tgt := 14) hx hb dX7_longestCoast_64 (by decide) ?_
            exact ih x0 x1 x2 x3 (x4 + (1 : Int32)) H locs ls hI (lv_sub hl [2, 3, 4, 5, 0] rfl) hq
          · replace hq := i_f c11 hq
            refine lv_iload hx hb dX7_longestCoast_55 (lv_at hl 5 rfl) ?_
            refine lv_istore_n (lv' := [(2, .int x4), (5, .int v10), (0, .ref x0), (1, .int x1), (3, .int x3), (4, .int x4)]) hx hb dX7_longestCoast_57 rfl hl (by decide) rfl (fun ls hl => ?_)
            refine lv_iload hx hb dX7_longestCoast_58 (lv_at hl 1 rfl) ?_
            refine lv_istore_n (lv' := [(3, .int v10), (2, .int x4), (5, .int v10), (0, .ref x0), (1, .int x1), (4, .int x4)]) hx hb dX7_longestCoast_60 rfl hl (by decide) rfl (fun ls hl => ?_)
            refine lv_iinc (v := x4 + (1 : Int32)) (lv' := [(4, .int (x4 + (1 : Int32))), (3, .int v10), (2, .int x4), (5, .int v10), (0, .ref x0), (1, .int x1)]) hx hb dX7_longestCoast_61 hl (k := 5) rfl rfl (by decide) rfl (fun ls hl => ?_)
            refine lv_goto (tgt := 14) hx hb dX7_longestCoast_64 (by decide) ?_
            exact ih x0 x1 x4 v10 (x4 + (1 : Int32)) H locs ls hI (lv_sub hl [4, 5, 2, 1, 0] rfl) hq
    refine hl14 _ ?_ FU a0 a1 (-1 : Int32) (-1 : Int32) (0 : Int32) H locs ls hI (lv_sub hl [3, 4, 2, 1, 0] rfl) hq
    · intro x2 H locs ls hI hl hq
      refine lv_iload_n hx hb dX7_longestCoast_67 rfl (lv_at hl 0 rfl) ?_
      exact ge_Xi hx hb hlocks hr rfl hI hq dX7_longestCoast_68

abbrev rm_X7_islandAt : Room := { frames := 9, cells := 2, slots := 12, locals := 162 }
theorem k_X7_islandAt : g_CV yX7_islandAt cX7_islandAt 3 (some (.object "CoastlineRuler$Coast")) 1 := ⟨⟨m_785, m_1, by decide +kernel⟩, m_784, ms_13⟩
set_option maxHeartbeats 4000000 in
set_option maxRecDepth 100000 in
theorem c_X7_islandAt (l : Launch) (hl0 : l.stackTraces = false) (V : Nat → Nat) (g : GH) (D : va_G) (cT : Nat → ClassId) (f : GH) (n : Nat) (a0 : Nat) (a1 : Int32) (o : Nat ⊕ Nat) (hq : p_X7_islandAt V g f a0 a1 = some o) : vx_Met l yX7_islandAt (Cond.code yX7_islandAt cX7_islandAt 3 (some (.object "CoastlineRuler$Coast")) :: g_B) rm_X7_islandAt (va_Pc [.ref a0, .int a1] (g_I V g D cT f n)) (g_Xr o n) (g_XX V D cT f o) 2 12 g_no := by
  refine g_beginX (own := RX7) [.ref a0, .int a1] [(0, .ref a0), (1, .int a1)] g_no (fun _ h => h.elim) (by decide) rfl (Nat.le_of_ble_eq_true rfl) rfl ?_
  intro p e s m args below meth c hx hb hr hlocks ht0 hC hI ls hl
  obtain ⟨hx, hb, hml, hown, hB⟩ := id hC
  obtain ⟨H, hH⟩ : ∃ H, H = s.heap := ⟨_, rfl⟩
  obtain ⟨locs, hlocs⟩ : ∃ L : List Loc, L = [] := ⟨_, rfl⟩
  rw [← hH, ← hlocs] at hI ⊢
  clear hH hlocs
  unfold p_X7_islandAt at hq
  replace hq := (h_me_eq hq).2
  refine lv_aload_n hx hb dX7_islandAt_0 rfl (lv_at hl 0 rfl) ?_
  refine lv_iload_n hx hb dX7_islandAt_1 rfl (lv_at hl 1 rfl) ?_
  rcases x_b_eq hq with ⟨v1, ev1, hq⟩ | ⟨v1, ev1, hq⟩
  · exact gt_RR hlocks ht0 (g_runVX (As := [.int a1]) (rest := []) (ci := 9) hC (c_X7_coastAt l hl0 V g D cT f n a0 a1 (.inl v1) ev1) k_X7_coastAt m_577 rfl rfl ⟨Nat.le_of_ble_eq_true rfl, Nat.le_of_ble_eq_true rfl⟩ hI rfl rfl (h_me_eq ev1).1 rfl hl.1 rfl (Nat.le_of_ble_eq_true rfl) dX7_islandAt_2 ⟨by decide, by decide⟩) no_r hI hq (by decide) (by decide)
  · refine gx_r (g_runVX (As := [.int a1]) (rest := []) (ci := 9) hC (c_X7_coastAt l hl0 V g D cT f n a0 a1 (.inr v1) ev1) k_X7_coastAt m_577 rfl rfl ⟨Nat.le_of_ble_eq_true rfl, Nat.le_of_ble_eq_true rfl⟩ hI rfl rfl (h_me_eq ev1).1 rfl hl.1 rfl (Nat.le_of_ble_eq_true rfl) dX7_islandAt_2 ⟨by decide, by decide⟩) hI (fun H locs hI => ?_)
    refine lv_astore_n (lv' := [(2, .ref v1), (0, .ref a0), (1, .int a1)]) hx hb dX7_islandAt_5 rfl hl (by decide) rfl (fun ls hl => ?_)
    refine lv_aload_n hx hb dX7_islandAt_6 rfl (lv_at hl 0 rfl) ?_
    obtain ⟨v2, ev2, hq⟩ := b_s hq
    refine fa_gi (own := RX7) (ref := "CoastlineRuler$Coast") (k := 3) hx hb hB inB_RX2 hown hI rfl (by decide) m_60 (fun _ h9 => h9) ev2 dX7_islandAt_7 ?_
    refine lv_if_ne (tgt := 24) hx hb dX7_islandAt_10 (by decide) (fun c3 => ?_) (fun c3 => ?_)
    · replace hq := i_f c3 hq
      refine lv_aload_n hx hb dX7_islandAt_24 rfl (lv_at hl 0 rfl) ?_
      refine W.widen (k := 2) (n := 12) (by decide) (by decide) ?_
      exact ge_Xr hx hb hlocks hr (Or.inl ⟨_, rfl⟩) hI hq dX7_islandAt_25
    · replace hq := i_t c3 hq
      exact vx_throwSW (own := RX7) (cls := "java/lang/IllegalStateException") (names := ["java/lang/RuntimeException", "java/lang/Exception"]) hx hb hl0 hown (by decide +kernel) (by decide +kernel) (hB _ m_519) (hB _ m_25) (g_rtq hI rt_10) (g_hat hB hI xat_RX7_330) xgd_RX7_330 (g_uns hI) (g_sup hI) hI.2.2.2.2.2.2.1 (hl.1.trans hml.symm) dX7_islandAt_13 dX7_islandAt_16 dX7_islandAt_17 dX7_islandAt_20 dX7_islandAt_23 (fun x hx => (ht0 x hx).elim) (by decide) (by decide) (by decide) (by decide) hlocks (g_thrR hI hq) hI.2.2.2.2.2.2.1.2.2 (by decide) (by decide)

abbrev rm_X7_doubledArea : Room := { frames := 10, cells := 2, slots := 12, locals := 184 }
theorem k_X7_doubledArea : g_CV yX7_doubledArea cX7_doubledArea 2 (some .int) 1 := ⟨⟨m_791, m_1, by decide +kernel⟩, m_789, m_790⟩
set_option maxHeartbeats 4000000 in
set_option maxRecDepth 100000 in
theorem c_X7_doubledArea (l : Launch) (hl0 : l.stackTraces = false) (V : Nat → Nat) (g : GH) (D : va_G) (cT : Nat → ClassId) (f : GH) (n : Nat) (a0 : Nat) (a1 : Int32) (o : Nat ⊕ Int32) (hq : p_X7_doubledArea V g f a0 a1 = some o) : vx_Met l yX7_doubledArea (Cond.code yX7_doubledArea cX7_doubledArea 2 (some .int) :: g_B) rm_X7_doubledArea (va_Pc [.ref a0, .int a1] (g_I V g D cT f n)) (g_Xi o n) (g_XX V D cT f o) 2 12 g_no := by
  refine g_beginX (own := RX7) [.ref a0, .int a1] [(0, .ref a0), (1, .int a1)] g_no (fun _ h => h.elim) (by decide) rfl (Nat.le_of_ble_eq_true rfl) rfl ?_
  intro p e s m args below meth c hx hb hr hlocks ht0 hC hI ls hl
  obtain ⟨hx, hb, hml, hown, hB⟩ := id hC
  obtain ⟨H, hH⟩ : ∃ H, H = s.heap := ⟨_, rfl⟩
  obtain ⟨locs, hlocs⟩ : ∃ L : List Loc, L = [] := ⟨_, rfl⟩
  rw [← hH, ← hlocs] at hI ⊢
  clear hH hlocs
  unfold p_X7_doubledArea at hq
  replace hq := (h_me_eq hq).2
  refine lv_aload_n hx hb dX7_doubledArea_0 rfl (lv_at hl 0 rfl) ?_
  refine lv_iload_n hx hb dX7_doubledArea_1 rfl (lv_at hl 1 rfl) ?_
  rcases x_b_eq hq with ⟨v1, ev1, hq⟩ | ⟨v1, ev1, hq⟩
  · exact gt_RR hlocks ht0 (g_runVX (As := [.int a1]) (rest := []) (ci := 9) hC (c_X7_islandAt l hl0 V g D cT f n a0 a1 (.inl v1) ev1) k_X7_islandAt m_782 rfl rfl ⟨Nat.le_of_ble_eq_true rfl, Nat.le_of_ble_eq_true rfl⟩ hI rfl rfl (h_me_eq ev1).1 rfl hl.1 rfl (Nat.le_of_ble_eq_true rfl) dX7_doubledArea_2 ⟨by decide, by decide⟩) no_r hI hq (by decide) (by decide)
  · refine gx_r (g_runVX (As := [.int a1]) (rest := []) (ci := 9) hC (c_X7_islandAt l hl0 V g D cT f n a0 a1 (.inr v1) ev1) k_X7_islandAt m_782 rfl rfl ⟨Nat.le_of_ble_eq_true rfl, Nat.le_of_ble_eq_true rfl⟩ hI rfl rfl (h_me_eq ev1).1 rfl hl.1 rfl (Nat.le_of_ble_eq_true rfl) dX7_doubledArea_2 ⟨by decide, by decide⟩) hI (fun H locs hI => ?_)
    obtain ⟨v2, ev2, hq⟩ := b_s hq
    refine gr_i (g_runV (As := []) (rest := []) (ci := 5) hC (c_X2_signedArea l V g D cT f n v1 v2 ev2) k_X2_signedArea m_773 rfl rfl ⟨Nat.le_of_ble_eq_true rfl, Nat.le_of_ble_eq_true rfl⟩ hI rfl rfl (h_me_eq ev2).1 rfl hl.1 rfl (Nat.le_of_ble_eq_true rfl) dX7_doubledArea_5 ⟨by decide, by decide⟩) hI (fun H locs hI => ?_)
    obtain ⟨v3, ev3, hq⟩ := b_s hq
    refine g_abs hx hb (hml.trans hl.1.symm) hown (hB _ m_777) (hB _ m_669) (hB _ m_15) (hB _ m_670) (Nat.le_of_ble_eq_true rfl) (Nat.le_of_ble_eq_true rfl) (Nat.le_of_ble_eq_true rfl) (Nat.le_of_ble_eq_true rfl) ev3 dX7_doubledArea_8 ?_
    exact ge_Xi hx hb hlocks hr rfl hI hq dX7_doubledArea_11

abbrev rm_X7_contains : Room := { frames := 10, cells := 4, slots := 24, locals := 215 }
theorem k_X7_contains : g_CV yX7_contains cX7_contains 5 (some .boolean) 3 := ⟨⟨m_837, m_1, by decide +kernel⟩, m_835, m_836⟩
set_option maxHeartbeats 4000000 in
set_option maxRecDepth 100000 in
theorem c_X7_contains (l : Launch) (hl0 : l.stackTraces = false) (V : Nat → Nat) (g : GH) (D : va_G) (cT : Nat → ClassId) (f : GH) (n : Nat) (a0 : Nat) (a1 : Int32) (a2 : Int32) (a3 : Int32) (o : Nat ⊕ Int32) (hq : p_X7_contains V g f a0 a1 a2 a3 = some o) : vx_Met l yX7_contains (Cond.code yX7_contains cX7_contains 5 (some .boolean) :: g_B) rm_X7_contains (va_Pc [.ref a0, .int a1, .int a2, .int a3] (g_I V g D cT f n)) (g_Xi o n) (g_XX V D cT f o) 4 24 g_no := by
  refine g_beginX (own := RX7) [.ref a0, .int a1, .int a2, .int a3] [(0, .ref a0), (1, .int a1), (2, .int a2), (3, .int a3)] g_no (fun _ h => h.elim) (by decide) rfl (Nat.le_of_ble_eq_true rfl) rfl ?_
  intro p e s m args below meth c hx hb hr hlocks ht0 hC hI ls hl
  obtain ⟨hx, hb, hml, hown, hB⟩ := id hC
  obtain ⟨H, hH⟩ : ∃ H, H = s.heap := ⟨_, rfl⟩
  obtain ⟨locs, hlocs⟩ : ∃ L : List Loc, L = [] := ⟨_, rfl⟩
  rw [← hH, ← hlocs] at hI ⊢
  clear hH hlocs
  unfold p_X7_contains at hq
  replace hq := (h_me_eq hq).2
  refine lv_aload_n hx hb dX7_contains_0 rfl (lv_at hl 0 rfl) ?_
  refine lv_iload_n hx hb dX7_contains_1 rfl (lv_at hl 1 rfl) ?_
  rcases x_b_eq hq with ⟨v1, ev1, hq⟩ | ⟨v1, ev1, hq⟩
  · exact gt_RR hlocks ht0 (g_runVX (As := [.int a1]) (rest := []) (ci := 9) hC (c_X7_islandAt l hl0 V g D cT f n a0 a1 (.inl v1) ev1) k_X7_islandAt m_782 rfl rfl ⟨Nat.le_of_ble_eq_true rfl, Nat.le_of_ble_eq_true rfl⟩ hI rfl rfl (h_me_eq ev1).1 rfl hl.1 rfl (Nat.le_of_ble_eq_true rfl) dX7_contains_2 ⟨by decide, by decide⟩) no_r hI hq (by decide) (by decide)
  · refine gx_r (g_runVX (As := [.int a1]) (rest := []) (ci := 9) hC (c_X7_islandAt l hl0 V g D cT f n a0 a1 (.inr v1) ev1) k_X7_islandAt m_782 rfl rfl ⟨Nat.le_of_ble_eq_true rfl, Nat.le_of_ble_eq_true rfl⟩ hI rfl rfl (h_me_eq ev1).1 rfl hl.1 rfl (Nat.le_of_ble_eq_true rfl) dX7_contains_2 ⟨by decide, by decide⟩) hI (fun H locs hI => ?_)
    refine lv_astore (lv' := [(4, .ref v1), (0, .ref a0), (1, .int a1), (2, .int a2), (3, .int a3)]) hx hb dX7_contains_5 hl (by decide) rfl (fun ls hl => ?_)
    refine lv_iload_n hx hb dX7_contains_7 rfl (lv_at hl 3 rfl) ?_
    refine lv_sipush (v := (-1000 : Int32)) hx hb dX7_contains_8 (by decide) ?_
    refine lv_sipush (v := (1000 : Int32)) hx hb dX7_contains_11 (by decide) ?_
    rcases x_b_eq hq with ⟨v2, ev2, hq⟩ | ⟨v2, ev2, hq⟩
    · exact gt_RR hlocks ht0 (g_runSX (As := [.int a2, .int (-1000 : Int32), .int (1000 : Int32)]) (rest := []) hC (c_X7_requireWithin l hl0 V g D cT f n a2 (-1000 : Int32) (1000 : Int32) (.inl v2) ev2) k_X7_requireWithin m_301 rfl rfl ⟨Nat.le_of_ble_eq_true rfl, Nat.le_of_ble_eq_true rfl⟩ hI rfl hl.1 rfl (Nat.le_of_ble_eq_true rfl) dX7_contains_14 ⟨by decide, by decide⟩) no_v hI hq (by decide) (by decide)
    · refine gx_v (g_runSX (As := [.int a2, .int (-1000 : Int32), .int (1000 : Int32)]) (rest := []) hC (c_X7_requireWithin l hl0 V g D cT f n a2 (-1000 : Int32) (1000 : Int32) (.inr v2) ev2) k_X7_requireWithin m_301 rfl rfl ⟨Nat.le_of_ble_eq_true rfl, Nat.le_of_ble_eq_true rfl⟩ hI rfl hl.1 rfl (Nat.le_of_ble_eq_true rfl) dX7_contains_14 ⟨by decide, by decide⟩) hI (fun H locs hI => ?_)
      refine lv_iload_n hx hb dX7_contains_17 rfl (lv_at hl 4 rfl) ?_
      refine lv_sipush (v := (-1000 : Int32)) hx hb dX7_contains_18 (by decide) ?_
      refine lv_sipush (v := (1000 : Int32)) hx hb dX7_contains_21 (by decide) ?_
      rcases x_b_eq hq with ⟨v3, ev3, hq⟩ | ⟨v3, ev3, hq⟩
      · exact gt_RR hlocks ht0 (g_runSX (As := [.int a3, .int (-1000 : Int32), .int (1000 : Int32)]) (rest := []) hC (c_X7_requireWithin l hl0 V g D cT f n a3 (-1000 : Int32) (1000 : Int32) (.inl v3) ev3) k_X7_requireWithin m_301 rfl rfl ⟨Nat.le_of_ble_eq_true rfl, Nat.le_of_ble_eq_true rfl⟩ hI rfl hl.1 rfl (Nat.le_of_ble_eq_true rfl) dX7_contains_24 ⟨by decide, by decide⟩) no_v hI hq (by decide) (by decide)
      · refine gx_v (g_runSX (As := [.int a3, .int (-1000 : Int32), .int (1000 : Int32)]) (rest := []) hC (c_X7_requireWithin l hl0 V g D cT f n a3 (-1000 : Int32) (1000 : Int32) (.inr v3) ev3) k_X7_requireWithin m_301 rfl rfl ⟨Nat.le_of_ble_eq_true rfl, Nat.le_of_ble_eq_true rfl⟩ hI rfl hl.1 rfl (Nat.le_of_ble_eq_true rfl) dX7_contains_24 ⟨by decide, by decide⟩) hI (fun H locs hI => ?_)
        refine lv_aload hx hb dX7_contains_27 (lv_at hl 0 rfl) ?_
        refine lv_iload_n hx hb dX7_contains_29 rfl (lv_at hl 3 rfl) ?_
        refine lv_iload_n hx hb dX7_contains_30 rfl (lv_at hl 4 rfl) ?_
        obtain ⟨v4, ev4, hq⟩ := b_s hq
        refine gr_i (g_runV (As := [.int a2, .int a3]) (rest := []) (ci := 5) hC (c_X2_covers l V g D cT f n v1 a2 a3 v4 ev4) k_X2_covers m_838 rfl rfl ⟨Nat.le_of_ble_eq_true rfl, Nat.le_of_ble_eq_true rfl⟩ hI rfl rfl (h_me_eq ev4).1 rfl hl.1 rfl (Nat.le_of_ble_eq_true rfl) dX7_contains_31 ⟨by decide, by decide⟩) hI (fun H locs hI => ?_)
        obtain ⟨_, ev5, hq⟩ := b_s hq
        exact ge_Xi hx hb hlocks hr (h_bz_eq ev5).2.1 hI hq dX7_contains_34

abbrev rm_X7_encloses : Room := { frames := 10, cells := 3, slots := 18, locals := 237 }
theorem k_X7_encloses : g_CV yX7_encloses cX7_encloses 5 (some .boolean) 2 := ⟨⟨m_781, m_1, by decide +kernel⟩, m_779, m_780⟩
set_option maxHeartbeats 4000000 in
set_option maxRecDepth 100000 in
theorem c_X7_encloses (l : Launch) (hl0 : l.stackTraces = false) (V : Nat → Nat) (g : GH) (D : va_G) (cT : Nat → ClassId) (f : GH) (n : Nat) (a0 : Nat) (a1 : Int32) (a2 : Int32) (o : Nat ⊕ Int32) (hq : p_X7_encloses V g f a0 a1 a2 = some o) : vx_Met l yX7_encloses (Cond.code yX7_encloses cX7_encloses 5 (some .boolean) :: g_B) rm_X7_encloses (va_Pc [.ref a0, .int a1, .int a2] (g_I V g D cT f n)) (g_Xi o n) (g_XX V D cT f o) 3 18 g_no := by
  refine g_beginX (own := RX7) [.ref a0, .int a1, .int a2] [(0, .ref a0), (1, .int a1), (2, .int a2)] g_no (fun _ h => h.elim) (by decide) rfl (Nat.le_of_ble_eq_true rfl) rfl ?_
  intro p e s m args below meth c hx hb hr hlocks ht0 hC hI ls hl
  obtain ⟨hx, hb, hml, hown, hB⟩ := id hC
  obtain ⟨H, hH⟩ : ∃ H, H = s.heap := ⟨_, rfl⟩
  obtain ⟨locs, hlocs⟩ : ∃ L : List Loc, L = [] := ⟨_, rfl⟩
  rw [← hH, ← hlocs] at hI ⊢
  clear hH hlocs
  unfold p_X7_encloses at hq
  replace hq := (h_me_eq hq).2
  refine lv_aload_n hx hb dX7_encloses_0 rfl (lv_at hl 0 rfl) ?_
  refine lv_iload_n hx hb dX7_encloses_1 rfl (lv_at hl 2 rfl) ?_
  rcases x_b_eq hq with ⟨v1, ev1, hq⟩ | ⟨v1, ev1, hq⟩
  · exact gt_RR hlocks ht0 (g_runVX (As := [.int a2]) (rest := []) (ci := 9) hC (c_X7_coastAt l hl0 V g D cT f n a0 a2 (.inl v1) ev1) k_X7_coastAt m_577 rfl rfl ⟨Nat.le_of_ble_eq_true rfl, Nat.le_of_ble_eq_true rfl⟩ hI rfl rfl (h_me_eq ev1).1 rfl hl.1 rfl (Nat.le_of_ble_eq_true rfl) dX7_encloses_2 ⟨by decide, by decide⟩) no_r hI hq (by decide) (by decide)
  · refine gx_r (g_runVX (As := [.int a2]) (rest := []) (ci := 9) hC (c_X7_coastAt l hl0 V g D cT f n a0 a2 (.inr v1) ev1) k_X7_coastAt m_577 rfl rfl ⟨Nat.le_of_ble_eq_true rfl, Nat.le_of_ble_eq_true rfl⟩ hI rfl rfl (h_me_eq ev1).1 rfl hl.1 rfl (Nat.le_of_ble_eq_true rfl) dX7_encloses_2 ⟨by decide, by decide⟩) hI (fun H locs hI => ?_)
    refine lv_astore_n (lv' := [(3, .ref v1), (0, .ref a0), (1, .int a1), (2, .int a2)]) hx hb dX7_encloses_5 rfl hl (by decide) rfl (fun ls hl => ?_)
    refine lv_aload_n hx hb dX7_encloses_6 rfl (lv_at hl 1 rfl) ?_
    refine lv_iload_n hx hb dX7_encloses_7 rfl (lv_at hl 2 rfl) ?_
    rcases x_b_eq hq with ⟨v2, ev2, hq⟩ | ⟨v2, ev2, hq⟩
    · exact gt_RR hlocks ht0 (g_runVX (As := [.int a1]) (rest := []) (ci := 9) hC (c_X7_islandAt l hl0 V g D cT f n a0 a1 (.inl v2) ev2) k_X7_islandAt m_782 rfl rfl ⟨Nat.le_of_ble_eq_true rfl, Nat.le_of_ble_eq_true rfl⟩ hI rfl rfl (h_me_eq ev2).1 rfl hl.1 rfl (Nat.le_of_ble_eq_true rfl) dX7_encloses_8 ⟨by decide, by decide⟩) no_r hI hq (by decide) (by decide)
    · refine gx_r (g_runVX (As := [.int a1]) (rest := []) (ci := 9) hC (c_X7_islandAt l hl0 V g D cT f n a0 a1 (.inr v2) ev2) k_X7_islandAt m_782 rfl rfl ⟨Nat.le_of_ble_eq_true rfl, Nat.le_of_ble_eq_true rfl⟩ hI rfl rfl (h_me_eq ev2).1 rfl hl.1 rfl (Nat.le_of_ble_eq_true rfl) dX7_encloses_8 ⟨by decide, by decide⟩) hI (fun H locs hI => ?_)
      refine lv_astore (lv' := [(4, .ref v2), (3, .ref v1), (0, .ref a0), (1, .int a1), (2, .int a2)]) hx hb dX7_encloses_11 hl (by decide) rfl (fun ls hl => ?_)
      refine lv_iload_n hx hb dX7_encloses_13 rfl (lv_at hl 3 rfl) ?_
      refine lv_iload_n hx hb dX7_encloses_14 rfl (lv_at hl 4 rfl) ?_
      refine lv_icmp_eq (tgt := 31) hx hb dX7_encloses_15 (by decide) (fun c3 => ?_) (fun c3 => ?_)
      · replace hq := i_t c3 hq
        refine lv_iconst (v := (0 : Int32)) hx hb dX7_encloses_31 (by decide) ?_
        exact ge_Xi hx hb hlocks hr (by decide +kernel) hI hq dX7_encloses_32
      · replace hq := i_f c3 hq
        refine lv_aload hx hb dX7_encloses_18 (lv_at hl 0 rfl) ?_
        refine lv_aload_n hx hb dX7_encloses_20 rfl (lv_at hl 1 rfl) ?_
        obtain ⟨v4, ev4, hq⟩ := b_s hq
        refine gr_i (g_runV (As := [.ref v1]) (rest := []) (ci := 5) hC (c_X2_coversAll l V g D cT f n v2 v1 v4 ev4) k_X2_coversAll m_787 rfl rfl ⟨Nat.le_of_ble_eq_true rfl, Nat.le_of_ble_eq_true rfl⟩ hI rfl rfl (h_me_eq ev4).1 rfl hl.1 rfl (Nat.le_of_ble_eq_true rfl) dX7_encloses_21 ⟨by decide, by decide⟩) hI (fun H locs hI => ?_)
        refine lv_if_eq (tgt := 31) hx hb dX7_encloses_24 (by decide) (fun c5 => ?_) (fun c5 => ?_)
        · replace hq := i_t c5 hq
          refine lv_iconst (v := (0 : Int32)) hx hb dX7_encloses_31 (by decide) ?_
          exact ge_Xi hx hb hlocks hr (by decide +kernel) hI hq dX7_encloses_32
        · replace hq := i_f c5 hq
          refine lv_iconst (v := (1 : Int32)) hx hb dX7_encloses_27 (by decide) ?_
          refine lv_goto (tgt := 32) hx hb dX7_encloses_28 (by decide) ?_
          exact ge_Xi hx hb hlocks hr (by decide +kernel) hI hq dX7_encloses_32

abbrev rm_X7_innermostIslandAround : Room := { frames := 9, cells := 1, slots := 6, locals := 259 }
theorem k_X7_innermostIslandAround : g_CV yX7_innermostIslandAround cX7_innermostIslandAround 6 (some .int) 1 := ⟨⟨m_737, m_1, by decide +kernel⟩, m_735, m_736⟩
set_option maxHeartbeats 4000000 in
set_option maxRecDepth 100000 in
theorem c_X7_innermostIslandAround (l : Launch) (hl0 : l.stackTraces = false) (V : Nat → Nat) (g : GH) (D : va_G) (cT : Nat → ClassId) (f : GH) (n : Nat) (a0 : Nat) (a1 : Int32) (o : Nat ⊕ Int32) (hq : p_X7_innermostIslandAround V g f a0 a1 = some o) : vx_Met l yX7_innermostIslandAround (Cond.code yX7_innermostIslandAround cX7_innermostIslandAround 6 (some .int) :: g_B) rm_X7_innermostIslandAround (va_Pc [.ref a0, .int a1] (g_I V g D cT f n)) (g_Xi o n) (g_XX V D cT f o) 1 6 g_no := by
  refine g_beginX (own := RX7) [.ref a0, .int a1] [(0, .ref a0), (1, .int a1)] g_no (fun _ h => h.elim) (by decide) rfl (Nat.le_of_ble_eq_true rfl) rfl ?_
  intro p e s m args below meth c hx hb hr hlocks ht0 hC hI ls hl
  obtain ⟨hx, hb, hml, hown, hB⟩ := id hC
  obtain ⟨H, hH⟩ : ∃ H, H = s.heap := ⟨_, rfl⟩
  obtain ⟨locs, hlocs⟩ : ∃ L : List Loc, L = [] := ⟨_, rfl⟩
  rw [← hH, ← hlocs] at hI ⊢
  clear hH hlocs
  unfold p_X7_innermostIslandAround at hq
  replace hq := (h_me_eq hq).2
  refine lv_aload_n hx hb dX7_innermostIslandAround_0 rfl (lv_at hl 0 rfl) ?_
  refine lv_iload_n hx hb dX7_innermostIslandAround_1 rfl (lv_at hl 1 rfl) ?_
  rcases x_b_eq hq with ⟨v1, ev1, hq⟩ | ⟨v1, ev1, hq⟩
  · exact gt_RR hlocks ht0 (g_runVX (As := [.int a1]) (rest := []) (ci := 9) hC (c_X7_coastAt l hl0 V g D cT f n a0 a1 (.inl v1) ev1) k_X7_coastAt m_577 rfl rfl ⟨Nat.le_of_ble_eq_true rfl, Nat.le_of_ble_eq_true rfl⟩ hI rfl rfl (h_me_eq ev1).1 rfl hl.1 rfl (Nat.le_of_ble_eq_true rfl) dX7_innermostIslandAround_2 ⟨by decide, by decide⟩) no_r hI hq (by decide) (by decide)
  · refine gx_r (g_runVX (As := [.int a1]) (rest := []) (ci := 9) hC (c_X7_coastAt l hl0 V g D cT f n a0 a1 (.inr v1) ev1) k_X7_coastAt m_577 rfl rfl ⟨Nat.le_of_ble_eq_true rfl, Nat.le_of_ble_eq_true rfl⟩ hI rfl rfl (h_me_eq ev1).1 rfl hl.1 rfl (Nat.le_of_ble_eq_true rfl) dX7_innermostIslandAround_2 ⟨by decide, by decide⟩) hI (fun H locs hI => ?_)
    refine lv_pop hx hb dX7_innermostIslandAround_5 rfl ?_
    refine lv_iconst (v := (-1 : Int32)) hx hb dX7_innermostIslandAround_6 (by decide) ?_
    refine lv_istore_n (lv' := [(2, .int (-1 : Int32)), (0, .ref a0), (1, .int a1)]) hx hb dX7_innermostIslandAround_7 rfl hl (by decide) rfl (fun ls hl => ?_)
    refine lv_iconst (v := (0 : Int32)) hx hb dX7_innermostIslandAround_8 (by decide) ?_
    refine lv_istore_n (lv' := [(3, .int (0 : Int32)), (2, .int (-1 : Int32)), (0, .ref a0), (1, .int a1)]) hx hb dX7_innermostIslandAround_9 rfl hl (by decide) rfl (fun ls hl => ?_)
    refine lv_iconst (v := (0 : Int32)) hx hb dX7_innermostIslandAround_10 (by decide) ?_
    refine lv_istore (lv' := [(4, .int (0 : Int32)), (3, .int (0 : Int32)), (2, .int (-1 : Int32)), (0, .ref a0), (1, .int a1)]) hx hb dX7_innermostIslandAround_11 hl (by decide) rfl (fun ls hl => ?_)
    have hl13 : ∀ (K78 : Int32 → Option (Nat ⊕ Int32)) (hK78 : ∀ (x2 : Int32) (H : Heap) (locs : List Loc) (ls : Array Slot), g_at g_no V g D cT f n s H locs → lv_has ls 6 [(2, .int x2)] → K78 x2 = some o → W p l e rm_X7_innermostIslandAround s m args below meth c H locs 1 6 (vx_MQ below (g_Xi o n) (g_XX V D cT f o) args s 1 6 g_no) (F0 m 78 ls [])) (N : Nat) (x0 : Nat) (x1 : Int32) (x2 : Int32) (x3 : Int32) (x4 : Int32) (H : Heap) (locs : List Loc) (ls : Array Slot), g_at g_no V g D cT f n s H locs → lv_has ls 6 [(0, .ref x0), (1, .int x1), (2, .int x2), (3, .int x3), (4, .int x4)] → p_X7_innermostIslandAround_l13 V g f K78 N x0 x1 x2 x3 x4 = some o → W p l e rm_X7_innermostIslandAround s m args below meth c H locs 1 6 (vx_MQ below (g_Xi o n) (g_XX V D cT f o) args s 1 6 g_no) (F0 m 13 ls []) := by
      intro K78 hK78 N
      induction N with
      | zero =>
        intro x0 x1 x2 x3 x4 H locs ls hI hl hq
        rw [p_X7_innermostIslandAround_l13] at hq
        cases hq
      | succ N ih =>
        intro x0 x1 x2 x3 x4 H locs ls hI hl hq
        rw [p_X7_innermostIslandAround_l13] at hq
        refine lv_iload hx hb dX7_innermostIslandAround_13 (lv_at hl 4 rfl) ?_
        refine lv_aload_n hx hb dX7_innermostIslandAround_15 rfl (lv_at hl 0 rfl) ?_
        obtain ⟨v2, ev2, hq⟩ := b_s hq
        refine fa_gr (own := RX7) (ref := "CoastlineRuler") (k := 0) hx hb hB inB_RX7 hown hI rfl (by decide) m_253 (fun _ h9 => h9) ev2 dX7_innermostIslandAround_16 ?_
        obtain ⟨v3, ev3, hq⟩ := b_s hq
        refine fa_gi (own := RX7) (ref := "CoastlineRuler$Chart") (k := 1) hx hb hB inB_RX1 hown hI rfl (by decide) m_77 (fun _ h9 => h9) ev3 dX7_innermostIslandAround_19 ?_
        refine lv_icmp_ge (tgt := 78) hx hb dX7_innermostIslandAround_22 (by decide) (fun c4 => ?_) (fun c4 => ?_)
        · replace hq := i_t c4 hq
          exact hK78 x2 H locs ls hI (lv_sub hl [2] rfl) hq
        · replace hq := i_f c4 hq
          refine lv_aload_n hx hb dX7_innermostIslandAround_25 rfl (lv_at hl 0 rfl) ?_
          obtain ⟨v5, ev5, hq⟩ := b_s hq
          refine fa_gr (own := RX7) (ref := "CoastlineRuler") (k := 0) hx hb hB inB_RX7 hown hI rfl (by decide) m_253 (fun _ h9 => h9) ev5 dX7_innermostIslandAround_26 ?_
          refine lv_iload hx hb dX7_innermostIslandAround_29 (lv_at hl 4 rfl) ?_
          refine lv_iload_n hx hb dX7_innermostIslandAround_31 rfl (lv_at hl 1 rfl) ?_
          obtain ⟨v6, ev6, hq⟩ := b_s hq
          refine gr_i (g_runV (As := [.int x4, .int x1]) (rest := []) (ci := 4) hC (c_X1_surrounds l V g D cT f n v5 x4 x1 v6 ev6) k_X1_surrounds m_738 rfl rfl ⟨Nat.le_of_ble_eq_true rfl, Nat.le_of_ble_eq_true rfl⟩ hI rfl rfl (h_me_eq ev6).1 rfl hl.1 rfl (Nat.le_of_ble_eq_true rfl) dX7_innermostIslandAround_32 ⟨by decide, by decide⟩) hI (fun H locs hI => ?_)
          refine lv_if_eq (tgt := 72) hx hb dX7_innermostIslandAround_35 (by decide) (fun c7 => ?_) (fun c7 => ?_)
          · replace hq := i_t c7 hq
            refine lv_iinc (v := x4 + (1 : Int32)) (lv' := [(4, .int (x4 + (1 : Int32))), (0, .ref x0), (1, .int x1), (2, .int x2), (3, .int x3)]) hx hb dX7_innermostIslandAround_72 hl (k := 4) rfl rfl (by decide) rfl (fun ls hl => ?_)
            refine lv_goto (tgt := 13) hx hb dX7_innermostIslandAround_75 (by decide) ?_
            exact ih x0 x1 x2 x3 (x4 + (1 : Int32)) H locs ls hI (lv_sub hl [1, 2, 3, 4, 0] rfl) hq
          · replace hq := i_f c7 hq
            refine lv_aload_n hx hb dX7_innermostIslandAround_38 rfl (lv_at hl 0 rfl) ?_
            obtain ⟨v8, ev8, hq⟩ := b_s hq
            refine fa_gr (own := RX7) (ref := "CoastlineRuler") (k := 0) hx hb hB inB_RX7 hown hI rfl (by decide) m_253 (fun _ h9 => h9) ev8 dX7_innermostIslandAround_39 ?_
            obtain ⟨v9, ev9, hq⟩ := b_s hq
            refine fa_gr (own := RX7) (ref := "CoastlineRuler$Chart") (k := 0) hx hb hB inB_RX1 hown hI rfl (by decide) m_74 (fun _ h9 => h9) ev9 dX7_innermostIslandAround_42 ?_
            refine lv_iload hx hb dX7_innermostIslandAround_45 (lv_at hl 4 rfl) ?_
            obtain ⟨v10, ev10, hq⟩ := b_s hq
            refine fa_lq hx hb hI (by decide) rfl ev10 dX7_innermostIslandAround_47 ?_
            obtain ⟨v11, ev11, hq⟩ := b_s hq
            refine gr_i (g_runV (As := []) (rest := []) (ci := 5) hC (c_X2_signedArea l V g D cT f n v10 v11 ev11) k_X2_signedArea m_773 rfl rfl ⟨Nat.le_of_ble_eq_true rfl, Nat.le_of_ble_eq_true rfl⟩ hI rfl rfl (h_me_eq ev11).1 rfl hl.1 rfl (Nat.le_of_ble_eq_true rfl) dX7_innermostIslandAround_48 ⟨by decide, by decide⟩) hI (fun H locs hI => ?_)
            obtain ⟨v12, ev12, hq⟩ := b_s hq
            refine g_abs hx hb (hml.trans hl.1.symm) hown (hB _ m_777) (hB _ m_669) (hB _ m_15) (hB _ m_670) (Nat.le_of_ble_eq_true rfl) (Nat.le_of_ble_eq_true rfl) (Nat.le_of_ble_eq_true rfl) (Nat.le_of_ble_eq_true rfl) ev12 dX7_innermostIslandAround_51 ?_
            refine lv_istore (lv' := [(5, .int v12), (0, .ref x0), (1, .int x1), (2, .int x2), (3, .int x3), (4, .int x4)]) hx hb dX7_innermostIslandAround_54 hl (by decide) rfl (fun ls hl => ?_)
            refine lv_iload_n hx hb dX7_innermostIslandAround_56 rfl (lv_at hl 3 rfl) ?_
            refine lv_if_lt (tgt := 66) hx hb dX7_innermostIslandAround_57 (by decide) (fun c13 => ?_) (fun c13 => ?_)
            · replace hq := i_t c13 hq
              refine lv_iload hx hb dX7_innermostIslandAround_66 (lv_at hl 5 rfl) ?_
              refine lv_istore_n (lv' := [(2, .int x4), (5, .int v12), (0, .ref x0), (1, .int x1), (3, .int x3), (4, .int x4)]) hx hb dX7_innermostIslandAround_68 rfl hl (by decide) rfl (fun ls hl => ?_)
              refine lv_iload hx hb dX7_innermostIslandAround_69 (lv_at hl 1 rfl) ?_
              refine lv_istore_n (lv' := [(3, .int v12), (2, .int x4), (5, .int v12), (0, .ref x0), (1, .int x1), (4, .int x4)]) hx hb dX7_innermostIslandAround_71 rfl hl (by decide) rfl (fun ls hl => ?_)
              refine lv_iinc (v := x4 + (1 : Int32)) (lv' := [(4, .int (x4 + (1 : Int32))), (3, .int v12), (2, .int x4), (5, .int v12), (0, .ref x0), (1, .int x1)]) hx hb dX7_innermostIslandAround_72 hl (k := 5) rfl rfl (by decide) rfl (fun ls hl => ?_)
              refine lv_goto (tgt := 13) hx hb dX7_innermostIslandAround_75 (by decide) ?_
              exact ih x0 x1 x4 v12 (x4 + (1 : Int32)) H locs ls hI (lv_sub hl [4, 5, 2, 1, 0] rfl) hq
            · replace hq := i_f c13 hq
              refine lv_iload hx hb dX7_innermostIslandAround_60 (lv_at hl 0 rfl) ?_
              refine lv_iload_n hx hb dX7_innermostIslandAround_62 rfl (lv_at hl 4 rfl) ?_
              refine lv_icmp_ge (tgt := 72) hx hb dX7_innermostIslandAround_63 (by decide) (fun c14 => ?_) (fun c14 => ?_)
              · replace hq := i_t c14 hq
                refine lv_iinc (v := x4 + (1 : Int32)) (lv' := [(4, .int (x4 + (1 : Int32))), (5, .int v12), (0, .ref x0), (1, .int x1), (2, .int x2), (3, .int x3)]) hx hb dX7_innermostIslandAround_72 hl (k := 5) rfl rfl (by decide) rfl (fun ls hl => ?_)
                refine lv_goto (tgt := 13) hx hb dX7_innermostIslandAround_75 (by decide) ?_
                exact ih x0 x1 x2 x3 (x4 + (1 : Int32)) H locs ls hI (lv_sub hl [2, 3, 4, 5, 0] rfl) hq
              · replace hq := i_f c14 hq
                refine lv_iload hx hb dX7_innermostIslandAround_66 (lv_at hl 5 rfl) ?_
                refine lv_istore_n (lv' := [(2, .int x4), (5, .int v12), (0, .ref x0), (1, .int x1), (3, .int x3), (4, .int x4)]) hx hb dX7_innermostIslandAround_68 rfl hl (by decide) rfl (fun ls hl => ?_)
                refine lv_iload hx hb dX7_innermostIslandAround_69 (lv_at hl 1 rfl) ?_
                refine lv_istore_n (lv' := [(3, .int v12), (2, .int x4), (5, .int v12), (0, .ref x0), (1, .int x1), (4, .int x4)]) hx hb dX7_innermostIslandAround_71 rfl hl (by decide) rfl (fun ls hl => ?_)
                refine lv_iinc (v := x4 + (1 : Int32)) (lv' := [(4, .int (x4 + (1 : Int32))), (3, .int v12), (2, .int x4), (5, .int v12), (0, .ref x0), (1, .int x1)]) hx hb dX7_innermostIslandAround_72 hl (k := 5) rfl rfl (by decide) rfl (fun ls hl => ?_)
                refine lv_goto (tgt := 13) hx hb dX7_innermostIslandAround_75 (by decide) ?_
                exact ih x0 x1 x4 v12 (x4 + (1 : Int32)) H locs ls hI (lv_sub hl [4, 5, 2, 1, 0] rfl) hq
    refine hl13 _ ?_ FU a0 a1 (-1 : Int32) (0 : Int32) (0 : Int32) H locs ls hI (lv_sub hl [3, 4, 2, 1, 0] rfl) hq
    · intro x2 H locs ls hI hl hq
      refine lv_iload_n hx hb dX7_innermostIslandAround_78 rfl (lv_at hl 0 rfl) ?_
      exact ge_Xi hx hb hlocks hr rfl hI hq dX7_innermostIslandAround_79

abbrev rm_X7_ringDepth : Room := { frames := 9, cells := 1, slots := 6, locals := 259 }
theorem k_X7_ringDepth : g_CV yX7_ringDepth cX7_ringDepth 4 (some .int) 1 := ⟨⟨m_808, m_1, by decide +kernel⟩, m_806, m_807⟩
set_option maxHeartbeats 4000000 in
set_option maxRecDepth 100000 in
theorem c_X7_ringDepth (l : Launch) (hl0 : l.stackTraces = false) (V : Nat → Nat) (g : GH) (D : va_G) (cT : Nat → ClassId) (f : GH) (n : Nat) (a0 : Nat) (a1 : Int32) (o : Nat ⊕ Int32) (hq : p_X7_ringDepth V g f a0 a1 = some o) : vx_Met l yX7_ringDepth (Cond.code yX7_ringDepth cX7_ringDepth 4 (some .int) :: g_B) rm_X7_ringDepth (va_Pc [.ref a0, .int a1] (g_I V g D cT f n)) (g_Xi o n) (g_XX V D cT f o) 1 6 g_no := by
  refine g_beginX (own := RX7) [.ref a0, .int a1] [(0, .ref a0), (1, .int a1)] g_no (fun _ h => h.elim) (by decide) rfl (Nat.le_of_ble_eq_true rfl) rfl ?_
  intro p e s m args below meth c hx hb hr hlocks ht0 hC hI ls hl
  obtain ⟨hx, hb, hml, hown, hB⟩ := id hC
  obtain ⟨H, hH⟩ : ∃ H, H = s.heap := ⟨_, rfl⟩
  obtain ⟨locs, hlocs⟩ : ∃ L : List Loc, L = [] := ⟨_, rfl⟩
  rw [← hH, ← hlocs] at hI ⊢
  clear hH hlocs
  unfold p_X7_ringDepth at hq
  replace hq := (h_me_eq hq).2
  refine lv_aload_n hx hb dX7_ringDepth_0 rfl (lv_at hl 0 rfl) ?_
  refine lv_iload_n hx hb dX7_ringDepth_1 rfl (lv_at hl 1 rfl) ?_
  rcases x_b_eq hq with ⟨v1, ev1, hq⟩ | ⟨v1, ev1, hq⟩
  · exact gt_RR hlocks ht0 (g_runVX (As := [.int a1]) (rest := []) (ci := 9) hC (c_X7_coastAt l hl0 V g D cT f n a0 a1 (.inl v1) ev1) k_X7_coastAt m_577 rfl rfl ⟨Nat.le_of_ble_eq_true rfl, Nat.le_of_ble_eq_true rfl⟩ hI rfl rfl (h_me_eq ev1).1 rfl hl.1 rfl (Nat.le_of_ble_eq_true rfl) dX7_ringDepth_2 ⟨by decide, by decide⟩) no_r hI hq (by decide) (by decide)
  · refine gx_r (g_runVX (As := [.int a1]) (rest := []) (ci := 9) hC (c_X7_coastAt l hl0 V g D cT f n a0 a1 (.inr v1) ev1) k_X7_coastAt m_577 rfl rfl ⟨Nat.le_of_ble_eq_true rfl, Nat.le_of_ble_eq_true rfl⟩ hI rfl rfl (h_me_eq ev1).1 rfl hl.1 rfl (Nat.le_of_ble_eq_true rfl) dX7_ringDepth_2 ⟨by decide, by decide⟩) hI (fun H locs hI => ?_)
    refine lv_pop hx hb dX7_ringDepth_5 rfl ?_
    refine lv_iconst (v := (0 : Int32)) hx hb dX7_ringDepth_6 (by decide) ?_
    refine lv_istore_n (lv' := [(2, .int (0 : Int32)), (0, .ref a0), (1, .int a1)]) hx hb dX7_ringDepth_7 rfl hl (by decide) rfl (fun ls hl => ?_)
    refine lv_iconst (v := (0 : Int32)) hx hb dX7_ringDepth_8 (by decide) ?_
    refine lv_istore_n (lv' := [(3, .int (0 : Int32)), (2, .int (0 : Int32)), (0, .ref a0), (1, .int a1)]) hx hb dX7_ringDepth_9 rfl hl (by decide) rfl (fun ls hl => ?_)
    have hl10 : ∀ (K42 : Int32 → Option (Nat ⊕ Int32)) (hK42 : ∀ (x2 : Int32) (H : Heap) (locs : List Loc) (ls : Array Slot), g_at g_no V g D cT f n s H locs → lv_has ls 4 [(2, .int x2)] → K42 x2 = some o → W p l e rm_X7_ringDepth s m args below meth c H locs 1 6 (vx_MQ below (g_Xi o n) (g_XX V D cT f o) args s 1 6 g_no) (F0 m 42 ls [])) (N : Nat) (x0 : Nat) (x1 : Int32) (x2 : Int32) (x3 : Int32) (H : Heap) (locs : List Loc) (ls : Array Slot), g_at g_no V g D cT f n s H locs → lv_has ls 4 [(0, .ref x0), (1, .int x1), (2, .int x2), (3, .int x3)] → p_X7_ringDepth_l10 V g f K42 N x0 x1 x2 x3 = some o → W p l e rm_X7_ringDepth s m args below meth c H locs 1 6 (vx_MQ below (g_Xi o n) (g_XX V D cT f o) args s 1 6 g_no) (F0 m 10 ls []) := by
      intro K42 hK42 N
      induction N with
      | zero =>
        intro x0 x1 x2 x3 H locs ls hI hl hq
        rw [p_X7_ringDepth_l10] at hq
        cases hq
      | succ N ih =>
        intro x0 x1 x2 x3 H locs ls hI hl hq
        rw [p_X7_ringDepth_l10] at hq
        refine lv_iload_n hx hb dX7_ringDepth_10 rfl (lv_at hl 3 rfl) ?_
        refine lv_aload_n hx hb dX7_ringDepth_11 rfl (lv_at hl 0 rfl) ?_
        obtain ⟨v2, ev2, hq⟩ := b_s hq
        refine fa_gr (own := RX7) (ref := "CoastlineRuler") (k := 0) hx hb hB inB_RX7 hown hI rfl (by decide) m_253 (fun _ h9 => h9) ev2 dX7_ringDepth_12 ?_
        obtain ⟨v3, ev3, hq⟩ := b_s hq
        refine fa_gi (own := RX7) (ref := "CoastlineRuler$Chart") (k := 1) hx hb hB inB_RX1 hown hI rfl (by decide) m_77 (fun _ h9 => h9) ev3 dX7_ringDepth_15 ?_
        refine lv_icmp_ge (tgt := 42) hx hb dX7_ringDepth_18 (by decide) (fun c4 => ?_) (fun c4 => ?_)
        · replace hq := i_t c4 hq
          exact hK42 x2 H locs ls hI (lv_sub hl [2] rfl) hq
        · replace hq := i_f c4 hq
          refine lv_aload_n hx hb dX7_ringDepth_21 rfl (lv_at hl 0 rfl) ?_
          obtain ⟨v5, ev5, hq⟩ := b_s hq
          refine fa_gr (own := RX7) (ref := "CoastlineRuler") (k := 0) hx hb hB inB_RX7 hown hI rfl (by decide) m_253 (fun _ h9 => h9) ev5 dX7_ringDepth_22 ?_
          refine lv_iload_n hx hb dX7_ringDepth_25 rfl (lv_at hl 3 rfl) ?_
          refine lv_iload_n hx hb dX7_ringDepth_26 rfl (lv_at hl 1 rfl) ?_
          obtain ⟨v6, ev6, hq⟩ := b_s hq
          refine gr_i (g_runV (As := [.int x3, .int x1]) (rest := []) (ci := 4) hC (c_X1_surrounds l V g D cT f n v5 x3 x1 v6 ev6) k_X1_surrounds m_738 rfl rfl ⟨Nat.le_of_ble_eq_true rfl, Nat.le_of_ble_eq_true rfl⟩ hI rfl rfl (h_me_eq ev6).1 rfl hl.1 rfl (Nat.le_of_ble_eq_true rfl) dX7_ringDepth_27 ⟨by decide, by decide⟩) hI (fun H locs hI => ?_)
          refine lv_if_eq (tgt := 36) hx hb dX7_ringDepth_30 (by decide) (fun c7 => ?_) (fun c7 => ?_)
          · replace hq := i_t c7 hq
            refine lv_iinc (v := x3 + (1 : Int32)) (lv' := [(3, .int (x3 + (1 : Int32))), (0, .ref x0), (1, .int x1), (2, .int x2)]) hx hb dX7_ringDepth_36 hl (k := 3) rfl rfl (by decide) rfl (fun ls hl => ?_)
            refine lv_goto (tgt := 10) hx hb dX7_ringDepth_39 (by decide) ?_
            exact ih x0 x1 x2 (x3 + (1 : Int32)) H locs ls hI (lv_sub hl [1, 2, 3, 0] rfl) hq
          · replace hq := i_f c7 hq
            refine lv_iinc (v := x2 + (1 : Int32)) (lv' := [(2, .int (x2 + (1 : Int32))), (0, .ref x0), (1, .int x1), (3, .int x3)]) hx hb dX7_ringDepth_33 hl (k := 2) rfl rfl (by decide) rfl (fun ls hl => ?_)
            refine lv_iinc (v := x3 + (1 : Int32)) (lv' := [(3, .int (x3 + (1 : Int32))), (2, .int (x2 + (1 : Int32))), (0, .ref x0), (1, .int x1)]) hx hb dX7_ringDepth_36 hl (k := 3) rfl rfl (by decide) rfl (fun ls hl => ?_)
            refine lv_goto (tgt := 10) hx hb dX7_ringDepth_39 (by decide) ?_
            exact ih x0 x1 (x2 + (1 : Int32)) (x3 + (1 : Int32)) H locs ls hI (lv_sub hl [2, 3, 1, 0] rfl) hq
    refine hl10 _ ?_ FU a0 a1 (0 : Int32) (0 : Int32) H locs ls hI (lv_sub hl [2, 3, 1, 0] rfl) hq
    · intro x2 H locs ls hI hl hq
      refine lv_iload_n hx hb dX7_ringDepth_42 rfl (lv_at hl 0 rfl) ?_
      exact ge_Xi hx hb hlocks hr rfl hI hq dX7_ringDepth_43

abbrev rm_X7_extent : Room := { frames := 3, cells := 0, slots := 0, locals := 141 }
theorem k_X7_extent : g_CS yX7_extent cX7_extent 5 (some .int) 2 := ⟨⟨m_798, m_1, by decide +kernel⟩, m_797⟩
set_option maxHeartbeats 4000000 in
set_option maxRecDepth 100000 in
theorem c_X7_extent (l : Launch) (V : Nat → Nat) (g : GH) (D : va_G) (cT : Nat → ClassId) (f : GH) (n : Nat) (a0 : Nat) (a1 : Int32) (o : Int32) (hq : p_X7_extent V g f a0 a1 = some o) : Met l yX7_extent (Cond.code yX7_extent cX7_extent 5 (some .int) :: g_B) rm_X7_extent (va_Pc [.ref a0, .int a1] (g_I V g D cT f n)) (g_Ri o n) 0 0 g_no := by
  refine g_begin (own := RX7) [.ref a0, .int a1] [(0, .ref a0), (1, .int a1)] g_no (fun _ h => h.elim) (by decide) rfl (Nat.le_of_ble_eq_true rfl) rfl ?_
  intro p e s m args below meth c hx hb hr hlocks hin hC hI ls hl
  obtain ⟨hx, hb, hml, hown, hB⟩ := id hC
  obtain ⟨H, hH⟩ : ∃ H, H = s.heap := ⟨_, rfl⟩
  obtain ⟨locs, hlocs⟩ : ∃ L : List Loc, L = [] := ⟨_, rfl⟩
  rw [← hH, ← hlocs] at hI ⊢
  clear hH hlocs
  unfold p_X7_extent at hq
  refine lv_sipush (v := (1000 : Int32)) hx hb dX7_extent_0 (by decide) ?_
  refine lv_istore_n (lv' := [(2, .int (1000 : Int32)), (0, .ref a0), (1, .int a1)]) hx hb dX7_extent_3 rfl hl (by decide) rfl (fun ls hl => ?_)
  refine lv_sipush (v := (-1000 : Int32)) hx hb dX7_extent_4 (by decide) ?_
  refine lv_istore_n (lv' := [(3, .int (-1000 : Int32)), (2, .int (1000 : Int32)), (0, .ref a0), (1, .int a1)]) hx hb dX7_extent_7 rfl hl (by decide) rfl (fun ls hl => ?_)
  refine lv_iconst (v := (0 : Int32)) hx hb dX7_extent_8 (by decide) ?_
  refine lv_istore (lv' := [(4, .int (0 : Int32)), (3, .int (-1000 : Int32)), (2, .int (1000 : Int32)), (0, .ref a0), (1, .int a1)]) hx hb dX7_extent_9 hl (by decide) rfl (fun ls hl => ?_)
  have hl11 : ∀ (K41 : Int32 → Int32 → Option Int32) (hK41 : ∀ (x2 : Int32) (x3 : Int32) (H : Heap) (locs : List Loc) (ls : Array Slot), g_at g_no V g D cT f n s H locs → lv_has ls 5 [(2, .int x2), (3, .int x3)] → K41 x2 x3 = some o → W p l e rm_X7_extent s m args below meth c H locs 0 0 (MQ below (g_Ri o n) args s 0 0 g_no) (F0 m 41 ls [])) (N : Nat) (x0 : Nat) (x1 : Int32) (x2 : Int32) (x3 : Int32) (x4 : Int32) (H : Heap) (locs : List Loc) (ls : Array Slot), g_at g_no V g D cT f n s H locs → lv_has ls 5 [(0, .ref x0), (1, .int x1), (2, .int x2), (3, .int x3), (4, .int x4)] → p_X7_extent_l11 V g f K41 N x0 x1 x2 x3 x4 = some o → W p l e rm_X7_extent s m args below meth c H locs 0 0 (MQ below (g_Ri o n) args s 0 0 g_no) (F0 m 11 ls []) := by
    intro K41 hK41 N
    induction N with
    | zero =>
      intro x0 x1 x2 x3 x4 H locs ls hI hl hq
      rw [p_X7_extent_l11] at hq
      cases hq
    | succ N ih =>
      intro x0 x1 x2 x3 x4 H locs ls hI hl hq
      rw [p_X7_extent_l11] at hq
      refine lv_iload hx hb dX7_extent_11 (lv_at hl 4 rfl) ?_
      refine lv_iload_n hx hb dX7_extent_13 rfl (lv_at hl 1 rfl) ?_
      refine lv_icmp_ge (tgt := 41) hx hb dX7_extent_14 (by decide) (fun c1 => ?_) (fun c1 => ?_)
      · replace hq := i_t c1 hq
        exact hK41 x2 x3 H locs ls hI (lv_sub hl [2, 3] rfl) hq
      · replace hq := i_f c1 hq
        refine lv_iload_n hx hb dX7_extent_17 rfl (lv_at hl 2 rfl) ?_
        refine lv_aload_n hx hb dX7_extent_18 rfl (lv_at hl 0 rfl) ?_
        refine lv_iload hx hb dX7_extent_19 (lv_at hl 4 rfl) ?_
        obtain ⟨v2, ev2, hq⟩ := b_s hq
        refine fa_li hx hb hI ev2 dX7_extent_21 ?_
        obtain ⟨v3, ev3, hq⟩ := b_s hq
        refine g_min hx hb (hml.trans hl.1.symm) hown (hB _ m_799) (hB _ m_767) (hB _ m_15) (hB _ m_768) (Nat.le_of_ble_eq_true rfl) (Nat.le_of_ble_eq_true rfl) (Nat.le_of_ble_eq_true rfl) (Nat.le_of_ble_eq_true rfl) ev3 dX7_extent_22 ?_
        refine lv_istore_n (lv' := [(2, .int v3), (0, .ref x0), (1, .int x1), (3, .int x3), (4, .int x4)]) hx hb dX7_extent_25 rfl hl (by decide) rfl (fun ls hl => ?_)
        refine lv_iload_n hx hb dX7_extent_26 rfl (lv_at hl 3 rfl) ?_
        refine lv_aload_n hx hb dX7_extent_27 rfl (lv_at hl 1 rfl) ?_
        refine lv_iload hx hb dX7_extent_28 (lv_at hl 4 rfl) ?_
        obtain ⟨v4, ev4, hq⟩ := b_s hq
        refine fa_li hx hb hI ev4 dX7_extent_30 ?_
        obtain ⟨v5, ev5, hq⟩ := b_s hq
        refine g_max hx hb (hml.trans hl.1.symm) hown (hB _ m_800) (hB _ m_672) (hB _ m_15) (hB _ m_673) (Nat.le_of_ble_eq_true rfl) (Nat.le_of_ble_eq_true rfl) (Nat.le_of_ble_eq_true rfl) (Nat.le_of_ble_eq_true rfl) ev5 dX7_extent_31 ?_
        refine lv_istore_n (lv' := [(3, .int v5), (2, .int v3), (0, .ref x0), (1, .int x1), (4, .int x4)]) hx hb dX7_extent_34 rfl hl (by decide) rfl (fun ls hl => ?_)
        refine lv_iinc (v := x4 + (1 : Int32)) (lv' := [(4, .int (x4 + (1 : Int32))), (3, .int v5), (2, .int v3), (0, .ref x0), (1, .int x1)]) hx hb dX7_extent_35 hl (k := 4) rfl rfl (by decide) rfl (fun ls hl => ?_)
        refine lv_goto (tgt := 11) hx hb dX7_extent_38 (by decide) ?_
        exact ih x0 x1 v3 v5 (x4 + (1 : Int32)) H locs ls hI (lv_sub hl [3, 4, 2, 1, 0] rfl) hq
  refine hl11 _ ?_ FU a0 a1 (1000 : Int32) (-1000 : Int32) (0 : Int32) H locs ls hI (lv_sub hl [3, 4, 2, 1, 0] rfl) hq
  · intro x2 x3 H locs ls hI hl hq
    refine lv_iload_n hx hb dX7_extent_41 rfl (lv_at hl 1 rfl) ?_
    refine lv_iload_n hx hb dX7_extent_42 rfl (lv_at hl 0 rfl) ?_
    refine lv_isub hx hb dX7_extent_43 ?_
    exact ge_Ri hx hb hlocks hr rfl hI hq dX7_extent_44

abbrev rm_X7_boxWidth : Room := { frames := 9, cells := 1, slots := 6, locals := 165 }
theorem k_X7_boxWidth : g_CV yX7_boxWidth cX7_boxWidth 3 (some .int) 1 := ⟨⟨m_795, m_1, by decide +kernel⟩, m_793, m_794⟩
set_option maxHeartbeats 4000000 in
set_option maxRecDepth 100000 in
theorem c_X7_boxWidth (l : Launch) (hl0 : l.stackTraces = false) (V : Nat → Nat) (g : GH) (D : va_G) (cT : Nat → ClassId) (f : GH) (n : Nat) (a0 : Nat) (a1 : Int32) (o : Nat ⊕ Int32) (hq : p_X7_boxWidth V g f a0 a1 = some o) : vx_Met l yX7_boxWidth (Cond.code yX7_boxWidth cX7_boxWidth 3 (some .int) :: g_B) rm_X7_boxWidth (va_Pc [.ref a0, .int a1] (g_I V g D cT f n)) (g_Xi o n) (g_XX V D cT f o) 1 6 g_no := by
  refine g_beginX (own := RX7) [.ref a0, .int a1] [(0, .ref a0), (1, .int a1)] g_no (fun _ h => h.elim) (by decide) rfl (Nat.le_of_ble_eq_true rfl) rfl ?_
  intro p e s m args below meth c hx hb hr hlocks ht0 hC hI ls hl
  obtain ⟨hx, hb, hml, hown, hB⟩ := id hC
  obtain ⟨H, hH⟩ : ∃ H, H = s.heap := ⟨_, rfl⟩
  obtain ⟨locs, hlocs⟩ : ∃ L : List Loc, L = [] := ⟨_, rfl⟩
  rw [← hH, ← hlocs] at hI ⊢
  clear hH hlocs
  unfold p_X7_boxWidth at hq
  replace hq := (h_me_eq hq).2
  refine lv_aload_n hx hb dX7_boxWidth_0 rfl (lv_at hl 0 rfl) ?_
  refine lv_iload_n hx hb dX7_boxWidth_1 rfl (lv_at hl 1 rfl) ?_
  rcases x_b_eq hq with ⟨v1, ev1, hq⟩ | ⟨v1, ev1, hq⟩
  · exact gt_RR hlocks ht0 (g_runVX (As := [.int a1]) (rest := []) (ci := 9) hC (c_X7_coastAt l hl0 V g D cT f n a0 a1 (.inl v1) ev1) k_X7_coastAt m_577 rfl rfl ⟨Nat.le_of_ble_eq_true rfl, Nat.le_of_ble_eq_true rfl⟩ hI rfl rfl (h_me_eq ev1).1 rfl hl.1 rfl (Nat.le_of_ble_eq_true rfl) dX7_boxWidth_2 ⟨by decide, by decide⟩) no_r hI hq (by decide) (by decide)
  · refine gx_r (g_runVX (As := [.int a1]) (rest := []) (ci := 9) hC (c_X7_coastAt l hl0 V g D cT f n a0 a1 (.inr v1) ev1) k_X7_coastAt m_577 rfl rfl ⟨Nat.le_of_ble_eq_true rfl, Nat.le_of_ble_eq_true rfl⟩ hI rfl rfl (h_me_eq ev1).1 rfl hl.1 rfl (Nat.le_of_ble_eq_true rfl) dX7_boxWidth_2 ⟨by decide, by decide⟩) hI (fun H locs hI => ?_)
    refine lv_astore_n (lv' := [(2, .ref v1), (0, .ref a0), (1, .int a1)]) hx hb dX7_boxWidth_5 rfl hl (by decide) rfl (fun ls hl => ?_)
    refine lv_aload_n hx hb dX7_boxWidth_6 rfl (lv_at hl 0 rfl) ?_
    obtain ⟨v2, ev2, hq⟩ := b_s hq
    refine fa_gr (own := RX7) (ref := "CoastlineRuler$Coast") (k := 0) hx hb hB inB_RX2 hown hI rfl (by decide) m_49 (fun _ h9 => h9) ev2 dX7_boxWidth_7 ?_
    refine lv_aload_n hx hb dX7_boxWidth_10 rfl (lv_at hl 0 rfl) ?_
    obtain ⟨v3, ev3, hq⟩ := b_s hq
    refine fa_gi (own := RX7) (ref := "CoastlineRuler$Coast") (k := 2) hx hb hB inB_RX2 hown hI rfl (by decide) m_56 (fun _ h9 => h9) ev3 dX7_boxWidth_11 ?_
    obtain ⟨v4, ev4, hq⟩ := b_s hq
    refine gr_i (g_runS (As := [.ref v2, .int v3]) (rest := []) hC (c_X7_extent l V g D cT f n v2 v3 v4 ev4) k_X7_extent m_796 rfl rfl ⟨Nat.le_of_ble_eq_true rfl, Nat.le_of_ble_eq_true rfl⟩ hI rfl hl.1 rfl (Nat.le_of_ble_eq_true rfl) dX7_boxWidth_14 ⟨by decide, by decide⟩) hI (fun H locs hI => ?_)
    exact ge_Xi hx hb hlocks hr rfl hI hq dX7_boxWidth_17

abbrev rm_X7_boxHeight : Room := { frames := 9, cells := 1, slots := 6, locals := 165 }
theorem k_X7_boxHeight : g_CV yX7_boxHeight cX7_boxHeight 3 (some .int) 1 := ⟨⟨m_804, m_1, by decide +kernel⟩, m_802, m_803⟩
set_option maxHeartbeats 4000000 in
set_option maxRecDepth 100000 in
theorem c_X7_boxHeight (l : Launch) (hl0 : l.stackTraces = false) (V : Nat → Nat) (g : GH) (D : va_G) (cT : Nat → ClassId) (f : GH) (n : Nat) (a0 : Nat) (a1 : Int32) (o : Nat ⊕ Int32) (hq : p_X7_boxHeight V g f a0 a1 = some o) : vx_Met l yX7_boxHeight (Cond.code yX7_boxHeight cX7_boxHeight 3 (some .int) :: g_B) rm_X7_boxHeight (va_Pc [.ref a0, .int a1] (g_I V g D cT f n)) (g_Xi o n) (g_XX V D cT f o) 1 6 g_no := by
  refine g_beginX (own := RX7) [.ref a0, .int a1] [(0, .ref a0), (1, .int a1)] g_no (fun _ h => h.elim) (by decide) rfl (Nat.le_of_ble_eq_true rfl) rfl ?_
  intro p e s m args below meth c hx hb hr hlocks ht0 hC hI ls hl
  obtain ⟨hx, hb, hml, hown, hB⟩ := id hC
  obtain ⟨H, hH⟩ : ∃ H, H = s.heap := ⟨_, rfl⟩
  obtain ⟨locs, hlocs⟩ : ∃ L : List Loc, L = [] := ⟨_, rfl⟩
  rw [← hH, ← hlocs] at hI ⊢
  clear hH hlocs
  unfold p_X7_boxHeight at hq
  replace hq := (h_me_eq hq).2
  refine lv_aload_n hx hb dX7_boxHeight_0 rfl (lv_at hl 0 rfl) ?_
  refine lv_iload_n hx hb dX7_boxHeight_1 rfl (lv_at hl 1 rfl) ?_
  rcases x_b_eq hq with ⟨v1, ev1, hq⟩ | ⟨v1, ev1, hq⟩
  · exact gt_RR hlocks ht0 (g_runVX (As := [.int a1]) (rest := []) (ci := 9) hC (c_X7_coastAt l hl0 V g D cT f n a0 a1 (.inl v1) ev1) k_X7_coastAt m_577 rfl rfl ⟨Nat.le_of_ble_eq_true rfl, Nat.le_of_ble_eq_true rfl⟩ hI rfl rfl (h_me_eq ev1).1 rfl hl.1 rfl (Nat.le_of_ble_eq_true rfl) dX7_boxHeight_2 ⟨by decide, by decide⟩) no_r hI hq (by decide) (by decide)
  · refine gx_r (g_runVX (As := [.int a1]) (rest := []) (ci := 9) hC (c_X7_coastAt l hl0 V g D cT f n a0 a1 (.inr v1) ev1) k_X7_coastAt m_577 rfl rfl ⟨Nat.le_of_ble_eq_true rfl, Nat.le_of_ble_eq_true rfl⟩ hI rfl rfl (h_me_eq ev1).1 rfl hl.1 rfl (Nat.le_of_ble_eq_true rfl) dX7_boxHeight_2 ⟨by decide, by decide⟩) hI (fun H locs hI => ?_)
    refine lv_astore_n (lv' := [(2, .ref v1), (0, .ref a0), (1, .int a1)]) hx hb dX7_boxHeight_5 rfl hl (by decide) rfl (fun ls hl => ?_)
    refine lv_aload_n hx hb dX7_boxHeight_6 rfl (lv_at hl 0 rfl) ?_
    obtain ⟨v2, ev2, hq⟩ := b_s hq
    refine fa_gr (own := RX7) (ref := "CoastlineRuler$Coast") (k := 1) hx hb hB inB_RX2 hown hI rfl (by decide) m_52 (fun _ h9 => h9) ev2 dX7_boxHeight_7 ?_
    refine lv_aload_n hx hb dX7_boxHeight_10 rfl (lv_at hl 0 rfl) ?_
    obtain ⟨v3, ev3, hq⟩ := b_s hq
    refine fa_gi (own := RX7) (ref := "CoastlineRuler$Coast") (k := 2) hx hb hB inB_RX2 hown hI rfl (by decide) m_56 (fun _ h9 => h9) ev3 dX7_boxHeight_11 ?_
    obtain ⟨v4, ev4, hq⟩ := b_s hq
    refine gr_i (g_runS (As := [.ref v2, .int v3]) (rest := []) hC (c_X7_extent l V g D cT f n v2 v3 v4 ev4) k_X7_extent m_796 rfl rfl ⟨Nat.le_of_ble_eq_true rfl, Nat.le_of_ble_eq_true rfl⟩ hI rfl hl.1 rfl (Nat.le_of_ble_eq_true rfl) dX7_boxHeight_14 ⟨by decide, by decide⟩) hI (fun H locs hI => ?_)
    exact ge_Xi hx hb hlocks hr rfl hI hq dX7_boxHeight_17

abbrev rm_X7_foldObstacle : Room := { frames := 9, cells := 2, slots := 12, locals := 208 }
theorem k_X7_foldObstacle : g_CV yX7_foldObstacle cX7_foldObstacle 4 (some .int) 2 := ⟨⟨m_854, m_1, by decide +kernel⟩, m_852, m_853⟩
set_option maxHeartbeats 4000000 in
set_option maxRecDepth 100000 in
theorem c_X7_foldObstacle (l : Launch) (hl0 : l.stackTraces = false) (V : Nat → Nat) (g : GH) (D : va_G) (cT : Nat → ClassId) (f : GH) (n : Nat) (a0 : Nat) (a1 : Int32) (a2 : Int32) (o : Nat ⊕ Int32) (hq : p_X7_foldObstacle V g f a0 a1 a2 = some o) : vx_Met l yX7_foldObstacle (Cond.code yX7_foldObstacle cX7_foldObstacle 4 (some .int) :: g_B) rm_X7_foldObstacle (va_Pc [.ref a0, .int a1, .int a2] (g_I V g D cT f n)) (g_Xi o n) (g_XX V D cT f o) 2 12 g_no := by
  refine g_beginX (own := RX7) [.ref a0, .int a1, .int a2] [(0, .ref a0), (1, .int a1), (2, .int a2)] g_no (fun _ h => h.elim) (by decide) rfl (Nat.le_of_ble_eq_true rfl) rfl ?_
  intro p e s m args below meth c hx hb hr hlocks ht0 hC hI ls hl
  obtain ⟨hx, hb, hml, hown, hB⟩ := id hC
  obtain ⟨H, hH⟩ : ∃ H, H = s.heap := ⟨_, rfl⟩
  obtain ⟨locs, hlocs⟩ : ∃ L : List Loc, L = [] := ⟨_, rfl⟩
  rw [← hH, ← hlocs] at hI ⊢
  clear hH hlocs
  unfold p_X7_foldObstacle at hq
  replace hq := (h_me_eq hq).2
  refine lv_aload_n hx hb dX7_foldObstacle_0 rfl (lv_at hl 0 rfl) ?_
  refine lv_iload_n hx hb dX7_foldObstacle_1 rfl (lv_at hl 1 rfl) ?_
  rcases x_b_eq hq with ⟨v1, ev1, hq⟩ | ⟨v1, ev1, hq⟩
  · exact gt_RR hlocks ht0 (g_runVX (As := [.int a1]) (rest := []) (ci := 9) hC (c_X7_coastAt l hl0 V g D cT f n a0 a1 (.inl v1) ev1) k_X7_coastAt m_577 rfl rfl ⟨Nat.le_of_ble_eq_true rfl, Nat.le_of_ble_eq_true rfl⟩ hI rfl rfl (h_me_eq ev1).1 rfl hl.1 rfl (Nat.le_of_ble_eq_true rfl) dX7_foldObstacle_2 ⟨by decide, by decide⟩) no_r hI hq (by decide) (by decide)
  · refine gx_r (g_runVX (As := [.int a1]) (rest := []) (ci := 9) hC (c_X7_coastAt l hl0 V g D cT f n a0 a1 (.inr v1) ev1) k_X7_coastAt m_577 rfl rfl ⟨Nat.le_of_ble_eq_true rfl, Nat.le_of_ble_eq_true rfl⟩ hI rfl rfl (h_me_eq ev1).1 rfl hl.1 rfl (Nat.le_of_ble_eq_true rfl) dX7_foldObstacle_2 ⟨by decide, by decide⟩) hI (fun H locs hI => ?_)
    refine lv_astore_n (lv' := [(3, .ref v1), (0, .ref a0), (1, .int a1), (2, .int a2)]) hx hb dX7_foldObstacle_5 rfl hl (by decide) rfl (fun ls hl => ?_)
    refine lv_iload_n hx hb dX7_foldObstacle_6 rfl (lv_at hl 3 rfl) ?_
    refine lv_bipush (v := (-50 : Int32)) hx hb dX7_foldObstacle_7 (by decide) ?_
    refine lv_bipush (v := (50 : Int32)) hx hb dX7_foldObstacle_9 (by decide) ?_
    rcases x_b_eq hq with ⟨v2, ev2, hq⟩ | ⟨v2, ev2, hq⟩
    · exact gt_RR hlocks ht0 (g_runSX (As := [.int a2, .int (-50 : Int32), .int (50 : Int32)]) (rest := []) hC (c_X7_requireWithin l hl0 V g D cT f n a2 (-50 : Int32) (50 : Int32) (.inl v2) ev2) k_X7_requireWithin m_301 rfl rfl ⟨Nat.le_of_ble_eq_true rfl, Nat.le_of_ble_eq_true rfl⟩ hI rfl hl.1 rfl (Nat.le_of_ble_eq_true rfl) dX7_foldObstacle_11 ⟨by decide, by decide⟩) no_v hI hq (by decide) (by decide)
    · refine gx_v (g_runSX (As := [.int a2, .int (-50 : Int32), .int (50 : Int32)]) (rest := []) hC (c_X7_requireWithin l hl0 V g D cT f n a2 (-50 : Int32) (50 : Int32) (.inr v2) ev2) k_X7_requireWithin m_301 rfl rfl ⟨Nat.le_of_ble_eq_true rfl, Nat.le_of_ble_eq_true rfl⟩ hI rfl hl.1 rfl (Nat.le_of_ble_eq_true rfl) dX7_foldObstacle_11 ⟨by decide, by decide⟩) hI (fun H locs hI => ?_)
      refine lv_aload_n hx hb dX7_foldObstacle_14 rfl (lv_at hl 0 rfl) ?_
      refine lv_iload_n hx hb dX7_foldObstacle_15 rfl (lv_at hl 3 rfl) ?_
      obtain ⟨v3, ev3, hq⟩ := b_s hq
      refine gr_i (g_runV (As := [.int a2]) (rest := []) (ci := 5) hC (c_X2_whyNotFold l V g D cT f n v1 a2 v3 ev3) k_X2_whyNotFold m_855 rfl rfl ⟨Nat.le_of_ble_eq_true rfl, Nat.le_of_ble_eq_true rfl⟩ hI rfl rfl (h_me_eq ev3).1 rfl hl.1 rfl (Nat.le_of_ble_eq_true rfl) dX7_foldObstacle_16 ⟨by decide, by decide⟩) hI (fun H locs hI => ?_)
      exact ge_Xi hx hb hlocks hr rfl hI hq dX7_foldObstacle_19

abbrev rm_X7_lengthAfterFold : Room := { frames := 9, cells := 3, slots := 18, locals := 238 }
theorem k_X7_lengthAfterFold : g_CV yX7_lengthAfterFold cX7_lengthAfterFold 5 (some .int) 3 := ⟨⟨m_881, m_1, by decide +kernel⟩, m_879, m_880⟩
set_option maxHeartbeats 4000000 in
set_option maxRecDepth 100000 in
theorem c_X7_lengthAfterFold (l : Launch) (hl0 : l.stackTraces = false) (V : Nat → Nat) (g : GH) (D : va_G) (cT : Nat → ClassId) (f : GH) (n : Nat) (a0 : Nat) (a1 : Int32) (a2 : Int32) (a3 : Int32) (o : (Nat × GH) ⊕ (Int32 × GH)) (hq : p_X7_lengthAfterFold V g f a0 a1 a2 a3 = some o) : vx_Met l yX7_lengthAfterFold (Cond.code yX7_lengthAfterFold cX7_lengthAfterFold 5 (some .int) :: g_B) rm_X7_lengthAfterFold (va_Pc [.ref a0, .int a1, .int a2, .int a3] (g_I V g D cT f n)) (g_Yi V D cT o n) (g_YX V D cT o) 3 18 (g_A V) := by
  refine g_beginX (own := RX7) [.ref a0, .int a1, .int a2, .int a3] [(0, .ref a0), (1, .int a1), (2, .int a2), (3, .int a3)] (g_A V) (fun _ h => h) (by decide) rfl (Nat.le_of_ble_eq_true rfl) rfl ?_
  intro p e s m args below meth c hx hb hr hlocks ht0 hC hI ls hl
  obtain ⟨hx, hb, hml, hown, hB⟩ := id hC
  obtain ⟨H, hH⟩ : ∃ H, H = s.heap := ⟨_, rfl⟩
  obtain ⟨locs, hlocs⟩ : ∃ L : List Loc, L = [] := ⟨_, rfl⟩
  rw [← hH, ← hlocs] at hI ⊢
  clear hH hlocs
  unfold p_X7_lengthAfterFold at hq
  replace hq := (h_me_eq hq).2
  refine lv_aload_n hx hb dX7_lengthAfterFold_0 rfl (lv_at hl 0 rfl) ?_
  refine lv_iload_n hx hb dX7_lengthAfterFold_1 rfl (lv_at hl 1 rfl) ?_
  rcases x_b_eq hq with ⟨v1, ev1, hq⟩ | ⟨v1, ev1, hq⟩
  · exact gt_RW hlocks ht0 (g_runVX (As := [.int a1]) (rest := []) (ci := 9) hC (c_X7_coastAt l hl0 V g D cT f n a0 a1 (.inl v1) ev1) k_X7_coastAt m_577 rfl rfl ⟨Nat.le_of_ble_eq_true rfl, Nat.le_of_ble_eq_true rfl⟩ hI rfl rfl (h_me_eq ev1).1 rfl hl.1 rfl (Nat.le_of_ble_eq_true rfl) dX7_lengthAfterFold_2 ⟨by decide, by decide⟩) no_r hI hq (by decide) (by decide)
  · refine gx_r (g_runVX (As := [.int a1]) (rest := []) (ci := 9) hC (c_X7_coastAt l hl0 V g D cT f n a0 a1 (.inr v1) ev1) k_X7_coastAt m_577 rfl rfl ⟨Nat.le_of_ble_eq_true rfl, Nat.le_of_ble_eq_true rfl⟩ hI rfl rfl (h_me_eq ev1).1 rfl hl.1 rfl (Nat.le_of_ble_eq_true rfl) dX7_lengthAfterFold_2 ⟨by decide, by decide⟩) hI (fun H locs hI => ?_)
    refine lv_astore (lv' := [(4, .ref v1), (0, .ref a0), (1, .int a1), (2, .int a2), (3, .int a3)]) hx hb dX7_lengthAfterFold_5 hl (by decide) rfl (fun ls hl => ?_)
    refine lv_iload_n hx hb dX7_lengthAfterFold_7 rfl (lv_at hl 3 rfl) ?_
    refine lv_bipush (v := (-50 : Int32)) hx hb dX7_lengthAfterFold_8 (by decide) ?_
    refine lv_bipush (v := (50 : Int32)) hx hb dX7_lengthAfterFold_10 (by decide) ?_
    rcases x_b_eq hq with ⟨v2, ev2, hq⟩ | ⟨v2, ev2, hq⟩
    · exact gt_RW hlocks ht0 (g_runSX (As := [.int a2, .int (-50 : Int32), .int (50 : Int32)]) (rest := []) hC (c_X7_requireWithin l hl0 V g D cT f n a2 (-50 : Int32) (50 : Int32) (.inl v2) ev2) k_X7_requireWithin m_301 rfl rfl ⟨Nat.le_of_ble_eq_true rfl, Nat.le_of_ble_eq_true rfl⟩ hI rfl hl.1 rfl (Nat.le_of_ble_eq_true rfl) dX7_lengthAfterFold_12 ⟨by decide, by decide⟩) no_v hI hq (by decide) (by decide)
    · refine gx_v (g_runSX (As := [.int a2, .int (-50 : Int32), .int (50 : Int32)]) (rest := []) hC (c_X7_requireWithin l hl0 V g D cT f n a2 (-50 : Int32) (50 : Int32) (.inr v2) ev2) k_X7_requireWithin m_301 rfl rfl ⟨Nat.le_of_ble_eq_true rfl, Nat.le_of_ble_eq_true rfl⟩ hI rfl hl.1 rfl (Nat.le_of_ble_eq_true rfl) dX7_lengthAfterFold_12 ⟨by decide, by decide⟩) hI (fun H locs hI => ?_)
      refine lv_iload_n hx hb dX7_lengthAfterFold_15 rfl (lv_at hl 4 rfl) ?_
      refine lv_iconst (v := (0 : Int32)) hx hb dX7_lengthAfterFold_16 (by decide) ?_
      refine lv_bipush (v := (7 : Int32)) hx hb dX7_lengthAfterFold_17 (by decide) ?_
      rcases x_b_eq hq with ⟨v3, ev3, hq⟩ | ⟨v3, ev3, hq⟩
      · exact gt_RW hlocks ht0 (g_runSX (As := [.int a3, .int (0 : Int32), .int (7 : Int32)]) (rest := []) hC (c_X7_requireWithin l hl0 V g D cT f n a3 (0 : Int32) (7 : Int32) (.inl v3) ev3) k_X7_requireWithin m_301 rfl rfl ⟨Nat.le_of_ble_eq_true rfl, Nat.le_of_ble_eq_true rfl⟩ hI rfl hl.1 rfl (Nat.le_of_ble_eq_true rfl) dX7_lengthAfterFold_19 ⟨by decide, by decide⟩) no_v hI hq (by decide) (by decide)
      · refine gx_v (g_runSX (As := [.int a3, .int (0 : Int32), .int (7 : Int32)]) (rest := []) hC (c_X7_requireWithin l hl0 V g D cT f n a3 (0 : Int32) (7 : Int32) (.inr v3) ev3) k_X7_requireWithin m_301 rfl rfl ⟨Nat.le_of_ble_eq_true rfl, Nat.le_of_ble_eq_true rfl⟩ hI rfl hl.1 rfl (Nat.le_of_ble_eq_true rfl) dX7_lengthAfterFold_19 ⟨by decide, by decide⟩) hI (fun H locs hI => ?_)
        refine lv_aload hx hb dX7_lengthAfterFold_22 (lv_at hl 0 rfl) ?_
        refine lv_iload_n hx hb dX7_lengthAfterFold_24 rfl (lv_at hl 3 rfl) ?_
        obtain ⟨v4, ev4, hq⟩ := b_s hq
        refine gr_i (g_runV (As := [.int a2]) (rest := []) (ci := 5) hC (c_X2_whyNotFold l V g D cT f n v1 a2 v4 ev4) k_X2_whyNotFold m_855 rfl rfl ⟨Nat.le_of_ble_eq_true rfl, Nat.le_of_ble_eq_true rfl⟩ hI rfl rfl (h_me_eq ev4).1 rfl hl.1 rfl (Nat.le_of_ble_eq_true rfl) dX7_lengthAfterFold_25 ⟨by decide, by decide⟩) hI (fun H locs hI => ?_)
        refine lv_if_eq (tgt := 33) hx hb dX7_lengthAfterFold_28 (by decide) (fun c5 => ?_) (fun c5 => ?_)
        · replace hq := i_t c5 hq
          refine lv_aload_n hx hb dX7_lengthAfterFold_33 rfl (lv_at hl 1 rfl) ?_
          obtain ⟨v6, ev6, hq⟩ := b_s hq
          refine fa_gr (own := RX7) (ref := "CoastlineRuler") (k := 11) hx hb hB inB_RX7 hown hI rfl (by decide) m_264 (fun _ h9 => h9) ev6 dX7_lengthAfterFold_34 ?_
          refine lv_aload hx hb dX7_lengthAfterFold_37 (lv_at hl 0 rfl) ?_
          obtain ⟨v7, ev7, hq⟩ := b_s hq
          refine gw_v (g_runV (As := [.ref v1]) (rest := []) (ci := 5) hC (c_X2_copyFrom l V g D cT f n v6 v1 v7 ev7) k_X2_copyFrom m_882 rfl rfl ⟨Nat.le_of_ble_eq_true rfl, Nat.le_of_ble_eq_true rfl⟩ hI rfl rfl (h_me_eq ev7).1 rfl hl.1 rfl (Nat.le_of_ble_eq_true rfl) dX7_lengthAfterFold_39 ⟨by decide, by decide⟩) hI (fun H locs hI => ?_)
          refine lv_aload_n hx hb dX7_lengthAfterFold_42 rfl (lv_at hl 1 rfl) ?_
          obtain ⟨v8, ev8, hq⟩ := b_s hq
          refine fa_gr (own := RX7) (ref := "CoastlineRuler") (k := 11) hx hb hB inB_RX7 hown hI rfl (by decide) m_264 (fun _ h9 => h9) ev8 dX7_lengthAfterFold_43 ?_
          refine lv_iload_n hx hb dX7_lengthAfterFold_46 rfl (lv_at hl 3 rfl) ?_
          obtain ⟨v9, ev9, hq⟩ := b_s hq
          refine gw_v (g_runV (As := [.int a2]) (rest := []) (ci := 5) hC (c_X2_insertMidpoints l V g D cT v7 n v8 a2 v9 ev9) k_X2_insertMidpoints m_883 rfl rfl ⟨Nat.le_of_ble_eq_true rfl, Nat.le_of_ble_eq_true rfl⟩ hI rfl rfl (h_me_eq ev9).1 rfl hl.1 rfl (Nat.le_of_ble_eq_true rfl) dX7_lengthAfterFold_47 ⟨by decide, by decide⟩) hI (fun H locs hI => ?_)
          refine lv_aload_n hx hb dX7_lengthAfterFold_50 rfl (lv_at hl 1 rfl) ?_
          obtain ⟨v10, ev10, hq⟩ := b_s hq
          refine fa_gr (own := RX7) (ref := "CoastlineRuler") (k := 11) hx hb hB inB_RX7 hown hI rfl (by decide) m_264 (fun _ h9 => h9) ev10 dX7_lengthAfterFold_51 ?_
          refine lv_iload_n hx hb dX7_lengthAfterFold_54 rfl (lv_at hl 4 rfl) ?_
          refine lv_aload_n hx hb dX7_lengthAfterFold_55 rfl (lv_at hl 1 rfl) ?_
          obtain ⟨v11, ev11, hq⟩ := b_s hq
          refine fa_gr (own := RX7) (ref := "CoastlineRuler") (k := 0) hx hb hB inB_RX7 hown hI rfl (by decide) m_253 (fun _ h9 => h9) ev11 dX7_lengthAfterFold_56 ?_
          obtain ⟨v12, ev12, hq⟩ := b_s hq
          refine fa_gi (own := RX7) (ref := "CoastlineRuler$Chart") (k := 2) hx hb hB inB_RX1 hown hI rfl (by decide) m_80 (fun _ h9 => h9) ev12 dX7_lengthAfterFold_59 ?_
          obtain ⟨v13, ev13, hq⟩ := b_s hq
          refine gr_i (g_runV (As := [.int a3, .int v12]) (rest := []) (ci := 5) hC (c_X2_measure l V g D cT v9 n v10 a3 v12 v13 ev13) k_X2_measure m_695 rfl rfl ⟨Nat.le_of_ble_eq_true rfl, Nat.le_of_ble_eq_true rfl⟩ hI rfl rfl (h_me_eq ev13).1 rfl hl.1 rfl (Nat.le_of_ble_eq_true rfl) dX7_lengthAfterFold_62 ⟨by decide, by decide⟩) hI (fun H locs hI => ?_)
          exact ge_Yi hx hb hlocks hr rfl hI hq dX7_lengthAfterFold_65
        · replace hq := i_f c5 hq
          refine lv_iconst (v := (-1 : Int32)) hx hb dX7_lengthAfterFold_31 (by decide) ?_
          exact ge_Yi hx hb hlocks hr rfl hI hq dX7_lengthAfterFold_32

abbrev rm_X7_lengthWithoutPoint : Room := { frames := 10, cells := 2, slots := 12, locals := 265 }
theorem k_X7_lengthWithoutPoint : g_CV yX7_lengthWithoutPoint cX7_lengthWithoutPoint 3 (some .int) 2 := ⟨⟨m_833, m_1, by decide +kernel⟩, m_831, m_832⟩
set_option maxHeartbeats 4000000 in
set_option maxRecDepth 100000 in
theorem c_X7_lengthWithoutPoint (l : Launch) (hl0 : l.stackTraces = false) (V : Nat → Nat) (g : GH) (D : va_G) (cT : Nat → ClassId) (f : GH) (n : Nat) (a0 : Nat) (a1 : Int32) (a2 : Int32) (o : Nat ⊕ Int32) (hq : p_X7_lengthWithoutPoint V g f a0 a1 a2 = some o) : vx_Met l yX7_lengthWithoutPoint (Cond.code yX7_lengthWithoutPoint cX7_lengthWithoutPoint 3 (some .int) :: g_B) rm_X7_lengthWithoutPoint (va_Pc [.ref a0, .int a1, .int a2] (g_I V g D cT f n)) (g_Xi o n) (g_XX V D cT f o) 2 12 g_no := by
  refine g_beginX (own := RX7) [.ref a0, .int a1, .int a2] [(0, .ref a0), (1, .int a1), (2, .int a2)] g_no (fun _ h => h.elim) (by decide) rfl (Nat.le_of_ble_eq_true rfl) rfl ?_
  intro p e s m args below meth c hx hb hr hlocks ht0 hC hI ls hl
  obtain ⟨hx, hb, hml, hown, hB⟩ := id hC
  obtain ⟨H, hH⟩ : ∃ H, H = s.heap := ⟨_, rfl⟩
  obtain ⟨locs, hlocs⟩ : ∃ L : List Loc, L = [] := ⟨_, rfl⟩
  rw [← hH, ← hlocs] at hI ⊢
  clear hH hlocs
  unfold p_X7_lengthWithoutPoint at hq
  replace hq := (h_me_eq hq).2
  refine lv_aload_n hx hb dX7_lengthWithoutPoint_0 rfl (lv_at hl 0 rfl) ?_
  refine lv_iload_n hx hb dX7_lengthWithoutPoint_1 rfl (lv_at hl 1 rfl) ?_
  refine lv_iload_n hx hb dX7_lengthWithoutPoint_2 rfl (lv_at hl 2 rfl) ?_
  rcases x_b_eq hq with ⟨v1, ev1, hq⟩ | ⟨v1, ev1, hq⟩
  · exact gt_RR hlocks ht0 (g_runVX (As := [.int a1, .int a2]) (rest := []) (ci := 9) hC (c_X7_coastWithPoint l hl0 V g D cT f n a0 a1 a2 (.inl v1) ev1) k_X7_coastWithPoint m_621 rfl rfl ⟨Nat.le_of_ble_eq_true rfl, Nat.le_of_ble_eq_true rfl⟩ hI rfl rfl (h_me_eq ev1).1 rfl hl.1 rfl (Nat.le_of_ble_eq_true rfl) dX7_lengthWithoutPoint_3 ⟨by decide, by decide⟩) no_r hI hq (by decide) (by decide)
  · refine gx_r (g_runVX (As := [.int a1, .int a2]) (rest := []) (ci := 9) hC (c_X7_coastWithPoint l hl0 V g D cT f n a0 a1 a2 (.inr v1) ev1) k_X7_coastWithPoint m_621 rfl rfl ⟨Nat.le_of_ble_eq_true rfl, Nat.le_of_ble_eq_true rfl⟩ hI rfl rfl (h_me_eq ev1).1 rfl hl.1 rfl (Nat.le_of_ble_eq_true rfl) dX7_lengthWithoutPoint_3 ⟨by decide, by decide⟩) hI (fun H locs hI => ?_)
    refine lv_iload_n hx hb dX7_lengthWithoutPoint_6 rfl (lv_at hl 2 rfl) ?_
    refine lv_aload_n hx hb dX7_lengthWithoutPoint_7 rfl (lv_at hl 0 rfl) ?_
    obtain ⟨v2, ev2, hq⟩ := b_s hq
    refine fa_gr (own := RX7) (ref := "CoastlineRuler") (k := 0) hx hb hB inB_RX7 hown hI rfl (by decide) m_253 (fun _ h9 => h9) ev2 dX7_lengthWithoutPoint_8 ?_
    obtain ⟨v3, ev3, hq⟩ := b_s hq
    refine fa_gi (own := RX7) (ref := "CoastlineRuler$Chart") (k := 2) hx hb hB inB_RX1 hown hI rfl (by decide) m_80 (fun _ h9 => h9) ev3 dX7_lengthWithoutPoint_11 ?_
    obtain ⟨v4, ev4, hq⟩ := b_s hq
    refine gr_i (g_runV (As := [.int a2, .int v3]) (rest := []) (ci := 5) hC (c_X2_measureWithout l V g D cT f n v1 a2 v3 v4 ev4) k_X2_measureWithout m_817 rfl rfl ⟨Nat.le_of_ble_eq_true rfl, Nat.le_of_ble_eq_true rfl⟩ hI rfl rfl (h_me_eq ev4).1 rfl hl.1 rfl (Nat.le_of_ble_eq_true rfl) dX7_lengthWithoutPoint_14 ⟨by decide, by decide⟩) hI (fun H locs hI => ?_)
    exact ge_Xi hx hb hlocks hr rfl hI hq dX7_lengthWithoutPoint_17

abbrev rm_X7_leastImportantPoint : Room := { frames := 9, cells := 1, slots := 6, locals := 265 }
theorem k_X7_leastImportantPoint : g_CV yX7_leastImportantPoint cX7_leastImportantPoint 7 (some .int) 1 := ⟨⟨m_816, m_1, by decide +kernel⟩, m_814, m_815⟩
set_option maxHeartbeats 4000000 in
set_option maxRecDepth 100000 in
theorem c_X7_leastImportantPoint (l : Launch) (hl0 : l.stackTraces = false) (V : Nat → Nat) (g : GH) (D : va_G) (cT : Nat → ClassId) (f : GH) (n : Nat) (a0 : Nat) (a1 : Int32) (o : Nat ⊕ Int32) (hq : p_X7_leastImportantPoint V g f a0 a1 = some o) : vx_Met l yX7_leastImportantPoint (Cond.code yX7_leastImportantPoint cX7_leastImportantPoint 7 (some .int) :: g_B) rm_X7_leastImportantPoint (va_Pc [.ref a0, .int a1] (g_I V g D cT f n)) (g_Xi o n) (g_XX V D cT f o) 1 6 g_no := by
  refine g_beginX (own := RX7) [.ref a0, .int a1] [(0, .ref a0), (1, .int a1)] g_no (fun _ h => h.elim) (by decide) rfl (Nat.le_of_ble_eq_true rfl) rfl ?_
  intro p e s m args below meth c hx hb hr hlocks ht0 hC hI ls hl
  obtain ⟨hx, hb, hml, hown, hB⟩ := id hC
  obtain ⟨H, hH⟩ : ∃ H, H = s.heap := ⟨_, rfl⟩
  obtain ⟨locs, hlocs⟩ : ∃ L : List Loc, L = [] := ⟨_, rfl⟩
  rw [← hH, ← hlocs] at hI ⊢
  clear hH hlocs
  unfold p_X7_leastImportantPoint at hq
  replace hq := (h_me_eq hq).2
  refine lv_aload_n hx hb dX7_leastImportantPoint_0 rfl (lv_at hl 0 rfl) ?_
  refine lv_iload_n hx hb dX7_leastImportantPoint_1 rfl (lv_at hl 1 rfl) ?_
  rcases x_b_eq hq with ⟨v1, ev1, hq⟩ | ⟨v1, ev1, hq⟩
  · exact gt_RR hlocks ht0 (g_runVX (As := [.int a1]) (rest := []) (ci := 9) hC (c_X7_coastAt l hl0 V g D cT f n a0 a1 (.inl v1) ev1) k_X7_coastAt m_577 rfl rfl ⟨Nat.le_of_ble_eq_true rfl, Nat.le_of_ble_eq_true rfl⟩ hI rfl rfl (h_me_eq ev1).1 rfl hl.1 rfl (Nat.le_of_ble_eq_true rfl) dX7_leastImportantPoint_2 ⟨by decide, by decide⟩) no_r hI hq (by decide) (by decide)
  · refine gx_r (g_runVX (As := [.int a1]) (rest := []) (ci := 9) hC (c_X7_coastAt l hl0 V g D cT f n a0 a1 (.inr v1) ev1) k_X7_coastAt m_577 rfl rfl ⟨Nat.le_of_ble_eq_true rfl, Nat.le_of_ble_eq_true rfl⟩ hI rfl rfl (h_me_eq ev1).1 rfl hl.1 rfl (Nat.le_of_ble_eq_true rfl) dX7_leastImportantPoint_2 ⟨by decide, by decide⟩) hI (fun H locs hI => ?_)
    refine lv_astore_n (lv' := [(2, .ref v1), (0, .ref a0), (1, .int a1)]) hx hb dX7_leastImportantPoint_5 rfl hl (by decide) rfl (fun ls hl => ?_)
    refine lv_iconst (v := (-1 : Int32)) hx hb dX7_leastImportantPoint_6 (by decide) ?_
    refine lv_istore_n (lv' := [(3, .int (-1 : Int32)), (2, .ref v1), (0, .ref a0), (1, .int a1)]) hx hb dX7_leastImportantPoint_7 rfl hl (by decide) rfl (fun ls hl => ?_)
    refine lv_iconst (v := (-1 : Int32)) hx hb dX7_leastImportantPoint_8 (by decide) ?_
    refine lv_istore (lv' := [(4, .int (-1 : Int32)), (3, .int (-1 : Int32)), (2, .ref v1), (0, .ref a0), (1, .int a1)]) hx hb dX7_leastImportantPoint_9 hl (by decide) rfl (fun ls hl => ?_)
    refine lv_iconst (v := (0 : Int32)) hx hb dX7_leastImportantPoint_11 (by decide) ?_
    refine lv_istore (lv' := [(5, .int (0 : Int32)), (4, .int (-1 : Int32)), (3, .int (-1 : Int32)), (2, .ref v1), (0, .ref a0), (1, .int a1)]) hx hb dX7_leastImportantPoint_12 hl (by decide) rfl (fun ls hl => ?_)
    have hl14 : ∀ (K58 : Int32 → Option (Nat ⊕ Int32)) (hK58 : ∀ (x3 : Int32) (H : Heap) (locs : List Loc) (ls : Array Slot), g_at g_no V g D cT f n s H locs → lv_has ls 7 [(3, .int x3)] → K58 x3 = some o → W p l e rm_X7_leastImportantPoint s m args below meth c H locs 1 6 (vx_MQ below (g_Xi o n) (g_XX V D cT f o) args s 1 6 g_no) (F0 m 58 ls [])) (N : Nat) (x0 : Nat) (x2 : Nat) (x3 : Int32) (x4 : Int32) (x5 : Int32) (H : Heap) (locs : List Loc) (ls : Array Slot), g_at g_no V g D cT f n s H locs → lv_has ls 7 [(0, .ref x0), (2, .ref x2), (3, .int x3), (4, .int x4), (5, .int x5)] → p_X7_leastImportantPoint_l14 V g f K58 N x0 x2 x3 x4 x5 = some o → W p l e rm_X7_leastImportantPoint s m args below meth c H locs 1 6 (vx_MQ below (g_Xi o n) (g_XX V D cT f o) args s 1 6 g_no) (F0 m 14 ls []) := by
      intro K58 hK58 N
      induction N with
      | zero =>
        intro x0 x2 x3 x4 x5 H locs ls hI hl hq
        rw [p_X7_leastImportantPoint_l14] at hq
        cases hq
      | succ N ih =>
        intro x0 x2 x3 x4 x5 H locs ls hI hl hq
        rw [p_X7_leastImportantPoint_l14] at hq
        refine lv_iload hx hb dX7_leastImportantPoint_14 (lv_at hl 4 rfl) ?_
        refine lv_aload_n hx hb dX7_leastImportantPoint_16 rfl (lv_at hl 1 rfl) ?_
        obtain ⟨v2, ev2, hq⟩ := b_s hq
        refine fa_gi (own := RX7) (ref := "CoastlineRuler$Coast") (k := 2) hx hb hB inB_RX2 hown hI rfl (by decide) m_56 (fun _ h9 => h9) ev2 dX7_leastImportantPoint_17 ?_
        refine lv_icmp_ge (tgt := 58) hx hb dX7_leastImportantPoint_20 (by decide) (fun c3 => ?_) (fun c3 => ?_)
        · replace hq := i_t c3 hq
          exact hK58 x3 H locs ls hI (lv_sub hl [2] rfl) hq
        · replace hq := i_f c3 hq
          refine lv_aload_n hx hb dX7_leastImportantPoint_23 rfl (lv_at hl 1 rfl) ?_
          refine lv_iload hx hb dX7_leastImportantPoint_24 (lv_at hl 4 rfl) ?_
          refine lv_aload_n hx hb dX7_leastImportantPoint_26 rfl (lv_at hl 0 rfl) ?_
          obtain ⟨v4, ev4, hq⟩ := b_s hq
          refine fa_gr (own := RX7) (ref := "CoastlineRuler") (k := 0) hx hb hB inB_RX7 hown hI rfl (by decide) m_253 (fun _ h9 => h9) ev4 dX7_leastImportantPoint_27 ?_
          obtain ⟨v5, ev5, hq⟩ := b_s hq
          refine fa_gi (own := RX7) (ref := "CoastlineRuler$Chart") (k := 2) hx hb hB inB_RX1 hown hI rfl (by decide) m_80 (fun _ h9 => h9) ev5 dX7_leastImportantPoint_30 ?_
          obtain ⟨v6, ev6, hq⟩ := b_s hq
          refine gr_i (g_runV (As := [.int x5, .int v5]) (rest := []) (ci := 5) hC (c_X2_measureWithout l V g D cT f n x2 x5 v5 v6 ev6) k_X2_measureWithout m_817 rfl rfl ⟨Nat.le_of_ble_eq_true rfl, Nat.le_of_ble_eq_true rfl⟩ hI rfl rfl (h_me_eq ev6).1 rfl hl.1 rfl (Nat.le_of_ble_eq_true rfl) dX7_leastImportantPoint_33 ⟨by decide, by decide⟩) hI (fun H locs hI => ?_)
          refine lv_istore (lv' := [(6, .int v6), (0, .ref x0), (2, .ref x2), (3, .int x3), (4, .int x4), (5, .int x5)]) hx hb dX7_leastImportantPoint_36 hl (by decide) rfl (fun ls hl => ?_)
          refine lv_iload hx hb dX7_leastImportantPoint_38 (lv_at hl 0 rfl) ?_
          refine lv_iload hx hb dX7_leastImportantPoint_40 (lv_at hl 4 rfl) ?_
          refine lv_icmp_le (tgt := 52) hx hb dX7_leastImportantPoint_42 (by decide) (fun c7 => ?_) (fun c7 => ?_)
          · replace hq := i_t c7 hq
            refine lv_iinc (v := x5 + (1 : Int32)) (lv' := [(5, .int (x5 + (1 : Int32))), (6, .int v6), (0, .ref x0), (2, .ref x2), (3, .int x3), (4, .int x4)]) hx hb dX7_leastImportantPoint_52 hl (k := 5) rfl rfl (by decide) rfl (fun ls hl => ?_)
            refine lv_goto (tgt := 14) hx hb dX7_leastImportantPoint_55 (by decide) ?_
            exact ih x0 x2 x3 x4 (x5 + (1 : Int32)) H locs ls hI (lv_sub hl [2, 3, 4, 5, 0] rfl) hq
          · replace hq := i_f c7 hq
            refine lv_iload hx hb dX7_leastImportantPoint_45 (lv_at hl 5 rfl) ?_
            refine lv_istore_n (lv' := [(3, .int x5), (6, .int v6), (0, .ref x0), (2, .ref x2), (4, .int x4), (5, .int x5)]) hx hb dX7_leastImportantPoint_47 rfl hl (by decide) rfl (fun ls hl => ?_)
            refine lv_iload hx hb dX7_leastImportantPoint_48 (lv_at hl 1 rfl) ?_
            refine lv_istore (lv' := [(4, .int v6), (3, .int x5), (6, .int v6), (0, .ref x0), (2, .ref x2), (5, .int x5)]) hx hb dX7_leastImportantPoint_50 hl (by decide) rfl (fun ls hl => ?_)
            refine lv_iinc (v := x5 + (1 : Int32)) (lv' := [(5, .int (x5 + (1 : Int32))), (4, .int v6), (3, .int x5), (6, .int v6), (0, .ref x0), (2, .ref x2)]) hx hb dX7_leastImportantPoint_52 hl (k := 5) rfl rfl (by decide) rfl (fun ls hl => ?_)
            refine lv_goto (tgt := 14) hx hb dX7_leastImportantPoint_55 (by decide) ?_
            exact ih x0 x2 x5 v6 (x5 + (1 : Int32)) H locs ls hI (lv_sub hl [4, 5, 2, 1, 0] rfl) hq
    refine hl14 _ ?_ FU a0 v1 (-1 : Int32) (-1 : Int32) (0 : Int32) H locs ls hI (lv_sub hl [4, 3, 2, 1, 0] rfl) hq
    · intro x3 H locs ls hI hl hq
      refine lv_iload_n hx hb dX7_leastImportantPoint_58 rfl (lv_at hl 0 rfl) ?_
      exact ge_Xi hx hb hlocks hr rfl hI hq dX7_leastImportantPoint_59


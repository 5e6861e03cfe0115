abbrev rm_X7_outputByte : Room := { frames := 8, cells := 1, slots := 6, locals := 208 }
theorem k_X7_outputByte : g_CV yX7_outputByte cX7_outputByte 2 (some .int) 1 := ⟨⟨m_1456, m_1, by decide +kernel⟩, m_1454, m_1455⟩
set_option maxHeartbeats 4000000 in
set_option maxRecDepth 100000 in
theorem c_X7_outputByte (l : Launch) (hl0 : l.stackTraces = false) (V : Nat → Nat) (g : GH) (D : va_G) (cT : Nat → ClassId) (f : GH) (n : Nat) (a0 : Nat) (a1 : Int32) (o : Nat ⊕ Int32) (hq : p_X7_outputByte V g f a0 a1 = some o) : vx_Met l yX7_outputByte (Cond.code yX7_outputByte cX7_outputByte 2 (some .int) :: g_B) rm_X7_outputByte (va_Pc [.ref a0, .int a1] (g_I V g D cT f n)) (g_Xi o n) (g_XX V D cT f o) 1 6 g_no := by
  refine g_beginX (own := RX7) [.ref a0, .int a1] [(0, .ref a0), (1, .int a1)] g_no (fun _ h => h.elim) (by decide) rfl (Nat.le_of_ble_eq_true rfl) rfl ?_
  intro p e s m args below meth c hx hb hr hlocks ht0 hC hI ls hl
  obtain ⟨hx, hb, hml, hown, hB⟩ := id hC
  obtain ⟨H, hH⟩ : ∃ H, H = s.heap := ⟨_, rfl⟩
  obtain ⟨locs, hlocs⟩ : ∃ L : List Loc, L = [] := ⟨_, rfl⟩
  rw [← hH, ← hlocs] at hI ⊢
  clear hH hlocs
  unfold p_X7_outputByte at hq
  replace hq := (h_me_eq hq).2
  refine lv_iload_n hx hb dX7_outputByte_0 rfl (lv_at hl 1 rfl) ?_
  refine lv_if_lt (tgt := 15) hx hb dX7_outputByte_1 (by decide) (fun c1 => ?_) (fun c1 => ?_)
  · replace hq := i_t c1 hq
    exact vx_throwSW (own := RX7) (cls := "java/lang/IndexOutOfBoundsException") (names := ["java/lang/RuntimeException", "java/lang/Exception"]) hx hb hl0 hown (by decide +kernel) (by decide +kernel) (hB _ m_436) (hB _ m_21) (g_rtq hI rt_17) (g_hat hB hI xat_RX7_319) xgd_RX7_319 (g_uns hI) (g_sup hI) hI.2.2.2.2.2.2.1 (hl.1.trans hml.symm) dX7_outputByte_15 dX7_outputByte_18 dX7_outputByte_19 dX7_outputByte_22 dX7_outputByte_25 (fun x hx => (ht0 x hx).elim) (by decide) (by decide) (by decide) (by decide) hlocks (g_thrR hI hq) hI.2.2.2.2.2.2.1.2.2 (by decide) (by decide)
  · replace hq := i_f c1 hq
    refine lv_iload_n hx hb dX7_outputByte_4 rfl (lv_at hl 1 rfl) ?_
    refine lv_aload_n hx hb dX7_outputByte_5 rfl (lv_at hl 0 rfl) ?_
    obtain ⟨v2, ev2, hq⟩ := b_s hq
    refine fa_gr (own := RX7) (ref := "CoastlineRuler") (k := 12) hx hb hB inB_RX7 hown hI rfl (by decide) m_277 (fun _ h9 => h9) ev2 dX7_outputByte_6 ?_
    obtain ⟨v3, ev3, hq⟩ := b_s hq
    refine gr_i (g_runV (As := []) (rest := [.int a1]) (ci := 1) hC (c_J4_length_8abf5 l V g D cT f n v2 v3 ev3) k_J4_length_8abf5 m_1449 rfl rfl ⟨Nat.le_of_ble_eq_true rfl, Nat.le_of_ble_eq_true rfl⟩ hI rfl rfl (h_me_eq ev3).1 rfl hl.1 rfl (Nat.le_of_ble_eq_true rfl) dX7_outputByte_9 ⟨by decide, by decide⟩) hI (fun H locs hI => ?_)
    refine lv_icmp_lt (tgt := 26) hx hb dX7_outputByte_12 (by decide) (fun c4 => ?_) (fun c4 => ?_)
    · replace hq := i_t c4 hq
      refine lv_aload_n hx hb dX7_outputByte_26 rfl (lv_at hl 0 rfl) ?_
      obtain ⟨v5, ev5, hq⟩ := b_s hq
      refine fa_gr (own := RX7) (ref := "CoastlineRuler") (k := 12) hx hb hB inB_RX7 hown hI rfl (by decide) m_277 (fun _ h9 => h9) ev5 dX7_outputByte_27 ?_
      refine lv_iload_n hx hb dX7_outputByte_30 rfl (lv_at hl 1 rfl) ?_
      obtain ⟨v6, ev6, hq⟩ := b_s hq
      refine gr_i (g_runV (As := [.int a1]) (rest := []) (ci := 1) hC (c_J4_charAt_5068e l V g D cT f n v5 a1 v6 ev6) k_J4_charAt_5068e m_1458 rfl rfl ⟨Nat.le_of_ble_eq_true rfl, Nat.le_of_ble_eq_true rfl⟩ hI rfl rfl (h_me_eq ev6).1 rfl hl.1 rfl (Nat.le_of_ble_eq_true rfl) dX7_outputByte_31 ⟨by decide, by decide⟩) hI (fun H locs hI => ?_)
      refine W.widen (k := 1) (n := 6) (by decide) (by decide) ?_
      exact ge_Xi hx hb hlocks hr rfl hI hq dX7_outputByte_34
    · replace hq := i_f c4 hq
      exact vx_throwSW (own := RX7) (cls := "java/lang/IndexOutOfBoundsException") (names := ["java/lang/RuntimeException", "java/lang/Exception"]) hx hb hl0 hown (by decide +kernel) (by decide +kernel) (hB _ m_436) (hB _ m_21) (g_rtq hI rt_17) (g_hat hB hI xat_RX7_319) xgd_RX7_319 (g_uns hI) (g_sup hI) hI.2.2.2.2.2.2.1 (hl.1.trans hml.symm) dX7_outputByte_15 dX7_outputByte_18 dX7_outputByte_19 dX7_outputByte_22 dX7_outputByte_25 (fun x hx => (ht0 x hx).elim) (by decide) (by decide) (by decide) (by decide) hlocks (g_thrR hI hq) hI.2.2.2.2.2.2.1.2.2 (by decide) (by decide)

abbrev rm_X7_undoableCount : Room := { frames := 2, cells := 0, slots := 0, locals := 120 }
theorem k_X7_undoableCount : g_CV yX7_undoableCount cX7_undoableCount 1 (some .int) 0 := ⟨⟨m_601, m_1, by decide +kernel⟩, m_599, m_600⟩
set_option maxHeartbeats 4000000 in
set_option maxRecDepth 100000 in
theorem c_X7_undoableCount (l : Launch) (V : Nat → Nat) (g : GH) (D : va_G) (cT : Nat → ClassId) (f : GH) (n : Nat) (a0 : Nat) (o : Int32) (hq : p_X7_undoableCount V g f a0 = some o) : Met l yX7_undoableCount (Cond.code yX7_undoableCount cX7_undoableCount 1 (some .int) :: g_B) rm_X7_undoableCount (va_Pc [.ref a0] (g_I V g D cT f n)) (g_Ri o n) 0 0 g_no := by
  refine g_begin (own := RX7) [.ref a0] [(0, .ref a0)] g_no (fun _ h => h.elim) (by decide) rfl (Nat.le_of_ble_eq_true rfl) rfl ?_
  intro p e s m args below meth c hx hb hr hlocks hin hC hI ls hl
  obtain ⟨hx, hb, hml, hown, hB⟩ := id hC
  obtain ⟨H, hH⟩ : ∃ H, H = s.heap := ⟨_, rfl⟩
  obtain ⟨locs, hlocs⟩ : ∃ L : List Loc, L = [] := ⟨_, rfl⟩
  rw [← hH, ← hlocs] at hI ⊢
  clear hH hlocs
  unfold p_X7_undoableCount at hq
  replace hq := (h_me_eq hq).2
  refine lv_aload_n hx hb dX7_undoableCount_0 rfl (lv_at hl 0 rfl) ?_
  obtain ⟨v1, ev1, hq⟩ := b_s hq
  refine fa_gi (own := RX7) (ref := "CoastlineRuler") (k := 5) hx hb hB inB_RX7 hown hI rfl (by decide) m_270 (fun _ h9 => h9) ev1 dX7_undoableCount_1 ?_
  exact ge_Ri hx hb hlocks hr rfl hI hq dX7_undoableCount_4

abbrev rm_X7_undo : Room := { frames := 8, cells := 1, slots := 6, locals := 163 }
theorem k_X7_undo : g_CV yX7_undo cX7_undo 1 (some .int) 0 := ⟨⟨m_1474, m_1, by decide +kernel⟩, m_1472, m_1473⟩
set_option maxHeartbeats 4000000 in
set_option maxRecDepth 100000 in
theorem c_X7_undo (l : Launch) (hl0 : l.stackTraces = false) (V : Nat → Nat) (g : GH) (D : va_G) (cT : Nat → ClassId) (f : GH) (n : Nat) (a0 : Nat) (o : (Nat × GH) ⊕ (Int32 × GH)) (hq : p_X7_undo V g f a0 = some o) : vx_Met l yX7_undo (Cond.code yX7_undo cX7_undo 1 (some .int) :: g_B) rm_X7_undo (va_Pc [.ref a0] (g_I V g D cT f n)) (g_Yi V D cT o n) (g_YX V D cT o) 1 6 (g_A V) := by
  refine g_beginX (own := RX7) [.ref a0] [(0, .ref a0)] (g_A V) (fun _ h => h) (by decide) rfl (Nat.le_of_ble_eq_true rfl) rfl ?_
  intro p e s m args below meth c hx hb hr hlocks ht0 hC hI ls hl
  obtain ⟨hx, hb, hml, hown, hB⟩ := id hC
  obtain ⟨H, hH⟩ : ∃ H, H = s.heap := ⟨_, rfl⟩
  obtain ⟨locs, hlocs⟩ : ∃ L : List Loc, L = [] := ⟨_, rfl⟩
  rw [← hH, ← hlocs] at hI ⊢
  clear hH hlocs
  unfold p_X7_undo at hq
  replace hq := (h_me_eq hq).2
  refine lv_aload_n hx hb dX7_undo_0 rfl (lv_at hl 0 rfl) ?_
  obtain ⟨v1, ev1, hq⟩ := b_s hq
  refine fa_gi (own := RX7) (ref := "CoastlineRuler") (k := 5) hx hb hB inB_RX7 hown hI rfl (by decide) m_270 (fun _ h9 => h9) ev1 dX7_undo_1 ?_
  refine lv_if_ne (tgt := 18) hx hb dX7_undo_4 (by decide) (fun c2 => ?_) (fun c2 => ?_)
  · replace hq := i_f c2 hq
    refine lv_aload_n hx hb dX7_undo_18 rfl (lv_at hl 0 rfl) ?_
    refine lv_aload_n hx hb dX7_undo_19 rfl (lv_at hl 0 rfl) ?_
    obtain ⟨v3, ev3, hq⟩ := b_s hq
    refine fa_gi (own := RX7) (ref := "CoastlineRuler") (k := 6) hx hb hB inB_RX7 hown hI rfl (by decide) m_271 (fun _ h9 => h9) ev3 dX7_undo_20 ?_
    have hj37 : ∀ (x0 : Nat) (t0 : Int32) (t1 : Nat) (f : GH) (H : Heap) (locs : List Loc) (ls : Array Slot), g_at (g_A V) V g D cT f n s H locs → lv_has ls 1 [(0, .ref x0)] → p_X7_undo_j37 V g x0 t0 t1 f = some o → W p l e rm_X7_undo s m args below meth c H locs 0 0 (vx_MQ below (g_Yi V D cT o n) (g_YX V D cT o) args s 1 6 (g_A V)) (F0 m 37 ls [.int t0, .ref t1]) := by
      intro x0 t0 t1 f H locs ls hI hl hq
      unfold p_X7_undo_j37 at hq
      obtain ⟨f4, ef4, hq⟩ := b_s hq
      refine fa_pt (own := RX7) (ref := "CoastlineRuler") (k := 6) hx hb hB inB_RX7 tyX7_ok nmX7 hown hI rfl (by decide) m_271 (fun _ h9 => h9) (by decide) rfl rfl ef4 dX7_undo_37 (fun H locs hI => ?_)
      refine lv_aload_n hx hb dX7_undo_40 rfl (lv_at hl 0 rfl) ?_
      refine lv_dup hx hb dX7_undo_41 rfl ?_
      obtain ⟨v5, ev5, hq⟩ := b_s hq
      refine fa_gi (own := RX7) (ref := "CoastlineRuler") (k := 5) hx hb hB inB_RX7 hown hI rfl (by decide) m_270 (fun _ h9 => h9) ev5 dX7_undo_42 ?_
      refine lv_iconst (v := (1 : Int32)) hx hb dX7_undo_45 (by decide) ?_
      refine lv_isub hx hb dX7_undo_46 ?_
      obtain ⟨f6, ef6, hq⟩ := b_s hq
      refine fa_pt (own := RX7) (ref := "CoastlineRuler") (k := 5) hx hb hB inB_RX7 tyX7_ok nmX7 hown hI rfl (by decide) m_270 (fun _ h9 => h9) (by decide) rfl rfl ef6 dX7_undo_47 (fun H locs hI => ?_)
      refine lv_aload_n hx hb dX7_undo_50 rfl (lv_at hl 0 rfl) ?_
      obtain ⟨v7, ev7, hq⟩ := b_s hq
      refine fa_gr (own := RX7) (ref := "CoastlineRuler") (k := 0) hx hb hB inB_RX7 hown hI rfl (by decide) m_265 (fun _ h9 => h9) ev7 dX7_undo_51 ?_
      refine lv_aload_n hx hb dX7_undo_54 rfl (lv_at hl 0 rfl) ?_
      obtain ⟨v8, ev8, hq⟩ := b_s hq
      refine fa_gr (own := RX7) (ref := "CoastlineRuler") (k := 4) hx hb hB inB_RX7 hown hI rfl (by decide) m_269 (fun _ h9 => h9) ev8 dX7_undo_55 ?_
      refine lv_aload_n hx hb dX7_undo_58 rfl (lv_at hl 0 rfl) ?_
      obtain ⟨v9, ev9, hq⟩ := b_s hq
      refine fa_gi (own := RX7) (ref := "CoastlineRuler") (k := 6) hx hb hB inB_RX7 hown hI rfl (by decide) m_271 (fun _ h9 => h9) ev9 dX7_undo_59 ?_
      obtain ⟨v10, ev10, hq⟩ := b_s hq
      refine fa_lq hx hb hI (by decide) rfl ev10 dX7_undo_62 ?_
      obtain ⟨v11, ev11, hq⟩ := b_s hq
      refine gw_v (g_runV (As := [.ref v10]) (rest := []) (ci := 4) hC (c_X1_copyFrom l V g D cT f6 n v7 v10 v11 ev11) k_X1_copyFrom m_541 rfl rfl ⟨Nat.le_of_ble_eq_true rfl, Nat.le_of_ble_eq_true rfl⟩ hI rfl rfl (h_me_eq ev11).1 rfl hl.1 rfl (Nat.le_of_ble_eq_true rfl) dX7_undo_63 ⟨by decide, by decide⟩) hI (fun H locs hI => ?_)
      refine lv_aload_n hx hb dX7_undo_66 rfl (lv_at hl 0 rfl) ?_
      obtain ⟨v12, ev12, hq⟩ := b_s hq
      refine fa_gi (own := RX7) (ref := "CoastlineRuler") (k := 5) hx hb hB inB_RX7 hown hI rfl (by decide) m_270 (fun _ h9 => h9) ev12 dX7_undo_67 ?_
      refine W.widen (k := 1) (n := 6) (by decide) (by decide) ?_
      exact ge_Yi hx hb hlocks hr rfl hI hq dX7_undo_70
    refine lv_if_ne (tgt := 31) hx hb dX7_undo_23 (by decide) (fun c13 => ?_) (fun c13 => ?_)
    · replace hq := i_f c13 hq
      refine lv_aload_n hx hb dX7_undo_31 rfl (lv_at hl 0 rfl) ?_
      obtain ⟨v14, ev14, hq⟩ := b_s hq
      refine fa_gi (own := RX7) (ref := "CoastlineRuler") (k := 6) hx hb hB inB_RX7 hown hI rfl (by decide) m_271 (fun _ h9 => h9) ev14 dX7_undo_32 ?_
      refine lv_iconst (v := (1 : Int32)) hx hb dX7_undo_35 (by decide) ?_
      refine lv_isub hx hb dX7_undo_36 ?_
      exact hj37 a0 (v14 - (1 : Int32)) a0 f H locs ls hI (lv_sub hl [0] rfl) hq
    · replace hq := i_t c13 hq
      refine lv_bipush (v := (7 : Int32)) hx hb dX7_undo_26 (by decide) ?_
      refine lv_goto (tgt := 37) hx hb dX7_undo_28 (by decide) ?_
      exact hj37 a0 (7 : Int32) a0 f H locs ls hI (lv_sub hl [0] rfl) hq
  · replace hq := i_t c2 hq
    exact vx_throwSW (own := RX7) (cls := "java/lang/IllegalStateException") (names := ["java/lang/RuntimeException", "java/lang/Exception"]) hx hb hl0 hown (by decide +kernel) (by decide +kernel) (hB _ m_521) (hB _ m_23) (g_rtq hI rt_18) (g_hat hB hI xat_RX7_330) xgd_RX7_330 (g_uns hI) (g_sup hI) hI.2.2.2.2.2.2.1 (hl.1.trans hml.symm) dX7_undo_7 dX7_undo_10 dX7_undo_11 dX7_undo_14 dX7_undo_17 (fun x hx => (ht0 x hx).elim) (by decide) (by decide) (by decide) (by decide) hlocks (g_thrW hI hq) hI.2.2.2.2.2.2.1.2.2 (by decide) (by decide)

abbrev rm_X7_saveSnapshot : Room := { frames := 4, cells := 0, slots := 0, locals := 163 }
theorem k_X7_saveSnapshot : g_CV yX7_saveSnapshot cX7_saveSnapshot 1 none 0 := ⟨⟨m_605, m_1, by decide +kernel⟩, m_603, m_604⟩
set_option maxHeartbeats 4000000 in
set_option maxRecDepth 100000 in
theorem c_X7_saveSnapshot (l : Launch) (V : Nat → Nat) (g : GH) (D : va_G) (cT : Nat → ClassId) (f : GH) (n : Nat) (a0 : Nat) (o : GH) (hq : p_X7_saveSnapshot V g f a0 = some o) : Met l yX7_saveSnapshot (Cond.code yX7_saveSnapshot cX7_saveSnapshot 1 none :: g_B) rm_X7_saveSnapshot (va_Pc [.ref a0] (g_I V g D cT f n)) (g_Wv V D cT o n) 0 0 (g_A V) := by
  refine g_begin (own := RX7) [.ref a0] [(0, .ref a0)] (g_A V) (fun _ h => h) (by decide) rfl (Nat.le_of_ble_eq_true rfl) rfl ?_
  intro p e s m args below meth c hx hb hr hlocks hin hC hI ls hl
  obtain ⟨hx, hb, hml, hown, hB⟩ := id hC
  obtain ⟨H, hH⟩ : ∃ H, H = s.heap := ⟨_, rfl⟩
  obtain ⟨locs, hlocs⟩ : ∃ L : List Loc, L = [] := ⟨_, rfl⟩
  rw [← hH, ← hlocs] at hI ⊢
  clear hH hlocs
  unfold p_X7_saveSnapshot at hq
  replace hq := (h_me_eq hq).2
  refine lv_aload_n hx hb dX7_saveSnapshot_0 rfl (lv_at hl 0 rfl) ?_
  obtain ⟨v1, ev1, hq⟩ := b_s hq
  refine fa_gr (own := RX7) (ref := "CoastlineRuler") (k := 2) hx hb hB inB_RX7 hown hI rfl (by decide) m_267 (fun _ h9 => h9) ev1 dX7_saveSnapshot_1 ?_
  refine lv_aload_n hx hb dX7_saveSnapshot_4 rfl (lv_at hl 0 rfl) ?_
  obtain ⟨v2, ev2, hq⟩ := b_s hq
  refine fa_gr (own := RX7) (ref := "CoastlineRuler") (k := 0) hx hb hB inB_RX7 hown hI rfl (by decide) m_265 (fun _ h9 => h9) ev2 dX7_saveSnapshot_5 ?_
  obtain ⟨v3, ev3, hq⟩ := b_s hq
  refine gw_v (g_runV (As := [.ref v2]) (rest := []) (ci := 4) hC (c_X1_copyFrom l V g D cT f n v1 v2 v3 ev3) k_X1_copyFrom m_541 rfl rfl ⟨Nat.le_of_ble_eq_true rfl, Nat.le_of_ble_eq_true rfl⟩ hI rfl rfl (h_me_eq ev3).1 rfl hl.1 rfl (Nat.le_of_ble_eq_true rfl) dX7_saveSnapshot_8 ⟨by decide, by decide⟩) hI (fun H locs hI => ?_)
  refine lv_aload_n hx hb dX7_saveSnapshot_11 rfl (lv_at hl 0 rfl) ?_
  refine lv_iconst (v := (1 : Int32)) hx hb dX7_saveSnapshot_12 (by decide) ?_
  obtain ⟨f4, ef4, hq⟩ := b_s hq
  refine fa_pt (own := RX7) (ref := "CoastlineRuler") (k := 3) hx hb hB inB_RX7 tyX7_ok nmX7 hown hI rfl (by decide) m_268 (fun _ h9 => h9) (by decide) (by decide +kernel) (by decide +kernel) ef4 dX7_saveSnapshot_13 (fun H locs hI => ?_)
  exact ge_Wv hx hb hlocks hr hI (Option.some.inj hq) dX7_saveSnapshot_16

abbrev rm_X7_restoreSnapshot : Room := { frames := 8, cells := 1, slots := 6, locals := 163 }
theorem k_X7_restoreSnapshot : g_CV yX7_restoreSnapshot cX7_restoreSnapshot 1 (some .int) 0 := ⟨⟨m_1482, m_1, by decide +kernel⟩, m_1480, m_1481⟩
set_option maxHeartbeats 4000000 in
set_option maxRecDepth 100000 in
theorem c_X7_restoreSnapshot (l : Launch) (hl0 : l.stackTraces = false) (V : Nat → Nat) (g : GH) (D : va_G) (cT : Nat → ClassId) (f : GH) (n : Nat) (a0 : Nat) (o : (Nat × GH) ⊕ (Int32 × GH)) (hq : p_X7_restoreSnapshot V g f a0 = some o) : vx_Met l yX7_restoreSnapshot (Cond.code yX7_restoreSnapshot cX7_restoreSnapshot 1 (some .int) :: g_B) rm_X7_restoreSnapshot (va_Pc [.ref a0] (g_I V g D cT f n)) (g_Yi V D cT o n) (g_YX V D cT o) 1 6 (g_A V) := by
  refine g_beginX (own := RX7) [.ref a0] [(0, .ref a0)] (g_A V) (fun _ h => h) (by decide) rfl (Nat.le_of_ble_eq_true rfl) rfl ?_
  intro p e s m args below meth c hx hb hr hlocks ht0 hC hI ls hl
  obtain ⟨hx, hb, hml, hown, hB⟩ := id hC
  obtain ⟨H, hH⟩ : ∃ H, H = s.heap := ⟨_, rfl⟩
  obtain ⟨locs, hlocs⟩ : ∃ L : List Loc, L = [] := ⟨_, rfl⟩
  rw [← hH, ← hlocs] at hI ⊢
  clear hH hlocs
  unfold p_X7_restoreSnapshot at hq
  replace hq := (h_me_eq hq).2
  refine lv_aload_n hx hb dX7_restoreSnapshot_0 rfl (lv_at hl 0 rfl) ?_
  obtain ⟨v1, ev1, hq⟩ := b_s hq
  refine fa_gi (own := RX7) (ref := "CoastlineRuler") (k := 3) hx hb hB inB_RX7 hown hI rfl (by decide) m_268 (fun _ h9 => h9) ev1 dX7_restoreSnapshot_1 ?_
  refine lv_if_ne (tgt := 18) hx hb dX7_restoreSnapshot_4 (by decide) (fun c2 => ?_) (fun c2 => ?_)
  · replace hq := i_f c2 hq
    refine lv_aload_n hx hb dX7_restoreSnapshot_18 rfl (lv_at hl 0 rfl) ?_
    obtain ⟨v3, ev3, hq⟩ := b_s hq
    refine fa_gr (own := RX7) (ref := "CoastlineRuler") (k := 0) hx hb hB inB_RX7 hown hI rfl (by decide) m_265 (fun _ h9 => h9) ev3 dX7_restoreSnapshot_19 ?_
    refine lv_aload_n hx hb dX7_restoreSnapshot_22 rfl (lv_at hl 0 rfl) ?_
    obtain ⟨v4, ev4, hq⟩ := b_s hq
    refine fa_gr (own := RX7) (ref := "CoastlineRuler") (k := 2) hx hb hB inB_RX7 hown hI rfl (by decide) m_267 (fun _ h9 => h9) ev4 dX7_restoreSnapshot_23 ?_
    obtain ⟨v5, ev5, hq⟩ := b_s hq
    refine gw_v (g_runV (As := [.ref v4]) (rest := []) (ci := 4) hC (c_X1_copyFrom l V g D cT f n v3 v4 v5 ev5) k_X1_copyFrom m_541 rfl rfl ⟨Nat.le_of_ble_eq_true rfl, Nat.le_of_ble_eq_true rfl⟩ hI rfl rfl (h_me_eq ev5).1 rfl hl.1 rfl (Nat.le_of_ble_eq_true rfl) dX7_restoreSnapshot_26 ⟨by decide, by decide⟩) hI (fun H locs hI => ?_)
    refine lv_aload_n hx hb dX7_restoreSnapshot_29 rfl (lv_at hl 0 rfl) ?_
    refine lv_iconst (v := (0 : Int32)) hx hb dX7_restoreSnapshot_30 (by decide) ?_
    obtain ⟨f6, ef6, hq⟩ := b_s hq
    refine fa_pt (own := RX7) (ref := "CoastlineRuler") (k := 5) hx hb hB inB_RX7 tyX7_ok nmX7 hown hI rfl (by decide) m_270 (fun _ h9 => h9) (by decide) rfl rfl ef6 dX7_restoreSnapshot_31 (fun H locs hI => ?_)
    refine lv_aload_n hx hb dX7_restoreSnapshot_34 rfl (lv_at hl 0 rfl) ?_
    obtain ⟨v7, ev7, hq⟩ := b_s hq
    refine fa_gr (own := RX7) (ref := "CoastlineRuler") (k := 0) hx hb hB inB_RX7 hown hI rfl (by decide) m_265 (fun _ h9 => h9) ev7 dX7_restoreSnapshot_35 ?_
    obtain ⟨v8, ev8, hq⟩ := b_s hq
    refine fa_gi (own := RX7) (ref := "CoastlineRuler$Chart") (k := 1) hx hb hB inB_RX1 hown hI rfl (by decide) m_80 (fun _ h9 => h9) ev8 dX7_restoreSnapshot_38 ?_
    refine W.widen (k := 1) (n := 6) (by decide) (by decide) ?_
    exact ge_Yi hx hb hlocks hr rfl hI hq dX7_restoreSnapshot_41
  · replace hq := i_t c2 hq
    exact vx_throwSW (own := RX7) (cls := "java/lang/IllegalStateException") (names := ["java/lang/RuntimeException", "java/lang/Exception"]) hx hb hl0 hown (by decide +kernel) (by decide +kernel) (hB _ m_521) (hB _ m_23) (g_rtq hI rt_19) (g_hat hB hI xat_RX7_330) xgd_RX7_330 (g_uns hI) (g_sup hI) hI.2.2.2.2.2.2.1 (hl.1.trans hml.symm) dX7_restoreSnapshot_7 dX7_restoreSnapshot_10 dX7_restoreSnapshot_11 dX7_restoreSnapshot_14 dX7_restoreSnapshot_17 (fun x hx => (ht0 x hx).elim) (by decide) (by decide) (by decide) (by decide) hlocks (g_thrW hI hq) hI.2.2.2.2.2.2.1.2.2 (by decide) (by decide)


abbrev rm_X7_appendText : Room := { frames := 3, cells := 0, slots := 0, locals := 142 }
theorem k_X7_appendText : g_CV yX7_appendText cX7_appendText 6 (some .int) 5 := ⟨⟨m_562, m_1, by decide +kernel⟩, m_560, m_561⟩
set_option maxHeartbeats 4000000 in
set_option maxRecDepth 100000 in
theorem c_X7_appendText (l : Launch) (V : Nat → Nat) (g : GH) (D : va_G) (cT : Nat → ClassId) (f : GH) (n : Nat) (a0 : Nat) (a1 : Int32) (a2 : Int32) (a3 : Int32) (a4 : Int32) (a5 : Int32) (o : Int32 × GH) (hq : p_X7_appendText V g f a0 a1 a2 a3 a4 a5 = some o) : Met l yX7_appendText (Cond.code yX7_appendText cX7_appendText 6 (some .int) :: g_B) rm_X7_appendText (va_Pc [.ref a0, .int a1, .int a2, .int a3, .int a4, .int a5] (g_I V g D cT f n)) (g_Wi V D cT o.1 o.2 n) 0 0 (g_A V) := by
  refine g_begin (own := RX7) [.ref a0, .int a1, .int a2, .int a3, .int a4, .int a5] [(0, .ref a0), (1, .int a1), (2, .int a2), (3, .int a3), (4, .int a4), (5, .int a5)] (g_A V) (fun _ h => h) (by decide) rfl (Nat.le_of_ble_eq_true rfl) rfl ?_
  intro p e s m args below meth c hx hb hr hlocks hin hC hI ls hl
  obtain ⟨hx, hb, hml, hown, hB⟩ := id hC
  obtain ⟨H, hH⟩ : ∃ H, H = s.heap := ⟨_, rfl⟩
  obtain ⟨locs, hlocs⟩ : ∃ L : List Loc, L = [] := ⟨_, rfl⟩
  rw [← hH, ← hlocs] at hI ⊢
  clear hH hlocs
  unfold p_X7_appendText at hq
  replace hq := (h_me_eq hq).2
  refine lv_aload_n hx hb dX7_appendText_0 rfl (lv_at hl 0 rfl) ?_
  obtain ⟨v1, ev1, hq⟩ := b_s hq
  refine fa_gr (own := RX7) (ref := "CoastlineRuler") (k := 7) hx hb hB inB_RX7 hown hI rfl (by decide) m_260 (fun _ h9 => h9) ev1 dX7_appendText_1 ?_
  obtain ⟨v2, ev2, hq⟩ := b_s hq
  refine fa_gi (own := RX7) (ref := "CoastlineRuler$Tokens") (k := 1) hx hb hB inB_RX5 hown hI rfl (by decide) m_108 (fun _ h9 => h9) ev2 dX7_appendText_4 ?_
  refine lv_bipush (v := (20 : Int32)) hx hb dX7_appendText_7 (by decide) ?_
  refine lv_iadd hx hb dX7_appendText_9 ?_
  refine lv_sipush (v := (700 : Int32)) hx hb dX7_appendText_10 (by decide) ?_
  refine lv_icmp_le (tgt := 18) hx hb dX7_appendText_13 (by decide) (fun c3 => ?_) (fun c3 => ?_)
  · replace hq := i_t c3 hq
    refine lv_aload_n hx hb dX7_appendText_18 rfl (lv_at hl 0 rfl) ?_
    obtain ⟨v4, ev4, hq⟩ := b_s hq
    refine fa_gr (own := RX7) (ref := "CoastlineRuler") (k := 7) hx hb hB inB_RX7 hown hI rfl (by decide) m_260 (fun _ h9 => h9) ev4 dX7_appendText_19 ?_
    refine lv_iload_n hx hb dX7_appendText_22 rfl (lv_at hl 1 rfl) ?_
    obtain ⟨v5, ev5, hq⟩ := b_s hq
    refine gw_v (g_runV (As := [.int a1]) (rest := []) (ci := 8) hC (c_X5_append l V g D cT f n v4 a1 v5 ev5) k_X5_append m_563 rfl rfl ⟨Nat.le_of_ble_eq_true rfl, Nat.le_of_ble_eq_true rfl⟩ hI rfl rfl (h_me_eq ev5).1 rfl hl.1 rfl (Nat.le_of_ble_eq_true rfl) dX7_appendText_23 ⟨by decide, by decide⟩) hI (fun H locs hI => ?_)
    refine lv_aload_n hx hb dX7_appendText_26 rfl (lv_at hl 0 rfl) ?_
    obtain ⟨v6, ev6, hq⟩ := b_s hq
    refine fa_gr (own := RX7) (ref := "CoastlineRuler") (k := 7) hx hb hB inB_RX7 hown hI rfl (by decide) m_260 (fun _ h9 => h9) ev6 dX7_appendText_27 ?_
    refine lv_iload_n hx hb dX7_appendText_30 rfl (lv_at hl 2 rfl) ?_
    obtain ⟨v7, ev7, hq⟩ := b_s hq
    refine gw_v (g_runV (As := [.int a2]) (rest := []) (ci := 8) hC (c_X5_append l V g D cT v5 n v6 a2 v7 ev7) k_X5_append m_563 rfl rfl ⟨Nat.le_of_ble_eq_true rfl, Nat.le_of_ble_eq_true rfl⟩ hI rfl rfl (h_me_eq ev7).1 rfl hl.1 rfl (Nat.le_of_ble_eq_true rfl) dX7_appendText_31 ⟨by decide, by decide⟩) hI (fun H locs hI => ?_)
    refine lv_aload_n hx hb dX7_appendText_34 rfl (lv_at hl 0 rfl) ?_
    obtain ⟨v8, ev8, hq⟩ := b_s hq
    refine fa_gr (own := RX7) (ref := "CoastlineRuler") (k := 7) hx hb hB inB_RX7 hown hI rfl (by decide) m_260 (fun _ h9 => h9) ev8 dX7_appendText_35 ?_
    refine lv_iload_n hx hb dX7_appendText_38 rfl (lv_at hl 3 rfl) ?_
    obtain ⟨v9, ev9, hq⟩ := b_s hq
    refine gw_v (g_runV (As := [.int a3]) (rest := []) (ci := 8) hC (c_X5_append l V g D cT v7 n v8 a3 v9 ev9) k_X5_append m_563 rfl rfl ⟨Nat.le_of_ble_eq_true rfl, Nat.le_of_ble_eq_true rfl⟩ hI rfl rfl (h_me_eq ev9).1 rfl hl.1 rfl (Nat.le_of_ble_eq_true rfl) dX7_appendText_39 ⟨by decide, by decide⟩) hI (fun H locs hI => ?_)
    refine lv_aload_n hx hb dX7_appendText_42 rfl (lv_at hl 0 rfl) ?_
    obtain ⟨v10, ev10, hq⟩ := b_s hq
    refine fa_gr (own := RX7) (ref := "CoastlineRuler") (k := 7) hx hb hB inB_RX7 hown hI rfl (by decide) m_260 (fun _ h9 => h9) ev10 dX7_appendText_43 ?_
    refine lv_iload hx hb dX7_appendText_46 (lv_at hl 4 rfl) ?_
    obtain ⟨v11, ev11, hq⟩ := b_s hq
    refine gw_v (g_runV (As := [.int a4]) (rest := []) (ci := 8) hC (c_X5_append l V g D cT v9 n v10 a4 v11 ev11) k_X5_append m_563 rfl rfl ⟨Nat.le_of_ble_eq_true rfl, Nat.le_of_ble_eq_true rfl⟩ hI rfl rfl (h_me_eq ev11).1 rfl hl.1 rfl (Nat.le_of_ble_eq_true rfl) dX7_appendText_48 ⟨by decide, by decide⟩) hI (fun H locs hI => ?_)
    refine lv_aload_n hx hb dX7_appendText_51 rfl (lv_at hl 0 rfl) ?_
    obtain ⟨v12, ev12, hq⟩ := b_s hq
    refine fa_gr (own := RX7) (ref := "CoastlineRuler") (k := 7) hx hb hB inB_RX7 hown hI rfl (by decide) m_260 (fun _ h9 => h9) ev12 dX7_appendText_52 ?_
    refine lv_iload hx hb dX7_appendText_55 (lv_at hl 5 rfl) ?_
    obtain ⟨v13, ev13, hq⟩ := b_s hq
    refine gw_v (g_runV (As := [.int a5]) (rest := []) (ci := 8) hC (c_X5_append l V g D cT v11 n v12 a5 v13 ev13) k_X5_append m_563 rfl rfl ⟨Nat.le_of_ble_eq_true rfl, Nat.le_of_ble_eq_true rfl⟩ hI rfl rfl (h_me_eq ev13).1 rfl hl.1 rfl (Nat.le_of_ble_eq_true rfl) dX7_appendText_57 ⟨by decide, by decide⟩) hI (fun H locs hI => ?_)
    refine lv_aload_n hx hb dX7_appendText_60 rfl (lv_at hl 0 rfl) ?_
    obtain ⟨v14, ev14, hq⟩ := b_s hq
    refine fa_gr (own := RX7) (ref := "CoastlineRuler") (k := 7) hx hb hB inB_RX7 hown hI rfl (by decide) m_260 (fun _ h9 => h9) ev14 dX7_appendText_61 ?_
    obtain ⟨v15, ev15, hq⟩ := b_s hq
    refine fa_gi (own := RX7) (ref := "CoastlineRuler$Tokens") (k := 1) hx hb hB inB_RX5 hown hI rfl (by decide) m_108 (fun _ h9 => h9) ev15 dX7_appendText_64 ?_
    exact ge_Wi hx hb hlocks hr rfl hI (congrArg (fun z => z.1) (Option.some.inj hq)) (congrArg (fun z => z.2) (Option.some.inj hq)) dX7_appendText_67
  · replace hq := i_f c3 hq
    refine lv_iconst (v := (-1 : Int32)) hx hb dX7_appendText_16 (by decide) ?_
    exact ge_Wi hx hb hlocks hr rfl hI (congrArg (fun z => z.1) (Option.some.inj hq)) (congrArg (fun z => z.2) (Option.some.inj hq)) dX7_appendText_17

abbrev rm_X7_requireWithin : Room := { frames := 8, cells := 1, slots := 6, locals := 120 }
theorem k_X7_requireWithin : g_CS yX7_requireWithin cX7_requireWithin 3 none 3 := ⟨⟨m_303, m_1, by decide +kernel⟩, m_302⟩
set_option maxHeartbeats 4000000 in
set_option maxRecDepth 100000 in
theorem c_X7_requireWithin (l : Launch) (hl0 : l.stackTraces = false) (V : Nat → Nat) (g : GH) (D : va_G) (cT : Nat → ClassId) (f : GH) (n : Nat) (a0 : Int32) (a1 : Int32) (a2 : Int32) (o : Nat ⊕ Unit) (hq : p_X7_requireWithin V g f a0 a1 a2 = some o) : vx_Met l yX7_requireWithin (Cond.code yX7_requireWithin cX7_requireWithin 3 none :: g_B) rm_X7_requireWithin (va_Pc [.int a0, .int a1, .int a2] (g_I V g D cT f n)) (g_Xv o n) (g_XX V D cT f o) 1 6 g_no := by
  refine g_beginX (own := RX7) [.int a0, .int a1, .int a2] [(0, .int a0), (1, .int a1), (2, .int a2)] g_no (fun _ h => h.elim) (by decide) rfl (Nat.le_of_ble_eq_true rfl) rfl ?_
  intro p e s m args below meth c hx hb hr hlocks ht0 hC hI ls hl
  obtain ⟨hx, hb, hml, hown, hB⟩ := id hC
  obtain ⟨H, hH⟩ : ∃ H, H = s.heap := ⟨_, rfl⟩
  obtain ⟨locs, hlocs⟩ : ∃ L : List Loc, L = [] := ⟨_, rfl⟩
  rw [← hH, ← hlocs] at hI ⊢
  clear hH hlocs
  unfold p_X7_requireWithin at hq
  refine lv_iload_n hx hb dX7_requireWithin_0 rfl (lv_at hl 0 rfl) ?_
  refine lv_iload_n hx hb dX7_requireWithin_1 rfl (lv_at hl 1 rfl) ?_
  refine lv_icmp_lt (tgt := 10) hx hb dX7_requireWithin_2 (by decide) (fun c1 => ?_) (fun c1 => ?_)
  · replace hq := i_t c1 hq
    exact vx_throwSW (own := RX7) (cls := "java/lang/IllegalArgumentException") (names := ["java/lang/RuntimeException", "java/lang/Exception"]) hx hb hl0 hown (by decide +kernel) (by decide +kernel) (hB _ m_304) (hB _ m_23) (g_rtq hI rt_0) (g_hat hB hI xat_RX7_350) xgd_RX7_350 (g_uns hI) (g_sup hI) hI.2.2.2.2.2.2.1 (hl.1.trans hml.symm) dX7_requireWithin_10 dX7_requireWithin_13 dX7_requireWithin_14 dX7_requireWithin_17 dX7_requireWithin_20 (fun x hx => (ht0 x hx).elim) (by decide) (by decide) (by decide) (by decide) hlocks (g_thrR hI hq) hI.2.2.2.2.2.2.1.2.2 (by decide) (by decide)
  · replace hq := i_f c1 hq
    refine lv_iload_n hx hb dX7_requireWithin_5 rfl (lv_at hl 0 rfl) ?_
    refine lv_iload_n hx hb dX7_requireWithin_6 rfl (lv_at hl 2 rfl) ?_
    refine lv_icmp_le (tgt := 21) hx hb dX7_requireWithin_7 (by decide) (fun c2 => ?_) (fun c2 => ?_)
    · replace hq := i_t c2 hq
      refine W.widen (k := 1) (n := 6) (by decide) (by decide) ?_
      exact ge_Xv hx hb hlocks hr hI hq dX7_requireWithin_21
    · replace hq := i_f c2 hq
      exact vx_throwSW (own := RX7) (cls := "java/lang/IllegalArgumentException") (names := ["java/lang/RuntimeException", "java/lang/Exception"]) hx hb hl0 hown (by decide +kernel) (by decide +kernel) (hB _ m_304) (hB _ m_23) (g_rtq hI rt_0) (g_hat hB hI xat_RX7_350) xgd_RX7_350 (g_uns hI) (g_sup hI) hI.2.2.2.2.2.2.1 (hl.1.trans hml.symm) dX7_requireWithin_10 dX7_requireWithin_13 dX7_requireWithin_14 dX7_requireWithin_17 dX7_requireWithin_20 (fun x hx => (ht0 x hx).elim) (by decide) (by decide) (by decide) (by decide) hlocks (g_thrR hI hq) hI.2.2.2.2.2.2.1.2.2 (by decide) (by decide)

abbrev rm_X7_requireText : Room := { frames := 9, cells := 1, slots := 6, locals := 142 }
theorem k_X7_requireText : g_CV yX7_requireText cX7_requireText 2 none 1 := ⟨⟨m_300, m_1, by decide +kernel⟩, m_299, ms_0⟩
set_option maxHeartbeats 4000000 in
set_option maxRecDepth 100000 in
theorem c_X7_requireText (l : Launch) (hl0 : l.stackTraces = false) (V : Nat → Nat) (g : GH) (D : va_G) (cT : Nat → ClassId) (f : GH) (n : Nat) (a0 : Nat) (a1 : Int32) (o : Nat ⊕ Unit) (hq : p_X7_requireText V g f a0 a1 = some o) : vx_Met l yX7_requireText (Cond.code yX7_requireText cX7_requireText 2 none :: g_B) rm_X7_requireText (va_Pc [.ref a0, .int a1] (g_I V g D cT f n)) (g_Xv o n) (g_XX V D cT f o) 1 6 g_no := by
  refine g_beginX (own := RX7) [.ref a0, .int a1] [(0, .ref a0), (1, .int a1)] g_no (fun _ h => h.elim) (by decide) rfl (Nat.le_of_ble_eq_true rfl) rfl ?_
  intro p e s m args below meth c hx hb hr hlocks ht0 hC hI ls hl
  obtain ⟨hx, hb, hml, hown, hB⟩ := id hC
  obtain ⟨H, hH⟩ : ∃ H, H = s.heap := ⟨_, rfl⟩
  obtain ⟨locs, hlocs⟩ : ∃ L : List Loc, L = [] := ⟨_, rfl⟩
  rw [← hH, ← hlocs] at hI ⊢
  clear hH hlocs
  unfold p_X7_requireText at hq
  replace hq := (h_me_eq hq).2
  refine lv_iload_n hx hb dX7_requireText_0 rfl (lv_at hl 1 rfl) ?_
  refine lv_iconst (v := (0 : Int32)) hx hb dX7_requireText_1 (by decide) ?_
  refine lv_aload_n hx hb dX7_requireText_2 rfl (lv_at hl 0 rfl) ?_
  obtain ⟨v1, ev1, hq⟩ := b_s hq
  refine fa_gr (own := RX7) (ref := "CoastlineRuler") (k := 7) hx hb hB inB_RX7 hown hI rfl (by decide) m_260 (fun _ h9 => h9) ev1 dX7_requireText_3 ?_
  obtain ⟨v2, ev2, hq⟩ := b_s hq
  refine fa_gi (own := RX7) (ref := "CoastlineRuler$Tokens") (k := 1) hx hb hB inB_RX5 hown hI rfl (by decide) m_108 (fun _ h9 => h9) ev2 dX7_requireText_6 ?_
  rcases x_b_eq hq with ⟨v3, ev3, hq⟩ | ⟨v3, ev3, hq⟩
  · exact gt_RR hlocks ht0 (g_runSX (As := [.int a1, .int (0 : Int32), .int v2]) (rest := []) hC (c_X7_requireWithin l hl0 V g D cT f n a1 (0 : Int32) v2 (.inl v3) ev3) k_X7_requireWithin m_301 rfl rfl ⟨Nat.le_of_ble_eq_true rfl, Nat.le_of_ble_eq_true rfl⟩ hI rfl hl.1 rfl (Nat.le_of_ble_eq_true rfl) dX7_requireText_9 ⟨by decide, by decide⟩) no_v hI hq (by decide) (by decide)
  · refine gx_v (g_runSX (As := [.int a1, .int (0 : Int32), .int v2]) (rest := []) hC (c_X7_requireWithin l hl0 V g D cT f n a1 (0 : Int32) v2 (.inr v3) ev3) k_X7_requireWithin m_301 rfl rfl ⟨Nat.le_of_ble_eq_true rfl, Nat.le_of_ble_eq_true rfl⟩ hI rfl hl.1 rfl (Nat.le_of_ble_eq_true rfl) dX7_requireText_9 ⟨by decide, by decide⟩) hI (fun H locs hI => ?_)
    exact ge_Xv hx hb hlocks hr hI hq dX7_requireText_12

abbrev rm_X7_loadMap : Room := { frames := 10, cells := 1, slots := 6, locals := 294 }
theorem k_X7_loadMap : g_CV yX7_loadMap cX7_loadMap 3 (some .int) 1 := ⟨⟨m_296, m_1, by decide +kernel⟩, m_294, m_295⟩
set_option maxHeartbeats 4000000 in
set_option maxRecDepth 100000 in
theorem c_X7_loadMap (l : Launch) (hl0 : l.stackTraces = false) (V : Nat → Nat) (g : GH) (D : va_G) (cT : Nat → ClassId) (f : GH) (n : Nat) (a0 : Nat) (a1 : Int32) (o : (Nat × GH) ⊕ (Int32 × GH)) (hq : p_X7_loadMap V g f a0 a1 = some o) : vx_Met l yX7_loadMap (Cond.code yX7_loadMap cX7_loadMap 3 (some .int) :: g_B) rm_X7_loadMap (va_Pc [.ref a0, .int a1] (g_I V g D cT f n)) (g_Yi V D cT o n) (g_YX V D cT o) 1 6 (g_A V) := by
  refine g_beginX (own := RX7) [.ref a0, .int a1] [(0, .ref a0), (1, .int a1)] (g_A V) (fun _ h => h) (by decide) rfl (Nat.le_of_ble_eq_true rfl) rfl ?_
  intro p e s m args below meth c hx hb hr hlocks ht0 hC hI ls hl
  obtain ⟨hx, hb, hml, hown, hB⟩ := id hC
  obtain ⟨H, hH⟩ : ∃ H, H = s.heap := ⟨_, rfl⟩
  obtain ⟨locs, hlocs⟩ : ∃ L : List Loc, L = [] := ⟨_, rfl⟩
  rw [← hH, ← hlocs] at hI ⊢
  clear hH hlocs
  unfold p_X7_loadMap at hq
  replace hq := (h_me_eq hq).2
  refine lv_aload_n hx hb dX7_loadMap_0 rfl (lv_at hl 0 rfl) ?_
  refine lv_iload_n hx hb dX7_loadMap_1 rfl (lv_at hl 1 rfl) ?_
  rcases x_b_eq hq with ⟨v1, ev1, hq⟩ | ⟨v1, ev1, hq⟩
  · exact gt_RW hlocks ht0 (g_runVX (As := [.int a1]) (rest := []) (ci := 9) hC (c_X7_requireText l hl0 V g D cT f n a0 a1 (.inl v1) ev1) k_X7_requireText m_297 rfl rfl ⟨Nat.le_of_ble_eq_true rfl, Nat.le_of_ble_eq_true rfl⟩ hI rfl rfl (h_me_eq ev1).1 rfl hl.1 rfl (Nat.le_of_ble_eq_true rfl) dX7_loadMap_2 ⟨by decide, by decide⟩) no_v hI hq (by decide) (by decide)
  · refine gx_v (g_runVX (As := [.int a1]) (rest := []) (ci := 9) hC (c_X7_requireText l hl0 V g D cT f n a0 a1 (.inr v1) ev1) k_X7_requireText m_297 rfl rfl ⟨Nat.le_of_ble_eq_true rfl, Nat.le_of_ble_eq_true rfl⟩ hI rfl rfl (h_me_eq ev1).1 rfl hl.1 rfl (Nat.le_of_ble_eq_true rfl) dX7_loadMap_2 ⟨by decide, by decide⟩) hI (fun H locs hI => ?_)
    refine lv_aload_n hx hb dX7_loadMap_5 rfl (lv_at hl 0 rfl) ?_
    obtain ⟨v2, ev2, hq⟩ := b_s hq
    refine fa_gr (own := RX7) (ref := "CoastlineRuler") (k := 8) hx hb hB inB_RX7 hown hI rfl (by decide) m_261 (fun _ h9 => h9) ev2 dX7_loadMap_6 ?_
    refine lv_iload_n hx hb dX7_loadMap_9 rfl (lv_at hl 1 rfl) ?_
    refine lv_aload_n hx hb dX7_loadMap_10 rfl (lv_at hl 0 rfl) ?_
    obtain ⟨v3, ev3, hq⟩ := b_s hq
    refine fa_gr (own := RX7) (ref := "CoastlineRuler") (k := 1) hx hb hB inB_RX7 hown hI rfl (by decide) m_254 (fun _ h9 => h9) ev3 dX7_loadMap_11 ?_
    obtain ⟨v4, ev4, hq⟩ := b_s hq
    refine gw_i (g_runV (As := [.int a1, .ref v3]) (rest := []) (ci := 7) hC (c_X4_readMap l V g D cT f n v2 a1 v3 v4 ev4) k_X4_readMap m_371 rfl rfl ⟨Nat.le_of_ble_eq_true rfl, Nat.le_of_ble_eq_true rfl⟩ hI rfl rfl (h_me_eq ev4).1 rfl hl.1 rfl (Nat.le_of_ble_eq_true rfl) dX7_loadMap_14 ⟨by decide, by decide⟩) hI (fun H locs hI => ?_)
    refine lv_istore_n (lv' := [(2, .int v4.1), (0, .ref a0), (1, .int a1)]) hx hb dX7_loadMap_17 rfl hl (by decide) rfl (fun ls hl => ?_)
    refine lv_aload_n hx hb dX7_loadMap_18 rfl (lv_at hl 1 rfl) ?_
    obtain ⟨v5, ev5, hq⟩ := b_s hq
    refine fa_gr (own := RX7) (ref := "CoastlineRuler") (k := 7) hx hb hB inB_RX7 hown hI rfl (by decide) m_260 (fun _ h9 => h9) ev5 dX7_loadMap_19 ?_
    refine lv_iconst (v := (0 : Int32)) hx hb dX7_loadMap_22 (by decide) ?_
    obtain ⟨f6, ef6, hq⟩ := b_s hq
    refine fa_pt (own := RX7) (ref := "CoastlineRuler$Tokens") (k := 1) hx hb hB inB_RX5 tyX5_ok nmX5 hown hI rfl (by decide) m_108 (fun _ h9 => h9) (by decide) rfl rfl ef6 dX7_loadMap_23 (fun H locs hI => ?_)
    refine lv_iload_n hx hb dX7_loadMap_26 rfl (lv_at hl 0 rfl) ?_
    refine lv_if_ne (tgt := 32) hx hb dX7_loadMap_27 (by decide) (fun c7 => ?_) (fun c7 => ?_)
    · replace hq := i_f c7 hq
      refine lv_aload_n hx hb dX7_loadMap_32 rfl (lv_at hl 1 rfl) ?_
      obtain ⟨v8, ev8, hq⟩ := b_s hq
      refine fa_gr (own := RX7) (ref := "CoastlineRuler") (k := 1) hx hb hB inB_RX7 hown hI rfl (by decide) m_254 (fun _ h9 => h9) ev8 dX7_loadMap_33 ?_
      obtain ⟨v9, ev9, hq⟩ := b_s hq
      refine gw_v (g_runV (As := []) (rest := []) (ci := 4) hC (c_X1_startLedgers l V g D cT f6 n v8 v9 ev9) k_X1_startLedgers m_245 rfl rfl ⟨Nat.le_of_ble_eq_true rfl, Nat.le_of_ble_eq_true rfl⟩ hI rfl rfl (h_me_eq ev9).1 rfl hl.1 rfl (Nat.le_of_ble_eq_true rfl) dX7_loadMap_36 ⟨by decide, by decide⟩) hI (fun H locs hI => ?_)
      refine lv_aload_n hx hb dX7_loadMap_39 rfl (lv_at hl 1 rfl) ?_
      obtain ⟨v10, ev10, hq⟩ := b_s hq
      refine fa_gr (own := RX7) (ref := "CoastlineRuler") (k := 0) hx hb hB inB_RX7 hown hI rfl (by decide) m_253 (fun _ h9 => h9) ev10 dX7_loadMap_40 ?_
      refine lv_aload_n hx hb dX7_loadMap_43 rfl (lv_at hl 1 rfl) ?_
      obtain ⟨v11, ev11, hq⟩ := b_s hq
      refine fa_gr (own := RX7) (ref := "CoastlineRuler") (k := 1) hx hb hB inB_RX7 hown hI rfl (by decide) m_254 (fun _ h9 => h9) ev11 dX7_loadMap_44 ?_
      obtain ⟨v12, ev12, hq⟩ := b_s hq
      refine gw_v (g_runV (As := [.ref v11]) (rest := []) (ci := 4) hC (c_X1_copyFrom l V g D cT v9 n v10 v11 v12 ev12) k_X1_copyFrom m_495 rfl rfl ⟨Nat.le_of_ble_eq_true rfl, Nat.le_of_ble_eq_true rfl⟩ hI rfl rfl (h_me_eq ev12).1 rfl hl.1 rfl (Nat.le_of_ble_eq_true rfl) dX7_loadMap_47 ⟨by decide, by decide⟩) hI (fun H locs hI => ?_)
      refine lv_aload_n hx hb dX7_loadMap_50 rfl (lv_at hl 1 rfl) ?_
      refine lv_iconst (v := (0 : Int32)) hx hb dX7_loadMap_51 (by decide) ?_
      obtain ⟨f13, ef13, hq⟩ := b_s hq
      refine fa_pt (own := RX7) (ref := "CoastlineRuler") (k := 5) hx hb hB inB_RX7 tyX7_ok nmX7 hown hI rfl (by decide) m_258 (fun _ h9 => h9) (by decide) rfl rfl ef13 dX7_loadMap_52 (fun H locs hI => ?_)
      refine lv_aload_n hx hb dX7_loadMap_55 rfl (lv_at hl 1 rfl) ?_
      refine lv_iconst (v := (0 : Int32)) hx hb dX7_loadMap_56 (by decide) ?_
      obtain ⟨f14, ef14, hq⟩ := b_s hq
      refine fa_pt (own := RX7) (ref := "CoastlineRuler") (k := 3) hx hb hB inB_RX7 tyX7_ok nmX7 hown hI rfl (by decide) m_256 (fun _ h9 => h9) (by decide) (by decide +kernel) (by decide +kernel) ef14 dX7_loadMap_57 (fun H locs hI => ?_)
      refine lv_aload_n hx hb dX7_loadMap_60 rfl (lv_at hl 1 rfl) ?_
      obtain ⟨v15, ev15, hq⟩ := b_s hq
      refine fa_gr (own := RX7) (ref := "CoastlineRuler") (k := 0) hx hb hB inB_RX7 hown hI rfl (by decide) m_253 (fun _ h9 => h9) ev15 dX7_loadMap_61 ?_
      obtain ⟨v16, ev16, hq⟩ := b_s hq
      refine fa_gi (own := RX7) (ref := "CoastlineRuler$Chart") (k := 1) hx hb hB inB_RX1 hown hI rfl (by decide) m_77 (fun _ h9 => h9) ev16 dX7_loadMap_64 ?_
      exact ge_Yi hx hb hlocks hr rfl hI hq dX7_loadMap_67
    · replace hq := i_t c7 hq
      refine lv_iconst (v := (-1 : Int32)) hx hb dX7_loadMap_30 (by decide) ?_
      exact ge_Yi hx hb hlocks hr rfl hI hq dX7_loadMap_31

abbrev rm_X7_errorCode : Room := { frames := 2, cells := 0, slots := 0, locals := 120 }
theorem k_X7_errorCode : g_CV yX7_errorCode cX7_errorCode 1 (some .int) 0 := ⟨⟨m_1193, m_1, by decide +kernel⟩, m_1191, m_1192⟩
set_option maxHeartbeats 4000000 in
set_option maxRecDepth 100000 in
theorem c_X7_errorCode (l : Launch) (V : Nat → Nat) (g : GH) (D : va_G) (cT : Nat → ClassId) (f : GH) (n : Nat) (a0 : Nat) (o : Int32) (hq : p_X7_errorCode V g f a0 = some o) : Met l yX7_errorCode (Cond.code yX7_errorCode cX7_errorCode 1 (some .int) :: g_B) rm_X7_errorCode (va_Pc [.ref a0] (g_I V g D cT f n)) (g_Ri o n) 0 0 g_no := by
  refine g_begin (own := RX7) [.ref a0] [(0, .ref a0)] g_no (fun _ h => h.elim) (by decide) rfl (Nat.le_of_ble_eq_true rfl) rfl ?_
  intro p e s m args below meth c hx hb hr hlocks hin hC hI ls hl
  obtain ⟨hx, hb, hml, hown, hB⟩ := id hC
  obtain ⟨H, hH⟩ : ∃ H, H = s.heap := ⟨_, rfl⟩
  obtain ⟨locs, hlocs⟩ : ∃ L : List Loc, L = [] := ⟨_, rfl⟩
  rw [← hH, ← hlocs] at hI ⊢
  clear hH hlocs
  unfold p_X7_errorCode at hq
  replace hq := (h_me_eq hq).2
  refine lv_aload_n hx hb dX7_errorCode_0 rfl (lv_at hl 0 rfl) ?_
  obtain ⟨v1, ev1, hq⟩ := b_s hq
  refine fa_gr (own := RX7) (ref := "CoastlineRuler") (k := 8) hx hb hB inB_RX7 hown hI rfl (by decide) m_261 (fun _ h9 => h9) ev1 dX7_errorCode_1 ?_
  obtain ⟨v2, ev2, hq⟩ := b_s hq
  refine fa_gi (own := RX7) (ref := "CoastlineRuler$Grammar") (k := 1) hx hb hB inB_RX4 hown hI rfl (by decide) m_137 (fun _ h9 => h9) ev2 dX7_errorCode_4 ?_
  exact ge_Ri hx hb hlocks hr rfl hI hq dX7_errorCode_7

abbrev rm_X7_coastCount : Room := { frames := 2, cells := 0, slots := 0, locals := 120 }
theorem k_X7_coastCount : g_CV yX7_coastCount cX7_coastCount 1 (some .int) 0 := ⟨⟨m_506, m_1, by decide +kernel⟩, m_504, m_505⟩
set_option maxHeartbeats 4000000 in
set_option maxRecDepth 100000 in
theorem c_X7_coastCount (l : Launch) (V : Nat → Nat) (g : GH) (D : va_G) (cT : Nat → ClassId) (f : GH) (n : Nat) (a0 : Nat) (o : Int32) (hq : p_X7_coastCount V g f a0 = some o) : Met l yX7_coastCount (Cond.code yX7_coastCount cX7_coastCount 1 (some .int) :: g_B) rm_X7_coastCount (va_Pc [.ref a0] (g_I V g D cT f n)) (g_Ri o n) 0 0 g_no := by
  refine g_begin (own := RX7) [.ref a0] [(0, .ref a0)] g_no (fun _ h => h.elim) (by decide) rfl (Nat.le_of_ble_eq_true rfl) rfl ?_
  intro p e s m args below meth c hx hb hr hlocks hin hC hI ls hl
  obtain ⟨hx, hb, hml, hown, hB⟩ := id hC
  obtain ⟨H, hH⟩ : ∃ H, H = s.heap := ⟨_, rfl⟩
  obtain ⟨locs, hlocs⟩ : ∃ L : List Loc, L = [] := ⟨_, rfl⟩
  rw [← hH, ← hlocs] at hI ⊢
  clear hH hlocs
  unfold p_X7_coastCount at hq
  replace hq := (h_me_eq hq).2
  refine lv_aload_n hx hb dX7_coastCount_0 rfl (lv_at hl 0 rfl) ?_
  obtain ⟨v1, ev1, hq⟩ := b_s hq
  refine fa_gr (own := RX7) (ref := "CoastlineRuler") (k := 0) hx hb hB inB_RX7 hown hI rfl (by decide) m_253 (fun _ h9 => h9) ev1 dX7_coastCount_1 ?_
  obtain ⟨v2, ev2, hq⟩ := b_s hq
  refine fa_gi (own := RX7) (ref := "CoastlineRuler$Chart") (k := 1) hx hb hB inB_RX1 hown hI rfl (by decide) m_77 (fun _ h9 => h9) ev2 dX7_coastCount_4 ?_
  exact ge_Ri hx hb hlocks hr rfl hI hq dX7_coastCount_7

abbrev rm_X7_usesKingMetric : Room := { frames := 2, cells := 0, slots := 0, locals := 120 }
theorem k_X7_usesKingMetric : g_CV yX7_usesKingMetric cX7_usesKingMetric 1 (some .boolean) 0 := ⟨⟨m_604, m_1, by decide +kernel⟩, m_602, m_603⟩
set_option maxHeartbeats 4000000 in
set_option maxRecDepth 100000 in
theorem c_X7_usesKingMetric (l : Launch) (V : Nat → Nat) (g : GH) (D : va_G) (cT : Nat → ClassId) (f : GH) (n : Nat) (a0 : Nat) (o : Int32) (hq : p_X7_usesKingMetric V g f a0 = some o) : Met l yX7_usesKingMetric (Cond.code yX7_usesKingMetric cX7_usesKingMetric 1 (some .boolean) :: g_B) rm_X7_usesKingMetric (va_Pc [.ref a0] (g_I V g D cT f n)) (g_Ri o n) 0 0 g_no := by
  refine g_begin (own := RX7) [.ref a0] [(0, .ref a0)] g_no (fun _ h => h.elim) (by decide) rfl (Nat.le_of_ble_eq_true rfl) rfl ?_
  intro p e s m args below meth c hx hb hr hlocks hin hC hI ls hl
  obtain ⟨hx, hb, hml, hown, hB⟩ := id hC
  obtain ⟨H, hH⟩ : ∃ H, H = s.heap := ⟨_, rfl⟩
  obtain ⟨locs, hlocs⟩ : ∃ L : List Loc, L = [] := ⟨_, rfl⟩
  rw [← hH, ← hlocs] at hI ⊢
  clear hH hlocs
  unfold p_X7_usesKingMetric at hq
  replace hq := (h_me_eq hq).2
  refine lv_aload_n hx hb dX7_usesKingMetric_0 rfl (lv_at hl 0 rfl) ?_
  obtain ⟨v1, ev1, hq⟩ := b_s hq
  refine fa_gr (own := RX7) (ref := "CoastlineRuler") (k := 0) hx hb hB inB_RX7 hown hI rfl (by decide) m_253 (fun _ h9 => h9) ev1 dX7_usesKingMetric_1 ?_
  obtain ⟨v2, ev2, hq⟩ := b_s hq
  refine fa_gi (own := RX7) (ref := "CoastlineRuler$Chart") (k := 2) hx hb hB inB_RX1 hown hI rfl (by decide) m_80 (fun _ h9 => h9) ev2 dX7_usesKingMetric_4 ?_
  obtain ⟨_, ev3, hq⟩ := b_s hq
  exact ge_Ri hx hb hlocks hr (h_bz_eq ev3).2.1 hI hq dX7_usesKingMetric_7

abbrev rm_X7_coastAt : Room := { frames := 8, cells := 1, slots := 6, locals := 141 }
theorem k_X7_coastAt : g_CV yX7_coastAt cX7_coastAt 2 (some (.object "CoastlineRuler$Coast")) 1 := ⟨⟨m_580, m_1, by decide +kernel⟩, m_579, ms_11⟩
set_option maxHeartbeats 4000000 in
set_option maxRecDepth 100000 in
theorem c_X7_coastAt (l : Launch) (hl0 : l.stackTraces = false) (V : Nat → Nat) (g : GH) (D : va_G) (cT : Nat → ClassId) (f : GH) (n : Nat) (a0 : Nat) (a1 : Int32) (o : Nat ⊕ Nat) (hq : p_X7_coastAt V g f a0 a1 = some o) : vx_Met l yX7_coastAt (Cond.code yX7_coastAt cX7_coastAt 2 (some (.object "CoastlineRuler$Coast")) :: g_B) rm_X7_coastAt (va_Pc [.ref a0, .int a1] (g_I V g D cT f n)) (g_Xr o n) (g_XX V D cT f o) 1 6 g_no := by
  refine g_beginX (own := RX7) [.ref a0, .int a1] [(0, .ref a0), (1, .int a1)] g_no (fun _ h => h.elim) (by decide) rfl (Nat.le_of_ble_eq_true rfl) rfl ?_
  intro p e s m args below meth c hx hb hr hlocks ht0 hC hI ls hl
  obtain ⟨hx, hb, hml, hown, hB⟩ := id hC
  obtain ⟨H, hH⟩ : ∃ H, H = s.heap := ⟨_, rfl⟩
  obtain ⟨locs, hlocs⟩ : ∃ L : List Loc, L = [] := ⟨_, rfl⟩
  rw [← hH, ← hlocs] at hI ⊢
  clear hH hlocs
  unfold p_X7_coastAt at hq
  replace hq := (h_me_eq hq).2
  refine lv_aload_n hx hb dX7_coastAt_0 rfl (lv_at hl 0 rfl) ?_
  obtain ⟨v1, ev1, hq⟩ := b_s hq
  refine fa_gr (own := RX7) (ref := "CoastlineRuler") (k := 0) hx hb hB inB_RX7 hown hI rfl (by decide) m_253 (fun _ h9 => h9) ev1 dX7_coastAt_1 ?_
  refine lv_iload_n hx hb dX7_coastAt_4 rfl (lv_at hl 1 rfl) ?_
  obtain ⟨v2, ev2, hq⟩ := b_s hq
  refine gr_i (g_runV (As := [.int a1]) (rest := []) (ci := 4) hC (c_X1_hasCoast l V g D cT f n v1 a1 v2 ev2) k_X1_hasCoast m_581 rfl rfl ⟨Nat.le_of_ble_eq_true rfl, Nat.le_of_ble_eq_true rfl⟩ hI rfl rfl (h_me_eq ev2).1 rfl hl.1 rfl (Nat.le_of_ble_eq_true rfl) dX7_coastAt_5 ⟨by decide, by decide⟩) hI (fun H locs hI => ?_)
  refine lv_if_ne (tgt := 22) hx hb dX7_coastAt_8 (by decide) (fun c3 => ?_) (fun c3 => ?_)
  · replace hq := i_f c3 hq
    refine lv_aload_n hx hb dX7_coastAt_22 rfl (lv_at hl 0 rfl) ?_
    obtain ⟨v4, ev4, hq⟩ := b_s hq
    refine fa_gr (own := RX7) (ref := "CoastlineRuler") (k := 0) hx hb hB inB_RX7 hown hI rfl (by decide) m_253 (fun _ h9 => h9) ev4 dX7_coastAt_23 ?_
    obtain ⟨v5, ev5, hq⟩ := b_s hq
    refine fa_gr (own := RX7) (ref := "CoastlineRuler$Chart") (k := 0) hx hb hB inB_RX1 hown hI rfl (by decide) m_74 (fun _ h9 => h9) ev5 dX7_coastAt_26 ?_
    refine lv_iload_n hx hb dX7_coastAt_29 rfl (lv_at hl 1 rfl) ?_
    obtain ⟨v6, ev6, hq⟩ := b_s hq
    refine fa_lq hx hb hI (by decide) rfl ev6 dX7_coastAt_30 ?_
    refine W.widen (k := 1) (n := 6) (by decide) (by decide) ?_
    exact ge_Xr hx hb hlocks hr (Or.inl ⟨_, rfl⟩) hI hq dX7_coastAt_31
  · replace hq := i_t c3 hq
    exact vx_throwSW (own := RX7) (cls := "java/lang/IndexOutOfBoundsException") (names := ["java/lang/RuntimeException", "java/lang/Exception"]) hx hb hl0 hown (by decide +kernel) (by decide +kernel) (hB _ m_585) (hB _ m_24) (g_rtq hI rt_8) (g_hat hB hI xat_RX7_319) xgd_RX7_319 (g_uns hI) (g_sup hI) hI.2.2.2.2.2.2.1 (hl.1.trans hml.symm) dX7_coastAt_11 dX7_coastAt_14 dX7_coastAt_15 dX7_coastAt_18 dX7_coastAt_21 (fun x hx => (ht0 x hx).elim) (by decide) (by decide) (by decide) (by decide) hlocks (g_thrR hI hq) hI.2.2.2.2.2.2.1.2.2 (by decide) (by decide)

abbrev rm_X7_isIsland : Room := { frames := 9, cells := 1, slots := 6, locals := 162 }
theorem k_X7_isIsland : g_CV yX7_isIsland cX7_isIsland 2 (some .boolean) 1 := ⟨⟨m_616, m_1, by decide +kernel⟩, m_614, m_615⟩
set_option maxHeartbeats 4000000 in
set_option maxRecDepth 100000 in
theorem c_X7_isIsland (l : Launch) (hl0 : l.stackTraces = false) (V : Nat → Nat) (g : GH) (D : va_G) (cT : Nat → ClassId) (f : GH) (n : Nat) (a0 : Nat) (a1 : Int32) (o : Nat ⊕ Int32) (hq : p_X7_isIsland V g f a0 a1 = some o) : vx_Met l yX7_isIsland (Cond.code yX7_isIsland cX7_isIsland 2 (some .boolean) :: g_B) rm_X7_isIsland (va_Pc [.ref a0, .int a1] (g_I V g D cT f n)) (g_Xi o n) (g_XX V D cT f o) 1 6 g_no := by
  refine g_beginX (own := RX7) [.ref a0, .int a1] [(0, .ref a0), (1, .int a1)] g_no (fun _ h => h.elim) (by decide) rfl (Nat.le_of_ble_eq_true rfl) rfl ?_
  intro p e s m args below meth c hx hb hr hlocks ht0 hC hI ls hl
  obtain ⟨hx, hb, hml, hown, hB⟩ := id hC
  obtain ⟨H, hH⟩ : ∃ H, H = s.heap := ⟨_, rfl⟩
  obtain ⟨locs, hlocs⟩ : ∃ L : List Loc, L = [] := ⟨_, rfl⟩
  rw [← hH, ← hlocs] at hI ⊢
  clear hH hlocs
  unfold p_X7_isIsland at hq
  replace hq := (h_me_eq hq).2
  refine lv_aload_n hx hb dX7_isIsland_0 rfl (lv_at hl 0 rfl) ?_
  refine lv_iload_n hx hb dX7_isIsland_1 rfl (lv_at hl 1 rfl) ?_
  rcases x_b_eq hq with ⟨v1, ev1, hq⟩ | ⟨v1, ev1, hq⟩
  · exact gt_RR hlocks ht0 (g_runVX (As := [.int a1]) (rest := []) (ci := 9) hC (c_X7_coastAt l hl0 V g D cT f n a0 a1 (.inl v1) ev1) k_X7_coastAt m_577 rfl rfl ⟨Nat.le_of_ble_eq_true rfl, Nat.le_of_ble_eq_true rfl⟩ hI rfl rfl (h_me_eq ev1).1 rfl hl.1 rfl (Nat.le_of_ble_eq_true rfl) dX7_isIsland_2 ⟨by decide, by decide⟩) no_r hI hq (by decide) (by decide)
  · refine gx_r (g_runVX (As := [.int a1]) (rest := []) (ci := 9) hC (c_X7_coastAt l hl0 V g D cT f n a0 a1 (.inr v1) ev1) k_X7_coastAt m_577 rfl rfl ⟨Nat.le_of_ble_eq_true rfl, Nat.le_of_ble_eq_true rfl⟩ hI rfl rfl (h_me_eq ev1).1 rfl hl.1 rfl (Nat.le_of_ble_eq_true rfl) dX7_isIsland_2 ⟨by decide, by decide⟩) hI (fun H locs hI => ?_)
    obtain ⟨v2, ev2, hq⟩ := b_s hq
    refine fa_gi (own := RX7) (ref := "CoastlineRuler$Coast") (k := 3) hx hb hB inB_RX2 hown hI rfl (by decide) m_60 (fun _ h9 => h9) ev2 dX7_isIsland_5 ?_
    obtain ⟨_, ev3, hq⟩ := b_s hq
    exact ge_Xi hx hb hlocks hr (h_bz_eq ev3).2.1 hI hq dX7_isIsland_8

abbrev rm_X7_pointCount : Room := { frames := 9, cells := 1, slots := 6, locals := 162 }
theorem k_X7_pointCount : g_CV yX7_pointCount cX7_pointCount 2 (some .int) 1 := ⟨⟨m_576, m_1, by decide +kernel⟩, m_574, m_575⟩
set_option maxHeartbeats 4000000 in
set_option maxRecDepth 100000 in
theorem c_X7_pointCount (l : Launch) (hl0 : l.stackTraces = false) (V : Nat → Nat) (g : GH) (D : va_G) (cT : Nat → ClassId) (f : GH) (n : Nat) (a0 : Nat) (a1 : Int32) (o : Nat ⊕ Int32) (hq : p_X7_pointCount V g f a0 a1 = some o) : vx_Met l yX7_pointCount (Cond.code yX7_pointCount cX7_pointCount 2 (some .int) :: g_B) rm_X7_pointCount (va_Pc [.ref a0, .int a1] (g_I V g D cT f n)) (g_Xi o n) (g_XX V D cT f o) 1 6 g_no := by
  refine g_beginX (own := RX7) [.ref a0, .int a1] [(0, .ref a0), (1, .int a1)] g_no (fun _ h => h.elim) (by decide) rfl (Nat.le_of_ble_eq_true rfl) rfl ?_
  intro p e s m args below meth c hx hb hr hlocks ht0 hC hI ls hl
  obtain ⟨hx, hb, hml, hown, hB⟩ := id hC
  obtain ⟨H, hH⟩ : ∃ H, H = s.heap := ⟨_, rfl⟩
  obtain ⟨locs, hlocs⟩ : ∃ L : List Loc, L = [] := ⟨_, rfl⟩
  rw [← hH, ← hlocs] at hI ⊢
  clear hH hlocs
  unfold p_X7_pointCount at hq
  replace hq := (h_me_eq hq).2
  refine lv_aload_n hx hb dX7_pointCount_0 rfl (lv_at hl 0 rfl) ?_
  refine lv_iload_n hx hb dX7_pointCount_1 rfl (lv_at hl 1 rfl) ?_
  rcases x_b_eq hq with ⟨v1, ev1, hq⟩ | ⟨v1, ev1, hq⟩
  · exact gt_RR hlocks ht0 (g_runVX (As := [.int a1]) (rest := []) (ci := 9) hC (c_X7_coastAt l hl0 V g D cT f n a0 a1 (.inl v1) ev1) k_X7_coastAt m_577 rfl rfl ⟨Nat.le_of_ble_eq_true rfl, Nat.le_of_ble_eq_true rfl⟩ hI rfl rfl (h_me_eq ev1).1 rfl hl.1 rfl (Nat.le_of_ble_eq_true rfl) dX7_pointCount_2 ⟨by decide, by decide⟩) no_r hI hq (by decide) (by decide)
  · refine gx_r (g_runVX (As := [.int a1]) (rest := []) (ci := 9) hC (c_X7_coastAt l hl0 V g D cT f n a0 a1 (.inr v1) ev1) k_X7_coastAt m_577 rfl rfl ⟨Nat.le_of_ble_eq_true rfl, Nat.le_of_ble_eq_true rfl⟩ hI rfl rfl (h_me_eq ev1).1 rfl hl.1 rfl (Nat.le_of_ble_eq_true rfl) dX7_pointCount_2 ⟨by decide, by decide⟩) hI (fun H locs hI => ?_)
    obtain ⟨v2, ev2, hq⟩ := b_s hq
    refine fa_gi (own := RX7) (ref := "CoastlineRuler$Coast") (k := 2) hx hb hB inB_RX2 hown hI rfl (by decide) m_56 (fun _ h9 => h9) ev2 dX7_pointCount_5 ?_
    exact ge_Xi hx hb hlocks hr rfl hI hq dX7_pointCount_8

abbrev rm_X7_coastWithPoint : Room := { frames := 9, cells := 2, slots := 12, locals := 162 }
theorem k_X7_coastWithPoint : g_CV yX7_coastWithPoint cX7_coastWithPoint 4 (some (.object "CoastlineRuler$Coast")) 2 := ⟨⟨m_624, m_1, by decide +kernel⟩, m_623, ms_12⟩
set_option maxHeartbeats 4000000 in
set_option maxRecDepth 100000 in
theorem c_X7_coastWithPoint (l : Launch) (hl0 : l.stackTraces = false) (V : Nat → Nat) (g : GH) (D : va_G) (cT : Nat → ClassId) (f : GH) (n : Nat) (a0 : Nat) (a1 : Int32) (a2 : Int32) (o : Nat ⊕ Nat) (hq : p_X7_coastWithPoint V g f a0 a1 a2 = some o) : vx_Met l yX7_coastWithPoint (Cond.code yX7_coastWithPoint cX7_coastWithPoint 4 (some (.object "CoastlineRuler$Coast")) :: g_B) rm_X7_coastWithPoint (va_Pc [.ref a0, .int a1, .int a2] (g_I V g D cT f n)) (g_Xr o n) (g_XX V D cT f o) 2 12 g_no := by
  refine g_beginX (own := RX7) [.ref a0, .int a1, .int a2] [(0, .ref a0), (1, .int a1), (2, .int a2)] g_no (fun _ h => h.elim) (by decide) rfl (Nat.le_of_ble_eq_true rfl) rfl ?_
  intro p e s m args below meth c hx hb hr hlocks ht0 hC hI ls hl
  obtain ⟨hx, hb, hml, hown, hB⟩ := id hC
  obtain ⟨H, hH⟩ : ∃ H, H = s.heap := ⟨_, rfl⟩
  obtain ⟨locs, hlocs⟩ : ∃ L : List Loc, L = [] := ⟨_, rfl⟩
  rw [← hH, ← hlocs] at hI ⊢
  clear hH hlocs
  unfold p_X7_coastWithPoint at hq
  replace hq := (h_me_eq hq).2
  refine lv_aload_n hx hb dX7_coastWithPoint_0 rfl (lv_at hl 0 rfl) ?_
  refine lv_iload_n hx hb dX7_coastWithPoint_1 rfl (lv_at hl 1 rfl) ?_
  rcases x_b_eq hq with ⟨v1, ev1, hq⟩ | ⟨v1, ev1, hq⟩
  · exact gt_RR hlocks ht0 (g_runVX (As := [.int a1]) (rest := []) (ci := 9) hC (c_X7_coastAt l hl0 V g D cT f n a0 a1 (.inl v1) ev1) k_X7_coastAt m_577 rfl rfl ⟨Nat.le_of_ble_eq_true rfl, Nat.le_of_ble_eq_true rfl⟩ hI rfl rfl (h_me_eq ev1).1 rfl hl.1 rfl (Nat.le_of_ble_eq_true rfl) dX7_coastWithPoint_2 ⟨by decide, by decide⟩) no_r hI hq (by decide) (by decide)
  · refine gx_r (g_runVX (As := [.int a1]) (rest := []) (ci := 9) hC (c_X7_coastAt l hl0 V g D cT f n a0 a1 (.inr v1) ev1) k_X7_coastAt m_577 rfl rfl ⟨Nat.le_of_ble_eq_true rfl, Nat.le_of_ble_eq_true rfl⟩ hI rfl rfl (h_me_eq ev1).1 rfl hl.1 rfl (Nat.le_of_ble_eq_true rfl) dX7_coastWithPoint_2 ⟨by decide, by decide⟩) hI (fun H locs hI => ?_)
    refine lv_astore_n (lv' := [(3, .ref v1), (0, .ref a0), (1, .int a1), (2, .int a2)]) hx hb dX7_coastWithPoint_5 rfl hl (by decide) rfl (fun ls hl => ?_)
    refine lv_iload_n hx hb dX7_coastWithPoint_6 rfl (lv_at hl 3 rfl) ?_
    refine lv_if_lt (tgt := 18) hx hb dX7_coastWithPoint_7 (by decide) (fun c2 => ?_) (fun c2 => ?_)
    · replace hq := i_t c2 hq
      exact vx_throwSW (own := RX7) (cls := "java/lang/IndexOutOfBoundsException") (names := ["java/lang/RuntimeException", "java/lang/Exception"]) hx hb hl0 hown (by decide +kernel) (by decide +kernel) (hB _ m_585) (hB _ m_24) (g_rtq hI rt_9) (g_hat hB hI xat_RX7_319) xgd_RX7_319 (g_uns hI) (g_sup hI) hI.2.2.2.2.2.2.1 (hl.1.trans hml.symm) dX7_coastWithPoint_18 dX7_coastWithPoint_21 dX7_coastWithPoint_22 dX7_coastWithPoint_25 dX7_coastWithPoint_28 (fun x hx => (ht0 x hx).elim) (by decide) (by decide) (by decide) (by decide) hlocks (g_thrR hI hq) hI.2.2.2.2.2.2.1.2.2 (by decide) (by decide)
    · replace hq := i_f c2 hq
      refine lv_iload_n hx hb dX7_coastWithPoint_10 rfl (lv_at hl 3 rfl) ?_
      refine lv_aload_n hx hb dX7_coastWithPoint_11 rfl (lv_at hl 0 rfl) ?_
      obtain ⟨v3, ev3, hq⟩ := b_s hq
      refine fa_gi (own := RX7) (ref := "CoastlineRuler$Coast") (k := 2) hx hb hB inB_RX2 hown hI rfl (by decide) m_56 (fun _ h9 => h9) ev3 dX7_coastWithPoint_12 ?_
      refine lv_icmp_lt (tgt := 29) hx hb dX7_coastWithPoint_15 (by decide) (fun c4 => ?_) (fun c4 => ?_)
      · replace hq := i_t c4 hq
        refine lv_aload_n hx hb dX7_coastWithPoint_29 rfl (lv_at hl 0 rfl) ?_
        refine W.widen (k := 2) (n := 12) (by decide) (by decide) ?_
        exact ge_Xr hx hb hlocks hr (Or.inl ⟨_, rfl⟩) hI hq dX7_coastWithPoint_30
      · replace hq := i_f c4 hq
        exact vx_throwSW (own := RX7) (cls := "java/lang/IndexOutOfBoundsException") (names := ["java/lang/RuntimeException", "java/lang/Exception"]) hx hb hl0 hown (by decide +kernel) (by decide +kernel) (hB _ m_585) (hB _ m_24) (g_rtq hI rt_9) (g_hat hB hI xat_RX7_319) xgd_RX7_319 (g_uns hI) (g_sup hI) hI.2.2.2.2.2.2.1 (hl.1.trans hml.symm) dX7_coastWithPoint_18 dX7_coastWithPoint_21 dX7_coastWithPoint_22 dX7_coastWithPoint_25 dX7_coastWithPoint_28 (fun x hx => (ht0 x hx).elim) (by decide) (by decide) (by decide) (by decide) hlocks (g_thrR hI hq) hI.2.2.2.2.2.2.1.2.2 (by decide) (by decide)

abbrev rm_X7_pointX : Room := { frames := 10, cells := 2, slots := 12, locals := 185 }
theorem k_X7_pointX : g_CV yX7_pointX cX7_pointX 3 (some .int) 2 := ⟨⟨m_620, m_1, by decide +kernel⟩, m_618, m_619⟩
set_option maxHeartbeats 4000000 in
set_option maxRecDepth 100000 in
theorem c_X7_pointX (l : Launch) (hl0 : l.stackTraces = false) (V : Nat → Nat) (g : GH) (D : va_G) (cT : Nat → ClassId) (f : GH) (n : Nat) (a0 : Nat) (a1 : Int32) (a2 : Int32) (o : Nat ⊕ Int32) (hq : p_X7_pointX V g f a0 a1 a2 = some o) : vx_Met l yX7_pointX (Cond.code yX7_pointX cX7_pointX 3 (some .int) :: g_B) rm_X7_pointX (va_Pc [.ref a0, .int a1, .int a2] (g_I V g D cT f n)) (g_Xi o n) (g_XX V D cT f o) 2 12 g_no := by
  refine g_beginX (own := RX7) [.ref a0, .int a1, .int a2] [(0, .ref a0), (1, .int a1), (2, .int a2)] g_no (fun _ h => h.elim) (by decide) rfl (Nat.le_of_ble_eq_true rfl) rfl ?_
  intro p e s m args below meth c hx hb hr hlocks ht0 hC hI ls hl
  obtain ⟨hx, hb, hml, hown, hB⟩ := id hC
  obtain ⟨H, hH⟩ : ∃ H, H = s.heap := ⟨_, rfl⟩
  obtain ⟨locs, hlocs⟩ : ∃ L : List Loc, L = [] := ⟨_, rfl⟩
  rw [← hH, ← hlocs] at hI ⊢
  clear hH hlocs
  unfold p_X7_pointX at hq
  replace hq := (h_me_eq hq).2
  refine lv_aload_n hx hb dX7_pointX_0 rfl (lv_at hl 0 rfl) ?_
  refine lv_iload_n hx hb dX7_pointX_1 rfl (lv_at hl 1 rfl) ?_
  refine lv_iload_n hx hb dX7_pointX_2 rfl (lv_at hl 2 rfl) ?_
  rcases x_b_eq hq with ⟨v1, ev1, hq⟩ | ⟨v1, ev1, hq⟩
  · exact gt_RR hlocks ht0 (g_runVX (As := [.int a1, .int a2]) (rest := []) (ci := 9) hC (c_X7_coastWithPoint l hl0 V g D cT f n a0 a1 a2 (.inl v1) ev1) k_X7_coastWithPoint m_621 rfl rfl ⟨Nat.le_of_ble_eq_true rfl, Nat.le_of_ble_eq_true rfl⟩ hI rfl rfl (h_me_eq ev1).1 rfl hl.1 rfl (Nat.le_of_ble_eq_true rfl) dX7_pointX_3 ⟨by decide, by decide⟩) no_r hI hq (by decide) (by decide)
  · refine gx_r (g_runVX (As := [.int a1, .int a2]) (rest := []) (ci := 9) hC (c_X7_coastWithPoint l hl0 V g D cT f n a0 a1 a2 (.inr v1) ev1) k_X7_coastWithPoint m_621 rfl rfl ⟨Nat.le_of_ble_eq_true rfl, Nat.le_of_ble_eq_true rfl⟩ hI rfl rfl (h_me_eq ev1).1 rfl hl.1 rfl (Nat.le_of_ble_eq_true rfl) dX7_pointX_3 ⟨by decide, by decide⟩) hI (fun H locs hI => ?_)
    obtain ⟨v2, ev2, hq⟩ := b_s hq
    refine fa_gr (own := RX7) (ref := "CoastlineRuler$Coast") (k := 0) hx hb hB inB_RX2 hown hI rfl (by decide) m_49 (fun _ h9 => h9) ev2 dX7_pointX_6 ?_
    refine lv_iload_n hx hb dX7_pointX_9 rfl (lv_at hl 2 rfl) ?_
    obtain ⟨v3, ev3, hq⟩ := b_s hq
    refine fa_li hx hb hI ev3 dX7_pointX_10 ?_
    exact ge_Xi hx hb hlocks hr rfl hI hq dX7_pointX_11

abbrev rm_X7_pointY : Room := { frames := 10, cells := 2, slots := 12, locals := 185 }
theorem k_X7_pointY : g_CV yX7_pointY cX7_pointY 3 (some .int) 2 := ⟨⟨m_629, m_1, by decide +kernel⟩, m_627, m_628⟩
set_option maxHeartbeats 4000000 in
set_option maxRecDepth 100000 in
theorem c_X7_pointY (l : Launch) (hl0 : l.stackTraces = false) (V : Nat → Nat) (g : GH) (D : va_G) (cT : Nat → ClassId) (f : GH) (n : Nat) (a0 : Nat) (a1 : Int32) (a2 : Int32) (o : Nat ⊕ Int32) (hq : p_X7_pointY V g f a0 a1 a2 = some o) : vx_Met l yX7_pointY (Cond.code yX7_pointY cX7_pointY 3 (some .int) :: g_B) rm_X7_pointY (va_Pc [.ref a0, .int a1, .int a2] (g_I V g D cT f n)) (g_Xi o n) (g_XX V D cT f o) 2 12 g_no := by
  refine g_beginX (own := RX7) [.ref a0, .int a1, .int a2] [(0, .ref a0), (1, .int a1), (2, .int a2)] g_no (fun _ h => h.elim) (by decide) rfl (Nat.le_of_ble_eq_true rfl) rfl ?_
  intro p e s m args below meth c hx hb hr hlocks ht0 hC hI ls hl
  obtain ⟨hx, hb, hml, hown, hB⟩ := id hC
  obtain ⟨H, hH⟩ : ∃ H, H = s.heap := ⟨_, rfl⟩
  obtain ⟨locs, hlocs⟩ : ∃ L : List Loc, L = [] := ⟨_, rfl⟩
  rw [← hH, ← hlocs] at hI ⊢
  clear hH hlocs
  unfold p_X7_pointY at hq
  replace hq := (h_me_eq hq).2
  refine lv_aload_n hx hb dX7_pointY_0 rfl (lv_at hl 0 rfl) ?_
  refine lv_iload_n hx hb dX7_pointY_1 rfl (lv_at hl 1 rfl) ?_
  refine lv_iload_n hx hb dX7_pointY_2 rfl (lv_at hl 2 rfl) ?_
  rcases x_b_eq hq with ⟨v1, ev1, hq⟩ | ⟨v1, ev1, hq⟩
  · exact gt_RR hlocks ht0 (g_runVX (As := [.int a1, .int a2]) (rest := []) (ci := 9) hC (c_X7_coastWithPoint l hl0 V g D cT f n a0 a1 a2 (.inl v1) ev1) k_X7_coastWithPoint m_621 rfl rfl ⟨Nat.le_of_ble_eq_true rfl, Nat.le_of_ble_eq_true rfl⟩ hI rfl rfl (h_me_eq ev1).1 rfl hl.1 rfl (Nat.le_of_ble_eq_true rfl) dX7_pointY_3 ⟨by decide, by decide⟩) no_r hI hq (by decide) (by decide)
  · refine gx_r (g_runVX (As := [.int a1, .int a2]) (rest := []) (ci := 9) hC (c_X7_coastWithPoint l hl0 V g D cT f n a0 a1 a2 (.inr v1) ev1) k_X7_coastWithPoint m_621 rfl rfl ⟨Nat.le_of_ble_eq_true rfl, Nat.le_of_ble_eq_true rfl⟩ hI rfl rfl (h_me_eq ev1).1 rfl hl.1 rfl (Nat.le_of_ble_eq_true rfl) dX7_pointY_3 ⟨by decide, by decide⟩) hI (fun H locs hI => ?_)
    obtain ⟨v2, ev2, hq⟩ := b_s hq
    refine fa_gr (own := RX7) (ref := "CoastlineRuler$Coast") (k := 1) hx hb hB inB_RX2 hown hI rfl (by decide) m_52 (fun _ h9 => h9) ev2 dX7_pointY_6 ?_
    refine lv_iload_n hx hb dX7_pointY_9 rfl (lv_at hl 2 rfl) ?_
    obtain ⟨v3, ev3, hq⟩ := b_s hq
    refine fa_li hx hb hI ev3 dX7_pointY_10 ?_
    exact ge_Xi hx hb hlocks hr rfl hI hq dX7_pointY_11

abbrev rm_X7_pointDistance : Room := { frames := 10, cells := 4, slots := 24, locals := 190 }
theorem k_X7_pointDistance : g_CV yX7_pointDistance cX7_pointDistance 4 (some .int) 3 := ⟨⟨m_689, m_1, by decide +kernel⟩, m_687, m_688⟩
set_option maxHeartbeats 4000000 in
set_option maxRecDepth 100000 in
theorem c_X7_pointDistance (l : Launch) (hl0 : l.stackTraces = false) (V : Nat → Nat) (g : GH) (D : va_G) (cT : Nat → ClassId) (f : GH) (n : Nat) (a0 : Nat) (a1 : Int32) (a2 : Int32) (a3 : Int32) (o : Nat ⊕ Int32) (hq : p_X7_pointDistance V g f a0 a1 a2 a3 = some o) : vx_Met l yX7_pointDistance (Cond.code yX7_pointDistance cX7_pointDistance 4 (some .int) :: g_B) rm_X7_pointDistance (va_Pc [.ref a0, .int a1, .int a2, .int a3] (g_I V g D cT f n)) (g_Xi o n) (g_XX V D cT f o) 4 24 g_no := by
  refine g_beginX (own := RX7) [.ref a0, .int a1, .int a2, .int a3] [(0, .ref a0), (1, .int a1), (2, .int a2), (3, .int a3)] g_no (fun _ h => h.elim) (by decide) rfl (Nat.le_of_ble_eq_true rfl) rfl ?_
  intro p e s m args below meth c hx hb hr hlocks ht0 hC hI ls hl
  obtain ⟨hx, hb, hml, hown, hB⟩ := id hC
  obtain ⟨H, hH⟩ : ∃ H, H = s.heap := ⟨_, rfl⟩
  obtain ⟨locs, hlocs⟩ : ∃ L : List Loc, L = [] := ⟨_, rfl⟩
  rw [← hH, ← hlocs] at hI ⊢
  clear hH hlocs
  unfold p_X7_pointDistance at hq
  replace hq := (h_me_eq hq).2
  refine lv_aload_n hx hb dX7_pointDistance_0 rfl (lv_at hl 0 rfl) ?_
  refine lv_iload_n hx hb dX7_pointDistance_1 rfl (lv_at hl 1 rfl) ?_
  refine lv_iload_n hx hb dX7_pointDistance_2 rfl (lv_at hl 2 rfl) ?_
  rcases x_b_eq hq with ⟨v1, ev1, hq⟩ | ⟨v1, ev1, hq⟩
  · exact gt_RR hlocks ht0 (g_runVX (As := [.int a1, .int a2]) (rest := []) (ci := 9) hC (c_X7_coastWithPoint l hl0 V g D cT f n a0 a1 a2 (.inl v1) ev1) k_X7_coastWithPoint m_621 rfl rfl ⟨Nat.le_of_ble_eq_true rfl, Nat.le_of_ble_eq_true rfl⟩ hI rfl rfl (h_me_eq ev1).1 rfl hl.1 rfl (Nat.le_of_ble_eq_true rfl) dX7_pointDistance_3 ⟨by decide, by decide⟩) no_r hI hq (by decide) (by decide)
  · refine gx_r (g_runVX (As := [.int a1, .int a2]) (rest := []) (ci := 9) hC (c_X7_coastWithPoint l hl0 V g D cT f n a0 a1 a2 (.inr v1) ev1) k_X7_coastWithPoint m_621 rfl rfl ⟨Nat.le_of_ble_eq_true rfl, Nat.le_of_ble_eq_true rfl⟩ hI rfl rfl (h_me_eq ev1).1 rfl hl.1 rfl (Nat.le_of_ble_eq_true rfl) dX7_pointDistance_3 ⟨by decide, by decide⟩) hI (fun H locs hI => ?_)
    refine lv_pop hx hb dX7_pointDistance_6 rfl ?_
    refine lv_aload_n hx hb dX7_pointDistance_7 rfl (lv_at hl 0 rfl) ?_
    refine lv_iload_n hx hb dX7_pointDistance_8 rfl (lv_at hl 1 rfl) ?_
    refine lv_iload_n hx hb dX7_pointDistance_9 rfl (lv_at hl 3 rfl) ?_
    rcases x_b_eq hq with ⟨v2, ev2, hq⟩ | ⟨v2, ev2, hq⟩
    · exact gt_RR hlocks ht0 (g_runVX (As := [.int a1, .int a3]) (rest := []) (ci := 9) hC (c_X7_coastWithPoint l hl0 V g D cT f n a0 a1 a3 (.inl v2) ev2) k_X7_coastWithPoint m_621 rfl rfl ⟨Nat.le_of_ble_eq_true rfl, Nat.le_of_ble_eq_true rfl⟩ hI rfl rfl (h_me_eq ev2).1 rfl hl.1 rfl (Nat.le_of_ble_eq_true rfl) dX7_pointDistance_10 ⟨by decide, by decide⟩) no_r hI hq (by decide) (by decide)
    · refine gx_r (g_runVX (As := [.int a1, .int a3]) (rest := []) (ci := 9) hC (c_X7_coastWithPoint l hl0 V g D cT f n a0 a1 a3 (.inr v2) ev2) k_X7_coastWithPoint m_621 rfl rfl ⟨Nat.le_of_ble_eq_true rfl, Nat.le_of_ble_eq_true rfl⟩ hI rfl rfl (h_me_eq ev2).1 rfl hl.1 rfl (Nat.le_of_ble_eq_true rfl) dX7_pointDistance_10 ⟨by decide, by decide⟩) hI (fun H locs hI => ?_)
      refine lv_iload_n hx hb dX7_pointDistance_13 rfl (lv_at hl 2 rfl) ?_
      refine lv_iload_n hx hb dX7_pointDistance_14 rfl (lv_at hl 3 rfl) ?_
      refine lv_aload_n hx hb dX7_pointDistance_15 rfl (lv_at hl 0 rfl) ?_
      obtain ⟨v3, ev3, hq⟩ := b_s hq
      refine fa_gr (own := RX7) (ref := "CoastlineRuler") (k := 0) hx hb hB inB_RX7 hown hI rfl (by decide) m_253 (fun _ h9 => h9) ev3 dX7_pointDistance_16 ?_
      obtain ⟨v4, ev4, hq⟩ := b_s hq
      refine fa_gi (own := RX7) (ref := "CoastlineRuler$Chart") (k := 2) hx hb hB inB_RX1 hown hI rfl (by decide) m_80 (fun _ h9 => h9) ev4 dX7_pointDistance_19 ?_
      obtain ⟨v5, ev5, hq⟩ := b_s hq
      refine gr_i (g_runV (As := [.int a2, .int a3, .int v4]) (rest := []) (ci := 5) hC (c_X2_distance l V g D cT f n v2 a2 a3 v4 v5 ev5) k_X2_distance m_690 rfl rfl ⟨Nat.le_of_ble_eq_true rfl, Nat.le_of_ble_eq_true rfl⟩ hI rfl rfl (h_me_eq ev5).1 rfl hl.1 rfl (Nat.le_of_ble_eq_true rfl) dX7_pointDistance_22 ⟨by decide, by decide⟩) hI (fun H locs hI => ?_)
      exact ge_Xi hx hb hlocks hr rfl hI hq dX7_pointDistance_25

abbrev rm_X7_nearestPoint : Room := { frames := 9, cells := 3, slots := 18, locals := 192 }
theorem k_X7_nearestPoint : g_CV yX7_nearestPoint cX7_nearestPoint 5 (some .int) 3 := ⟨⟨m_825, m_1, by decide +kernel⟩, m_823, m_824⟩
set_option maxHeartbeats 4000000 in
set_option maxRecDepth 100000 in
theorem c_X7_nearestPoint (l : Launch) (hl0 : l.stackTraces = false) (V : Nat → Nat) (g : GH) (D : va_G) (cT : Nat → ClassId) (f : GH) (n : Nat) (a0 : Nat) (a1 : Int32) (a2 : Int32) (a3 : Int32) (o : Nat ⊕ Int32) (hq : p_X7_nearestPoint V g f a0 a1 a2 a3 = some o) : vx_Met l yX7_nearestPoint (Cond.code yX7_nearestPoint cX7_nearestPoint 5 (some .int) :: g_B) rm_X7_nearestPoint (va_Pc [.ref a0, .int a1, .int a2, .int a3] (g_I V g D cT f n)) (g_Xi o n) (g_XX V D cT f o) 3 18 g_no := by
  refine g_beginX (own := RX7) [.ref a0, .int a1, .int a2, .int a3] [(0, .ref a0), (1, .int a1), (2, .int a2), (3, .int a3)] g_no (fun _ h => h.elim) (by decide) rfl (Nat.le_of_ble_eq_true rfl) rfl ?_
  intro p e s m args below meth c hx hb hr hlocks ht0 hC hI ls hl
  obtain ⟨hx, hb, hml, hown, hB⟩ := id hC
  obtain ⟨H, hH⟩ : ∃ H, H = s.heap := ⟨_, rfl⟩
  obtain ⟨locs, hlocs⟩ : ∃ L : List Loc, L = [] := ⟨_, rfl⟩
  rw [← hH, ← hlocs] at hI ⊢
  clear hH hlocs
  unfold p_X7_nearestPoint at hq
  replace hq := (h_me_eq hq).2
  refine lv_aload_n hx hb dX7_nearestPoint_0 rfl (lv_at hl 0 rfl) ?_
  refine lv_iload_n hx hb dX7_nearestPoint_1 rfl (lv_at hl 1 rfl) ?_
  rcases x_b_eq hq with ⟨v1, ev1, hq⟩ | ⟨v1, ev1, hq⟩
  · exact gt_RR hlocks ht0 (g_runVX (As := [.int a1]) (rest := []) (ci := 9) hC (c_X7_coastAt l hl0 V g D cT f n a0 a1 (.inl v1) ev1) k_X7_coastAt m_577 rfl rfl ⟨Nat.le_of_ble_eq_true rfl, Nat.le_of_ble_eq_true rfl⟩ hI rfl rfl (h_me_eq ev1).1 rfl hl.1 rfl (Nat.le_of_ble_eq_true rfl) dX7_nearestPoint_2 ⟨by decide, by decide⟩) no_r hI hq (by decide) (by decide)
  · refine gx_r (g_runVX (As := [.int a1]) (rest := []) (ci := 9) hC (c_X7_coastAt l hl0 V g D cT f n a0 a1 (.inr v1) ev1) k_X7_coastAt m_577 rfl rfl ⟨Nat.le_of_ble_eq_true rfl, Nat.le_of_ble_eq_true rfl⟩ hI rfl rfl (h_me_eq ev1).1 rfl hl.1 rfl (Nat.le_of_ble_eq_true rfl) dX7_nearestPoint_2 ⟨by decide, by decide⟩) hI (fun H locs hI => ?_)
    refine lv_astore (lv' := [(4, .ref v1), (0, .ref a0), (1, .int a1), (2, .int a2), (3, .int a3)]) hx hb dX7_nearestPoint_5 hl (by decide) rfl (fun ls hl => ?_)
    refine lv_iload_n hx hb dX7_nearestPoint_7 rfl (lv_at hl 3 rfl) ?_
    refine lv_sipush (v := (-1000 : Int32)) hx hb dX7_nearestPoint_8 (by decide) ?_
    refine lv_sipush (v := (1000 : Int32)) hx hb dX7_nearestPoint_11 (by decide) ?_
    rcases x_b_eq hq with ⟨v2, ev2, hq⟩ | ⟨v2, ev2, hq⟩
    · exact gt_RR hlocks ht0 (g_runSX (As := [.int a2, .int (-1000 : Int32), .int (1000 : Int32)]) (rest := []) hC (c_X7_requireWithin l hl0 V g D cT f n a2 (-1000 : Int32) (1000 : Int32) (.inl v2) ev2) k_X7_requireWithin m_301 rfl rfl ⟨Nat.le_of_ble_eq_true rfl, Nat.le_of_ble_eq_true rfl⟩ hI rfl hl.1 rfl (Nat.le_of_ble_eq_true rfl) dX7_nearestPoint_14 ⟨by decide, by decide⟩) no_v hI hq (by decide) (by decide)
    · refine gx_v (g_runSX (As := [.int a2, .int (-1000 : Int32), .int (1000 : Int32)]) (rest := []) hC (c_X7_requireWithin l hl0 V g D cT f n a2 (-1000 : Int32) (1000 : Int32) (.inr v2) ev2) k_X7_requireWithin m_301 rfl rfl ⟨Nat.le_of_ble_eq_true rfl, Nat.le_of_ble_eq_true rfl⟩ hI rfl hl.1 rfl (Nat.le_of_ble_eq_true rfl) dX7_nearestPoint_14 ⟨by decide, by decide⟩) hI (fun H locs hI => ?_)
      refine lv_iload_n hx hb dX7_nearestPoint_17 rfl (lv_at hl 4 rfl) ?_
      refine lv_sipush (v := (-1000 : Int32)) hx hb dX7_nearestPoint_18 (by decide) ?_
      refine lv_sipush (v := (1000 : Int32)) hx hb dX7_nearestPoint_21 (by decide) ?_
      rcases x_b_eq hq with ⟨v3, ev3, hq⟩ | ⟨v3, ev3, hq⟩
      · exact gt_RR hlocks ht0 (g_runSX (As := [.int a3, .int (-1000 : Int32), .int (1000 : Int32)]) (rest := []) hC (c_X7_requireWithin l hl0 V g D cT f n a3 (-1000 : Int32) (1000 : Int32) (.inl v3) ev3) k_X7_requireWithin m_301 rfl rfl ⟨Nat.le_of_ble_eq_true rfl, Nat.le_of_ble_eq_true rfl⟩ hI rfl hl.1 rfl (Nat.le_of_ble_eq_true rfl) dX7_nearestPoint_24 ⟨by decide, by decide⟩) no_v hI hq (by decide) (by decide)
      · refine gx_v (g_runSX (As := [.int a3, .int (-1000 : Int32), .int (1000 : Int32)]) (rest := []) hC (c_X7_requireWithin l hl0 V g D cT f n a3 (-1000 : Int32) (1000 : Int32) (.inr v3) ev3) k_X7_requireWithin m_301 rfl rfl ⟨Nat.le_of_ble_eq_true rfl, Nat.le_of_ble_eq_true rfl⟩ hI rfl hl.1 rfl (Nat.le_of_ble_eq_true rfl) dX7_nearestPoint_24 ⟨by decide, by decide⟩) hI (fun H locs hI => ?_)
        refine lv_aload hx hb dX7_nearestPoint_27 (lv_at hl 0 rfl) ?_
        refine lv_iload_n hx hb dX7_nearestPoint_29 rfl (lv_at hl 3 rfl) ?_
        refine lv_iload_n hx hb dX7_nearestPoint_30 rfl (lv_at hl 4 rfl) ?_
        refine lv_aload_n hx hb dX7_nearestPoint_31 rfl (lv_at hl 1 rfl) ?_
        obtain ⟨v4, ev4, hq⟩ := b_s hq
        refine fa_gr (own := RX7) (ref := "CoastlineRuler") (k := 0) hx hb hB inB_RX7 hown hI rfl (by decide) m_253 (fun _ h9 => h9) ev4 dX7_nearestPoint_32 ?_
        obtain ⟨v5, ev5, hq⟩ := b_s hq
        refine fa_gi (own := RX7) (ref := "CoastlineRuler$Chart") (k := 2) hx hb hB inB_RX1 hown hI rfl (by decide) m_80 (fun _ h9 => h9) ev5 dX7_nearestPoint_35 ?_
        obtain ⟨v6, ev6, hq⟩ := b_s hq
        refine gr_i (g_runV (As := [.int a2, .int a3, .int v5]) (rest := []) (ci := 5) hC (c_X2_nearestTo l V g D cT f n v1 a2 a3 v5 v6 ev6) k_X2_nearestTo m_826 rfl rfl ⟨Nat.le_of_ble_eq_true rfl, Nat.le_of_ble_eq_true rfl⟩ hI rfl rfl (h_me_eq ev6).1 rfl hl.1 rfl (Nat.le_of_ble_eq_true rfl) dX7_nearestPoint_38 ⟨by decide, by decide⟩) hI (fun H locs hI => ?_)
        exact ge_Xi hx hb hlocks hr rfl hI hq dX7_nearestPoint_41

abbrev rm_X7_lengthAt : Room := { frames := 9, cells := 2, slots := 12, locals := 238 }
theorem k_X7_lengthAt : g_CV yX7_lengthAt cX7_lengthAt 4 (some .int) 2 := ⟨⟨m_694, m_1, by decide +kernel⟩, m_692, m_693⟩
set_option maxHeartbeats 4000000 in
set_option maxRecDepth 100000 in
theorem c_X7_lengthAt (l : Launch) (hl0 : l.stackTraces = false) (V : Nat → Nat) (g : GH) (D : va_G) (cT : Nat → ClassId) (f : GH) (n : Nat) (a0 : Nat) (a1 : Int32) (a2 : Int32) (o : Nat ⊕ Int32) (hq : p_X7_lengthAt V g f a0 a1 a2 = some o) : vx_Met l yX7_lengthAt (Cond.code yX7_lengthAt cX7_lengthAt 4 (some .int) :: g_B) rm_X7_lengthAt (va_Pc [.ref a0, .int a1, .int a2] (g_I V g D cT f n)) (g_Xi o n) (g_XX V D cT f o) 2 12 g_no := by
  refine g_beginX (own := RX7) [.ref a0, .int a1, .int a2] [(0, .ref a0), (1, .int a1), (2, .int a2)] g_no (fun _ h => h.elim) (by decide) rfl (Nat.le_of_ble_eq_true rfl) rfl ?_
  intro p e s m args below meth c hx hb hr hlocks ht0 hC hI ls hl
  obtain ⟨hx, hb, hml, hown, hB⟩ := id hC
  obtain ⟨H, hH⟩ : ∃ H, H = s.heap := ⟨_, rfl⟩
  obtain ⟨locs, hlocs⟩ : ∃ L : List Loc, L = [] := ⟨_, rfl⟩
  rw [← hH, ← hlocs] at hI ⊢
  clear hH hlocs
  unfold p_X7_lengthAt at hq
  replace hq := (h_me_eq hq).2
  refine lv_aload_n hx hb dX7_lengthAt_0 rfl (lv_at hl 0 rfl) ?_
  refine lv_iload_n hx hb dX7_lengthAt_1 rfl (lv_at hl 1 rfl) ?_
  rcases x_b_eq hq with ⟨v1, ev1, hq⟩ | ⟨v1, ev1, hq⟩
  · exact gt_RR hlocks ht0 (g_runVX (As := [.int a1]) (rest := []) (ci := 9) hC (c_X7_coastAt l hl0 V g D cT f n a0 a1 (.inl v1) ev1) k_X7_coastAt m_577 rfl rfl ⟨Nat.le_of_ble_eq_true rfl, Nat.le_of_ble_eq_true rfl⟩ hI rfl rfl (h_me_eq ev1).1 rfl hl.1 rfl (Nat.le_of_ble_eq_true rfl) dX7_lengthAt_2 ⟨by decide, by decide⟩) no_r hI hq (by decide) (by decide)
  · refine gx_r (g_runVX (As := [.int a1]) (rest := []) (ci := 9) hC (c_X7_coastAt l hl0 V g D cT f n a0 a1 (.inr v1) ev1) k_X7_coastAt m_577 rfl rfl ⟨Nat.le_of_ble_eq_true rfl, Nat.le_of_ble_eq_true rfl⟩ hI rfl rfl (h_me_eq ev1).1 rfl hl.1 rfl (Nat.le_of_ble_eq_true rfl) dX7_lengthAt_2 ⟨by decide, by decide⟩) hI (fun H locs hI => ?_)
    refine lv_astore_n (lv' := [(3, .ref v1), (0, .ref a0), (1, .int a1), (2, .int a2)]) hx hb dX7_lengthAt_5 rfl hl (by decide) rfl (fun ls hl => ?_)
    refine lv_iload_n hx hb dX7_lengthAt_6 rfl (lv_at hl 3 rfl) ?_
    refine lv_iconst (v := (0 : Int32)) hx hb dX7_lengthAt_7 (by decide) ?_
    refine lv_bipush (v := (7 : Int32)) hx hb dX7_lengthAt_8 (by decide) ?_
    rcases x_b_eq hq with ⟨v2, ev2, hq⟩ | ⟨v2, ev2, hq⟩
    · exact gt_RR hlocks ht0 (g_runSX (As := [.int a2, .int (0 : Int32), .int (7 : Int32)]) (rest := []) hC (c_X7_requireWithin l hl0 V g D cT f n a2 (0 : Int32) (7 : Int32) (.inl v2) ev2) k_X7_requireWithin m_301 rfl rfl ⟨Nat.le_of_ble_eq_true rfl, Nat.le_of_ble_eq_true rfl⟩ hI rfl hl.1 rfl (Nat.le_of_ble_eq_true rfl) dX7_lengthAt_10 ⟨by decide, by decide⟩) no_v hI hq (by decide) (by decide)
    · refine gx_v (g_runSX (As := [.int a2, .int (0 : Int32), .int (7 : Int32)]) (rest := []) hC (c_X7_requireWithin l hl0 V g D cT f n a2 (0 : Int32) (7 : Int32) (.inr v2) ev2) k_X7_requireWithin m_301 rfl rfl ⟨Nat.le_of_ble_eq_true rfl, Nat.le_of_ble_eq_true rfl⟩ hI rfl hl.1 rfl (Nat.le_of_ble_eq_true rfl) dX7_lengthAt_10 ⟨by decide, by decide⟩) hI (fun H locs hI => ?_)
      refine lv_aload_n hx hb dX7_lengthAt_13 rfl (lv_at hl 0 rfl) ?_
      refine lv_iload_n hx hb dX7_lengthAt_14 rfl (lv_at hl 3 rfl) ?_
      refine lv_aload_n hx hb dX7_lengthAt_15 rfl (lv_at hl 1 rfl) ?_
      obtain ⟨v3, ev3, hq⟩ := b_s hq
      refine fa_gr (own := RX7) (ref := "CoastlineRuler") (k := 0) hx hb hB inB_RX7 hown hI rfl (by decide) m_253 (fun _ h9 => h9) ev3 dX7_lengthAt_16 ?_
      obtain ⟨v4, ev4, hq⟩ := b_s hq
      refine fa_gi (own := RX7) (ref := "CoastlineRuler$Chart") (k := 2) hx hb hB inB_RX1 hown hI rfl (by decide) m_80 (fun _ h9 => h9) ev4 dX7_lengthAt_19 ?_
      obtain ⟨v5, ev5, hq⟩ := b_s hq
      refine gr_i (g_runV (As := [.int a2, .int v4]) (rest := []) (ci := 5) hC (c_X2_measure l V g D cT f n v1 a2 v4 v5 ev5) k_X2_measure m_695 rfl rfl ⟨Nat.le_of_ble_eq_true rfl, Nat.le_of_ble_eq_true rfl⟩ hI rfl rfl (h_me_eq ev5).1 rfl hl.1 rfl (Nat.le_of_ble_eq_true rfl) dX7_lengthAt_22 ⟨by decide, by decide⟩) hI (fun H locs hI => ?_)
      exact ge_Xi hx hb hlocks hr rfl hI hq dX7_lengthAt_25

abbrev rm_X7_stickCount : Room := { frames := 9, cells := 2, slots := 12, locals := 162 }
theorem k_X7_stickCount : g_CV yX7_stickCount cX7_stickCount 4 (some .int) 2 := ⟨⟨m_639, m_1, by decide +kernel⟩, m_637, m_638⟩
set_option maxHeartbeats 4000000 in
set_option maxRecDepth 100000 in
theorem c_X7_stickCount (l : Launch) (hl0 : l.stackTraces = false) (V : Nat → Nat) (g : GH) (D : va_G) (cT : Nat → ClassId) (f : GH) (n : Nat) (a0 : Nat) (a1 : Int32) (a2 : Int32) (o : Nat ⊕ Int32) (hq : p_X7_stickCount V g f a0 a1 a2 = some o) : vx_Met l yX7_stickCount (Cond.code yX7_stickCount cX7_stickCount 4 (some .int) :: g_B) rm_X7_stickCount (va_Pc [.ref a0, .int a1, .int a2] (g_I V g D cT f n)) (g_Xi o n) (g_XX V D cT f o) 2 12 g_no := by
  refine g_beginX (own := RX7) [.ref a0, .int a1, .int a2] [(0, .ref a0), (1, .int a1), (2, .int a2)] g_no (fun _ h => h.elim) (by decide) rfl (Nat.le_of_ble_eq_true rfl) rfl ?_
  intro p e s m args below meth c hx hb hr hlocks ht0 hC hI ls hl
  obtain ⟨hx, hb, hml, hown, hB⟩ := id hC
  obtain ⟨H, hH⟩ : ∃ H, H = s.heap := ⟨_, rfl⟩
  obtain ⟨locs, hlocs⟩ : ∃ L : List Loc, L = [] := ⟨_, rfl⟩
  rw [← hH, ← hlocs] at hI ⊢
  clear hH hlocs
  unfold p_X7_stickCount at hq
  replace hq := (h_me_eq hq).2
  refine lv_aload_n hx hb dX7_stickCount_0 rfl (lv_at hl 0 rfl) ?_
  refine lv_iload_n hx hb dX7_stickCount_1 rfl (lv_at hl 1 rfl) ?_
  rcases x_b_eq hq with ⟨v1, ev1, hq⟩ | ⟨v1, ev1, hq⟩
  · exact gt_RR hlocks ht0 (g_runVX (As := [.int a1]) (rest := []) (ci := 9) hC (c_X7_coastAt l hl0 V g D cT f n a0 a1 (.inl v1) ev1) k_X7_coastAt m_577 rfl rfl ⟨Nat.le_of_ble_eq_true rfl, Nat.le_of_ble_eq_true rfl⟩ hI rfl rfl (h_me_eq ev1).1 rfl hl.1 rfl (Nat.le_of_ble_eq_true rfl) dX7_stickCount_2 ⟨by decide, by decide⟩) no_r hI hq (by decide) (by decide)
  · refine gx_r (g_runVX (As := [.int a1]) (rest := []) (ci := 9) hC (c_X7_coastAt l hl0 V g D cT f n a0 a1 (.inr v1) ev1) k_X7_coastAt m_577 rfl rfl ⟨Nat.le_of_ble_eq_true rfl, Nat.le_of_ble_eq_true rfl⟩ hI rfl rfl (h_me_eq ev1).1 rfl hl.1 rfl (Nat.le_of_ble_eq_true rfl) dX7_stickCount_2 ⟨by decide, by decide⟩) hI (fun H locs hI => ?_)
    refine lv_astore_n (lv' := [(3, .ref v1), (0, .ref a0), (1, .int a1), (2, .int a2)]) hx hb dX7_stickCount_5 rfl hl (by decide) rfl (fun ls hl => ?_)
    refine lv_iload_n hx hb dX7_stickCount_6 rfl (lv_at hl 3 rfl) ?_
    refine lv_iconst (v := (0 : Int32)) hx hb dX7_stickCount_7 (by decide) ?_
    refine lv_bipush (v := (7 : Int32)) hx hb dX7_stickCount_8 (by decide) ?_
    rcases x_b_eq hq with ⟨v2, ev2, hq⟩ | ⟨v2, ev2, hq⟩
    · exact gt_RR hlocks ht0 (g_runSX (As := [.int a2, .int (0 : Int32), .int (7 : Int32)]) (rest := []) hC (c_X7_requireWithin l hl0 V g D cT f n a2 (0 : Int32) (7 : Int32) (.inl v2) ev2) k_X7_requireWithin m_301 rfl rfl ⟨Nat.le_of_ble_eq_true rfl, Nat.le_of_ble_eq_true rfl⟩ hI rfl hl.1 rfl (Nat.le_of_ble_eq_true rfl) dX7_stickCount_10 ⟨by decide, by decide⟩) no_v hI hq (by decide) (by decide)
    · refine gx_v (g_runSX (As := [.int a2, .int (0 : Int32), .int (7 : Int32)]) (rest := []) hC (c_X7_requireWithin l hl0 V g D cT f n a2 (0 : Int32) (7 : Int32) (.inr v2) ev2) k_X7_requireWithin m_301 rfl rfl ⟨Nat.le_of_ble_eq_true rfl, Nat.le_of_ble_eq_true rfl⟩ hI rfl hl.1 rfl (Nat.le_of_ble_eq_true rfl) dX7_stickCount_10 ⟨by decide, by decide⟩) hI (fun H locs hI => ?_)
      refine lv_aload_n hx hb dX7_stickCount_13 rfl (lv_at hl 0 rfl) ?_
      refine lv_iload_n hx hb dX7_stickCount_14 rfl (lv_at hl 3 rfl) ?_
      obtain ⟨v3, ev3, hq⟩ := b_s hq
      refine gr_i (g_runV (As := [.int a2]) (rest := []) (ci := 5) hC (c_X2_sticks l V g D cT f n v1 a2 v3 ev3) k_X2_sticks m_640 rfl rfl ⟨Nat.le_of_ble_eq_true rfl, Nat.le_of_ble_eq_true rfl⟩ hI rfl rfl (h_me_eq ev3).1 rfl hl.1 rfl (Nat.le_of_ble_eq_true rfl) dX7_stickCount_15 ⟨by decide, by decide⟩) hI (fun H locs hI => ?_)
      exact ge_Xi hx hb hlocks hr rfl hI hq dX7_stickCount_18

abbrev rm_X7_requireStick : Room := { frames := 9, cells := 2, slots := 12, locals := 143 }
theorem k_X7_requireStick : g_CS yX7_requireStick cX7_requireStick 3 none 3 := ⟨⟨m_680, m_1, by decide +kernel⟩, m_679⟩
set_option maxHeartbeats 4000000 in
set_option maxRecDepth 100000 in
theorem c_X7_requireStick (l : Launch) (hl0 : l.stackTraces = false) (V : Nat → Nat) (g : GH) (D : va_G) (cT : Nat → ClassId) (f : GH) (n : Nat) (a0 : Nat) (a1 : Int32) (a2 : Int32) (o : Nat ⊕ Unit) (hq : p_X7_requireStick V g f a0 a1 a2 = some o) : vx_Met l yX7_requireStick (Cond.code yX7_requireStick cX7_requireStick 3 none :: g_B) rm_X7_requireStick (va_Pc [.ref a0, .int a1, .int a2] (g_I V g D cT f n)) (g_Xv o n) (g_XX V D cT f o) 2 12 g_no := by
  refine g_beginX (own := RX7) [.ref a0, .int a1, .int a2] [(0, .ref a0), (1, .int a1), (2, .int a2)] g_no (fun _ h => h.elim) (by decide) rfl (Nat.le_of_ble_eq_true rfl) rfl ?_
  intro p e s m args below meth c hx hb hr hlocks ht0 hC hI ls hl
  obtain ⟨hx, hb, hml, hown, hB⟩ := id hC
  obtain ⟨H, hH⟩ : ∃ H, H = s.heap := ⟨_, rfl⟩
  obtain ⟨locs, hlocs⟩ : ∃ L : List Loc, L = [] := ⟨_, rfl⟩
  rw [← hH, ← hlocs] at hI ⊢
  clear hH hlocs
  unfold p_X7_requireStick at hq
  refine lv_iload_n hx hb dX7_requireStick_0 rfl (lv_at hl 1 rfl) ?_
  refine lv_iconst (v := (0 : Int32)) hx hb dX7_requireStick_1 (by decide) ?_
  refine lv_bipush (v := (7 : Int32)) hx hb dX7_requireStick_2 (by decide) ?_
  rcases x_b_eq hq with ⟨v1, ev1, hq⟩ | ⟨v1, ev1, hq⟩
  · exact gt_RR hlocks ht0 (g_runSX (As := [.int a1, .int (0 : Int32), .int (7 : Int32)]) (rest := []) hC (c_X7_requireWithin l hl0 V g D cT f n a1 (0 : Int32) (7 : Int32) (.inl v1) ev1) k_X7_requireWithin m_301 rfl rfl ⟨Nat.le_of_ble_eq_true rfl, Nat.le_of_ble_eq_true rfl⟩ hI rfl hl.1 rfl (Nat.le_of_ble_eq_true rfl) dX7_requireStick_4 ⟨by decide, by decide⟩) no_v hI hq (by decide) (by decide)
  · refine gx_v (g_runSX (As := [.int a1, .int (0 : Int32), .int (7 : Int32)]) (rest := []) hC (c_X7_requireWithin l hl0 V g D cT f n a1 (0 : Int32) (7 : Int32) (.inr v1) ev1) k_X7_requireWithin m_301 rfl rfl ⟨Nat.le_of_ble_eq_true rfl, Nat.le_of_ble_eq_true rfl⟩ hI rfl hl.1 rfl (Nat.le_of_ble_eq_true rfl) dX7_requireStick_4 ⟨by decide, by decide⟩) hI (fun H locs hI => ?_)
    refine lv_iload_n hx hb dX7_requireStick_7 rfl (lv_at hl 2 rfl) ?_
    refine lv_iconst (v := (0 : Int32)) hx hb dX7_requireStick_8 (by decide) ?_
    refine lv_aload_n hx hb dX7_requireStick_9 rfl (lv_at hl 0 rfl) ?_
    refine lv_iload_n hx hb dX7_requireStick_10 rfl (lv_at hl 1 rfl) ?_
    obtain ⟨v2, ev2, hq⟩ := b_s hq
    refine gr_i (g_runV (As := [.int a1]) (rest := [.int (0 : Int32), .int a2]) (ci := 5) hC (c_X2_sticks l V g D cT f n a0 a1 v2 ev2) k_X2_sticks m_640 rfl rfl ⟨Nat.le_of_ble_eq_true rfl, Nat.le_of_ble_eq_true rfl⟩ hI rfl rfl (h_me_eq ev2).1 rfl hl.1 rfl (Nat.le_of_ble_eq_true rfl) dX7_requireStick_11 ⟨by decide, by decide⟩) hI (fun H locs hI => ?_)
    refine lv_iconst (v := (1 : Int32)) hx hb dX7_requireStick_14 (by decide) ?_
    refine lv_isub hx hb dX7_requireStick_15 ?_
    rcases x_b_eq hq with ⟨v3, ev3, hq⟩ | ⟨v3, ev3, hq⟩
    · exact gt_RR hlocks ht0 (g_runSX (As := [.int a2, .int (0 : Int32), .int (v2 - (1 : Int32))]) (rest := []) hC (c_X7_requireWithin l hl0 V g D cT f n a2 (0 : Int32) (v2 - (1 : Int32)) (.inl v3) ev3) k_X7_requireWithin m_301 rfl rfl ⟨Nat.le_of_ble_eq_true rfl, Nat.le_of_ble_eq_true rfl⟩ hI rfl hl.1 rfl (Nat.le_of_ble_eq_true rfl) dX7_requireStick_16 ⟨by decide, by decide⟩) no_v hI hq (by decide) (by decide)
    · refine gx_v (g_runSX (As := [.int a2, .int (0 : Int32), .int (v2 - (1 : Int32))]) (rest := []) hC (c_X7_requireWithin l hl0 V g D cT f n a2 (0 : Int32) (v2 - (1 : Int32)) (.inr v3) ev3) k_X7_requireWithin m_301 rfl rfl ⟨Nat.le_of_ble_eq_true rfl, Nat.le_of_ble_eq_true rfl⟩ hI rfl hl.1 rfl (Nat.le_of_ble_eq_true rfl) dX7_requireStick_16 ⟨by decide, by decide⟩) hI (fun H locs hI => ?_)
      exact ge_Xv hx hb hlocks hr hI hq dX7_requireStick_19

abbrev rm_X7_stickStart : Room := { frames := 10, cells := 3, slots := 18, locals := 165 }
theorem k_X7_stickStart : g_CV yX7_stickStart cX7_stickStart 5 (some .int) 3 := ⟨⟨m_677, m_1, by decide +kernel⟩, m_675, m_676⟩
set_option maxHeartbeats 4000000 in
set_option maxRecDepth 100000 in
theorem c_X7_stickStart (l : Launch) (hl0 : l.stackTraces = false) (V : Nat → Nat) (g : GH) (D : va_G) (cT : Nat → ClassId) (f : GH) (n : Nat) (a0 : Nat) (a1 : Int32) (a2 : Int32) (a3 : Int32) (o : Nat ⊕ Int32) (hq : p_X7_stickStart V g f a0 a1 a2 a3 = some o) : vx_Met l yX7_stickStart (Cond.code yX7_stickStart cX7_stickStart 5 (some .int) :: g_B) rm_X7_stickStart (va_Pc [.ref a0, .int a1, .int a2, .int a3] (g_I V g D cT f n)) (g_Xi o n) (g_XX V D cT f o) 3 18 g_no := by
  refine g_beginX (own := RX7) [.ref a0, .int a1, .int a2, .int a3] [(0, .ref a0), (1, .int a1), (2, .int a2), (3, .int a3)] g_no (fun _ h => h.elim) (by decide) rfl (Nat.le_of_ble_eq_true rfl) rfl ?_
  intro p e s m args below meth c hx hb hr hlocks ht0 hC hI ls hl
  obtain ⟨hx, hb, hml, hown, hB⟩ := id hC
  obtain ⟨H, hH⟩ : ∃ H, H = s.heap := ⟨_, rfl⟩
  obtain ⟨locs, hlocs⟩ : ∃ L : List Loc, L = [] := ⟨_, rfl⟩
  rw [← hH, ← hlocs] at hI ⊢
  clear hH hlocs
  unfold p_X7_stickStart at hq
  replace hq := (h_me_eq hq).2
  refine lv_aload_n hx hb dX7_stickStart_0 rfl (lv_at hl 0 rfl) ?_
  refine lv_iload_n hx hb dX7_stickStart_1 rfl (lv_at hl 1 rfl) ?_
  rcases x_b_eq hq with ⟨v1, ev1, hq⟩ | ⟨v1, ev1, hq⟩
  · exact gt_RR hlocks ht0 (g_runVX (As := [.int a1]) (rest := []) (ci := 9) hC (c_X7_coastAt l hl0 V g D cT f n a0 a1 (.inl v1) ev1) k_X7_coastAt m_577 rfl rfl ⟨Nat.le_of_ble_eq_true rfl, Nat.le_of_ble_eq_true rfl⟩ hI rfl rfl (h_me_eq ev1).1 rfl hl.1 rfl (Nat.le_of_ble_eq_true rfl) dX7_stickStart_2 ⟨by decide, by decide⟩) no_r hI hq (by decide) (by decide)
  · refine gx_r (g_runVX (As := [.int a1]) (rest := []) (ci := 9) hC (c_X7_coastAt l hl0 V g D cT f n a0 a1 (.inr v1) ev1) k_X7_coastAt m_577 rfl rfl ⟨Nat.le_of_ble_eq_true rfl, Nat.le_of_ble_eq_true rfl⟩ hI rfl rfl (h_me_eq ev1).1 rfl hl.1 rfl (Nat.le_of_ble_eq_true rfl) dX7_stickStart_2 ⟨by decide, by decide⟩) hI (fun H locs hI => ?_)
    refine lv_astore (lv' := [(4, .ref v1), (0, .ref a0), (1, .int a1), (2, .int a2), (3, .int a3)]) hx hb dX7_stickStart_5 hl (by decide) rfl (fun ls hl => ?_)
    refine lv_aload hx hb dX7_stickStart_7 (lv_at hl 0 rfl) ?_
    refine lv_iload_n hx hb dX7_stickStart_9 rfl (lv_at hl 3 rfl) ?_
    refine lv_iload_n hx hb dX7_stickStart_10 rfl (lv_at hl 4 rfl) ?_
    rcases x_b_eq hq with ⟨v2, ev2, hq⟩ | ⟨v2, ev2, hq⟩
    · exact gt_RR hlocks ht0 (g_runSX (As := [.ref v1, .int a2, .int a3]) (rest := []) hC (c_X7_requireStick l hl0 V g D cT f n v1 a2 a3 (.inl v2) ev2) k_X7_requireStick m_678 rfl rfl ⟨Nat.le_of_ble_eq_true rfl, Nat.le_of_ble_eq_true rfl⟩ hI rfl hl.1 rfl (Nat.le_of_ble_eq_true rfl) dX7_stickStart_11 ⟨by decide, by decide⟩) no_v hI hq (by decide) (by decide)
    · refine gx_v (g_runSX (As := [.ref v1, .int a2, .int a3]) (rest := []) hC (c_X7_requireStick l hl0 V g D cT f n v1 a2 a3 (.inr v2) ev2) k_X7_requireStick m_678 rfl rfl ⟨Nat.le_of_ble_eq_true rfl, Nat.le_of_ble_eq_true rfl⟩ hI rfl hl.1 rfl (Nat.le_of_ble_eq_true rfl) dX7_stickStart_11 ⟨by decide, by decide⟩) hI (fun H locs hI => ?_)
      refine lv_aload hx hb dX7_stickStart_14 (lv_at hl 0 rfl) ?_
      refine lv_iload_n hx hb dX7_stickStart_16 rfl (lv_at hl 3 rfl) ?_
      refine lv_iload_n hx hb dX7_stickStart_17 rfl (lv_at hl 4 rfl) ?_
      obtain ⟨v3, ev3, hq⟩ := b_s hq
      refine gr_i (g_runV (As := [.int a2, .int a3]) (rest := []) (ci := 5) hC (c_X2_stickFrom l V g D cT f n v1 a2 a3 v3 ev3) k_X2_stickFrom m_681 rfl rfl ⟨Nat.le_of_ble_eq_true rfl, Nat.le_of_ble_eq_true rfl⟩ hI rfl rfl (h_me_eq ev3).1 rfl hl.1 rfl (Nat.le_of_ble_eq_true rfl) dX7_stickStart_18 ⟨by decide, by decide⟩) hI (fun H locs hI => ?_)
      exact ge_Xi hx hb hlocks hr rfl hI hq dX7_stickStart_21

abbrev rm_X7_stickLength : Room := { frames := 10, cells := 3, slots := 18, locals := 213 }
theorem k_X7_stickLength : g_CV yX7_stickLength cX7_stickLength 5 (some .int) 3 := ⟨⟨m_685, m_1, by decide +kernel⟩, m_683, m_684⟩
set_option maxHeartbeats 4000000 in
set_option maxRecDepth 100000 in
theorem c_X7_stickLength (l : Launch) (hl0 : l.stackTraces = false) (V : Nat → Nat) (g : GH) (D : va_G) (cT : Nat → ClassId) (f : GH) (n : Nat) (a0 : Nat) (a1 : Int32) (a2 : Int32) (a3 : Int32) (o : Nat ⊕ Int32) (hq : p_X7_stickLength V g f a0 a1 a2 a3 = some o) : vx_Met l yX7_stickLength (Cond.code yX7_stickLength cX7_stickLength 5 (some .int) :: g_B) rm_X7_stickLength (va_Pc [.ref a0, .int a1, .int a2, .int a3] (g_I V g D cT f n)) (g_Xi o n) (g_XX V D cT f o) 3 18 g_no := by
  refine g_beginX (own := RX7) [.ref a0, .int a1, .int a2, .int a3] [(0, .ref a0), (1, .int a1), (2, .int a2), (3, .int a3)] g_no (fun _ h => h.elim) (by decide) rfl (Nat.le_of_ble_eq_true rfl) rfl ?_
  intro p e s m args below meth c hx hb hr hlocks ht0 hC hI ls hl
  obtain ⟨hx, hb, hml, hown, hB⟩ := id hC
  obtain ⟨H, hH⟩ : ∃ H, H = s.heap := ⟨_, rfl⟩
  obtain ⟨locs, hlocs⟩ : ∃ L : List Loc, L = [] := ⟨_, rfl⟩
  rw [← hH, ← hlocs] at hI ⊢
  clear hH hlocs
  unfold p_X7_stickLength at hq
  replace hq := (h_me_eq hq).2
  refine lv_aload_n hx hb dX7_stickLength_0 rfl (lv_at hl 0 rfl) ?_
  refine lv_iload_n hx hb dX7_stickLength_1 rfl (lv_at hl 1 rfl) ?_
  rcases x_b_eq hq with ⟨v1, ev1, hq⟩ | ⟨v1, ev1, hq⟩
  · exact gt_RR hlocks ht0 (g_runVX (As := [.int a1]) (rest := []) (ci := 9) hC (c_X7_coastAt l hl0 V g D cT f n a0 a1 (.inl v1) ev1) k_X7_coastAt m_577 rfl rfl ⟨Nat.le_of_ble_eq_true rfl, Nat.le_of_ble_eq_true rfl⟩ hI rfl rfl (h_me_eq ev1).1 rfl hl.1 rfl (Nat.le_of_ble_eq_true rfl) dX7_stickLength_2 ⟨by decide, by decide⟩) no_r hI hq (by decide) (by decide)
  · refine gx_r (g_runVX (As := [.int a1]) (rest := []) (ci := 9) hC (c_X7_coastAt l hl0 V g D cT f n a0 a1 (.inr v1) ev1) k_X7_coastAt m_577 rfl rfl ⟨Nat.le_of_ble_eq_true rfl, Nat.le_of_ble_eq_true rfl⟩ hI rfl rfl (h_me_eq ev1).1 rfl hl.1 rfl (Nat.le_of_ble_eq_true rfl) dX7_stickLength_2 ⟨by decide, by decide⟩) hI (fun H locs hI => ?_)
    refine lv_astore (lv' := [(4, .ref v1), (0, .ref a0), (1, .int a1), (2, .int a2), (3, .int a3)]) hx hb dX7_stickLength_5 hl (by decide) rfl (fun ls hl => ?_)
    refine lv_aload hx hb dX7_stickLength_7 (lv_at hl 0 rfl) ?_
    refine lv_iload_n hx hb dX7_stickLength_9 rfl (lv_at hl 3 rfl) ?_
    refine lv_iload_n hx hb dX7_stickLength_10 rfl (lv_at hl 4 rfl) ?_
    rcases x_b_eq hq with ⟨v2, ev2, hq⟩ | ⟨v2, ev2, hq⟩
    · exact gt_RR hlocks ht0 (g_runSX (As := [.ref v1, .int a2, .int a3]) (rest := []) hC (c_X7_requireStick l hl0 V g D cT f n v1 a2 a3 (.inl v2) ev2) k_X7_requireStick m_678 rfl rfl ⟨Nat.le_of_ble_eq_true rfl, Nat.le_of_ble_eq_true rfl⟩ hI rfl hl.1 rfl (Nat.le_of_ble_eq_true rfl) dX7_stickLength_11 ⟨by decide, by decide⟩) no_v hI hq (by decide) (by decide)
    · refine gx_v (g_runSX (As := [.ref v1, .int a2, .int a3]) (rest := []) hC (c_X7_requireStick l hl0 V g D cT f n v1 a2 a3 (.inr v2) ev2) k_X7_requireStick m_678 rfl rfl ⟨Nat.le_of_ble_eq_true rfl, Nat.le_of_ble_eq_true rfl⟩ hI rfl hl.1 rfl (Nat.le_of_ble_eq_true rfl) dX7_stickLength_11 ⟨by decide, by decide⟩) hI (fun H locs hI => ?_)
      refine lv_aload hx hb dX7_stickLength_14 (lv_at hl 0 rfl) ?_
      refine lv_iload_n hx hb dX7_stickLength_16 rfl (lv_at hl 3 rfl) ?_
      refine lv_iload_n hx hb dX7_stickLength_17 rfl (lv_at hl 4 rfl) ?_
      refine lv_aload_n hx hb dX7_stickLength_18 rfl (lv_at hl 1 rfl) ?_
      obtain ⟨v3, ev3, hq⟩ := b_s hq
      refine fa_gr (own := RX7) (ref := "CoastlineRuler") (k := 0) hx hb hB inB_RX7 hown hI rfl (by decide) m_253 (fun _ h9 => h9) ev3 dX7_stickLength_19 ?_
      obtain ⟨v4, ev4, hq⟩ := b_s hq
      refine fa_gi (own := RX7) (ref := "CoastlineRuler$Chart") (k := 2) hx hb hB inB_RX1 hown hI rfl (by decide) m_80 (fun _ h9 => h9) ev4 dX7_stickLength_22 ?_
      obtain ⟨v5, ev5, hq⟩ := b_s hq
      refine gr_i (g_runV (As := [.int a2, .int a3, .int v4]) (rest := []) (ci := 5) hC (c_X2_stickSpan l V g D cT f n v1 a2 a3 v4 v5 ev5) k_X2_stickSpan m_648 rfl rfl ⟨Nat.le_of_ble_eq_true rfl, Nat.le_of_ble_eq_true rfl⟩ hI rfl rfl (h_me_eq ev5).1 rfl hl.1 rfl (Nat.le_of_ble_eq_true rfl) dX7_stickLength_25 ⟨by decide, by decide⟩) hI (fun H locs hI => ?_)
      exact ge_Xi hx hb hlocks hr rfl hI hq dX7_stickLength_28

abbrev rm_X7_longestStick : Room := { frames := 9, cells := 2, slots := 12, locals := 213 }
theorem k_X7_longestStick : g_CV yX7_longestStick cX7_longestStick 9 (some .int) 2 := ⟨⟨m_647, m_1, by decide +kernel⟩, m_645, m_646⟩
set_option maxHeartbeats 4000000 in
set_option maxRecDepth 100000 in
theorem c_X7_longestStick (l : Launch) (hl0 : l.stackTraces = false) (V : Nat → Nat) (g : GH) (D : va_G) (cT : Nat → ClassId) (f : GH) (n : Nat) (a0 : Nat) (a1 : Int32) (a2 : Int32) (o : Nat ⊕ Int32) (hq : p_X7_longestStick V g f a0 a1 a2 = some o) : vx_Met l yX7_longestStick (Cond.code yX7_longestStick cX7_longestStick 9 (some .int) :: g_B) rm_X7_longestStick (va_Pc [.ref a0, .int a1, .int a2] (g_I V g D cT f n)) (g_Xi o n) (g_XX V D cT f o) 2 12 g_no := by
  refine g_beginX (own := RX7) [.ref a0, .int a1, .int a2] [(0, .ref a0), (1, .int a1), (2, .int a2)] g_no (fun _ h => h.elim) (by decide) rfl (Nat.le_of_ble_eq_true rfl) rfl ?_
  intro p e s m args below meth c hx hb hr hlocks ht0 hC hI ls hl
  obtain ⟨hx, hb, hml, hown, hB⟩ := id hC
  obtain ⟨H, hH⟩ : ∃ H, H = s.heap := ⟨_, rfl⟩
  obtain ⟨locs, hlocs⟩ : ∃ L : List Loc, L = [] := ⟨_, rfl⟩
  rw [← hH, ← hlocs] at hI ⊢
  clear hH hlocs
  unfold p_X7_longestStick at hq
  replace hq := (h_me_eq hq).2
  refine lv_aload_n hx hb dX7_longestStick_0 rfl (lv_at hl 0 rfl) ?_
  refine lv_iload_n hx hb dX7_longestStick_1 rfl (lv_at hl 1 rfl) ?_
  rcases x_b_eq hq with ⟨v1, ev1, hq⟩ | ⟨v1, ev1, hq⟩
  · exact gt_RR hlocks ht0 (g_runVX (As := [.int a1]) (rest := []) (ci := 9) hC (c_X7_coastAt l hl0 V g D cT f n a0 a1 (.inl v1) ev1) k_X7_coastAt m_577 rfl rfl ⟨Nat.le_of_ble_eq_true rfl, Nat.le_of_ble_eq_true rfl⟩ hI rfl rfl (h_me_eq ev1).1 rfl hl.1 rfl (Nat.le_of_ble_eq_true rfl) dX7_longestStick_2 ⟨by decide, by decide⟩) no_r hI hq (by decide) (by decide)
  · refine gx_r (g_runVX (As := [.int a1]) (rest := []) (ci := 9) hC (c_X7_coastAt l hl0 V g D cT f n a0 a1 (.inr v1) ev1) k_X7_coastAt m_577 rfl rfl ⟨Nat.le_of_ble_eq_true rfl, Nat.le_of_ble_eq_true rfl⟩ hI rfl rfl (h_me_eq ev1).1 rfl hl.1 rfl (Nat.le_of_ble_eq_true rfl) dX7_longestStick_2 ⟨by decide, by decide⟩) hI (fun H locs hI => ?_)
    refine lv_astore_n (lv' := [(3, .ref v1), (0, .ref a0), (1, .int a1), (2, .int a2)]) hx hb dX7_longestStick_5 rfl hl (by decide) rfl (fun ls hl => ?_)
    refine lv_iload_n hx hb dX7_longestStick_6 rfl (lv_at hl 3 rfl) ?_
    refine lv_iconst (v := (0 : Int32)) hx hb dX7_longestStick_7 (by decide) ?_
    refine lv_bipush (v := (7 : Int32)) hx hb dX7_longestStick_8 (by decide) ?_
    rcases x_b_eq hq with ⟨v2, ev2, hq⟩ | ⟨v2, ev2, hq⟩
    · exact gt_RR hlocks ht0 (g_runSX (As := [.int a2, .int (0 : Int32), .int (7 : Int32)]) (rest := []) hC (c_X7_requireWithin l hl0 V g D cT f n a2 (0 : Int32) (7 : Int32) (.inl v2) ev2) k_X7_requireWithin m_301 rfl rfl ⟨Nat.le_of_ble_eq_true rfl, Nat.le_of_ble_eq_true rfl⟩ hI rfl hl.1 rfl (Nat.le_of_ble_eq_true rfl) dX7_longestStick_10 ⟨by decide, by decide⟩) no_v hI hq (by decide) (by decide)
    · refine gx_v (g_runSX (As := [.int a2, .int (0 : Int32), .int (7 : Int32)]) (rest := []) hC (c_X7_requireWithin l hl0 V g D cT f n a2 (0 : Int32) (7 : Int32) (.inr v2) ev2) k_X7_requireWithin m_301 rfl rfl ⟨Nat.le_of_ble_eq_true rfl, Nat.le_of_ble_eq_true rfl⟩ hI rfl hl.1 rfl (Nat.le_of_ble_eq_true rfl) dX7_longestStick_10 ⟨by decide, by decide⟩) hI (fun H locs hI => ?_)
      refine lv_iconst (v := (0 : Int32)) hx hb dX7_longestStick_13 (by decide) ?_
      refine lv_istore (lv' := [(4, .int (0 : Int32)), (3, .ref v1), (0, .ref a0), (1, .int a1), (2, .int a2)]) hx hb dX7_longestStick_14 hl (by decide) rfl (fun ls hl => ?_)
      refine lv_iconst (v := (-1 : Int32)) hx hb dX7_longestStick_16 (by decide) ?_
      refine lv_istore (lv' := [(5, .int (-1 : Int32)), (4, .int (0 : Int32)), (3, .ref v1), (0, .ref a0), (1, .int a1), (2, .int a2)]) hx hb dX7_longestStick_17 hl (by decide) rfl (fun ls hl => ?_)
      refine lv_aload_n hx hb dX7_longestStick_19 rfl (lv_at hl 2 rfl) ?_
      refine lv_iload_n hx hb dX7_longestStick_20 rfl (lv_at hl 5 rfl) ?_
      obtain ⟨v3, ev3, hq⟩ := b_s hq
      refine gr_i (g_runV (As := [.int a2]) (rest := []) (ci := 5) hC (c_X2_sticks l V g D cT f n v1 a2 v3 ev3) k_X2_sticks m_640 rfl rfl ⟨Nat.le_of_ble_eq_true rfl, Nat.le_of_ble_eq_true rfl⟩ hI rfl rfl (h_me_eq ev3).1 rfl hl.1 rfl (Nat.le_of_ble_eq_true rfl) dX7_longestStick_21 ⟨by decide, by decide⟩) hI (fun H locs hI => ?_)
      refine lv_istore (lv' := [(6, .int v3), (5, .int (-1 : Int32)), (4, .int (0 : Int32)), (3, .ref v1), (0, .ref a0), (1, .int a1), (2, .int a2)]) hx hb dX7_longestStick_24 hl (by decide) rfl (fun ls hl => ?_)
      refine lv_iconst (v := (0 : Int32)) hx hb dX7_longestStick_26 (by decide) ?_
      refine lv_istore (lv' := [(7, .int (0 : Int32)), (6, .int v3), (5, .int (-1 : Int32)), (4, .int (0 : Int32)), (3, .ref v1), (0, .ref a0), (1, .int a1), (2, .int a2)]) hx hb dX7_longestStick_27 hl (by decide) rfl (fun ls hl => ?_)
      have hl29 : ∀ (K73 : Int32 → Option (Nat ⊕ Int32)) (hK73 : ∀ (x4 : Int32) (H : Heap) (locs : List Loc) (ls : Array Slot), g_at g_no V g D cT f n s H locs → lv_has ls 9 [(4, .int x4)] → K73 x4 = some o → W p l e rm_X7_longestStick s m args below meth c H locs 2 12 (vx_MQ below (g_Xi o n) (g_XX V D cT f o) args s 2 12 g_no) (F0 m 73 ls [])) (N : Nat) (x0 : Nat) (x2 : Int32) (x3 : Nat) (x4 : Int32) (x5 : Int32) (x6 : Int32) (x7 : Int32) (H : Heap) (locs : List Loc) (ls : Array Slot), g_at g_no V g D cT f n s H locs → lv_has ls 9 [(0, .ref x0), (2, .int x2), (3, .ref x3), (4, .int x4), (5, .int x5), (6, .int x6), (7, .int x7)] → p_X7_longestStick_l29 V g f K73 N x0 x2 x3 x4 x5 x6 x7 = some o → W p l e rm_X7_longestStick s m args below meth c H locs 2 12 (vx_MQ below (g_Xi o n) (g_XX V D cT f o) args s 2 12 g_no) (F0 m 29 ls []) := by
        intro K73 hK73 N
        induction N with
        | zero =>
          intro x0 x2 x3 x4 x5 x6 x7 H locs ls hI hl hq
          rw [p_X7_longestStick_l29] at hq
          cases hq
        | succ N ih =>
          intro x0 x2 x3 x4 x5 x6 x7 H locs ls hI hl hq
          rw [p_X7_longestStick_l29] at hq
          refine lv_iload hx hb dX7_longestStick_29 (lv_at hl 6 rfl) ?_
          refine lv_iload hx hb dX7_longestStick_31 (lv_at hl 5 rfl) ?_
          refine lv_icmp_ge (tgt := 73) hx hb dX7_longestStick_33 (by decide) (fun c4 => ?_) (fun c4 => ?_)
          · replace hq := i_t c4 hq
            exact hK73 x4 H locs ls hI (lv_sub hl [3] rfl) hq
          · replace hq := i_f c4 hq
            refine lv_aload_n hx hb dX7_longestStick_36 rfl (lv_at hl 2 rfl) ?_
            refine lv_iload_n hx hb dX7_longestStick_37 rfl (lv_at hl 1 rfl) ?_
            refine lv_iload hx hb dX7_longestStick_38 (lv_at hl 6 rfl) ?_
            refine lv_aload_n hx hb dX7_longestStick_40 rfl (lv_at hl 0 rfl) ?_
            obtain ⟨v5, ev5, hq⟩ := b_s hq
            refine fa_gr (own := RX7) (ref := "CoastlineRuler") (k := 0) hx hb hB inB_RX7 hown hI rfl (by decide) m_253 (fun _ h9 => h9) ev5 dX7_longestStick_41 ?_
            obtain ⟨v6, ev6, hq⟩ := b_s hq
            refine fa_gi (own := RX7) (ref := "CoastlineRuler$Chart") (k := 2) hx hb hB inB_RX1 hown hI rfl (by decide) m_80 (fun _ h9 => h9) ev6 dX7_longestStick_44 ?_
            obtain ⟨v7, ev7, hq⟩ := b_s hq
            refine gr_i (g_runV (As := [.int x2, .int x7, .int v6]) (rest := []) (ci := 5) hC (c_X2_stickSpan l V g D cT f n x3 x2 x7 v6 v7 ev7) k_X2_stickSpan m_648 rfl rfl ⟨Nat.le_of_ble_eq_true rfl, Nat.le_of_ble_eq_true rfl⟩ hI rfl rfl (h_me_eq ev7).1 rfl hl.1 rfl (Nat.le_of_ble_eq_true rfl) dX7_longestStick_47 ⟨by decide, by decide⟩) hI (fun H locs hI => ?_)
            refine lv_istore (lv' := [(8, .int v7), (0, .ref x0), (2, .int x2), (3, .ref x3), (4, .int x4), (5, .int x5), (6, .int x6), (7, .int x7)]) hx hb dX7_longestStick_50 hl (by decide) rfl (fun ls hl => ?_)
            refine lv_iload hx hb dX7_longestStick_52 (lv_at hl 0 rfl) ?_
            refine lv_iload hx hb dX7_longestStick_54 (lv_at hl 5 rfl) ?_
            refine lv_icmp_le (tgt := 67) hx hb dX7_longestStick_56 (by decide) (fun c8 => ?_) (fun c8 => ?_)
            · replace hq := i_t c8 hq
              refine lv_iinc (v := x7 + (1 : Int32)) (lv' := [(7, .int (x7 + (1 : Int32))), (8, .int v7), (0, .ref x0), (2, .int x2), (3, .ref x3), (4, .int x4), (5, .int x5), (6, .int x6)]) hx hb dX7_longestStick_67 hl (k := 7) rfl rfl (by decide) rfl (fun ls hl => ?_)
              refine lv_goto (tgt := 29) hx hb dX7_longestStick_70 (by decide) ?_
              exact ih x0 x2 x3 x4 x5 x6 (x7 + (1 : Int32)) H locs ls hI (lv_sub hl [2, 3, 4, 5, 6, 7, 0] rfl) hq
            · replace hq := i_f c8 hq
              refine lv_iload hx hb dX7_longestStick_59 (lv_at hl 7 rfl) ?_
              refine lv_istore (lv' := [(4, .int x7), (8, .int v7), (0, .ref x0), (2, .int x2), (3, .ref x3), (5, .int x5), (6, .int x6), (7, .int x7)]) hx hb dX7_longestStick_61 hl (by decide) rfl (fun ls hl => ?_)
              refine lv_iload hx hb dX7_longestStick_63 (lv_at hl 1 rfl) ?_
              refine lv_istore (lv' := [(5, .int v7), (4, .int x7), (8, .int v7), (0, .ref x0), (2, .int x2), (3, .ref x3), (6, .int x6), (7, .int x7)]) hx hb dX7_longestStick_65 hl (by decide) rfl (fun ls hl => ?_)
              refine lv_iinc (v := x7 + (1 : Int32)) (lv' := [(7, .int (x7 + (1 : Int32))), (5, .int v7), (4, .int x7), (8, .int v7), (0, .ref x0), (2, .int x2), (3, .ref x3), (6, .int x6)]) hx hb dX7_longestStick_67 hl (k := 7) rfl rfl (by decide) rfl (fun ls hl => ?_)
              refine lv_goto (tgt := 29) hx hb dX7_longestStick_70 (by decide) ?_
              exact ih x0 x2 x3 x7 v7 x6 (x7 + (1 : Int32)) H locs ls hI (lv_sub hl [4, 5, 6, 2, 1, 7, 0] rfl) hq
      refine hl29 _ ?_ FU a0 a2 v1 (0 : Int32) (-1 : Int32) v3 (0 : Int32) H locs ls hI (lv_sub hl [5, 7, 4, 3, 2, 1, 0] rfl) hq
      · intro x4 H locs ls hI hl hq
        refine lv_iload hx hb dX7_longestStick_73 (lv_at hl 0 rfl) ?_
        exact ge_Xi hx hb hlocks hr rfl hI hq dX7_longestStick_75

abbrev rm_X7_lengthGain : Room := { frames := 9, cells := 2, slots := 12, locals := 260 }
theorem k_X7_lengthGain : g_CV yX7_lengthGain cX7_lengthGain 4 (some .int) 2 := ⟨⟨m_704, m_1, by decide +kernel⟩, m_702, m_703⟩
set_option maxHeartbeats 4000000 in
set_option maxRecDepth 100000 in
theorem c_X7_lengthGain (l : Launch) (hl0 : l.stackTraces = false) (V : Nat → Nat) (g : GH) (D : va_G) (cT : Nat → ClassId) (f : GH) (n : Nat) (a0 : Nat) (a1 : Int32) (a2 : Int32) (o : Nat ⊕ Int32) (hq : p_X7_lengthGain V g f a0 a1 a2 = some o) : vx_Met l yX7_lengthGain (Cond.code yX7_lengthGain cX7_lengthGain 4 (some .int) :: g_B) rm_X7_lengthGain (va_Pc [.ref a0, .int a1, .int a2] (g_I V g D cT f n)) (g_Xi o n) (g_XX V D cT f o) 2 12 g_no := by
  refine g_beginX (own := RX7) [.ref a0, .int a1, .int a2] [(0, .ref a0), (1, .int a1), (2, .int a2)] g_no (fun _ h => h.elim) (by decide) rfl (Nat.le_of_ble_eq_true rfl) rfl ?_
  intro p e s m args below meth c hx hb hr hlocks ht0 hC hI ls hl
  obtain ⟨hx, hb, hml, hown, hB⟩ := id hC
  obtain ⟨H, hH⟩ : ∃ H, H = s.heap := ⟨_, rfl⟩
  obtain ⟨locs, hlocs⟩ : ∃ L : List Loc, L = [] := ⟨_, rfl⟩
  rw [← hH, ← hlocs] at hI ⊢
  clear hH hlocs
  unfold p_X7_lengthGain at hq
  replace hq := (h_me_eq hq).2
  refine lv_aload_n hx hb dX7_lengthGain_0 rfl (lv_at hl 0 rfl) ?_
  refine lv_iload_n hx hb dX7_lengthGain_1 rfl (lv_at hl 1 rfl) ?_
  rcases x_b_eq hq with ⟨v1, ev1, hq⟩ | ⟨v1, ev1, hq⟩
  · exact gt_RR hlocks ht0 (g_runVX (As := [.int a1]) (rest := []) (ci := 9) hC (c_X7_coastAt l hl0 V g D cT f n a0 a1 (.inl v1) ev1) k_X7_coastAt m_577 rfl rfl ⟨Nat.le_of_ble_eq_true rfl, Nat.le_of_ble_eq_true rfl⟩ hI rfl rfl (h_me_eq ev1).1 rfl hl.1 rfl (Nat.le_of_ble_eq_true rfl) dX7_lengthGain_2 ⟨by decide, by decide⟩) no_r hI hq (by decide) (by decide)
  · refine gx_r (g_runVX (As := [.int a1]) (rest := []) (ci := 9) hC (c_X7_coastAt l hl0 V g D cT f n a0 a1 (.inr v1) ev1) k_X7_coastAt m_577 rfl rfl ⟨Nat.le_of_ble_eq_true rfl, Nat.le_of_ble_eq_true rfl⟩ hI rfl rfl (h_me_eq ev1).1 rfl hl.1 rfl (Nat.le_of_ble_eq_true rfl) dX7_lengthGain_2 ⟨by decide, by decide⟩) hI (fun H locs hI => ?_)
    refine lv_astore_n (lv' := [(3, .ref v1), (0, .ref a0), (1, .int a1), (2, .int a2)]) hx hb dX7_lengthGain_5 rfl hl (by decide) rfl (fun ls hl => ?_)
    refine lv_iload_n hx hb dX7_lengthGain_6 rfl (lv_at hl 3 rfl) ?_
    refine lv_iconst (v := (0 : Int32)) hx hb dX7_lengthGain_7 (by decide) ?_
    refine lv_bipush (v := (6 : Int32)) hx hb dX7_lengthGain_8 (by decide) ?_
    rcases x_b_eq hq with ⟨v2, ev2, hq⟩ | ⟨v2, ev2, hq⟩
    · exact gt_RR hlocks ht0 (g_runSX (As := [.int a2, .int (0 : Int32), .int (6 : Int32)]) (rest := []) hC (c_X7_requireWithin l hl0 V g D cT f n a2 (0 : Int32) (6 : Int32) (.inl v2) ev2) k_X7_requireWithin m_301 rfl rfl ⟨Nat.le_of_ble_eq_true rfl, Nat.le_of_ble_eq_true rfl⟩ hI rfl hl.1 rfl (Nat.le_of_ble_eq_true rfl) dX7_lengthGain_10 ⟨by decide, by decide⟩) no_v hI hq (by decide) (by decide)
    · refine gx_v (g_runSX (As := [.int a2, .int (0 : Int32), .int (6 : Int32)]) (rest := []) hC (c_X7_requireWithin l hl0 V g D cT f n a2 (0 : Int32) (6 : Int32) (.inr v2) ev2) k_X7_requireWithin m_301 rfl rfl ⟨Nat.le_of_ble_eq_true rfl, Nat.le_of_ble_eq_true rfl⟩ hI rfl hl.1 rfl (Nat.le_of_ble_eq_true rfl) dX7_lengthGain_10 ⟨by decide, by decide⟩) hI (fun H locs hI => ?_)
      refine lv_aload_n hx hb dX7_lengthGain_13 rfl (lv_at hl 0 rfl) ?_
      refine lv_iload_n hx hb dX7_lengthGain_14 rfl (lv_at hl 3 rfl) ?_
      refine lv_aload_n hx hb dX7_lengthGain_15 rfl (lv_at hl 1 rfl) ?_
      obtain ⟨v3, ev3, hq⟩ := b_s hq
      refine fa_gr (own := RX7) (ref := "CoastlineRuler") (k := 0) hx hb hB inB_RX7 hown hI rfl (by decide) m_253 (fun _ h9 => h9) ev3 dX7_lengthGain_16 ?_
      obtain ⟨v4, ev4, hq⟩ := b_s hq
      refine fa_gi (own := RX7) (ref := "CoastlineRuler$Chart") (k := 2) hx hb hB inB_RX1 hown hI rfl (by decide) m_80 (fun _ h9 => h9) ev4 dX7_lengthGain_19 ?_
      obtain ⟨v5, ev5, hq⟩ := b_s hq
      refine gr_i (g_runV (As := [.int a2, .int v4]) (rest := []) (ci := 5) hC (c_X2_gain l V g D cT f n v1 a2 v4 v5 ev5) k_X2_gain m_705 rfl rfl ⟨Nat.le_of_ble_eq_true rfl, Nat.le_of_ble_eq_true rfl⟩ hI rfl rfl (h_me_eq ev5).1 rfl hl.1 rfl (Nat.le_of_ble_eq_true rfl) dX7_lengthGain_22 ⟨by decide, by decide⟩) hI (fun H locs hI => ?_)
      exact ge_Xi hx hb hlocks hr rfl hI hq dX7_lengthGain_25

abbrev rm_X7_levelOfGreatestGain : Room := { frames := 9, cells := 1, slots := 6, locals := 260 }
theorem k_X7_levelOfGreatestGain : g_CV yX7_levelOfGreatestGain cX7_levelOfGreatestGain 7 (some .int) 1 := ⟨⟨m_713, m_1, by decide +kernel⟩, m_711, m_712⟩
set_option maxHeartbeats 4000000 in
set_option maxRecDepth 100000 in
theorem c_X7_levelOfGreatestGain (l : Launch) (hl0 : l.stackTraces = false) (V : Nat → Nat) (g : GH) (D : va_G) (cT : Nat → ClassId) (f : GH) (n : Nat) (a0 : Nat) (a1 : Int32) (o : Nat ⊕ Int32) (hq : p_X7_levelOfGreatestGain V g f a0 a1 = some o) : vx_Met l yX7_levelOfGreatestGain (Cond.code yX7_levelOfGreatestGain cX7_levelOfGreatestGain 7 (some .int) :: g_B) rm_X7_levelOfGreatestGain (va_Pc [.ref a0, .int a1] (g_I V g D cT f n)) (g_Xi o n) (g_XX V D cT f o) 1 6 g_no := by
  refine g_beginX (own := RX7) [.ref a0, .int a1] [(0, .ref a0), (1, .int a1)] g_no (fun _ h => h.elim) (by decide) rfl (Nat.le_of_ble_eq_true rfl) rfl ?_
  intro p e s m args below meth c hx hb hr hlocks ht0 hC hI ls hl
  obtain ⟨hx, hb, hml, hown, hB⟩ := id hC
  obtain ⟨H, hH⟩ : ∃ H, H = s.heap := ⟨_, rfl⟩
  obtain ⟨locs, hlocs⟩ : ∃ L : List Loc, L = [] := ⟨_, rfl⟩
  rw [← hH, ← hlocs] at hI ⊢
  clear hH hlocs
  unfold p_X7_levelOfGreatestGain at hq
  replace hq := (h_me_eq hq).2
  refine lv_aload_n hx hb dX7_levelOfGreatestGain_0 rfl (lv_at hl 0 rfl) ?_
  refine lv_iload_n hx hb dX7_levelOfGreatestGain_1 rfl (lv_at hl 1 rfl) ?_
  rcases x_b_eq hq with ⟨v1, ev1, hq⟩ | ⟨v1, ev1, hq⟩
  · exact gt_RR hlocks ht0 (g_runVX (As := [.int a1]) (rest := []) (ci := 9) hC (c_X7_coastAt l hl0 V g D cT f n a0 a1 (.inl v1) ev1) k_X7_coastAt m_577 rfl rfl ⟨Nat.le_of_ble_eq_true rfl, Nat.le_of_ble_eq_true rfl⟩ hI rfl rfl (h_me_eq ev1).1 rfl hl.1 rfl (Nat.le_of_ble_eq_true rfl) dX7_levelOfGreatestGain_2 ⟨by decide, by decide⟩) no_r hI hq (by decide) (by decide)
  · refine gx_r (g_runVX (As := [.int a1]) (rest := []) (ci := 9) hC (c_X7_coastAt l hl0 V g D cT f n a0 a1 (.inr v1) ev1) k_X7_coastAt m_577 rfl rfl ⟨Nat.le_of_ble_eq_true rfl, Nat.le_of_ble_eq_true rfl⟩ hI rfl rfl (h_me_eq ev1).1 rfl hl.1 rfl (Nat.le_of_ble_eq_true rfl) dX7_levelOfGreatestGain_2 ⟨by decide, by decide⟩) hI (fun H locs hI => ?_)
    refine lv_astore_n (lv' := [(2, .ref v1), (0, .ref a0), (1, .int a1)]) hx hb dX7_levelOfGreatestGain_5 rfl hl (by decide) rfl (fun ls hl => ?_)
    refine lv_iconst (v := (0 : Int32)) hx hb dX7_levelOfGreatestGain_6 (by decide) ?_
    refine lv_istore_n (lv' := [(3, .int (0 : Int32)), (2, .ref v1), (0, .ref a0), (1, .int a1)]) hx hb dX7_levelOfGreatestGain_7 rfl hl (by decide) rfl (fun ls hl => ?_)
    refine lv_iconst (v := (-1 : Int32)) hx hb dX7_levelOfGreatestGain_8 (by decide) ?_
    refine lv_istore (lv' := [(4, .int (-1 : Int32)), (3, .int (0 : Int32)), (2, .ref v1), (0, .ref a0), (1, .int a1)]) hx hb dX7_levelOfGreatestGain_9 hl (by decide) rfl (fun ls hl => ?_)
    refine lv_iconst (v := (0 : Int32)) hx hb dX7_levelOfGreatestGain_11 (by decide) ?_
    refine lv_istore (lv' := [(5, .int (0 : Int32)), (4, .int (-1 : Int32)), (3, .int (0 : Int32)), (2, .ref v1), (0, .ref a0), (1, .int a1)]) hx hb dX7_levelOfGreatestGain_12 hl (by decide) rfl (fun ls hl => ?_)
    have hl14 : ∀ (K56 : Int32 → Option (Nat ⊕ Int32)) (hK56 : ∀ (x3 : Int32) (H : Heap) (locs : List Loc) (ls : Array Slot), g_at g_no V g D cT f n s H locs → lv_has ls 7 [(3, .int x3)] → K56 x3 = some o → W p l e rm_X7_levelOfGreatestGain s m args below meth c H locs 1 6 (vx_MQ below (g_Xi o n) (g_XX V D cT f o) args s 1 6 g_no) (F0 m 56 ls [])) (N : Nat) (x0 : Nat) (x2 : Nat) (x3 : Int32) (x4 : Int32) (x5 : Int32) (H : Heap) (locs : List Loc) (ls : Array Slot), g_at g_no V g D cT f n s H locs → lv_has ls 7 [(0, .ref x0), (2, .ref x2), (3, .int x3), (4, .int x4), (5, .int x5)] → p_X7_levelOfGreatestGain_l14 V g f K56 N x0 x2 x3 x4 x5 = some o → W p l e rm_X7_levelOfGreatestGain s m args below meth c H locs 1 6 (vx_MQ below (g_Xi o n) (g_XX V D cT f o) args s 1 6 g_no) (F0 m 14 ls []) := by
      intro K56 hK56 N
      induction N with
      | zero =>
        intro x0 x2 x3 x4 x5 H locs ls hI hl hq
        rw [p_X7_levelOfGreatestGain_l14] at hq
        cases hq
      | succ N ih =>
        intro x0 x2 x3 x4 x5 H locs ls hI hl hq
        rw [p_X7_levelOfGreatestGain_l14] at hq
        refine lv_iload hx hb dX7_levelOfGreatestGain_14 (lv_at hl 4 rfl) ?_
        refine lv_bipush (v := (7 : Int32)) hx hb dX7_levelOfGreatestGain_16 (by decide) ?_
        refine lv_icmp_ge (tgt := 56) hx hb dX7_levelOfGreatestGain_18 (by decide) (fun c2 => ?_) (fun c2 => ?_)
        · replace hq := i_t c2 hq
          exact hK56 x3 H locs ls hI (lv_sub hl [2] rfl) hq
        · replace hq := i_f c2 hq
          refine lv_aload_n hx hb dX7_levelOfGreatestGain_21 rfl (lv_at hl 1 rfl) ?_
          refine lv_iload hx hb dX7_levelOfGreatestGain_22 (lv_at hl 4 rfl) ?_
          refine lv_aload_n hx hb dX7_levelOfGreatestGain_24 rfl (lv_at hl 0 rfl) ?_
          obtain ⟨v3, ev3, hq⟩ := b_s hq
          refine fa_gr (own := RX7) (ref := "CoastlineRuler") (k := 0) hx hb hB inB_RX7 hown hI rfl (by decide) m_253 (fun _ h9 => h9) ev3 dX7_levelOfGreatestGain_25 ?_
          obtain ⟨v4, ev4, hq⟩ := b_s hq
          refine fa_gi (own := RX7) (ref := "CoastlineRuler$Chart") (k := 2) hx hb hB inB_RX1 hown hI rfl (by decide) m_80 (fun _ h9 => h9) ev4 dX7_levelOfGreatestGain_28 ?_
          obtain ⟨v5, ev5, hq⟩ := b_s hq
          refine gr_i (g_runV (As := [.int x5, .int v4]) (rest := []) (ci := 5) hC (c_X2_gain l V g D cT f n x2 x5 v4 v5 ev5) k_X2_gain m_705 rfl rfl ⟨Nat.le_of_ble_eq_true rfl, Nat.le_of_ble_eq_true rfl⟩ hI rfl rfl (h_me_eq ev5).1 rfl hl.1 rfl (Nat.le_of_ble_eq_true rfl) dX7_levelOfGreatestGain_31 ⟨by decide, by decide⟩) hI (fun H locs hI => ?_)
          refine lv_istore (lv' := [(6, .int v5), (0, .ref x0), (2, .ref x2), (3, .int x3), (4, .int x4), (5, .int x5)]) hx hb dX7_levelOfGreatestGain_34 hl (by decide) rfl (fun ls hl => ?_)
          refine lv_iload hx hb dX7_levelOfGreatestGain_36 (lv_at hl 0 rfl) ?_
          refine lv_iload hx hb dX7_levelOfGreatestGain_38 (lv_at hl 4 rfl) ?_
          refine lv_icmp_le (tgt := 50) hx hb dX7_levelOfGreatestGain_40 (by decide) (fun c6 => ?_) (fun c6 => ?_)
          · replace hq := i_t c6 hq
            refine lv_iinc (v := x5 + (1 : Int32)) (lv' := [(5, .int (x5 + (1 : Int32))), (6, .int v5), (0, .ref x0), (2, .ref x2), (3, .int x3), (4, .int x4)]) hx hb dX7_levelOfGreatestGain_50 hl (k := 5) rfl rfl (by decide) rfl (fun ls hl => ?_)
            refine lv_goto (tgt := 14) hx hb dX7_levelOfGreatestGain_53 (by decide) ?_
            exact ih x0 x2 x3 x4 (x5 + (1 : Int32)) H locs ls hI (lv_sub hl [2, 3, 4, 5, 0] rfl) hq
          · replace hq := i_f c6 hq
            refine lv_iload hx hb dX7_levelOfGreatestGain_43 (lv_at hl 5 rfl) ?_
            refine lv_istore_n (lv' := [(3, .int x5), (6, .int v5), (0, .ref x0), (2, .ref x2), (4, .int x4), (5, .int x5)]) hx hb dX7_levelOfGreatestGain_45 rfl hl (by decide) rfl (fun ls hl => ?_)
            refine lv_iload hx hb dX7_levelOfGreatestGain_46 (lv_at hl 1 rfl) ?_
            refine lv_istore (lv' := [(4, .int v5), (3, .int x5), (6, .int v5), (0, .ref x0), (2, .ref x2), (5, .int x5)]) hx hb dX7_levelOfGreatestGain_48 hl (by decide) rfl (fun ls hl => ?_)
            refine lv_iinc (v := x5 + (1 : Int32)) (lv' := [(5, .int (x5 + (1 : Int32))), (4, .int v5), (3, .int x5), (6, .int v5), (0, .ref x0), (2, .ref x2)]) hx hb dX7_levelOfGreatestGain_50 hl (k := 5) rfl rfl (by decide) rfl (fun ls hl => ?_)
            refine lv_goto (tgt := 14) hx hb dX7_levelOfGreatestGain_53 (by decide) ?_
            exact ih x0 x2 x5 v5 (x5 + (1 : Int32)) H locs ls hI (lv_sub hl [4, 5, 2, 1, 0] rfl) hq
    refine hl14 _ ?_ FU a0 v1 (0 : Int32) (-1 : Int32) (0 : Int32) H locs ls hI (lv_sub hl [4, 3, 2, 1, 0] rfl) hq
    · intro x3 H locs ls hI hl hq
      refine lv_iload_n hx hb dX7_levelOfGreatestGain_56 rfl (lv_at hl 0 rfl) ?_
      exact ge_Xi hx hb hlocks hr rfl hI hq dX7_levelOfGreatestGain_57


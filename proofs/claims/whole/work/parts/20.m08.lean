abbrev rm_X8_isLength : Room := { frames := 3, cells := 0, slots := 0, locals := 142 }
theorem k_X8_isLength : g_CV yX8_isLength cX8_isLength 2 (some .boolean) 1 := ⟨⟨m_2081, m_14, by decide +kernel⟩, m_2080, ms_74⟩
set_option maxHeartbeats 4000000 in
set_option maxRecDepth 100000 in
theorem c_X8_isLength (l : Launch) (V : Nat → Nat) (g : GH) (D : va_G) (cT : Nat → ClassId) (f : GH) (n : Nat) (a0 : Nat) (a1 : Int32) (o : Int32) (hq : p_X8_isLength V g f a0 a1 = some o) : Met l yX8_isLength (Cond.code yX8_isLength cX8_isLength 2 (some .boolean) :: g_B) rm_X8_isLength (va_Pc [.ref a0, .int a1] (g_I V g D cT f n)) (g_Ri o n) 0 0 g_no := by
  refine g_begin (own := RX8) [.ref a0, .int a1] [(0, .ref a0), (1, .int a1)] g_no (fun _ h => h.elim) (by decide) rfl (Nat.le_of_ble_eq_true rfl) rfl ?_
  intro p e s m args below meth c hx hb hr hlocks hin hC hI ls hl
  obtain ⟨hx, hb, hml, hown, hB⟩ := id hC
  obtain ⟨H, hH⟩ : ∃ H, H = s.heap := ⟨_, rfl⟩
  obtain ⟨locs, hlocs⟩ : ∃ L : List Loc, L = [] := ⟨_, rfl⟩
  rw [← hH, ← hlocs] at hI ⊢
  clear hH hlocs
  unfold p_X8_isLength at hq
  replace hq := (h_me_eq hq).2
  refine lv_iload_n hx hb dX8_isLength_0 rfl (lv_at hl 1 rfl) ?_
  refine lv_iconst (v := (0 : Int32)) hx hb dX8_isLength_1 (by decide) ?_
  refine lv_aload_n hx hb dX8_isLength_2 rfl (lv_at hl 0 rfl) ?_
  obtain ⟨v1, ev1, hq⟩ := b_s hq
  refine fa_gi (own := RX8) (ref := "CoastlineRulerModel") (k := 13) hx hb hB inB_RX8 hown hI rfl (by decide) m_1544 (fun _ h9 => h9) ev1 dX8_isLength_3 ?_
  obtain ⟨v2, ev2, hq⟩ := b_s hq
  refine gr_i (g_runS (As := [.int a1, .int (0 : Int32), .int v1]) (rest := []) hC (c_X8_inRange l V g D cT f n a1 (0 : Int32) v1 v2 ev2) k_X8_inRange m_1634 rfl rfl ⟨Nat.le_of_ble_eq_true rfl, Nat.le_of_ble_eq_true rfl⟩ hI rfl hl.1 rfl (Nat.le_of_ble_eq_true rfl) dX8_isLength_6 ⟨by decide, by decide⟩) hI (fun H locs hI => ?_)
  obtain ⟨_, ev3, hq⟩ := b_s hq
  exact ge_Ri hx hb hlocks hr (h_bz_eq ev3).2.1 hI hq dX8_isLength_9

abbrev rm_X8_loadMap : Room := { frames := 12, cells := 0, slots := 0, locals := 333 }
theorem k_X8_loadMap : g_CV yX8_loadMap cX8_loadMap 2 (some .int) 1 := ⟨⟨m_2077, m_14, by decide +kernel⟩, m_2075, m_2076⟩
set_option maxHeartbeats 4000000 in
set_option maxRecDepth 100000 in
theorem c_X8_loadMap (l : Launch) (V : Nat → Nat) (g : GH) (D : va_G) (cT : Nat → ClassId) (f : GH) (n : Nat) (a0 : Nat) (a1 : Int32) (o : Int32 × GH) (hq : p_X8_loadMap V g f a0 a1 = some o) : Met l yX8_loadMap (Cond.code yX8_loadMap cX8_loadMap 2 (some .int) :: g_B) rm_X8_loadMap (va_Pc [.ref a0, .int a1] (g_I V g D cT f n)) (g_Wi V D cT o.1 o.2 n) 0 0 (g_A V) := by
  refine g_begin (own := RX8) [.ref a0, .int a1] [(0, .ref a0), (1, .int a1)] (g_A V) (fun _ h => h) (by decide) rfl (Nat.le_of_ble_eq_true rfl) rfl ?_
  intro p e s m args below meth c hx hb hr hlocks hin hC hI ls hl
  obtain ⟨hx, hb, hml, hown, hB⟩ := id hC
  obtain ⟨H, hH⟩ : ∃ H, H = s.heap := ⟨_, rfl⟩
  obtain ⟨locs, hlocs⟩ : ∃ L : List Loc, L = [] := ⟨_, rfl⟩
  rw [← hH, ← hlocs] at hI ⊢
  clear hH hlocs
  unfold p_X8_loadMap at hq
  replace hq := (h_me_eq hq).2
  refine lv_aload_n hx hb dX8_loadMap_0 rfl (lv_at hl 0 rfl) ?_
  refine lv_aload_n hx hb dX8_loadMap_1 rfl (lv_at hl 0 rfl) ?_
  refine lv_iload_n hx hb dX8_loadMap_2 rfl (lv_at hl 1 rfl) ?_
  obtain ⟨v1, ev1, hq⟩ := b_s hq
  refine gr_i (g_runV (As := [.int a1]) (rest := [.ref a0]) (ci := 10) hC (c_X8_isLength l V g D cT f n a0 a1 v1 ev1) k_X8_isLength m_2078 rfl rfl ⟨Nat.le_of_ble_eq_true rfl, Nat.le_of_ble_eq_true rfl⟩ hI rfl rfl (h_me_eq ev1).1 rfl hl.1 rfl (Nat.le_of_ble_eq_true rfl) dX8_loadMap_3 ⟨by decide, by decide⟩) hI (fun H locs hI => ?_)
  obtain ⟨v2, ev2, hq⟩ := b_s hq
  refine gw_i (g_runV (As := [.int v1]) (rest := []) (ci := 10) hC (c_X8_lacks l V g D cT f n a0 v1 v2 ev2) k_X8_lacks m_1637 rfl rfl ⟨Nat.le_of_ble_eq_true rfl, Nat.le_of_ble_eq_true rfl⟩ hI rfl rfl (h_me_eq ev2).1 rfl hl.1 rfl (Nat.le_of_ble_eq_true rfl) dX8_loadMap_6 ⟨by decide, by decide⟩) hI (fun H locs hI => ?_)
  refine lv_if_eq (tgt := 14) hx hb dX8_loadMap_9 (by decide) (fun c3 => ?_) (fun c3 => ?_)
  · replace hq := i_t c3 hq
    refine lv_aload_n hx hb dX8_loadMap_14 rfl (lv_at hl 0 rfl) ?_
    refine lv_iload_n hx hb dX8_loadMap_15 rfl (lv_at hl 1 rfl) ?_
    obtain ⟨v4, ev4, hq⟩ := b_s hq
    refine gw_v (g_runV (As := [.int a1]) (rest := []) (ci := 10) hC (c_X8_startText l V g D cT v2.2 n a0 a1 v4 ev4) k_X8_startText m_2082 rfl rfl ⟨Nat.le_of_ble_eq_true rfl, Nat.le_of_ble_eq_true rfl⟩ hI rfl rfl (h_me_eq ev4).1 rfl hl.1 rfl (Nat.le_of_ble_eq_true rfl) dX8_loadMap_16 ⟨by decide, by decide⟩) hI (fun H locs hI => ?_)
    refine lv_aload_n hx hb dX8_loadMap_19 rfl (lv_at hl 0 rfl) ?_
    refine lv_aload_n hx hb dX8_loadMap_20 rfl (lv_at hl 0 rfl) ?_
    obtain ⟨v5, ev5, hq⟩ := b_s hq
    refine fa_gr (own := RX8) (ref := "CoastlineRulerModel") (k := 1) hx hb hB inB_RX8 hown hI rfl (by decide) m_1532 (fun _ h9 => h9) ev5 dX8_loadMap_21 ?_
    obtain ⟨f6, ef6, hq⟩ := b_s hq
    refine fa_pt (own := RX8) (ref := "CoastlineRulerModel") (k := 5) hx hb hB inB_RX8 tyX8_ok nmX8 hown hI rfl (by decide) m_1536 (fun _ h9 => h9) (by decide) rfl rfl ef6 dX8_loadMap_24 (fun H locs hI => ?_)
    refine lv_aload_n hx hb dX8_loadMap_27 rfl (lv_at hl 0 rfl) ?_
    obtain ⟨v7, ev7, hq⟩ := b_s hq
    refine gw_v (g_runV (As := []) (rest := []) (ci := 10) hC (c_X8_readMap l V g D cT f6 n a0 v7 ev7) k_X8_readMap m_2102 rfl rfl ⟨Nat.le_of_ble_eq_true rfl, Nat.le_of_ble_eq_true rfl⟩ hI rfl rfl (h_me_eq ev7).1 rfl hl.1 rfl (Nat.le_of_ble_eq_true rfl) dX8_loadMap_28 ⟨by decide, by decide⟩) hI (fun H locs hI => ?_)
    refine lv_aload_n hx hb dX8_loadMap_31 rfl (lv_at hl 0 rfl) ?_
    obtain ⟨v8, ev8, hq⟩ := b_s hq
    refine gw_v (g_runV (As := []) (rest := []) (ci := 10) hC (c_X8_restartLedgers l V g D cT v7 n a0 v8 ev8) k_X8_restartLedgers m_1519 rfl rfl ⟨Nat.le_of_ble_eq_true rfl, Nat.le_of_ble_eq_true rfl⟩ hI rfl rfl (h_me_eq ev8).1 rfl hl.1 rfl (Nat.le_of_ble_eq_true rfl) dX8_loadMap_32 ⟨by decide, by decide⟩) hI (fun H locs hI => ?_)
    refine lv_aload_n hx hb dX8_loadMap_35 rfl (lv_at hl 0 rfl) ?_
    refine lv_aload_n hx hb dX8_loadMap_36 rfl (lv_at hl 0 rfl) ?_
    obtain ⟨v9, ev9, hq⟩ := b_s hq
    refine fa_gr (own := RX8) (ref := "CoastlineRulerModel") (k := 0) hx hb hB inB_RX8 hown hI rfl (by decide) m_1531 (fun _ h9 => h9) ev9 dX8_loadMap_37 ?_
    obtain ⟨f10, ef10, hq⟩ := b_s hq
    refine fa_pt (own := RX8) (ref := "CoastlineRulerModel") (k := 5) hx hb hB inB_RX8 tyX8_ok nmX8 hown hI rfl (by decide) m_1536 (fun _ h9 => h9) (by decide) rfl rfl ef10 dX8_loadMap_40 (fun H locs hI => ?_)
    refine lv_aload_n hx hb dX8_loadMap_43 rfl (lv_at hl 0 rfl) ?_
    obtain ⟨v11, ev11, hq⟩ := b_s hq
    refine gw_i (g_runV (As := []) (rest := []) (ci := 10) hC (c_X8_isFaulty l V g D cT f10 n a0 v11 ev11) k_X8_isFaulty m_2168 rfl rfl ⟨Nat.le_of_ble_eq_true rfl, Nat.le_of_ble_eq_true rfl⟩ hI rfl rfl (h_me_eq ev11).1 rfl hl.1 rfl (Nat.le_of_ble_eq_true rfl) dX8_loadMap_44 ⟨by decide, by decide⟩) hI (fun H locs hI => ?_)
    refine lv_if_eq (tgt := 52) hx hb dX8_loadMap_47 (by decide) (fun c12 => ?_) (fun c12 => ?_)
    · replace hq := i_t c12 hq
      refine lv_aload_n hx hb dX8_loadMap_52 rfl (lv_at hl 0 rfl) ?_
      obtain ⟨v13, ev13, hq⟩ := b_s hq
      refine fa_gr (own := RX8) (ref := "CoastlineRulerModel") (k := 1) hx hb hB inB_RX8 hown hI rfl (by decide) m_1532 (fun _ h9 => h9) ev13 dX8_loadMap_53 ?_
      refine lv_iconst (v := (0 : Int32)) hx hb dX8_loadMap_56 (by decide) ?_
      refine lv_aload_n hx hb dX8_loadMap_57 rfl (lv_at hl 0 rfl) ?_
      obtain ⟨v14, ev14, hq⟩ := b_s hq
      refine fa_gr (own := RX8) (ref := "CoastlineRulerModel") (k := 0) hx hb hB inB_RX8 hown hI rfl (by decide) m_1531 (fun _ h9 => h9) ev14 dX8_loadMap_58 ?_
      refine lv_iconst (v := (0 : Int32)) hx hb dX8_loadMap_61 (by decide) ?_
      obtain ⟨v15, ev15, hq⟩ := b_s hq
      refine gw_v (g_runS (As := [.ref v13, .int (0 : Int32), .ref v14, .int (0 : Int32)]) (rest := []) hC (c_X8_copy l V g D cT v11.2 n v13 (0 : Int32) v14 (0 : Int32) v15 ev15) k_X8_copy m_1944 rfl rfl ⟨Nat.le_of_ble_eq_true rfl, Nat.le_of_ble_eq_true rfl⟩ hI rfl hl.1 rfl (Nat.le_of_ble_eq_true rfl) dX8_loadMap_62 ⟨by decide, by decide⟩) hI (fun H locs hI => ?_)
      refine lv_aload_n hx hb dX8_loadMap_65 rfl (lv_at hl 0 rfl) ?_
      refine lv_iconst (v := (0 : Int32)) hx hb dX8_loadMap_66 (by decide) ?_
      obtain ⟨f16, ef16, hq⟩ := b_s hq
      refine fa_pt (own := RX8) (ref := "CoastlineRulerModel") (k := 6) hx hb hB inB_RX8 tyX8_ok nmX8 hown hI rfl (by decide) m_1537 (fun _ h9 => h9) (by decide) rfl rfl ef16 dX8_loadMap_67 (fun H locs hI => ?_)
      refine lv_aload_n hx hb dX8_loadMap_70 rfl (lv_at hl 0 rfl) ?_
      refine lv_iconst (v := (0 : Int32)) hx hb dX8_loadMap_71 (by decide) ?_
      obtain ⟨f17, ef17, hq⟩ := b_s hq
      refine fa_pt (own := RX8) (ref := "CoastlineRulerModel") (k := 9) hx hb hB inB_RX8 tyX8_ok nmX8 hown hI rfl (by decide) m_1540 (fun _ h9 => h9) (by decide) (by decide +kernel) (by decide +kernel) ef17 dX8_loadMap_72 (fun H locs hI => ?_)
      refine lv_aload_n hx hb dX8_loadMap_75 rfl (lv_at hl 0 rfl) ?_
      obtain ⟨v18, ev18, hq⟩ := b_s hq
      refine fa_gr (own := RX8) (ref := "CoastlineRulerModel") (k := 5) hx hb hB inB_RX8 hown hI rfl (by decide) m_1536 (fun _ h9 => h9) ev18 dX8_loadMap_76 ?_
      refine lv_iconst (v := (1 : Int32)) hx hb dX8_loadMap_79 (by decide) ?_
      obtain ⟨v19, ev19, hq⟩ := b_s hq
      refine fa_li hx hb hI ev19 dX8_loadMap_80 ?_
      exact ge_Wi hx hb hlocks hr rfl hI (congrArg (fun z => z.1) (Option.some.inj hq)) (congrArg (fun z => z.2) (Option.some.inj hq)) dX8_loadMap_81
    · replace hq := i_f c12 hq
      refine lv_iconst (v := (-1 : Int32)) hx hb dX8_loadMap_50 (by decide) ?_
      exact ge_Wi hx hb hlocks hr rfl hI (congrArg (fun z => z.1) (Option.some.inj hq)) (congrArg (fun z => z.2) (Option.some.inj hq)) dX8_loadMap_51
  · replace hq := i_f c3 hq
    refine lv_iconst (v := (0 : Int32)) hx hb dX8_loadMap_12 (by decide) ?_
    exact ge_Wi hx hb hlocks hr rfl hI (congrArg (fun z => z.1) (Option.some.inj hq)) (congrArg (fun z => z.2) (Option.some.inj hq)) dX8_loadMap_13

abbrev rm_X8_doAdd : Room := { frames := 4, cells := 0, slots := 0, locals := 160 }
theorem k_X8_doAdd : g_CV yX8_doAdd cX8_doAdd 1 (some .int) 0 := ⟨⟨m_2183, m_14, by decide +kernel⟩, m_2182, ms_97⟩
set_option maxHeartbeats 4000000 in
set_option maxRecDepth 100000 in
theorem c_X8_doAdd (l : Launch) (V : Nat → Nat) (g : GH) (D : va_G) (cT : Nat → ClassId) (f : GH) (n : Nat) (a0 : Nat) (o : Int32 × GH) (hq : p_X8_doAdd V g f a0 = some o) : Met l yX8_doAdd (Cond.code yX8_doAdd cX8_doAdd 1 (some .int) :: g_B) rm_X8_doAdd (va_Pc [.ref a0] (g_I V g D cT f n)) (g_Wi V D cT o.1 o.2 n) 0 0 (g_A V) := by
  refine g_begin (own := RX8) [.ref a0] [(0, .ref a0)] (g_A V) (fun _ h => h) (by decide) rfl (Nat.le_of_ble_eq_true rfl) rfl ?_
  intro p e s m args below meth c hx hb hr hlocks hin hC hI ls hl
  obtain ⟨hx, hb, hml, hown, hB⟩ := id hC
  obtain ⟨H, hH⟩ : ∃ H, H = s.heap := ⟨_, rfl⟩
  obtain ⟨locs, hlocs⟩ : ∃ L : List Loc, L = [] := ⟨_, rfl⟩
  rw [← hH, ← hlocs] at hI ⊢
  clear hH hlocs
  unfold p_X8_doAdd at hq
  replace hq := (h_me_eq hq).2
  refine lv_aload_n hx hb dX8_doAdd_0 rfl (lv_at hl 0 rfl) ?_
  obtain ⟨v1, ev1, hq⟩ := b_s hq
  refine fa_gr (own := RX8) (ref := "CoastlineRulerModel") (k := 5) hx hb hB inB_RX8 hown hI rfl (by decide) m_1536 (fun _ h9 => h9) ev1 dX8_doAdd_1 ?_
  refine lv_iconst (v := (1 : Int32)) hx hb dX8_doAdd_4 (by decide) ?_
  obtain ⟨v2, ev2, hq⟩ := b_s hq
  refine fa_li hx hb hI ev2 dX8_doAdd_5 ?_
  refine lv_bipush (v := (6 : Int32)) hx hb dX8_doAdd_6 (by decide) ?_
  refine lv_icmp_ne (tgt := 13) hx hb dX8_doAdd_8 (by decide) (fun c3 => ?_) (fun c3 => ?_)
  · replace hq := i_f c3 hq
    refine lv_aload_n hx hb dX8_doAdd_13 rfl (lv_at hl 0 rfl) ?_
    obtain ⟨v4, ev4, hq⟩ := b_s hq
    refine fa_gr (own := RX8) (ref := "CoastlineRulerModel") (k := 5) hx hb hB inB_RX8 hown hI rfl (by decide) m_1536 (fun _ h9 => h9) ev4 dX8_doAdd_14 ?_
    refine lv_iconst (v := (3 : Int32)) hx hb dX8_doAdd_17 (by decide) ?_
    refine lv_dup2_11 hx hb dX8_doAdd_18 rfl rfl ?_
    obtain ⟨v5, ev5, hq⟩ := b_s hq
    refine fa_li hx hb hI ev5 dX8_doAdd_19 ?_
    refine lv_aload_n hx hb dX8_doAdd_20 rfl (lv_at hl 0 rfl) ?_
    obtain ⟨v6, ev6, hq⟩ := b_s hq
    refine fa_gr (own := RX8) (ref := "CoastlineRulerModel") (k := 22) hx hb hB inB_RX8 hown hI rfl (by decide) m_1553 (fun _ h9 => h9) ev6 dX8_doAdd_21 ?_
    refine lv_iconst (v := (1 : Int32)) hx hb dX8_doAdd_24 (by decide) ?_
    obtain ⟨v7, ev7, hq⟩ := b_s hq
    refine fa_li hx hb hI ev7 dX8_doAdd_25 ?_
    refine lv_iadd hx hb dX8_doAdd_26 ?_
    obtain ⟨f8, ef8, hq⟩ := b_s hq
    refine fa_si hx hb hI ef8 dX8_doAdd_27 (fun H locs hI => ?_)
    refine lv_aload_n hx hb dX8_doAdd_28 rfl (lv_at hl 0 rfl) ?_
    obtain ⟨v9, ev9, hq⟩ := b_s hq
    refine gw_v (g_runV (As := []) (rest := []) (ci := 10) hC (c_X8_layTold l V g D cT f8 n a0 v9 ev9) k_X8_layTold m_1511 rfl rfl ⟨Nat.le_of_ble_eq_true rfl, Nat.le_of_ble_eq_true rfl⟩ hI rfl rfl (h_me_eq ev9).1 rfl hl.1 rfl (Nat.le_of_ble_eq_true rfl) dX8_doAdd_29 ⟨by decide, by decide⟩) hI (fun H locs hI => ?_)
    refine lv_iconst (v := (0 : Int32)) hx hb dX8_doAdd_32 (by decide) ?_
    exact ge_Wi hx hb hlocks hr rfl hI (congrArg (fun z => z.1) (Option.some.inj hq)) (congrArg (fun z => z.2) (Option.some.inj hq)) dX8_doAdd_33
  · replace hq := i_t c3 hq
    refine lv_iconst (v := (2 : Int32)) hx hb dX8_doAdd_11 (by decide) ?_
    exact ge_Wi hx hb hlocks hr rfl hI (congrArg (fun z => z.1) (Option.some.inj hq)) (congrArg (fun z => z.2) (Option.some.inj hq)) dX8_doAdd_12

abbrev rm_X8_addCoast : Room := { frames := 11, cells := 0, slots := 0, locals := 312 }
theorem k_X8_addCoast : g_CV yX8_addCoast cX8_addCoast 2 (some .int) 1 := ⟨⟨m_2179, m_14, by decide +kernel⟩, m_2177, m_2178⟩
set_option maxHeartbeats 4000000 in
set_option maxRecDepth 100000 in
theorem c_X8_addCoast (l : Launch) (V : Nat → Nat) (g : GH) (D : va_G) (cT : Nat → ClassId) (f : GH) (n : Nat) (a0 : Nat) (a1 : Int32) (o : Int32 × GH) (hq : p_X8_addCoast V g f a0 a1 = some o) : Met l yX8_addCoast (Cond.code yX8_addCoast cX8_addCoast 2 (some .int) :: g_B) rm_X8_addCoast (va_Pc [.ref a0, .int a1] (g_I V g D cT f n)) (g_Wi V D cT o.1 o.2 n) 0 0 (g_A V) := by
  refine g_begin (own := RX8) [.ref a0, .int a1] [(0, .ref a0), (1, .int a1)] (g_A V) (fun _ h => h) (by decide) rfl (Nat.le_of_ble_eq_true rfl) rfl ?_
  intro p e s m args below meth c hx hb hr hlocks hin hC hI ls hl
  obtain ⟨hx, hb, hml, hown, hB⟩ := id hC
  obtain ⟨H, hH⟩ : ∃ H, H = s.heap := ⟨_, rfl⟩
  obtain ⟨locs, hlocs⟩ : ∃ L : List Loc, L = [] := ⟨_, rfl⟩
  rw [← hH, ← hlocs] at hI ⊢
  clear hH hlocs
  unfold p_X8_addCoast at hq
  replace hq := (h_me_eq hq).2
  refine lv_aload_n hx hb dX8_addCoast_0 rfl (lv_at hl 0 rfl) ?_
  refine lv_aload_n hx hb dX8_addCoast_1 rfl (lv_at hl 0 rfl) ?_
  refine lv_iload_n hx hb dX8_addCoast_2 rfl (lv_at hl 1 rfl) ?_
  obtain ⟨v1, ev1, hq⟩ := b_s hq
  refine gr_i (g_runV (As := [.int a1]) (rest := [.ref a0]) (ci := 10) hC (c_X8_isLength l V g D cT f n a0 a1 v1 ev1) k_X8_isLength m_2078 rfl rfl ⟨Nat.le_of_ble_eq_true rfl, Nat.le_of_ble_eq_true rfl⟩ hI rfl rfl (h_me_eq ev1).1 rfl hl.1 rfl (Nat.le_of_ble_eq_true rfl) dX8_addCoast_3 ⟨by decide, by decide⟩) hI (fun H locs hI => ?_)
  refine lv_aload_n hx hb dX8_addCoast_6 rfl (lv_at hl 0 rfl) ?_
  obtain ⟨v2, ev2, hq⟩ := b_s hq
  refine fa_gr (own := RX8) (ref := "CoastlineRulerModel") (k := 5) hx hb hB inB_RX8 hown hI rfl (by decide) m_1536 (fun _ h9 => h9) ev2 dX8_addCoast_7 ?_
  refine lv_iconst (v := (1 : Int32)) hx hb dX8_addCoast_10 (by decide) ?_
  obtain ⟨v3, ev3, hq⟩ := b_s hq
  refine fa_li hx hb hI ev3 dX8_addCoast_11 ?_
  refine lv_bipush (v := (6 : Int32)) hx hb dX8_addCoast_12 (by decide) ?_
  have hj22 : ∀ (x0 : Nat) (x1 : Int32) (t0 : Int32) (t1 : Int32) (t2 : Nat) (f : GH) (H : Heap) (locs : List Loc) (ls : Array Slot), g_at (g_A V) V g D cT f n s H locs → lv_has ls 2 [(0, .ref x0), (1, .int x1)] → p_X8_addCoast_j22 V g x0 x1 t0 t1 t2 f = some o → W p l e rm_X8_addCoast s m args below meth c H locs 0 0 (MQ below (g_Wi V D cT o.1 o.2 n) args s 0 0 (g_A V)) (F0 m 22 ls [.int t0, .int t1, .ref t2]) := by
    intro x0 x1 t0 t1 t2 f H locs ls hI hl hq
    unfold p_X8_addCoast_j22 at hq
    obtain ⟨v4, ev4, hq⟩ := b_s hq
    refine gw_i (g_runV (As := [.int t1, .int t0]) (rest := []) (ci := 10) hC (c_X8_lacksBoth l V g D cT f n t2 t1 t0 v4 ev4) k_X8_lacksBoth m_1693 rfl rfl ⟨Nat.le_of_ble_eq_true rfl, Nat.le_of_ble_eq_true rfl⟩ hI rfl rfl (h_me_eq ev4).1 rfl hl.1 rfl (Nat.le_of_ble_eq_true rfl) dX8_addCoast_22 ⟨by decide, by decide⟩) hI (fun H locs hI => ?_)
    refine lv_if_eq (tgt := 30) hx hb dX8_addCoast_25 (by decide) (fun c5 => ?_) (fun c5 => ?_)
    · replace hq := i_t c5 hq
      refine lv_aload_n hx hb dX8_addCoast_30 rfl (lv_at hl 0 rfl) ?_
      refine lv_iload_n hx hb dX8_addCoast_31 rfl (lv_at hl 1 rfl) ?_
      obtain ⟨v6, ev6, hq⟩ := b_s hq
      refine gw_v (g_runV (As := [.int x1]) (rest := []) (ci := 10) hC (c_X8_startText l V g D cT v4.2 n x0 x1 v6 ev6) k_X8_startText m_2082 rfl rfl ⟨Nat.le_of_ble_eq_true rfl, Nat.le_of_ble_eq_true rfl⟩ hI rfl rfl (h_me_eq ev6).1 rfl hl.1 rfl (Nat.le_of_ble_eq_true rfl) dX8_addCoast_32 ⟨by decide, by decide⟩) hI (fun H locs hI => ?_)
      refine lv_aload_n hx hb dX8_addCoast_35 rfl (lv_at hl 0 rfl) ?_
      obtain ⟨v7, ev7, hq⟩ := b_s hq
      refine gw_v (g_runV (As := []) (rest := []) (ci := 10) hC (c_X8_readCoast l V g D cT v6 n x0 v7 ev7) k_X8_readCoast m_2139 rfl rfl ⟨Nat.le_of_ble_eq_true rfl, Nat.le_of_ble_eq_true rfl⟩ hI rfl rfl (h_me_eq ev7).1 rfl hl.1 rfl (Nat.le_of_ble_eq_true rfl) dX8_addCoast_36 ⟨by decide, by decide⟩) hI (fun H locs hI => ?_)
      refine lv_aload_n hx hb dX8_addCoast_39 rfl (lv_at hl 0 rfl) ?_
      refine lv_aload_n hx hb dX8_addCoast_40 rfl (lv_at hl 0 rfl) ?_
      obtain ⟨v8, ev8, hq⟩ := b_s hq
      refine fa_gi (own := RX8) (ref := "CoastlineRulerModel") (k := 18) hx hb hB inB_RX8 hown hI rfl (by decide) m_1549 (fun _ h9 => h9) ev8 dX8_addCoast_41 ?_
      have hj59 : ∀ (x0 : Nat) (t0 : Int32) (t1 : Nat) (f : GH) (H : Heap) (locs : List Loc) (ls : Array Slot), g_at (g_A V) V g D cT f n s H locs → lv_has ls 2 [(0, .ref x0)] → p_X8_addCoast_j59 V g x0 t0 t1 f = some o → W p l e rm_X8_addCoast s m args below meth c H locs 0 0 (MQ below (g_Wi V D cT o.1 o.2 n) args s 0 0 (g_A V)) (F0 m 59 ls [.int t0, .ref t1]) := by
        intro x0 t0 t1 f H locs ls hI hl hq
        unfold p_X8_addCoast_j59 at hq
        refine lv_iconst (v := (1 : Int32)) hx hb dX8_addCoast_59 (by decide) ?_
        obtain ⟨v9, ev9, hq⟩ := b_s hq
        refine gw_v (g_runV (As := [.int t0, .int (1 : Int32)]) (rest := []) (ci := 10) hC (c_X8_check l V g D cT f n t1 t0 (1 : Int32) v9 ev9) k_X8_check m_2113 rfl rfl ⟨Nat.le_of_ble_eq_true rfl, Nat.le_of_ble_eq_true rfl⟩ hI rfl rfl (h_me_eq ev9).1 rfl hl.1 rfl (Nat.le_of_ble_eq_true rfl) dX8_addCoast_60 ⟨by decide, by decide⟩) hI (fun H locs hI => ?_)
        refine lv_aload_n hx hb dX8_addCoast_63 rfl (lv_at hl 0 rfl) ?_
        obtain ⟨v10, ev10, hq⟩ := b_s hq
        refine gw_i (g_runV (As := []) (rest := []) (ci := 10) hC (c_X8_isFaulty l V g D cT v9 n x0 v10 ev10) k_X8_isFaulty m_2168 rfl rfl ⟨Nat.le_of_ble_eq_true rfl, Nat.le_of_ble_eq_true rfl⟩ hI rfl rfl (h_me_eq ev10).1 rfl hl.1 rfl (Nat.le_of_ble_eq_true rfl) dX8_addCoast_64 ⟨by decide, by decide⟩) hI (fun H locs hI => ?_)
        refine lv_if_eq (tgt := 72) hx hb dX8_addCoast_67 (by decide) (fun c11 => ?_) (fun c11 => ?_)
        · replace hq := i_t c11 hq
          refine lv_aload_n hx hb dX8_addCoast_72 rfl (lv_at hl 0 rfl) ?_
          obtain ⟨v12, ev12, hq⟩ := b_s hq
          refine gw_v (g_runV (As := []) (rest := []) (ci := 10) hC (c_X8_keep l V g D cT v10.2 n x0 v12 ev12) k_X8_keep m_1940 rfl rfl ⟨Nat.le_of_ble_eq_true rfl, Nat.le_of_ble_eq_true rfl⟩ hI rfl rfl (h_me_eq ev12).1 rfl hl.1 rfl (Nat.le_of_ble_eq_true rfl) dX8_addCoast_73 ⟨by decide, by decide⟩) hI (fun H locs hI => ?_)
          refine lv_aload_n hx hb dX8_addCoast_76 rfl (lv_at hl 0 rfl) ?_
          refine lv_aload_n hx hb dX8_addCoast_77 rfl (lv_at hl 0 rfl) ?_
          obtain ⟨v13, ev13, hq⟩ := b_s hq
          refine gw_i (g_runV (As := []) (rest := [.ref x0]) (ci := 10) hC (c_X8_doAdd l V g D cT v12 n x0 v13 ev13) k_X8_doAdd m_2180 rfl rfl ⟨Nat.le_of_ble_eq_true rfl, Nat.le_of_ble_eq_true rfl⟩ hI rfl rfl (h_me_eq ev13).1 rfl hl.1 rfl (Nat.le_of_ble_eq_true rfl) dX8_addCoast_78 ⟨by decide, by decide⟩) hI (fun H locs hI => ?_)
          obtain ⟨v14, ev14, hq⟩ := b_s hq
          refine gw_i (g_runV (As := [.int v13.1]) (rest := []) (ci := 10) hC (c_X8_fails l V g D cT v13.2 n x0 v13.1 v14 ev14) k_X8_fails m_1951 rfl rfl ⟨Nat.le_of_ble_eq_true rfl, Nat.le_of_ble_eq_true rfl⟩ hI rfl rfl (h_me_eq ev14).1 rfl hl.1 rfl (Nat.le_of_ble_eq_true rfl) dX8_addCoast_81 ⟨by decide, by decide⟩) hI (fun H locs hI => ?_)
          refine lv_if_eq (tgt := 91) hx hb dX8_addCoast_84 (by decide) (fun c15 => ?_) (fun c15 => ?_)
          · replace hq := i_t c15 hq
            refine lv_aload_n hx hb dX8_addCoast_91 rfl (lv_at hl 0 rfl) ?_
            obtain ⟨v16, ev16, hq⟩ := b_s hq
            refine fa_gr (own := RX8) (ref := "CoastlineRulerModel") (k := 5) hx hb hB inB_RX8 hown hI rfl (by decide) m_1536 (fun _ h9 => h9) ev16 dX8_addCoast_92 ?_
            refine lv_iconst (v := (1 : Int32)) hx hb dX8_addCoast_95 (by decide) ?_
            obtain ⟨v17, ev17, hq⟩ := b_s hq
            refine fa_li hx hb hI ev17 dX8_addCoast_96 ?_
            refine lv_iconst (v := (1 : Int32)) hx hb dX8_addCoast_97 (by decide) ?_
            refine lv_isub hx hb dX8_addCoast_98 ?_
            exact ge_Wi hx hb hlocks hr rfl hI (congrArg (fun z => z.1) (Option.some.inj hq)) (congrArg (fun z => z.2) (Option.some.inj hq)) dX8_addCoast_99
          · replace hq := i_f c15 hq
            refine lv_iconst (v := (0 : Int32)) hx hb dX8_addCoast_87 (by decide) ?_
            refine lv_goto (tgt := 99) hx hb dX8_addCoast_88 (by decide) ?_
            exact ge_Wi hx hb hlocks hr rfl hI (congrArg (fun z => z.1) (Option.some.inj hq)) (congrArg (fun z => z.2) (Option.some.inj hq)) dX8_addCoast_99
        · replace hq := i_f c11 hq
          refine lv_iconst (v := (-1 : Int32)) hx hb dX8_addCoast_70 (by decide) ?_
          exact ge_Wi hx hb hlocks hr rfl hI (congrArg (fun z => z.1) (Option.some.inj hq)) (congrArg (fun z => z.2) (Option.some.inj hq)) dX8_addCoast_71
      have hj54 : ∀ (x0 : Nat) (t0 : Nat) (f : GH) (H : Heap) (locs : List Loc) (ls : Array Slot), g_at (g_A V) V g D cT f n s H locs → lv_has ls 2 [(0, .ref x0)] → p_X8_addCoast_j54 V g (p_X8_addCoast_j59 V g) x0 t0 f = some o → W p l e rm_X8_addCoast s m args below meth c H locs 0 0 (MQ below (g_Wi V D cT o.1 o.2 n) args s 0 0 (g_A V)) (F0 m 54 ls [.ref t0]) := by
        intro x0 t0 f H locs ls hI hl hq
        unfold p_X8_addCoast_j54 at hq
        refine lv_iconst (v := (1 : Int32)) hx hb dX8_addCoast_54 (by decide) ?_
        refine lv_goto (tgt := 59) hx hb dX8_addCoast_55 (by decide) ?_
        exact hj59 x0 (1 : Int32) t0 f H locs ls hI (lv_sub hl [0] rfl) hq
      refine lv_if_ne (tgt := 54) hx hb dX8_addCoast_44 (by decide) (fun c18 => ?_) (fun c18 => ?_)
      · replace hq := i_f c18 hq
        exact hj54 x0 x0 v7 H locs ls hI (lv_sub hl [0] rfl) hq
      · replace hq := i_t c18 hq
        refine lv_aload_n hx hb dX8_addCoast_47 rfl (lv_at hl 0 rfl) ?_
        obtain ⟨v19, ev19, hq⟩ := b_s hq
        refine fa_gi (own := RX8) (ref := "CoastlineRulerModel") (k := 17) hx hb hB inB_RX8 hown hI rfl (by decide) m_1548 (fun _ h9 => h9) ev19 dX8_addCoast_48 ?_
        refine lv_if_ne (tgt := 58) hx hb dX8_addCoast_51 (by decide) (fun c20 => ?_) (fun c20 => ?_)
        · replace hq := i_f c20 hq
          refine lv_iconst (v := (0 : Int32)) hx hb dX8_addCoast_58 (by decide) ?_
          exact hj59 x0 (0 : Int32) x0 v7 H locs ls hI (lv_sub hl [0] rfl) hq
        · replace hq := i_t c20 hq
          exact hj54 x0 x0 v7 H locs ls hI (lv_sub hl [0] rfl) hq
    · replace hq := i_f c5 hq
      refine lv_iconst (v := (0 : Int32)) hx hb dX8_addCoast_28 (by decide) ?_
      exact ge_Wi hx hb hlocks hr rfl hI (congrArg (fun z => z.1) (Option.some.inj hq)) (congrArg (fun z => z.2) (Option.some.inj hq)) dX8_addCoast_29
  refine lv_icmp_ge (tgt := 21) hx hb dX8_addCoast_14 (by decide) (fun c21 => ?_) (fun c21 => ?_)
  · replace hq := i_t c21 hq
    refine lv_iconst (v := (0 : Int32)) hx hb dX8_addCoast_21 (by decide) ?_
    exact hj22 a0 a1 (0 : Int32) v1 a0 f H locs ls hI (lv_sub hl [0, 1] rfl) hq
  · replace hq := i_f c21 hq
    refine lv_iconst (v := (1 : Int32)) hx hb dX8_addCoast_17 (by decide) ?_
    refine lv_goto (tgt := 22) hx hb dX8_addCoast_18 (by decide) ?_
    exact hj22 a0 a1 (1 : Int32) v1 a0 f H locs ls hI (lv_sub hl [0, 1] rfl) hq

abbrev rm_X8_orderHere : Room := { frames := 7, cells := 0, slots := 0, locals := 228 }
theorem k_X8_orderHere : g_CV yX8_orderHere cX8_orderHere 2 (some .int) 0 := ⟨⟨m_2195, m_14, by decide +kernel⟩, m_2194, ms_99⟩
set_option maxHeartbeats 4000000 in
set_option maxRecDepth 100000 in
theorem c_X8_orderHere (l : Launch) (V : Nat → Nat) (g : GH) (D : va_G) (cT : Nat → ClassId) (f : GH) (n : Nat) (a0 : Nat) (o : Int32) (hq : p_X8_orderHere V g f a0 = some o) : Met l yX8_orderHere (Cond.code yX8_orderHere cX8_orderHere 2 (some .int) :: g_B) rm_X8_orderHere (va_Pc [.ref a0] (g_I V g D cT f n)) (g_Ri o n) 0 0 g_no := by
  refine g_begin (own := RX8) [.ref a0] [(0, .ref a0)] g_no (fun _ h => h.elim) (by decide) rfl (Nat.le_of_ble_eq_true rfl) rfl ?_
  intro p e s m args below meth c hx hb hr hlocks hin hC hI ls hl
  obtain ⟨hx, hb, hml, hown, hB⟩ := id hC
  obtain ⟨H, hH⟩ : ∃ H, H = s.heap := ⟨_, rfl⟩
  obtain ⟨locs, hlocs⟩ : ∃ L : List Loc, L = [] := ⟨_, rfl⟩
  rw [← hH, ← hlocs] at hI ⊢
  clear hH hlocs
  unfold p_X8_orderHere at hq
  replace hq := (h_me_eq hq).2
  refine lv_iconst (v := (0 : Int32)) hx hb dX8_orderHere_0 (by decide) ?_
  refine lv_istore_n (lv' := [(1, .int (0 : Int32)), (0, .ref a0)]) hx hb dX8_orderHere_1 rfl hl (by decide) rfl (fun ls hl => ?_)
  have hl2 : ∀ (K24 : Int32 → Option Int32) (hK24 : ∀ (x1 : Int32) (H : Heap) (locs : List Loc) (ls : Array Slot), g_at g_no V g D cT f n s H locs → lv_has ls 2 [(1, .int x1)] → K24 x1 = some o → W p l e rm_X8_orderHere s m args below meth c H locs 0 0 (MQ below (g_Ri o n) args s 0 0 g_no) (F0 m 24 ls [])) (K42 : Option Int32) (hK42 : ∀  (H : Heap) (locs : List Loc) (ls : Array Slot), g_at g_no V g D cT f n s H locs → lv_has ls 2 [] → K42  = some o → W p l e rm_X8_orderHere s m args below meth c H locs 0 0 (MQ below (g_Ri o n) args s 0 0 g_no) (F0 m 42 ls [])) (N : Nat) (x0 : Nat) (x1 : Int32) (H : Heap) (locs : List Loc) (ls : Array Slot), g_at g_no V g D cT f n s H locs → lv_has ls 2 [(0, .ref x0), (1, .int x1)] → p_X8_orderHere_l2 V g f K24 K42 N x0 x1 = some o → W p l e rm_X8_orderHere s m args below meth c H locs 0 0 (MQ below (g_Ri o n) args s 0 0 g_no) (F0 m 2 ls []) := by
    intro K24 hK24 K42 hK42 N
    induction N with
    | zero =>
      intro x0 x1 H locs ls hI hl hq
      rw [p_X8_orderHere_l2] at hq
      cases hq
    | succ N ih =>
      intro x0 x1 H locs ls hI hl hq
      rw [p_X8_orderHere_l2] at hq
      refine lv_iload_n hx hb dX8_orderHere_2 rfl (lv_at hl 1 rfl) ?_
      refine lv_aload_n hx hb dX8_orderHere_3 rfl (lv_at hl 0 rfl) ?_
      obtain ⟨v1, ev1, hq⟩ := b_s hq
      refine fa_gr (own := RX8) (ref := "CoastlineRulerModel") (k := 24) hx hb hB inB_RX8 hown hI rfl (by decide) m_1555 (fun _ h9 => h9) ev1 dX8_orderHere_4 ?_
      obtain ⟨v2, ev2, hq⟩ := b_s hq
      refine fa_al hx hb hI (by decide) ev2 dX8_orderHere_7 ?_
      refine lv_icmp_ge (tgt := 42) hx hb dX8_orderHere_8 (by decide) (fun c3 => ?_) (fun c3 => ?_)
      · replace hq := i_t c3 hq
        exact hK42  H locs ls hI (lv_sub hl [] rfl) hq
      · replace hq := i_f c3 hq
        refine lv_aload_n hx hb dX8_orderHere_11 rfl (lv_at hl 0 rfl) ?_
        refine lv_aload_n hx hb dX8_orderHere_12 rfl (lv_at hl 0 rfl) ?_
        obtain ⟨v4, ev4, hq⟩ := b_s hq
        refine fa_gr (own := RX8) (ref := "CoastlineRulerModel") (k := 24) hx hb hB inB_RX8 hown hI rfl (by decide) m_1555 (fun _ h9 => h9) ev4 dX8_orderHere_13 ?_
        refine lv_iload_n hx hb dX8_orderHere_16 rfl (lv_at hl 1 rfl) ?_
        obtain ⟨v5, ev5, hq⟩ := b_s hq
        refine fa_lq hx hb hI (by decide) rfl ev5 dX8_orderHere_17 ?_
        obtain ⟨v6, ev6, hq⟩ := b_s hq
        refine gr_i (g_runV (As := [.ref v5]) (rest := []) (ci := 10) hC (c_X8_isWord l V g D cT f n x0 v5 v6 ev6) k_X8_isWord m_2107 rfl rfl ⟨Nat.le_of_ble_eq_true rfl, Nat.le_of_ble_eq_true rfl⟩ hI rfl rfl (h_me_eq ev6).1 rfl hl.1 rfl (Nat.le_of_ble_eq_true rfl) dX8_orderHere_18 ⟨by decide, by decide⟩) hI (fun H locs hI => ?_)
        refine lv_if_eq (tgt := 36) hx hb dX8_orderHere_21 (by decide) (fun c7 => ?_) (fun c7 => ?_)
        · replace hq := i_t c7 hq
          refine lv_iinc (v := x1 + (1 : Int32)) (lv' := [(1, .int (x1 + (1 : Int32))), (0, .ref x0)]) hx hb dX8_orderHere_36 hl (k := 1) rfl rfl (by decide) rfl (fun ls hl => ?_)
          refine lv_goto (tgt := 2) hx hb dX8_orderHere_39 (by decide) ?_
          exact ih x0 (x1 + (1 : Int32)) H locs ls hI (lv_sub hl [1, 0] rfl) hq
        · replace hq := i_f c7 hq
          exact hK24 x1 H locs ls hI (lv_sub hl [1] rfl) hq
  refine hl2 _ ?_ _ ?_ FU a0 (0 : Int32) H locs ls hI (lv_sub hl [1, 0] rfl) hq
  · intro x1 H locs ls hI hl hq
    refine lv_iload_n hx hb dX8_orderHere_24 rfl (lv_at hl 0 rfl) ?_
    refine lv_bipush (v := (9 : Int32)) hx hb dX8_orderHere_25 (by decide) ?_
    refine lv_icmp_le (tgt := 34) hx hb dX8_orderHere_27 (by decide) (fun c8 => ?_) (fun c8 => ?_)
    · replace hq := i_t c8 hq
      refine lv_iload_n hx hb dX8_orderHere_34 rfl (lv_at hl 0 rfl) ?_
      exact ge_Ri hx hb hlocks hr rfl hI hq dX8_orderHere_35
    · replace hq := i_f c8 hq
      refine lv_iconst (v := (0 : Int32)) hx hb dX8_orderHere_30 (by decide) ?_
      refine lv_goto (tgt := 35) hx hb dX8_orderHere_31 (by decide) ?_
      exact ge_Ri hx hb hlocks hr rfl hI hq dX8_orderHere_35
  · intro  H locs ls hI hl hq
    refine lv_iconst (v := (-1 : Int32)) hx hb dX8_orderHere_42 (by decide) ?_
    exact ge_Ri hx hb hlocks hr rfl hI hq dX8_orderHere_43

abbrev rm_X8_readNumbers : Room := { frames := 8, cells := 0, slots := 0, locals := 248 }
theorem k_X8_readNumbers : g_CV yX8_readNumbers cX8_readNumbers 6 none 2 := ⟨⟨m_2199, m_14, by decide +kernel⟩, m_2198, ms_100⟩
set_option maxHeartbeats 4000000 in
set_option maxRecDepth 100000 in
theorem c_X8_readNumbers (l : Launch) (V : Nat → Nat) (g : GH) (D : va_G) (cT : Nat → ClassId) (f : GH) (n : Nat) (a0 : Nat) (a1 : Int32) (a2 : Int32) (o : GH) (hq : p_X8_readNumbers V g f a0 a1 a2 = some o) : Met l yX8_readNumbers (Cond.code yX8_readNumbers cX8_readNumbers 6 none :: g_B) rm_X8_readNumbers (va_Pc [.ref a0, .int a1, .int a2] (g_I V g D cT f n)) (g_Wv V D cT o n) 0 0 (g_A V) := by
  refine g_begin (own := RX8) [.ref a0, .int a1, .int a2] [(0, .ref a0), (1, .int a1), (2, .int a2)] (g_A V) (fun _ h => h) (by decide) rfl (Nat.le_of_ble_eq_true rfl) rfl ?_
  intro p e s m args below meth c hx hb hr hlocks hin hC hI ls hl
  obtain ⟨hx, hb, hml, hown, hB⟩ := id hC
  obtain ⟨H, hH⟩ : ∃ H, H = s.heap := ⟨_, rfl⟩
  obtain ⟨locs, hlocs⟩ : ∃ L : List Loc, L = [] := ⟨_, rfl⟩
  rw [← hH, ← hlocs] at hI ⊢
  clear hH hlocs
  unfold p_X8_readNumbers at hq
  replace hq := (h_me_eq hq).2
  refine lv_aload_n hx hb dX8_readNumbers_0 rfl (lv_at hl 0 rfl) ?_
  obtain ⟨v1, ev1, hq⟩ := b_s hq
  refine fa_gr (own := RX8) (ref := "CoastlineRulerModel") (k := 23) hx hb hB inB_RX8 hown hI rfl (by decide) m_1554 (fun _ h9 => h9) ev1 dX8_readNumbers_1 ?_
  refine lv_iload_n hx hb dX8_readNumbers_4 rfl (lv_at hl 1 rfl) ?_
  refine lv_iconst (v := (1 : Int32)) hx hb dX8_readNumbers_5 (by decide) ?_
  refine lv_iadd hx hb dX8_readNumbers_6 ?_
  refine lv_aload_n hx hb dX8_readNumbers_7 rfl (lv_at hl 0 rfl) ?_
  refine lv_iconst (v := (0 : Int32)) hx hb dX8_readNumbers_8 (by decide) ?_
  refine lv_iconst (v := (5 : Int32)) hx hb dX8_readNumbers_9 (by decide) ?_
  obtain ⟨v2, ev2, hq⟩ := b_s hq
  refine gw_i (g_runV (As := [.int (0 : Int32), .int (5 : Int32)]) (rest := [.int (a1 + (1 : Int32)), .ref v1]) (ci := 10) hC (c_X8_readNumber l V g D cT f n a0 (0 : Int32) (5 : Int32) v2 ev2) k_X8_readNumber m_2160 rfl rfl ⟨Nat.le_of_ble_eq_true rfl, Nat.le_of_ble_eq_true rfl⟩ hI rfl rfl (h_me_eq ev2).1 rfl hl.1 rfl (Nat.le_of_ble_eq_true rfl) dX8_readNumbers_10 ⟨by decide, by decide⟩) hI (fun H locs hI => ?_)
  obtain ⟨f3, ef3, hq⟩ := b_s hq
  refine fa_si hx hb hI ef3 dX8_readNumbers_13 (fun H locs hI => ?_)
  refine lv_iload_n hx hb dX8_readNumbers_14 rfl (lv_at hl 2 rfl) ?_
  refine lv_iconst (v := (3 : Int32)) hx hb dX8_readNumbers_15 (by decide) ?_
  have hj34 : ∀ (x0 : Nat) (x1 : Int32) (x2 : Int32) (t0 : Int32) (f : GH) (H : Heap) (locs : List Loc) (ls : Array Slot), g_at (g_A V) V g D cT f n s H locs → lv_has ls 6 [(0, .ref x0), (1, .int x1), (2, .int x2)] → p_X8_readNumbers_j34 V g x0 x1 x2 t0 f = some o → W p l e rm_X8_readNumbers s m args below meth c H locs 0 0 (MQ below (g_Wv V D cT o n) args s 0 0 (g_A V)) (F0 m 34 ls [.int t0]) := by
    intro x0 x1 x2 t0 f H locs ls hI hl hq
    unfold p_X8_readNumbers_j34 at hq
    refine lv_istore_n (lv' := [(3, .int t0), (0, .ref x0), (1, .int x1), (2, .int x2)]) hx hb dX8_readNumbers_34 rfl hl (by decide) rfl (fun ls hl => ?_)
    refine lv_aload_n hx hb dX8_readNumbers_35 rfl (lv_at hl 1 rfl) ?_
    obtain ⟨v4, ev4, hq⟩ := b_s hq
    refine fa_gr (own := RX8) (ref := "CoastlineRulerModel") (k := 23) hx hb hB inB_RX8 hown hI rfl (by decide) m_1554 (fun _ h9 => h9) ev4 dX8_readNumbers_36 ?_
    refine lv_iload_n hx hb dX8_readNumbers_39 rfl (lv_at hl 2 rfl) ?_
    refine lv_iconst (v := (2 : Int32)) hx hb dX8_readNumbers_40 (by decide) ?_
    refine lv_iadd hx hb dX8_readNumbers_41 ?_
    refine lv_iload_n hx hb dX8_readNumbers_42 rfl (lv_at hl 0 rfl) ?_
    have hj72 : ∀ (x0 : Nat) (x1 : Int32) (x2 : Int32) (t0 : Int32) (t1 : Int32) (t2 : Nat) (f : GH) (H : Heap) (locs : List Loc) (ls : Array Slot), g_at (g_A V) V g D cT f n s H locs → lv_has ls 6 [(0, .ref x0), (1, .int x1), (2, .int x2)] → p_X8_readNumbers_j72 V g x0 x1 x2 t0 t1 t2 f = some o → W p l e rm_X8_readNumbers s m args below meth c H locs 0 0 (MQ below (g_Wv V D cT o n) args s 0 0 (g_A V)) (F0 m 72 ls [.int t0, .int t1, .ref t2]) := by
      intro x0 x1 x2 t0 t1 t2 f H locs ls hI hl hq
      unfold p_X8_readNumbers_j72 at hq
      obtain ⟨f5, ef5, hq⟩ := b_s hq
      refine fa_si hx hb hI ef5 dX8_readNumbers_72 (fun H locs hI => ?_)
      refine lv_iload_n hx hb dX8_readNumbers_73 rfl (lv_at hl 2 rfl) ?_
      refine lv_bipush (v := (6 : Int32)) hx hb dX8_readNumbers_74 (by decide) ?_
      have hj88 : ∀ (x0 : Nat) (x1 : Int32) (x2 : Int32) (t0 : Int32) (f : GH) (H : Heap) (locs : List Loc) (ls : Array Slot), g_at (g_A V) V g D cT f n s H locs → lv_has ls 6 [(0, .ref x0), (1, .int x1), (2, .int x2)] → p_X8_readNumbers_j88 V g x0 x1 x2 t0 f = some o → W p l e rm_X8_readNumbers s m args below meth c H locs 0 0 (MQ below (g_Wv V D cT o n) args s 0 0 (g_A V)) (F0 m 88 ls [.int t0]) := by
        intro x0 x1 x2 t0 f H locs ls hI hl hq
        unfold p_X8_readNumbers_j88 at hq
        refine lv_istore (lv' := [(4, .int t0), (0, .ref x0), (1, .int x1), (2, .int x2)]) hx hb dX8_readNumbers_88 hl (by decide) rfl (fun ls hl => ?_)
        refine lv_iload_n hx hb dX8_readNumbers_90 rfl (lv_at hl 3 rfl) ?_
        refine lv_iconst (v := (3 : Int32)) hx hb dX8_readNumbers_91 (by decide) ?_
        have hj111 : ∀ (x0 : Nat) (x1 : Int32) (x4 : Int32) (t0 : Int32) (f : GH) (H : Heap) (locs : List Loc) (ls : Array Slot), g_at (g_A V) V g D cT f n s H locs → lv_has ls 6 [(0, .ref x0), (1, .int x1), (4, .int x4)] → p_X8_readNumbers_j111 V g x0 x1 x4 t0 f = some o → W p l e rm_X8_readNumbers s m args below meth c H locs 0 0 (MQ below (g_Wv V D cT o n) args s 0 0 (g_A V)) (F0 m 111 ls [.int t0]) := by
          intro x0 x1 x4 t0 f H locs ls hI hl hq
          unfold p_X8_readNumbers_j111 at hq
          refine lv_istore (lv' := [(5, .int t0), (0, .ref x0), (1, .int x1), (4, .int x4)]) hx hb dX8_readNumbers_111 hl (by decide) rfl (fun ls hl => ?_)
          refine lv_aload_n hx hb dX8_readNumbers_113 rfl (lv_at hl 1 rfl) ?_
          obtain ⟨v6, ev6, hq⟩ := b_s hq
          refine fa_gr (own := RX8) (ref := "CoastlineRulerModel") (k := 23) hx hb hB inB_RX8 hown hI rfl (by decide) m_1554 (fun _ h9 => h9) ev6 dX8_readNumbers_114 ?_
          refine lv_iload_n hx hb dX8_readNumbers_117 rfl (lv_at hl 2 rfl) ?_
          refine lv_iconst (v := (3 : Int32)) hx hb dX8_readNumbers_118 (by decide) ?_
          refine lv_iadd hx hb dX8_readNumbers_119 ?_
          refine lv_iload hx hb dX8_readNumbers_120 (lv_at hl 0 rfl) ?_
          have hj135 : ∀ (x0 : Nat) (x1 : Int32) (x4 : Int32) (x5 : Int32) (t0 : Int32) (t1 : Int32) (t2 : Nat) (f : GH) (H : Heap) (locs : List Loc) (ls : Array Slot), g_at (g_A V) V g D cT f n s H locs → lv_has ls 6 [(0, .ref x0), (1, .int x1), (4, .int x4), (5, .int x5)] → p_X8_readNumbers_j135 V g x0 x1 x4 x5 t0 t1 t2 f = some o → W p l e rm_X8_readNumbers s m args below meth c H locs 0 0 (MQ below (g_Wv V D cT o n) args s 0 0 (g_A V)) (F0 m 135 ls [.int t0, .int t1, .ref t2]) := by
            intro x0 x1 x4 x5 t0 t1 t2 f H locs ls hI hl hq
            unfold p_X8_readNumbers_j135 at hq
            obtain ⟨f7, ef7, hq⟩ := b_s hq
            refine fa_si hx hb hI ef7 dX8_readNumbers_135 (fun H locs hI => ?_)
            refine lv_aload_n hx hb dX8_readNumbers_136 rfl (lv_at hl 0 rfl) ?_
            obtain ⟨v8, ev8, hq⟩ := b_s hq
            refine fa_gr (own := RX8) (ref := "CoastlineRulerModel") (k := 23) hx hb hB inB_RX8 hown hI rfl (by decide) m_1554 (fun _ h9 => h9) ev8 dX8_readNumbers_137 ?_
            refine lv_iload_n hx hb dX8_readNumbers_140 rfl (lv_at hl 1 rfl) ?_
            refine lv_iconst (v := (4 : Int32)) hx hb dX8_readNumbers_141 (by decide) ?_
            refine lv_iadd hx hb dX8_readNumbers_142 ?_
            refine lv_iload hx hb dX8_readNumbers_143 (lv_at hl 3 rfl) ?_
            refine lv_if_eq (tgt := 157) hx hb dX8_readNumbers_145 (by decide) (fun c9 => ?_) (fun c9 => ?_)
            · replace hq := i_t c9 hq
              refine lv_iconst (v := (0 : Int32)) hx hb dX8_readNumbers_157 (by decide) ?_
              obtain ⟨f10, ef10, hq⟩ := b_s hq
              refine fa_si hx hb hI ef10 dX8_readNumbers_158 (fun H locs hI => ?_)
              exact ge_Wv hx hb hlocks hr hI (Option.some.inj hq) dX8_readNumbers_159
            · replace hq := i_f c9 hq
              refine lv_aload_n hx hb dX8_readNumbers_148 rfl (lv_at hl 0 rfl) ?_
              refine lv_iload hx hb dX8_readNumbers_149 (lv_at hl 2 rfl) ?_
              obtain ⟨v11, ev11, hq⟩ := b_s hq
              refine gw_i (g_runV (As := [.int x4]) (rest := [.int (x1 + (4 : Int32)), .ref v8]) (ci := 10) hC (c_X8_readSigned l V g D cT f7 n x0 x4 v11 ev11) k_X8_readSigned m_2156 rfl rfl ⟨Nat.le_of_ble_eq_true rfl, Nat.le_of_ble_eq_true rfl⟩ hI rfl rfl (h_me_eq ev11).1 rfl hl.1 rfl (Nat.le_of_ble_eq_true rfl) dX8_readNumbers_151 ⟨by decide, by decide⟩) hI (fun H locs hI => ?_)
              refine lv_goto (tgt := 158) hx hb dX8_readNumbers_154 (by decide) ?_
              obtain ⟨f12, ef12, hq⟩ := b_s hq
              refine fa_si hx hb hI ef12 dX8_readNumbers_158 (fun H locs hI => ?_)
              exact ge_Wv hx hb hlocks hr hI (Option.some.inj hq) dX8_readNumbers_159
          refine lv_if_eq (tgt := 134) hx hb dX8_readNumbers_122 (by decide) (fun c13 => ?_) (fun c13 => ?_)
          · replace hq := i_t c13 hq
            refine lv_iconst (v := (0 : Int32)) hx hb dX8_readNumbers_134 (by decide) ?_
            exact hj135 x0 x1 x4 t0 (0 : Int32) (x1 + (3 : Int32)) v6 f H locs ls hI (lv_sub hl [1, 2, 3, 0] rfl) hq
          · replace hq := i_f c13 hq
            refine lv_aload_n hx hb dX8_readNumbers_125 rfl (lv_at hl 1 rfl) ?_
            refine lv_iload hx hb dX8_readNumbers_126 (lv_at hl 3 rfl) ?_
            obtain ⟨v14, ev14, hq⟩ := b_s hq
            refine gw_i (g_runV (As := [.int x4]) (rest := [.int (x1 + (3 : Int32)), .ref v6]) (ci := 10) hC (c_X8_readSigned l V g D cT f n x0 x4 v14 ev14) k_X8_readSigned m_2156 rfl rfl ⟨Nat.le_of_ble_eq_true rfl, Nat.le_of_ble_eq_true rfl⟩ hI rfl rfl (h_me_eq ev14).1 rfl hl.1 rfl (Nat.le_of_ble_eq_true rfl) dX8_readNumbers_128 ⟨by decide, by decide⟩) hI (fun H locs hI => ?_)
            refine lv_goto (tgt := 135) hx hb dX8_readNumbers_131 (by decide) ?_
            exact hj135 x0 x1 x4 t0 v14.1 (x1 + (3 : Int32)) v6 v14.2 H locs ls hI (lv_sub hl [1, 2, 3, 0] rfl) hq
        have hj106 : ∀ (x0 : Nat) (x1 : Int32) (x4 : Int32) (f : GH) (H : Heap) (locs : List Loc) (ls : Array Slot), g_at (g_A V) V g D cT f n s H locs → lv_has ls 6 [(0, .ref x0), (1, .int x1), (4, .int x4)] → p_X8_readNumbers_j106 V g (p_X8_readNumbers_j111 V g) x0 x1 x4 f = some o → W p l e rm_X8_readNumbers s m args below meth c H locs 0 0 (MQ below (g_Wv V D cT o n) args s 0 0 (g_A V)) (F0 m 106 ls []) := by
          intro x0 x1 x4 f H locs ls hI hl hq
          unfold p_X8_readNumbers_j106 at hq
          refine lv_iconst (v := (1 : Int32)) hx hb dX8_readNumbers_106 (by decide) ?_
          refine lv_goto (tgt := 111) hx hb dX8_readNumbers_107 (by decide) ?_
          exact hj111 x0 x1 x4 (1 : Int32) f H locs ls hI (lv_sub hl [0, 1, 2] rfl) hq
        refine lv_icmp_eq (tgt := 106) hx hb dX8_readNumbers_92 (by decide) (fun c15 => ?_) (fun c15 => ?_)
        · replace hq := i_t c15 hq
          exact hj106 x0 x1 t0 f H locs ls hI (lv_sub hl [1, 2, 0] rfl) hq
        · replace hq := i_f c15 hq
          refine lv_iload_n hx hb dX8_readNumbers_95 rfl (lv_at hl 3 rfl) ?_
          refine lv_iconst (v := (4 : Int32)) hx hb dX8_readNumbers_96 (by decide) ?_
          refine lv_icmp_eq (tgt := 106) hx hb dX8_readNumbers_97 (by decide) (fun c16 => ?_) (fun c16 => ?_)
          · replace hq := i_t c16 hq
            exact hj106 x0 x1 t0 f H locs ls hI (lv_sub hl [1, 2, 0] rfl) hq
          · replace hq := i_f c16 hq
            refine lv_iload_n hx hb dX8_readNumbers_100 rfl (lv_at hl 3 rfl) ?_
            refine lv_bipush (v := (6 : Int32)) hx hb dX8_readNumbers_101 (by decide) ?_
            refine lv_icmp_ne (tgt := 110) hx hb dX8_readNumbers_103 (by decide) (fun c17 => ?_) (fun c17 => ?_)
            · replace hq := i_f c17 hq
              refine lv_iconst (v := (0 : Int32)) hx hb dX8_readNumbers_110 (by decide) ?_
              exact hj111 x0 x1 t0 (0 : Int32) f H locs ls hI (lv_sub hl [1, 2, 0] rfl) hq
            · replace hq := i_t c17 hq
              exact hj106 x0 x1 t0 f H locs ls hI (lv_sub hl [1, 2, 0] rfl) hq
      refine lv_icmp_ne (tgt := 85) hx hb dX8_readNumbers_76 (by decide) (fun c18 => ?_) (fun c18 => ?_)
      · replace hq := i_f c18 hq
        refine lv_sipush (v := (1000 : Int32)) hx hb dX8_readNumbers_85 (by decide) ?_
        exact hj88 x0 x1 x2 (1000 : Int32) f5 H locs ls hI (lv_sub hl [0, 1, 2] rfl) hq
      · replace hq := i_t c18 hq
        refine lv_sipush (v := (2000 : Int32)) hx hb dX8_readNumbers_79 (by decide) ?_
        refine lv_goto (tgt := 88) hx hb dX8_readNumbers_82 (by decide) ?_
        exact hj88 x0 x1 x2 (2000 : Int32) f5 H locs ls hI (lv_sub hl [0, 1, 2] rfl) hq
    refine lv_if_eq (tgt := 57) hx hb dX8_readNumbers_43 (by decide) (fun c19 => ?_) (fun c19 => ?_)
    · replace hq := i_t c19 hq
      refine lv_iload_n hx hb dX8_readNumbers_57 rfl (lv_at hl 3 rfl) ?_
      refine lv_iconst (v := (1 : Int32)) hx hb dX8_readNumbers_58 (by decide) ?_
      refine lv_icmp_ne (tgt := 71) hx hb dX8_readNumbers_59 (by decide) (fun c20 => ?_) (fun c20 => ?_)
      · replace hq := i_f c20 hq
        refine lv_iconst (v := (0 : Int32)) hx hb dX8_readNumbers_71 (by decide) ?_
        exact hj72 x0 x1 x2 (0 : Int32) (x1 + (2 : Int32)) v4 f H locs ls hI (lv_sub hl [1, 2, 3] rfl) hq
      · replace hq := i_t c20 hq
        refine lv_aload_n hx hb dX8_readNumbers_62 rfl (lv_at hl 1 rfl) ?_
        refine lv_bipush (v := (50 : Int32)) hx hb dX8_readNumbers_63 (by decide) ?_
        obtain ⟨v21, ev21, hq⟩ := b_s hq
        refine gw_i (g_runV (As := [.int (50 : Int32)]) (rest := [.int (x1 + (2 : Int32)), .ref v4]) (ci := 10) hC (c_X8_readSigned l V g D cT f n x0 (50 : Int32) v21 ev21) k_X8_readSigned m_2156 rfl rfl ⟨Nat.le_of_ble_eq_true rfl, Nat.le_of_ble_eq_true rfl⟩ hI rfl rfl (h_me_eq ev21).1 rfl hl.1 rfl (Nat.le_of_ble_eq_true rfl) dX8_readNumbers_65 ⟨by decide, by decide⟩) hI (fun H locs hI => ?_)
        refine lv_goto (tgt := 72) hx hb dX8_readNumbers_68 (by decide) ?_
        exact hj72 x0 x1 x2 v21.1 (x1 + (2 : Int32)) v4 v21.2 H locs ls hI (lv_sub hl [1, 2, 3] rfl) hq
    · replace hq := i_f c19 hq
      refine lv_aload_n hx hb dX8_readNumbers_46 rfl (lv_at hl 1 rfl) ?_
      refine lv_iconst (v := (0 : Int32)) hx hb dX8_readNumbers_47 (by decide) ?_
      refine lv_sipush (v := (128 : Int32)) hx hb dX8_readNumbers_48 (by decide) ?_
      obtain ⟨v22, ev22, hq⟩ := b_s hq
      refine gw_i (g_runV (As := [.int (0 : Int32), .int (128 : Int32)]) (rest := [.int (x1 + (2 : Int32)), .ref v4]) (ci := 10) hC (c_X8_readNumber l V g D cT f n x0 (0 : Int32) (128 : Int32) v22 ev22) k_X8_readNumber m_2160 rfl rfl ⟨Nat.le_of_ble_eq_true rfl, Nat.le_of_ble_eq_true rfl⟩ hI rfl rfl (h_me_eq ev22).1 rfl hl.1 rfl (Nat.le_of_ble_eq_true rfl) dX8_readNumbers_51 ⟨by decide, by decide⟩) hI (fun H locs hI => ?_)
      refine lv_goto (tgt := 72) hx hb dX8_readNumbers_54 (by decide) ?_
      exact hj72 x0 x1 x2 v22.1 (x1 + (2 : Int32)) v4 v22.2 H locs ls hI (lv_sub hl [1, 2, 3] rfl) hq
  have hj29 : ∀ (x0 : Nat) (x1 : Int32) (x2 : Int32) (f : GH) (H : Heap) (locs : List Loc) (ls : Array Slot), g_at (g_A V) V g D cT f n s H locs → lv_has ls 6 [(0, .ref x0), (1, .int x1), (2, .int x2)] → p_X8_readNumbers_j29 V g (p_X8_readNumbers_j34 V g) x0 x1 x2 f = some o → W p l e rm_X8_readNumbers s m args below meth c H locs 0 0 (MQ below (g_Wv V D cT o n) args s 0 0 (g_A V)) (F0 m 29 ls []) := by
    intro x0 x1 x2 f H locs ls hI hl hq
    unfold p_X8_readNumbers_j29 at hq
    refine lv_iconst (v := (1 : Int32)) hx hb dX8_readNumbers_29 (by decide) ?_
    refine lv_goto (tgt := 34) hx hb dX8_readNumbers_30 (by decide) ?_
    exact hj34 x0 x1 x2 (1 : Int32) f H locs ls hI (lv_sub hl [0, 1, 2] rfl) hq
  refine lv_icmp_eq (tgt := 29) hx hb dX8_readNumbers_16 (by decide) (fun c23 => ?_) (fun c23 => ?_)
  · replace hq := i_t c23 hq
    exact hj29 a0 a1 a2 f3 H locs ls hI (lv_sub hl [0, 1, 2] rfl) hq
  · replace hq := i_f c23 hq
    refine lv_iload_n hx hb dX8_readNumbers_19 rfl (lv_at hl 2 rfl) ?_
    refine lv_iconst (v := (4 : Int32)) hx hb dX8_readNumbers_20 (by decide) ?_
    refine lv_icmp_eq (tgt := 29) hx hb dX8_readNumbers_21 (by decide) (fun c24 => ?_) (fun c24 => ?_)
    · replace hq := i_t c24 hq
      exact hj29 a0 a1 a2 f3 H locs ls hI (lv_sub hl [0, 1, 2] rfl) hq
    · replace hq := i_f c24 hq
      refine lv_iload_n hx hb dX8_readNumbers_24 rfl (lv_at hl 2 rfl) ?_
      refine lv_iconst (v := (5 : Int32)) hx hb dX8_readNumbers_25 (by decide) ?_
      refine lv_icmp_ne (tgt := 33) hx hb dX8_readNumbers_26 (by decide) (fun c25 => ?_) (fun c25 => ?_)
      · replace hq := i_f c25 hq
        refine lv_iconst (v := (0 : Int32)) hx hb dX8_readNumbers_33 (by decide) ?_
        exact hj34 a0 a1 a2 (0 : Int32) f3 H locs ls hI (lv_sub hl [0, 1, 2] rfl) hq
      · replace hq := i_t c25 hq
        exact hj29 a0 a1 a2 f3 H locs ls hI (lv_sub hl [0, 1, 2] rfl) hq

abbrev rm_X8_readOrder : Room := { frames := 11, cells := 0, slots := 0, locals := 312 }
theorem k_X8_readOrder : g_CV yX8_readOrder cX8_readOrder 3 none 0 := ⟨⟨m_2191, m_14, by decide +kernel⟩, m_2190, ms_98⟩
set_option maxHeartbeats 4000000 in
set_option maxRecDepth 100000 in
theorem c_X8_readOrder (l : Launch) (V : Nat → Nat) (g : GH) (D : va_G) (cT : Nat → ClassId) (f : GH) (n : Nat) (a0 : Nat) (o : GH) (hq : p_X8_readOrder V g f a0 = some o) : Met l yX8_readOrder (Cond.code yX8_readOrder cX8_readOrder 3 none :: g_B) rm_X8_readOrder (va_Pc [.ref a0] (g_I V g D cT f n)) (g_Wv V D cT o n) 0 0 (g_A V) := by
  refine g_begin (own := RX8) [.ref a0] [(0, .ref a0)] (g_A V) (fun _ h => h) (by decide) rfl (Nat.le_of_ble_eq_true rfl) rfl ?_
  intro p e s m args below meth c hx hb hr hlocks hin hC hI ls hl
  obtain ⟨hx, hb, hml, hown, hB⟩ := id hC
  obtain ⟨H, hH⟩ : ∃ H, H = s.heap := ⟨_, rfl⟩
  obtain ⟨locs, hlocs⟩ : ∃ L : List Loc, L = [] := ⟨_, rfl⟩
  rw [← hH, ← hlocs] at hI ⊢
  clear hH hlocs
  unfold p_X8_readOrder at hq
  replace hq := (h_me_eq hq).2
  refine lv_aload_n hx hb dX8_readOrder_0 rfl (lv_at hl 0 rfl) ?_
  obtain ⟨v1, ev1, hq⟩ := b_s hq
  refine gr_i (g_runV (As := []) (rest := []) (ci := 10) hC (c_X8_orderHere l V g D cT f n a0 v1 ev1) k_X8_orderHere m_2192 rfl rfl ⟨Nat.le_of_ble_eq_true rfl, Nat.le_of_ble_eq_true rfl⟩ hI rfl rfl (h_me_eq ev1).1 rfl hl.1 rfl (Nat.le_of_ble_eq_true rfl) dX8_readOrder_1 ⟨by decide, by decide⟩) hI (fun H locs hI => ?_)
  refine lv_istore_n (lv' := [(1, .int v1), (0, .ref a0)]) hx hb dX8_readOrder_4 rfl hl (by decide) rfl (fun ls hl => ?_)
  refine lv_aload_n hx hb dX8_readOrder_5 rfl (lv_at hl 1 rfl) ?_
  refine lv_iload_n hx hb dX8_readOrder_6 rfl (lv_at hl 0 rfl) ?_
  refine lv_iconst (v := (-1 : Int32)) hx hb dX8_readOrder_7 (by decide) ?_
  have hj16 : ∀ (x0 : Nat) (x1 : Int32) (t0 : Int32) (t1 : Nat) (f : GH) (H : Heap) (locs : List Loc) (ls : Array Slot), g_at (g_A V) V g D cT f n s H locs → lv_has ls 3 [(0, .ref x0), (1, .int x1)] → p_X8_readOrder_j16 V g x0 x1 t0 t1 f = some o → W p l e rm_X8_readOrder s m args below meth c H locs 0 0 (MQ below (g_Wv V D cT o n) args s 0 0 (g_A V)) (F0 m 16 ls [.int t0, .ref t1]) := by
    intro x0 x1 t0 t1 f H locs ls hI hl hq
    unfold p_X8_readOrder_j16 at hq
    refine lv_iconst (v := (1 : Int32)) hx hb dX8_readOrder_16 (by decide) ?_
    obtain ⟨v2, ev2, hq⟩ := b_s hq
    refine gw_v (g_runV (As := [.int t0, .int (1 : Int32)]) (rest := []) (ci := 10) hC (c_X8_check l V g D cT f n t1 t0 (1 : Int32) v2 ev2) k_X8_check m_2113 rfl rfl ⟨Nat.le_of_ble_eq_true rfl, Nat.le_of_ble_eq_true rfl⟩ hI rfl rfl (h_me_eq ev2).1 rfl hl.1 rfl (Nat.le_of_ble_eq_true rfl) dX8_readOrder_17 ⟨by decide, by decide⟩) hI (fun H locs hI => ?_)
    refine lv_aload_n hx hb dX8_readOrder_20 rfl (lv_at hl 0 rfl) ?_
    refine lv_aload_n hx hb dX8_readOrder_21 rfl (lv_at hl 0 rfl) ?_
    obtain ⟨v3, ev3, hq⟩ := b_s hq
    refine fa_gi (own := RX8) (ref := "CoastlineRulerModel") (k := 18) hx hb hB inB_RX8 hown hI rfl (by decide) m_1549 (fun _ h9 => h9) ev3 dX8_readOrder_22 ?_
    have hj42 : ∀ (x0 : Nat) (x1 : Int32) (t0 : Int32) (t1 : Nat) (f : GH) (H : Heap) (locs : List Loc) (ls : Array Slot), g_at (g_A V) V g D cT f n s H locs → lv_has ls 3 [(0, .ref x0), (1, .int x1)] → p_X8_readOrder_j42 V g x0 x1 t0 t1 f = some o → W p l e rm_X8_readOrder s m args below meth c H locs 0 0 (MQ below (g_Wv V D cT o n) args s 0 0 (g_A V)) (F0 m 42 ls [.int t0, .ref t1]) := by
      intro x0 x1 t0 t1 f H locs ls hI hl hq
      unfold p_X8_readOrder_j42 at hq
      refine lv_iconst (v := (3 : Int32)) hx hb dX8_readOrder_42 (by decide) ?_
      obtain ⟨v4, ev4, hq⟩ := b_s hq
      refine gw_v (g_runV (As := [.int t0, .int (3 : Int32)]) (rest := []) (ci := 10) hC (c_X8_check l V g D cT f n t1 t0 (3 : Int32) v4 ev4) k_X8_check m_2113 rfl rfl ⟨Nat.le_of_ble_eq_true rfl, Nat.le_of_ble_eq_true rfl⟩ hI rfl rfl (h_me_eq ev4).1 rfl hl.1 rfl (Nat.le_of_ble_eq_true rfl) dX8_readOrder_43 ⟨by decide, by decide⟩) hI (fun H locs hI => ?_)
      refine lv_aload_n hx hb dX8_readOrder_46 rfl (lv_at hl 0 rfl) ?_
      obtain ⟨v5, ev5, hq⟩ := b_s hq
      refine fa_gi (own := RX8) (ref := "CoastlineRulerModel") (k := 18) hx hb hB inB_RX8 hown hI rfl (by decide) m_1549 (fun _ h9 => h9) ev5 dX8_readOrder_47 ?_
      refine lv_if_eq (tgt := 54) hx hb dX8_readOrder_50 (by decide) (fun c6 => ?_) (fun c6 => ?_)
      · replace hq := i_t c6 hq
        refine lv_bipush (v := (73 : Int32)) hx hb dX8_readOrder_54 (by decide) ?_
        refine lv_aload_n hx hb dX8_readOrder_56 rfl (lv_at hl 0 rfl) ?_
        obtain ⟨v7, ev7, hq⟩ := b_s hq
        refine fa_gi (own := RX8) (ref := "CoastlineRulerModel") (k := 25) hx hb hB inB_RX8 hown hI rfl (by decide) m_1556 (fun _ h9 => h9) ev7 dX8_readOrder_57 ?_
        refine lv_imul hx hb dX8_readOrder_60 ?_
        refine lv_istore_n (lv' := [(2, .int ((73 : Int32) * v7)), (0, .ref x0), (1, .int x1)]) hx hb dX8_readOrder_61 rfl hl (by decide) rfl (fun ls hl => ?_)
        refine lv_aload_n hx hb dX8_readOrder_62 rfl (lv_at hl 1 rfl) ?_
        obtain ⟨v8, ev8, hq⟩ := b_s hq
        refine fa_gr (own := RX8) (ref := "CoastlineRulerModel") (k := 23) hx hb hB inB_RX8 hown hI rfl (by decide) m_1554 (fun _ h9 => h9) ev8 dX8_readOrder_63 ?_
        refine lv_iload_n hx hb dX8_readOrder_66 rfl (lv_at hl 0 rfl) ?_
        refine lv_iload_n hx hb dX8_readOrder_67 rfl (lv_at hl 2 rfl) ?_
        obtain ⟨f9, ef9, hq⟩ := b_s hq
        refine fa_si hx hb hI ef9 dX8_readOrder_68 (fun H locs hI => ?_)
        refine lv_iload_n hx hb dX8_readOrder_69 rfl (lv_at hl 2 rfl) ?_
        have hj139 : ∀ (x0 : Nat) (f : GH) (H : Heap) (locs : List Loc) (ls : Array Slot), g_at (g_A V) V g D cT f n s H locs → lv_has ls 3 [(0, .ref x0)] → p_X8_readOrder_j139 V g x0 f = some o → W p l e rm_X8_readOrder s m args below meth c H locs 0 0 (MQ below (g_Wv V D cT o n) args s 0 0 (g_A V)) (F0 m 139 ls []) := by
          intro x0 f H locs ls hI hl hq
          unfold p_X8_readOrder_j139 at hq
          refine lv_aload_n hx hb dX8_readOrder_139 rfl (lv_at hl 0 rfl) ?_
          refine lv_bipush (v := (59 : Int32)) hx hb dX8_readOrder_140 (by decide) ?_
          obtain ⟨v10, ev10, hq⟩ := b_s hq
          refine gw_v (g_runV (As := [.int (59 : Int32)]) (rest := []) (ci := 10) hC (c_X8_expect l V g D cT f n x0 (59 : Int32) v10 ev10) k_X8_expect m_2127 rfl rfl ⟨Nat.le_of_ble_eq_true rfl, Nat.le_of_ble_eq_true rfl⟩ hI rfl rfl (h_me_eq ev10).1 rfl hl.1 rfl (Nat.le_of_ble_eq_true rfl) dX8_readOrder_142 ⟨by decide, by decide⟩) hI (fun H locs hI => ?_)
          refine lv_aload_n hx hb dX8_readOrder_145 rfl (lv_at hl 0 rfl) ?_
          refine lv_dup hx hb dX8_readOrder_146 rfl ?_
          obtain ⟨v11, ev11, hq⟩ := b_s hq
          refine fa_gi (own := RX8) (ref := "CoastlineRulerModel") (k := 25) hx hb hB inB_RX8 hown hI rfl (by decide) m_1556 (fun _ h9 => h9) ev11 dX8_readOrder_147 ?_
          refine lv_iconst (v := (1 : Int32)) hx hb dX8_readOrder_150 (by decide) ?_
          refine lv_iadd hx hb dX8_readOrder_151 ?_
          obtain ⟨f12, ef12, hq⟩ := b_s hq
          refine fa_pt (own := RX8) (ref := "CoastlineRulerModel") (k := 25) hx hb hB inB_RX8 tyX8_ok nmX8 hown hI rfl (by decide) m_1556 (fun _ h9 => h9) (by decide) rfl rfl ef12 dX8_readOrder_152 (fun H locs hI => ?_)
          exact ge_Wv hx hb hlocks hr hI (Option.some.inj hq) dX8_readOrder_155
        refine lv_if_ne (tgt := 100) hx hb dX8_readOrder_70 (by decide) (fun c13 => ?_) (fun c13 => ?_)
        · replace hq := i_f c13 hq
          refine lv_aload_n hx hb dX8_readOrder_100 rfl (lv_at hl 1 rfl) ?_
          obtain ⟨v14, ev14, hq⟩ := b_s hq
          refine gw_v (g_runV (As := []) (rest := []) (ci := 10) hC (c_X8_advance l V g D cT f9 n x0 v14 ev14) k_X8_advance m_2117 rfl rfl ⟨Nat.le_of_ble_eq_true rfl, Nat.le_of_ble_eq_true rfl⟩ hI rfl rfl (h_me_eq ev14).1 rfl hl.1 rfl (Nat.le_of_ble_eq_true rfl) dX8_readOrder_101 ⟨by decide, by decide⟩) hI (fun H locs hI => ?_)
          refine lv_iload_n hx hb dX8_readOrder_104 rfl (lv_at hl 2 rfl) ?_
          refine lv_bipush (v := (9 : Int32)) hx hb dX8_readOrder_105 (by decide) ?_
          refine lv_icmp_ne (tgt := 133) hx hb dX8_readOrder_107 (by decide) (fun c15 => ?_) (fun c15 => ?_)
          · replace hq := i_f c15 hq
            refine lv_aload_n hx hb dX8_readOrder_133 rfl (lv_at hl 1 rfl) ?_
            refine lv_iload_n hx hb dX8_readOrder_134 rfl (lv_at hl 0 rfl) ?_
            refine lv_iload_n hx hb dX8_readOrder_135 rfl (lv_at hl 2 rfl) ?_
            obtain ⟨v16, ev16, hq⟩ := b_s hq
            refine gw_v (g_runV (As := [.int ((73 : Int32) * v7), .int x1]) (rest := []) (ci := 10) hC (c_X8_readNumbers l V g D cT v14 n x0 ((73 : Int32) * v7) x1 v16 ev16) k_X8_readNumbers m_2196 rfl rfl ⟨Nat.le_of_ble_eq_true rfl, Nat.le_of_ble_eq_true rfl⟩ hI rfl rfl (h_me_eq ev16).1 rfl hl.1 rfl (Nat.le_of_ble_eq_true rfl) dX8_readOrder_136 ⟨by decide, by decide⟩) hI (fun H locs hI => ?_)
            exact hj139 x0 v16 H locs ls hI (lv_sub hl [1] rfl) hq
          · replace hq := i_t c15 hq
            refine lv_aload_n hx hb dX8_readOrder_110 rfl (lv_at hl 1 rfl) ?_
            obtain ⟨v17, ev17, hq⟩ := b_s hq
            refine fa_gr (own := RX8) (ref := "CoastlineRulerModel") (k := 23) hx hb hB inB_RX8 hown hI rfl (by decide) m_1554 (fun _ h9 => h9) ev17 dX8_readOrder_111 ?_
            refine lv_iload_n hx hb dX8_readOrder_114 rfl (lv_at hl 0 rfl) ?_
            refine lv_iconst (v := (1 : Int32)) hx hb dX8_readOrder_115 (by decide) ?_
            refine lv_iadd hx hb dX8_readOrder_116 ?_
            refine lv_aload_n hx hb dX8_readOrder_117 rfl (lv_at hl 1 rfl) ?_
            obtain ⟨v18, ev18, hq⟩ := b_s hq
            refine gw_i (g_runV (As := []) (rest := [.int (((73 : Int32) * v7) + (1 : Int32)), .ref v17]) (ci := 10) hC (c_X8_readMetric l V g D cT v14 n x0 v18 ev18) k_X8_readMetric m_2121 rfl rfl ⟨Nat.le_of_ble_eq_true rfl, Nat.le_of_ble_eq_true rfl⟩ hI rfl rfl (h_me_eq ev18).1 rfl hl.1 rfl (Nat.le_of_ble_eq_true rfl) dX8_readOrder_118 ⟨by decide, by decide⟩) hI (fun H locs hI => ?_)
            refine lv_if_eq (tgt := 128) hx hb dX8_readOrder_121 (by decide) (fun c19 => ?_) (fun c19 => ?_)
            · replace hq := i_t c19 hq
              refine lv_iconst (v := (0 : Int32)) hx hb dX8_readOrder_128 (by decide) ?_
              obtain ⟨f20, ef20, hq⟩ := b_s hq
              refine fa_si hx hb hI ef20 dX8_readOrder_129 (fun H locs hI => ?_)
              refine lv_goto (tgt := 139) hx hb dX8_readOrder_130 (by decide) ?_
              exact hj139 x0 f20 H locs ls hI (lv_sub hl [1] rfl) hq
            · replace hq := i_f c19 hq
              refine lv_iconst (v := (1 : Int32)) hx hb dX8_readOrder_124 (by decide) ?_
              refine lv_goto (tgt := 129) hx hb dX8_readOrder_125 (by decide) ?_
              obtain ⟨f21, ef21, hq⟩ := b_s hq
              refine fa_si hx hb hI ef21 dX8_readOrder_129 (fun H locs hI => ?_)
              refine lv_goto (tgt := 139) hx hb dX8_readOrder_130 (by decide) ?_
              exact hj139 x0 f21 H locs ls hI (lv_sub hl [1] rfl) hq
        · replace hq := i_t c13 hq
          refine lv_aload_n hx hb dX8_readOrder_73 rfl (lv_at hl 1 rfl) ?_
          obtain ⟨v22, ev22, hq⟩ := b_s hq
          refine gw_v (g_runV (As := []) (rest := []) (ci := 10) hC (c_X8_readCoast l V g D cT f9 n x0 v22 ev22) k_X8_readCoast m_2139 rfl rfl ⟨Nat.le_of_ble_eq_true rfl, Nat.le_of_ble_eq_true rfl⟩ hI rfl rfl (h_me_eq ev22).1 rfl hl.1 rfl (Nat.le_of_ble_eq_true rfl) dX8_readOrder_74 ⟨by decide, by decide⟩) hI (fun H locs hI => ?_)
          refine lv_aload_n hx hb dX8_readOrder_77 rfl (lv_at hl 1 rfl) ?_
          obtain ⟨v23, ev23, hq⟩ := b_s hq
          refine fa_gr (own := RX8) (ref := "CoastlineRulerModel") (k := 22) hx hb hB inB_RX8 hown hI rfl (by decide) m_1553 (fun _ h9 => h9) ev23 dX8_readOrder_78 ?_
          refine lv_iconst (v := (0 : Int32)) hx hb dX8_readOrder_81 (by decide) ?_
          refine lv_aload_n hx hb dX8_readOrder_82 rfl (lv_at hl 1 rfl) ?_
          obtain ⟨v24, ev24, hq⟩ := b_s hq
          refine fa_gr (own := RX8) (ref := "CoastlineRulerModel") (k := 23) hx hb hB inB_RX8 hown hI rfl (by decide) m_1554 (fun _ h9 => h9) ev24 dX8_readOrder_83 ?_
          refine lv_iload_n hx hb dX8_readOrder_86 rfl (lv_at hl 0 rfl) ?_
          refine lv_iconst (v := (5 : Int32)) hx hb dX8_readOrder_87 (by decide) ?_
          refine lv_iadd hx hb dX8_readOrder_88 ?_
          refine lv_aload_n hx hb dX8_readOrder_89 rfl (lv_at hl 1 rfl) ?_
          obtain ⟨v25, ev25, hq⟩ := b_s hq
          refine fa_gr (own := RX8) (ref := "CoastlineRulerModel") (k := 22) hx hb hB inB_RX8 hown hI rfl (by decide) m_1553 (fun _ h9 => h9) ev25 dX8_readOrder_90 ?_
          obtain ⟨v26, ev26, hq⟩ := b_s hq
          refine fa_al hx hb hI (by decide) ev26 dX8_readOrder_93 ?_
          obtain ⟨f27, ef27, hq⟩ := b_s hq
          refine fa_cp (own := RX8) hx hb (hml.trans hl.1.symm) hB hown m_1518 m_252 m_251 m_13 hI ef27 (by decide) (by decide) dX8_readOrder_94 (fun H locs hI => ?_)
          refine lv_goto (tgt := 139) hx hb dX8_readOrder_97 (by decide) ?_
          exact hj139 x0 f27 H locs ls hI (lv_sub hl [1] rfl) hq
      · replace hq := i_f c6 hq
        exact ge_Wv hx hb hlocks hr hI (Option.some.inj hq) dX8_readOrder_53
    have hj37 : ∀ (x0 : Nat) (x1 : Int32) (t0 : Nat) (f : GH) (H : Heap) (locs : List Loc) (ls : Array Slot), g_at (g_A V) V g D cT f n s H locs → lv_has ls 3 [(0, .ref x0), (1, .int x1)] → p_X8_readOrder_j37 V g (p_X8_readOrder_j42 V g) x0 x1 t0 f = some o → W p l e rm_X8_readOrder s m args below meth c H locs 0 0 (MQ below (g_Wv V D cT o n) args s 0 0 (g_A V)) (F0 m 37 ls [.ref t0]) := by
      intro x0 x1 t0 f H locs ls hI hl hq
      unfold p_X8_readOrder_j37 at hq
      refine lv_iconst (v := (1 : Int32)) hx hb dX8_readOrder_37 (by decide) ?_
      refine lv_goto (tgt := 42) hx hb dX8_readOrder_38 (by decide) ?_
      exact hj42 x0 x1 (1 : Int32) t0 f H locs ls hI (lv_sub hl [0, 1] rfl) hq
    refine lv_if_ne (tgt := 37) hx hb dX8_readOrder_25 (by decide) (fun c28 => ?_) (fun c28 => ?_)
    · replace hq := i_f c28 hq
      exact hj37 x0 x1 x0 v2 H locs ls hI (lv_sub hl [0, 1] rfl) hq
    · replace hq := i_t c28 hq
      refine lv_aload_n hx hb dX8_readOrder_28 rfl (lv_at hl 0 rfl) ?_
      obtain ⟨v29, ev29, hq⟩ := b_s hq
      refine fa_gi (own := RX8) (ref := "CoastlineRulerModel") (k := 25) hx hb hB inB_RX8 hown hI rfl (by decide) m_1556 (fun _ h9 => h9) ev29 dX8_readOrder_29 ?_
      refine lv_bipush (v := (20 : Int32)) hx hb dX8_readOrder_32 (by decide) ?_
      refine lv_icmp_ge (tgt := 41) hx hb dX8_readOrder_34 (by decide) (fun c30 => ?_) (fun c30 => ?_)
      · replace hq := i_t c30 hq
        refine lv_iconst (v := (0 : Int32)) hx hb dX8_readOrder_41 (by decide) ?_
        exact hj42 x0 x1 (0 : Int32) x0 v2 H locs ls hI (lv_sub hl [0, 1] rfl) hq
      · replace hq := i_f c30 hq
        exact hj37 x0 x1 x0 v2 H locs ls hI (lv_sub hl [0, 1] rfl) hq
  refine lv_icmp_eq (tgt := 15) hx hb dX8_readOrder_8 (by decide) (fun c31 => ?_) (fun c31 => ?_)
  · replace hq := i_t c31 hq
    refine lv_iconst (v := (0 : Int32)) hx hb dX8_readOrder_15 (by decide) ?_
    exact hj16 a0 v1 (0 : Int32) a0 f H locs ls hI (lv_sub hl [1, 0] rfl) hq
  · replace hq := i_f c31 hq
    refine lv_iconst (v := (1 : Int32)) hx hb dX8_readOrder_11 (by decide) ?_
    refine lv_goto (tgt := 16) hx hb dX8_readOrder_12 (by decide) ?_
    exact hj16 a0 v1 (1 : Int32) a0 f H locs ls hI (lv_sub hl [1, 0] rfl) hq

abbrev rm_X8_does : Room := { frames := 8, cells := 0, slots := 0, locals := 260 }
theorem k_X8_does : g_CV yX8_does cX8_does 4 (some .int) 1 := ⟨⟨m_2203, m_14, by decide +kernel⟩, m_2202, ms_101⟩
set_option maxHeartbeats 4000000 in
set_option maxRecDepth 100000 in
theorem c_X8_does (l : Launch) (V : Nat → Nat) (g : GH) (D : va_G) (cT : Nat → ClassId) (f : GH) (n : Nat) (a0 : Nat) (a1 : Int32) (o : Int32 × GH) (hq : p_X8_does V g f a0 a1 = some o) : Met l yX8_does (Cond.code yX8_does cX8_does 4 (some .int) :: g_B) rm_X8_does (va_Pc [.ref a0, .int a1] (g_I V g D cT f n)) (g_Wi V D cT o.1 o.2 n) 0 0 (g_A V) := by
  refine g_begin (own := RX8) [.ref a0, .int a1] [(0, .ref a0), (1, .int a1)] (g_A V) (fun _ h => h) (by decide) rfl (Nat.le_of_ble_eq_true rfl) rfl ?_
  intro p e s m args below meth c hx hb hr hlocks hin hC hI ls hl
  obtain ⟨hx, hb, hml, hown, hB⟩ := id hC
  obtain ⟨H, hH⟩ : ∃ H, H = s.heap := ⟨_, rfl⟩
  obtain ⟨locs, hlocs⟩ : ∃ L : List Loc, L = [] := ⟨_, rfl⟩
  rw [← hH, ← hlocs] at hI ⊢
  clear hH hlocs
  unfold p_X8_does at hq
  replace hq := (h_me_eq hq).2
  refine lv_aload_n hx hb dX8_does_0 rfl (lv_at hl 0 rfl) ?_
  obtain ⟨v1, ev1, hq⟩ := b_s hq
  refine fa_gr (own := RX8) (ref := "CoastlineRulerModel") (k := 23) hx hb hB inB_RX8 hown hI rfl (by decide) m_1554 (fun _ h9 => h9) ev1 dX8_does_1 ?_
  refine lv_iload_n hx hb dX8_does_4 rfl (lv_at hl 1 rfl) ?_
  refine lv_iconst (v := (1 : Int32)) hx hb dX8_does_5 (by decide) ?_
  refine lv_iadd hx hb dX8_does_6 ?_
  obtain ⟨v2, ev2, hq⟩ := b_s hq
  refine fa_li hx hb hI ev2 dX8_does_7 ?_
  refine lv_istore_n (lv' := [(2, .int v2), (0, .ref a0), (1, .int a1)]) hx hb dX8_does_8 rfl hl (by decide) rfl (fun ls hl => ?_)
  refine lv_aload_n hx hb dX8_does_9 rfl (lv_at hl 1 rfl) ?_
  obtain ⟨v3, ev3, hq⟩ := b_s hq
  refine fa_gr (own := RX8) (ref := "CoastlineRulerModel") (k := 23) hx hb hB inB_RX8 hown hI rfl (by decide) m_1554 (fun _ h9 => h9) ev3 dX8_does_10 ?_
  refine lv_iload_n hx hb dX8_does_13 rfl (lv_at hl 2 rfl) ?_
  refine lv_iconst (v := (2 : Int32)) hx hb dX8_does_14 (by decide) ?_
  refine lv_iadd hx hb dX8_does_15 ?_
  obtain ⟨v4, ev4, hq⟩ := b_s hq
  refine fa_li hx hb hI ev4 dX8_does_16 ?_
  refine lv_istore_n (lv' := [(3, .int v4), (2, .int v2), (0, .ref a0), (1, .int a1)]) hx hb dX8_does_17 rfl hl (by decide) rfl (fun ls hl => ?_)
  refine lv_aload_n hx hb dX8_does_18 rfl (lv_at hl 2 rfl) ?_
  obtain ⟨v5, ev5, hq⟩ := b_s hq
  refine fa_gr (own := RX8) (ref := "CoastlineRulerModel") (k := 23) hx hb hB inB_RX8 hown hI rfl (by decide) m_1554 (fun _ h9 => h9) ev5 dX8_does_19 ?_
  refine lv_iload_n hx hb dX8_does_22 rfl (lv_at hl 3 rfl) ?_
  obtain ⟨v6, ev6, hq⟩ := b_s hq
  refine fa_li hx hb hI ev6 dX8_does_23 ?_
  by_cases c7_0 : v6 = (0 : Int32)
  · replace hq := i_t c7_0 hq
    refine lv_tableIn (off := 52) (tgt := 76) hx hb dX8_does_24 (by rw [c7_0]; decide) (by rw [c7_0]; decide) (by rw [c7_0]; decide) (by decide) ?_
    refine lv_aload_n hx hb dX8_does_76 rfl (lv_at hl 2 rfl) ?_
    obtain ⟨v8, ev8, hq⟩ := b_s hq
    refine fa_gr (own := RX8) (ref := "CoastlineRulerModel") (k := 23) hx hb hB inB_RX8 hown hI rfl (by decide) m_1554 (fun _ h9 => h9) ev8 dX8_does_77 ?_
    refine lv_iload_n hx hb dX8_does_80 rfl (lv_at hl 3 rfl) ?_
    refine lv_iconst (v := (5 : Int32)) hx hb dX8_does_81 (by decide) ?_
    refine lv_iadd hx hb dX8_does_82 ?_
    refine lv_aload_n hx hb dX8_does_83 rfl (lv_at hl 2 rfl) ?_
    obtain ⟨v9, ev9, hq⟩ := b_s hq
    refine fa_gr (own := RX8) (ref := "CoastlineRulerModel") (k := 22) hx hb hB inB_RX8 hown hI rfl (by decide) m_1553 (fun _ h9 => h9) ev9 dX8_does_84 ?_
    refine lv_iconst (v := (0 : Int32)) hx hb dX8_does_87 (by decide) ?_
    refine lv_aload_n hx hb dX8_does_88 rfl (lv_at hl 2 rfl) ?_
    obtain ⟨v10, ev10, hq⟩ := b_s hq
    refine fa_gr (own := RX8) (ref := "CoastlineRulerModel") (k := 22) hx hb hB inB_RX8 hown hI rfl (by decide) m_1553 (fun _ h9 => h9) ev10 dX8_does_89 ?_
    obtain ⟨v11, ev11, hq⟩ := b_s hq
    refine fa_al hx hb hI (by decide) ev11 dX8_does_92 ?_
    obtain ⟨f12, ef12, hq⟩ := b_s hq
    refine fa_cp (own := RX8) hx hb (hml.trans hl.1.symm) hB hown m_1518 m_252 m_251 m_13 hI ef12 (by decide) (by decide) dX8_does_93 (fun H locs hI => ?_)
    refine lv_aload_n hx hb dX8_does_96 rfl (lv_at hl 2 rfl) ?_
    obtain ⟨v13, ev13, hq⟩ := b_s hq
    refine gw_i (g_runV (As := []) (rest := []) (ci := 10) hC (c_X8_doAdd l V g D cT f12 n a0 v13 ev13) k_X8_doAdd m_2180 rfl rfl ⟨Nat.le_of_ble_eq_true rfl, Nat.le_of_ble_eq_true rfl⟩ hI rfl rfl (h_me_eq ev13).1 rfl hl.1 rfl (Nat.le_of_ble_eq_true rfl) dX8_does_97 ⟨by decide, by decide⟩) hI (fun H locs hI => ?_)
    exact ge_Wi hx hb hlocks hr rfl hI (congrArg (fun z => z.1) (Option.some.inj hq)) (congrArg (fun z => z.2) (Option.some.inj hq)) dX8_does_100
  · replace hq := i_f c7_0 hq
    by_cases c7_1 : v6 = (1 : Int32)
    · replace hq := i_t c7_1 hq
      refine lv_tableIn (off := 77) (tgt := 101) hx hb dX8_does_24 (by rw [c7_1]; decide) (by rw [c7_1]; decide) (by rw [c7_1]; decide) (by decide) ?_
      refine lv_aload_n hx hb dX8_does_101 rfl (lv_at hl 2 rfl) ?_
      refine lv_iload_n hx hb dX8_does_102 rfl (lv_at hl 1 rfl) ?_
      refine lv_iload_n hx hb dX8_does_103 rfl (lv_at hl 0 rfl) ?_
      obtain ⟨v14, ev14, hq⟩ := b_s hq
      refine gw_i (g_runV (As := [.int v2, .int v4]) (rest := []) (ci := 10) hC (c_X8_doFold l V g D cT f n a0 v2 v4 v14 ev14) k_X8_doFold m_1963 rfl rfl ⟨Nat.le_of_ble_eq_true rfl, Nat.le_of_ble_eq_true rfl⟩ hI rfl rfl (h_me_eq ev14).1 rfl hl.1 rfl (Nat.le_of_ble_eq_true rfl) dX8_does_104 ⟨by decide, by decide⟩) hI (fun H locs hI => ?_)
      exact ge_Wi hx hb hlocks hr rfl hI (congrArg (fun z => z.1) (Option.some.inj hq)) (congrArg (fun z => z.2) (Option.some.inj hq)) dX8_does_107
    · replace hq := i_f c7_1 hq
      by_cases c7_2 : v6 = (2 : Int32)
      · replace hq := i_t c7_2 hq
        refine lv_tableIn (off := 84) (tgt := 108) hx hb dX8_does_24 (by rw [c7_2]; decide) (by rw [c7_2]; decide) (by rw [c7_2]; decide) (by decide) ?_
        refine lv_aload_n hx hb dX8_does_108 rfl (lv_at hl 2 rfl) ?_
        refine lv_iload_n hx hb dX8_does_109 rfl (lv_at hl 1 rfl) ?_
        obtain ⟨v15, ev15, hq⟩ := b_s hq
        refine gw_i (g_runV (As := [.int v2]) (rest := []) (ci := 10) hC (c_X8_doUnfold l V g D cT f n a0 v2 v15 ev15) k_X8_doUnfold m_1971 rfl rfl ⟨Nat.le_of_ble_eq_true rfl, Nat.le_of_ble_eq_true rfl⟩ hI rfl rfl (h_me_eq ev15).1 rfl hl.1 rfl (Nat.le_of_ble_eq_true rfl) dX8_does_110 ⟨by decide, by decide⟩) hI (fun H locs hI => ?_)
        exact ge_Wi hx hb hlocks hr rfl hI (congrArg (fun z => z.1) (Option.some.inj hq)) (congrArg (fun z => z.2) (Option.some.inj hq)) dX8_does_113
      · replace hq := i_f c7_2 hq
        by_cases c7_3 : v6 = (3 : Int32)
        · replace hq := i_t c7_3 hq
          refine lv_tableIn (off := 90) (tgt := 114) hx hb dX8_does_24 (by rw [c7_3]; decide) (by rw [c7_3]; decide) (by rw [c7_3]; decide) (by decide) ?_
          refine lv_aload_n hx hb dX8_does_114 rfl (lv_at hl 2 rfl) ?_
          refine lv_iload_n hx hb dX8_does_115 rfl (lv_at hl 1 rfl) ?_
          refine lv_iload_n hx hb dX8_does_116 rfl (lv_at hl 0 rfl) ?_
          refine lv_aload_n hx hb dX8_does_117 rfl (lv_at hl 2 rfl) ?_
          obtain ⟨v16, ev16, hq⟩ := b_s hq
          refine fa_gr (own := RX8) (ref := "CoastlineRulerModel") (k := 23) hx hb hB inB_RX8 hown hI rfl (by decide) m_1554 (fun _ h9 => h9) ev16 dX8_does_118 ?_
          refine lv_iload_n hx hb dX8_does_121 rfl (lv_at hl 3 rfl) ?_
          refine lv_iconst (v := (3 : Int32)) hx hb dX8_does_122 (by decide) ?_
          refine lv_iadd hx hb dX8_does_123 ?_
          obtain ⟨v17, ev17, hq⟩ := b_s hq
          refine fa_li hx hb hI ev17 dX8_does_124 ?_
          refine lv_aload_n hx hb dX8_does_125 rfl (lv_at hl 2 rfl) ?_
          obtain ⟨v18, ev18, hq⟩ := b_s hq
          refine fa_gr (own := RX8) (ref := "CoastlineRulerModel") (k := 23) hx hb hB inB_RX8 hown hI rfl (by decide) m_1554 (fun _ h9 => h9) ev18 dX8_does_126 ?_
          refine lv_iload_n hx hb dX8_does_129 rfl (lv_at hl 3 rfl) ?_
          refine lv_iconst (v := (4 : Int32)) hx hb dX8_does_130 (by decide) ?_
          refine lv_iadd hx hb dX8_does_131 ?_
          obtain ⟨v19, ev19, hq⟩ := b_s hq
          refine fa_li hx hb hI ev19 dX8_does_132 ?_
          obtain ⟨v20, ev20, hq⟩ := b_s hq
          refine gw_i (g_runV (As := [.int v2, .int v4, .int v17, .int v19]) (rest := []) (ci := 10) hC (c_X8_doMove l V g D cT f n a0 v2 v4 v17 v19 v20 ev20) k_X8_doMove m_1979 rfl rfl ⟨Nat.le_of_ble_eq_true rfl, Nat.le_of_ble_eq_true rfl⟩ hI rfl rfl (h_me_eq ev20).1 rfl hl.1 rfl (Nat.le_of_ble_eq_true rfl) dX8_does_133 ⟨by decide, by decide⟩) hI (fun H locs hI => ?_)
          exact ge_Wi hx hb hlocks hr rfl hI (congrArg (fun z => z.1) (Option.some.inj hq)) (congrArg (fun z => z.2) (Option.some.inj hq)) dX8_does_136
        · replace hq := i_f c7_3 hq
          by_cases c7_4 : v6 = (4 : Int32)
          · replace hq := i_t c7_4 hq
            refine lv_tableIn (off := 113) (tgt := 137) hx hb dX8_does_24 (by rw [c7_4]; decide) (by rw [c7_4]; decide) (by rw [c7_4]; decide) (by decide) ?_
            refine lv_aload_n hx hb dX8_does_137 rfl (lv_at hl 2 rfl) ?_
            refine lv_iload_n hx hb dX8_does_138 rfl (lv_at hl 1 rfl) ?_
            refine lv_iload_n hx hb dX8_does_139 rfl (lv_at hl 0 rfl) ?_
            refine lv_aload_n hx hb dX8_does_140 rfl (lv_at hl 2 rfl) ?_
            obtain ⟨v21, ev21, hq⟩ := b_s hq
            refine fa_gr (own := RX8) (ref := "CoastlineRulerModel") (k := 23) hx hb hB inB_RX8 hown hI rfl (by decide) m_1554 (fun _ h9 => h9) ev21 dX8_does_141 ?_
            refine lv_iload_n hx hb dX8_does_144 rfl (lv_at hl 3 rfl) ?_
            refine lv_iconst (v := (3 : Int32)) hx hb dX8_does_145 (by decide) ?_
            refine lv_iadd hx hb dX8_does_146 ?_
            obtain ⟨v22, ev22, hq⟩ := b_s hq
            refine fa_li hx hb hI ev22 dX8_does_147 ?_
            refine lv_aload_n hx hb dX8_does_148 rfl (lv_at hl 2 rfl) ?_
            obtain ⟨v23, ev23, hq⟩ := b_s hq
            refine fa_gr (own := RX8) (ref := "CoastlineRulerModel") (k := 23) hx hb hB inB_RX8 hown hI rfl (by decide) m_1554 (fun _ h9 => h9) ev23 dX8_does_149 ?_
            refine lv_iload_n hx hb dX8_does_152 rfl (lv_at hl 3 rfl) ?_
            refine lv_iconst (v := (4 : Int32)) hx hb dX8_does_153 (by decide) ?_
            refine lv_iadd hx hb dX8_does_154 ?_
            obtain ⟨v24, ev24, hq⟩ := b_s hq
            refine fa_li hx hb hI ev24 dX8_does_155 ?_
            obtain ⟨v25, ev25, hq⟩ := b_s hq
            refine gw_i (g_runV (As := [.int v2, .int v4, .int v22, .int v24]) (rest := []) (ci := 10) hC (c_X8_doInsert l V g D cT f n a0 v2 v4 v22 v24 v25 ev25) k_X8_doInsert m_1987 rfl rfl ⟨Nat.le_of_ble_eq_true rfl, Nat.le_of_ble_eq_true rfl⟩ hI rfl rfl (h_me_eq ev25).1 rfl hl.1 rfl (Nat.le_of_ble_eq_true rfl) dX8_does_156 ⟨by decide, by decide⟩) hI (fun H locs hI => ?_)
            exact ge_Wi hx hb hlocks hr rfl hI (congrArg (fun z => z.1) (Option.some.inj hq)) (congrArg (fun z => z.2) (Option.some.inj hq)) dX8_does_159
          · replace hq := i_f c7_4 hq
            by_cases c7_5 : v6 = (5 : Int32)
            · replace hq := i_t c7_5 hq
              refine lv_tableIn (off := 136) (tgt := 160) hx hb dX8_does_24 (by rw [c7_5]; decide) (by rw [c7_5]; decide) (by rw [c7_5]; decide) (by decide) ?_
              refine lv_aload_n hx hb dX8_does_160 rfl (lv_at hl 2 rfl) ?_
              refine lv_iload_n hx hb dX8_does_161 rfl (lv_at hl 1 rfl) ?_
              refine lv_iload_n hx hb dX8_does_162 rfl (lv_at hl 0 rfl) ?_
              obtain ⟨v26, ev26, hq⟩ := b_s hq
              refine gw_i (g_runV (As := [.int v2, .int v4]) (rest := []) (ci := 10) hC (c_X8_doCut l V g D cT f n a0 v2 v4 v26 ev26) k_X8_doCut m_1995 rfl rfl ⟨Nat.le_of_ble_eq_true rfl, Nat.le_of_ble_eq_true rfl⟩ hI rfl rfl (h_me_eq ev26).1 rfl hl.1 rfl (Nat.le_of_ble_eq_true rfl) dX8_does_163 ⟨by decide, by decide⟩) hI (fun H locs hI => ?_)
              exact ge_Wi hx hb hlocks hr rfl hI (congrArg (fun z => z.1) (Option.some.inj hq)) (congrArg (fun z => z.2) (Option.some.inj hq)) dX8_does_166
            · replace hq := i_f c7_5 hq
              by_cases c7_6 : v6 = (6 : Int32)
              · replace hq := i_t c7_6 hq
                refine lv_tableIn (off := 143) (tgt := 167) hx hb dX8_does_24 (by rw [c7_6]; decide) (by rw [c7_6]; decide) (by rw [c7_6]; decide) (by decide) ?_
                refine lv_aload_n hx hb dX8_does_167 rfl (lv_at hl 2 rfl) ?_
                refine lv_iload_n hx hb dX8_does_168 rfl (lv_at hl 1 rfl) ?_
                refine lv_aload_n hx hb dX8_does_169 rfl (lv_at hl 2 rfl) ?_
                obtain ⟨v27, ev27, hq⟩ := b_s hq
                refine fa_gr (own := RX8) (ref := "CoastlineRulerModel") (k := 23) hx hb hB inB_RX8 hown hI rfl (by decide) m_1554 (fun _ h9 => h9) ev27 dX8_does_170 ?_
                refine lv_iload_n hx hb dX8_does_173 rfl (lv_at hl 3 rfl) ?_
                refine lv_iconst (v := (3 : Int32)) hx hb dX8_does_174 (by decide) ?_
                refine lv_iadd hx hb dX8_does_175 ?_
                obtain ⟨v28, ev28, hq⟩ := b_s hq
                refine fa_li hx hb hI ev28 dX8_does_176 ?_
                refine lv_aload_n hx hb dX8_does_177 rfl (lv_at hl 2 rfl) ?_
                obtain ⟨v29, ev29, hq⟩ := b_s hq
                refine fa_gr (own := RX8) (ref := "CoastlineRulerModel") (k := 23) hx hb hB inB_RX8 hown hI rfl (by decide) m_1554 (fun _ h9 => h9) ev29 dX8_does_178 ?_
                refine lv_iload_n hx hb dX8_does_181 rfl (lv_at hl 3 rfl) ?_
                refine lv_iconst (v := (4 : Int32)) hx hb dX8_does_182 (by decide) ?_
                refine lv_iadd hx hb dX8_does_183 ?_
                obtain ⟨v30, ev30, hq⟩ := b_s hq
                refine fa_li hx hb hI ev30 dX8_does_184 ?_
                obtain ⟨v31, ev31, hq⟩ := b_s hq
                refine gw_i (g_runV (As := [.int v2, .int v28, .int v30]) (rest := []) (ci := 10) hC (c_X8_doShift l V g D cT f n a0 v2 v28 v30 v31 ev31) k_X8_doShift m_2006 rfl rfl ⟨Nat.le_of_ble_eq_true rfl, Nat.le_of_ble_eq_true rfl⟩ hI rfl rfl (h_me_eq ev31).1 rfl hl.1 rfl (Nat.le_of_ble_eq_true rfl) dX8_does_185 ⟨by decide, by decide⟩) hI (fun H locs hI => ?_)
                exact ge_Wi hx hb hlocks hr rfl hI (congrArg (fun z => z.1) (Option.some.inj hq)) (congrArg (fun z => z.2) (Option.some.inj hq)) dX8_does_188
              · replace hq := i_f c7_6 hq
                by_cases c7_7 : v6 = (7 : Int32)
                · replace hq := i_t c7_7 hq
                  refine lv_tableIn (off := 165) (tgt := 189) hx hb dX8_does_24 (by rw [c7_7]; decide) (by rw [c7_7]; decide) (by rw [c7_7]; decide) (by decide) ?_
                  refine lv_aload_n hx hb dX8_does_189 rfl (lv_at hl 2 rfl) ?_
                  refine lv_iload_n hx hb dX8_does_190 rfl (lv_at hl 1 rfl) ?_
                  obtain ⟨v32, ev32, hq⟩ := b_s hq
                  refine gw_i (g_runV (As := [.int v2]) (rest := []) (ci := 10) hC (c_X8_doReverse l V g D cT f n a0 v2 v32 ev32) k_X8_doReverse m_2014 rfl rfl ⟨Nat.le_of_ble_eq_true rfl, Nat.le_of_ble_eq_true rfl⟩ hI rfl rfl (h_me_eq ev32).1 rfl hl.1 rfl (Nat.le_of_ble_eq_true rfl) dX8_does_191 ⟨by decide, by decide⟩) hI (fun H locs hI => ?_)
                  exact ge_Wi hx hb hlocks hr rfl hI (congrArg (fun z => z.1) (Option.some.inj hq)) (congrArg (fun z => z.2) (Option.some.inj hq)) dX8_does_194
                · replace hq := i_f c7_7 hq
                  by_cases c7_8 : v6 = (8 : Int32)
                  · replace hq := i_t c7_8 hq
                    refine lv_tableIn (off := 171) (tgt := 195) hx hb dX8_does_24 (by rw [c7_8]; decide) (by rw [c7_8]; decide) (by rw [c7_8]; decide) (by decide) ?_
                    refine lv_aload_n hx hb dX8_does_195 rfl (lv_at hl 2 rfl) ?_
                    refine lv_iload_n hx hb dX8_does_196 rfl (lv_at hl 1 rfl) ?_
                    obtain ⟨v33, ev33, hq⟩ := b_s hq
                    refine gw_i (g_runV (As := [.int v2]) (rest := []) (ci := 10) hC (c_X8_doRemove l V g D cT f n a0 v2 v33 ev33) k_X8_doRemove m_1947 rfl rfl ⟨Nat.le_of_ble_eq_true rfl, Nat.le_of_ble_eq_true rfl⟩ hI rfl rfl (h_me_eq ev33).1 rfl hl.1 rfl (Nat.le_of_ble_eq_true rfl) dX8_does_197 ⟨by decide, by decide⟩) hI (fun H locs hI => ?_)
                    exact ge_Wi hx hb hlocks hr rfl hI (congrArg (fun z => z.1) (Option.some.inj hq)) (congrArg (fun z => z.2) (Option.some.inj hq)) dX8_does_200
                  · replace hq := i_f c7_8 hq
                    have nc7_0 := lv_neT (a := 0) c7_0 rfl
                    have nc7_1 := lv_neT (a := 1) c7_1 rfl
                    have nc7_2 := lv_neT (a := 2) c7_2 rfl
                    have nc7_3 := lv_neT (a := 3) c7_3 rfl
                    have nc7_4 := lv_neT (a := 4) c7_4 rfl
                    have nc7_5 := lv_neT (a := 5) c7_5 rfl
                    have nc7_6 := lv_neT (a := 6) c7_6 rfl
                    have nc7_7 := lv_neT (a := 7) c7_7 rfl
                    have nc7_8 := lv_neT (a := 8) c7_8 rfl
                    refine lv_tableOut (tgt := 201) hx hb dX8_does_24 (by omega) (by decide) ?_
                    refine lv_aload_n hx hb dX8_does_201 rfl (lv_at hl 2 rfl) ?_
                    refine lv_iload_n hx hb dX8_does_202 rfl (lv_at hl 1 rfl) ?_
                    refine lv_iconst (v := (1 : Int32)) hx hb dX8_does_203 (by decide) ?_
                    refine lv_icmp_ne (tgt := 211) hx hb dX8_does_204 (by decide) (fun c34 => ?_) (fun c34 => ?_)
                    · replace hq := i_f c34 hq
                      refine lv_iconst (v := (0 : Int32)) hx hb dX8_does_211 (by decide) ?_
                      obtain ⟨v35, ev35, hq⟩ := b_s hq
                      refine gw_v (g_runV (As := [.int (0 : Int32)]) (rest := []) (ci := 10) hC (c_X8_setMetric l V g D cT f n a0 (0 : Int32) v35 ev35) k_X8_setMetric m_2022 rfl rfl ⟨Nat.le_of_ble_eq_true rfl, Nat.le_of_ble_eq_true rfl⟩ hI rfl rfl (h_me_eq ev35).1 rfl hl.1 rfl (Nat.le_of_ble_eq_true rfl) dX8_does_212 ⟨by decide, by decide⟩) hI (fun H locs hI => ?_)
                      refine lv_iconst (v := (0 : Int32)) hx hb dX8_does_215 (by decide) ?_
                      exact ge_Wi hx hb hlocks hr rfl hI (congrArg (fun z => z.1) (Option.some.inj hq)) (congrArg (fun z => z.2) (Option.some.inj hq)) dX8_does_216
                    · replace hq := i_t c34 hq
                      refine lv_iconst (v := (1 : Int32)) hx hb dX8_does_207 (by decide) ?_
                      refine lv_goto (tgt := 212) hx hb dX8_does_208 (by decide) ?_
                      obtain ⟨v36, ev36, hq⟩ := b_s hq
                      refine gw_v (g_runV (As := [.int (1 : Int32)]) (rest := []) (ci := 10) hC (c_X8_setMetric l V g D cT f n a0 (1 : Int32) v36 ev36) k_X8_setMetric m_2022 rfl rfl ⟨Nat.le_of_ble_eq_true rfl, Nat.le_of_ble_eq_true rfl⟩ hI rfl rfl (h_me_eq ev36).1 rfl hl.1 rfl (Nat.le_of_ble_eq_true rfl) dX8_does_212 ⟨by decide, by decide⟩) hI (fun H locs hI => ?_)
                      refine lv_iconst (v := (0 : Int32)) hx hb dX8_does_215 (by decide) ?_
                      exact ge_Wi hx hb hlocks hr rfl hI (congrArg (fun z => z.1) (Option.some.inj hq)) (congrArg (fun z => z.2) (Option.some.inj hq)) dX8_does_216

abbrev rm_X8_runScript : Room := { frames := 12, cells := 0, slots := 0, locals := 334 }
theorem k_X8_runScript : g_CV yX8_runScript cX8_runScript 3 (some .int) 1 := ⟨⟨m_2187, m_14, by decide +kernel⟩, m_2185, m_2186⟩
set_option maxHeartbeats 4000000 in
set_option maxRecDepth 100000 in
theorem c_X8_runScript (l : Launch) (V : Nat → Nat) (g : GH) (D : va_G) (cT : Nat → ClassId) (f : GH) (n : Nat) (a0 : Nat) (a1 : Int32) (o : Int32 × GH) (hq : p_X8_runScript V g f a0 a1 = some o) : Met l yX8_runScript (Cond.code yX8_runScript cX8_runScript 3 (some .int) :: g_B) rm_X8_runScript (va_Pc [.ref a0, .int a1] (g_I V g D cT f n)) (g_Wi V D cT o.1 o.2 n) 0 0 (g_A V) := by
  refine g_begin (own := RX8) [.ref a0, .int a1] [(0, .ref a0), (1, .int a1)] (g_A V) (fun _ h => h) (by decide) rfl (Nat.le_of_ble_eq_true rfl) rfl ?_
  intro p e s m args below meth c hx hb hr hlocks hin hC hI ls hl
  obtain ⟨hx, hb, hml, hown, hB⟩ := id hC
  obtain ⟨H, hH⟩ : ∃ H, H = s.heap := ⟨_, rfl⟩
  obtain ⟨locs, hlocs⟩ : ∃ L : List Loc, L = [] := ⟨_, rfl⟩
  rw [← hH, ← hlocs] at hI ⊢
  clear hH hlocs
  unfold p_X8_runScript at hq
  replace hq := (h_me_eq hq).2
  refine lv_aload_n hx hb dX8_runScript_0 rfl (lv_at hl 0 rfl) ?_
  refine lv_aload_n hx hb dX8_runScript_1 rfl (lv_at hl 0 rfl) ?_
  refine lv_iload_n hx hb dX8_runScript_2 rfl (lv_at hl 1 rfl) ?_
  obtain ⟨v1, ev1, hq⟩ := b_s hq
  refine gr_i (g_runV (As := [.int a1]) (rest := [.ref a0]) (ci := 10) hC (c_X8_isLength l V g D cT f n a0 a1 v1 ev1) k_X8_isLength m_2078 rfl rfl ⟨Nat.le_of_ble_eq_true rfl, Nat.le_of_ble_eq_true rfl⟩ hI rfl rfl (h_me_eq ev1).1 rfl hl.1 rfl (Nat.le_of_ble_eq_true rfl) dX8_runScript_3 ⟨by decide, by decide⟩) hI (fun H locs hI => ?_)
  obtain ⟨v2, ev2, hq⟩ := b_s hq
  refine gw_i (g_runV (As := [.int v1]) (rest := []) (ci := 10) hC (c_X8_lacks l V g D cT f n a0 v1 v2 ev2) k_X8_lacks m_1637 rfl rfl ⟨Nat.le_of_ble_eq_true rfl, Nat.le_of_ble_eq_true rfl⟩ hI rfl rfl (h_me_eq ev2).1 rfl hl.1 rfl (Nat.le_of_ble_eq_true rfl) dX8_runScript_6 ⟨by decide, by decide⟩) hI (fun H locs hI => ?_)
  refine lv_if_eq (tgt := 14) hx hb dX8_runScript_9 (by decide) (fun c3 => ?_) (fun c3 => ?_)
  · replace hq := i_t c3 hq
    refine lv_aload_n hx hb dX8_runScript_14 rfl (lv_at hl 0 rfl) ?_
    refine lv_iconst (v := (0 : Int32)) hx hb dX8_runScript_15 (by decide) ?_
    obtain ⟨f4, ef4, hq⟩ := b_s hq
    refine fa_pt (own := RX8) (ref := "CoastlineRulerModel") (k := 25) hx hb hB inB_RX8 tyX8_ok nmX8 hown hI rfl (by decide) m_1556 (fun _ h9 => h9) (by decide) rfl rfl ef4 dX8_runScript_16 (fun H locs hI => ?_)
    refine lv_aload_n hx hb dX8_runScript_19 rfl (lv_at hl 0 rfl) ?_
    refine lv_iload_n hx hb dX8_runScript_20 rfl (lv_at hl 1 rfl) ?_
    obtain ⟨v5, ev5, hq⟩ := b_s hq
    refine gw_v (g_runV (As := [.int a1]) (rest := []) (ci := 10) hC (c_X8_startText l V g D cT f4 n a0 a1 v5 ev5) k_X8_startText m_2082 rfl rfl ⟨Nat.le_of_ble_eq_true rfl, Nat.le_of_ble_eq_true rfl⟩ hI rfl rfl (h_me_eq ev5).1 rfl hl.1 rfl (Nat.le_of_ble_eq_true rfl) dX8_runScript_21 ⟨by decide, by decide⟩) hI (fun H locs hI => ?_)
    have hl24 : ∀ (K45 : Nat → GH → Option (Int32 × GH)) (hK45 : ∀ (x0 : Nat) (f : GH) (H : Heap) (locs : List Loc) (ls : Array Slot), g_at (g_A V) V g D cT f n s H locs → lv_has ls 3 [(0, .ref x0)] → K45 x0 f = some o → W p l e rm_X8_runScript s m args below meth c H locs 0 0 (MQ below (g_Wi V D cT o.1 o.2 n) args s 0 0 (g_A V)) (F0 m 45 ls [])) (N : Nat) (x0 : Nat) (f : GH) (H : Heap) (locs : List Loc) (ls : Array Slot), g_at (g_A V) V g D cT f n s H locs → lv_has ls 3 [(0, .ref x0)] → p_X8_runScript_l24 V g K45 N x0 f = some o → W p l e rm_X8_runScript s m args below meth c H locs 0 0 (MQ below (g_Wi V D cT o.1 o.2 n) args s 0 0 (g_A V)) (F0 m 24 ls []) := by
      intro K45 hK45 N
      induction N with
      | zero =>
        intro x0 f H locs ls hI hl hq
        rw [p_X8_runScript_l24] at hq
        cases hq
      | succ N ih =>
        intro x0 f H locs ls hI hl hq
        rw [p_X8_runScript_l24] at hq
        refine lv_aload_n hx hb dX8_runScript_24 rfl (lv_at hl 0 rfl) ?_
        obtain ⟨v6, ev6, hq⟩ := b_s hq
        refine fa_gi (own := RX8) (ref := "CoastlineRulerModel") (k := 18) hx hb hB inB_RX8 hown hI rfl (by decide) m_1549 (fun _ h9 => h9) ev6 dX8_runScript_25 ?_
        refine lv_if_ne (tgt := 45) hx hb dX8_runScript_28 (by decide) (fun c7 => ?_) (fun c7 => ?_)
        · replace hq := i_f c7 hq
          exact hK45 x0 f H locs ls hI (lv_sub hl [0] rfl) hq
        · replace hq := i_t c7 hq
          refine lv_aload_n hx hb dX8_runScript_31 rfl (lv_at hl 0 rfl) ?_
          obtain ⟨v8, ev8, hq⟩ := b_s hq
          refine fa_gi (own := RX8) (ref := "CoastlineRulerModel") (k := 17) hx hb hB inB_RX8 hown hI rfl (by decide) m_1548 (fun _ h9 => h9) ev8 dX8_runScript_32 ?_
          refine lv_if_eq (tgt := 45) hx hb dX8_runScript_35 (by decide) (fun c9 => ?_) (fun c9 => ?_)
          · replace hq := i_t c9 hq
            exact hK45 x0 f H locs ls hI (lv_sub hl [0] rfl) hq
          · replace hq := i_f c9 hq
            refine lv_aload_n hx hb dX8_runScript_38 rfl (lv_at hl 0 rfl) ?_
            obtain ⟨v10, ev10, hq⟩ := b_s hq
            refine gw_v (g_runV (As := []) (rest := []) (ci := 10) hC (c_X8_readOrder l V g D cT f n x0 v10 ev10) k_X8_readOrder m_2188 rfl rfl ⟨Nat.le_of_ble_eq_true rfl, Nat.le_of_ble_eq_true rfl⟩ hI rfl rfl (h_me_eq ev10).1 rfl hl.1 rfl (Nat.le_of_ble_eq_true rfl) dX8_runScript_39 ⟨by decide, by decide⟩) hI (fun H locs hI => ?_)
            refine lv_goto (tgt := 24) hx hb dX8_runScript_42 (by decide) ?_
            exact ih x0 v10 H locs ls hI (lv_sub hl [0] rfl) hq
    refine hl24 _ ?_ FU a0 v5 H locs ls hI (lv_sub hl [0] rfl) hq
    · intro x0 f H locs ls hI hl hq
      refine lv_aload_n hx hb dX8_runScript_45 rfl (lv_at hl 0 rfl) ?_
      obtain ⟨v11, ev11, hq⟩ := b_s hq
      refine gw_i (g_runV (As := []) (rest := []) (ci := 10) hC (c_X8_isFaulty l V g D cT f n x0 v11 ev11) k_X8_isFaulty m_2168 rfl rfl ⟨Nat.le_of_ble_eq_true rfl, Nat.le_of_ble_eq_true rfl⟩ hI rfl rfl (h_me_eq ev11).1 rfl hl.1 rfl (Nat.le_of_ble_eq_true rfl) dX8_runScript_46 ⟨by decide, by decide⟩) hI (fun H locs hI => ?_)
      refine lv_if_eq (tgt := 54) hx hb dX8_runScript_49 (by decide) (fun c12 => ?_) (fun c12 => ?_)
      · replace hq := i_t c12 hq
        refine lv_aload_n hx hb dX8_runScript_54 rfl (lv_at hl 0 rfl) ?_
        obtain ⟨v13, ev13, hq⟩ := b_s hq
        refine gw_v (g_runV (As := []) (rest := []) (ci := 10) hC (c_X8_keep l V g D cT v11.2 n x0 v13 ev13) k_X8_keep m_1940 rfl rfl ⟨Nat.le_of_ble_eq_true rfl, Nat.le_of_ble_eq_true rfl⟩ hI rfl rfl (h_me_eq ev13).1 rfl hl.1 rfl (Nat.le_of_ble_eq_true rfl) dX8_runScript_55 ⟨by decide, by decide⟩) hI (fun H locs hI => ?_)
        refine lv_aload_n hx hb dX8_runScript_58 rfl (lv_at hl 0 rfl) ?_
        obtain ⟨v14, ev14, hq⟩ := b_s hq
        refine gw_v (g_runV (As := []) (rest := []) (ci := 10) hC (c_X8_record l V g D cT v13 n x0 v14 ev14) k_X8_record m_1955 rfl rfl ⟨Nat.le_of_ble_eq_true rfl, Nat.le_of_ble_eq_true rfl⟩ hI rfl rfl (h_me_eq ev14).1 rfl hl.1 rfl (Nat.le_of_ble_eq_true rfl) dX8_runScript_59 ⟨by decide, by decide⟩) hI (fun H locs hI => ?_)
        refine lv_iconst (v := (0 : Int32)) hx hb dX8_runScript_62 (by decide) ?_
        refine lv_istore_n (lv' := [(2, .int (0 : Int32)), (0, .ref x0)]) hx hb dX8_runScript_63 rfl hl (by decide) rfl (fun ls hl => ?_)
        have hl64 : ∀ (K89 : Int32 → GH → Option (Int32 × GH)) (hK89 : ∀ (x2 : Int32) (f : GH) (H : Heap) (locs : List Loc) (ls : Array Slot), g_at (g_A V) V g D cT f n s H locs → lv_has ls 3 [(2, .int x2)] → K89 x2 f = some o → W p l e rm_X8_runScript s m args below meth c H locs 0 0 (MQ below (g_Wi V D cT o.1 o.2 n) args s 0 0 (g_A V)) (F0 m 89 ls [])) (N : Nat) (x0 : Nat) (x2 : Int32) (f : GH) (H : Heap) (locs : List Loc) (ls : Array Slot), g_at (g_A V) V g D cT f n s H locs → lv_has ls 3 [(0, .ref x0), (2, .int x2)] → p_X8_runScript_l64 V g K89 N x0 x2 f = some o → W p l e rm_X8_runScript s m args below meth c H locs 0 0 (MQ below (g_Wi V D cT o.1 o.2 n) args s 0 0 (g_A V)) (F0 m 64 ls []) := by
          intro K89 hK89 N
          induction N with
          | zero =>
            intro x0 x2 f H locs ls hI hl hq
            rw [p_X8_runScript_l64] at hq
            cases hq
          | succ N ih =>
            intro x0 x2 f H locs ls hI hl hq
            rw [p_X8_runScript_l64] at hq
            refine lv_iload_n hx hb dX8_runScript_64 rfl (lv_at hl 1 rfl) ?_
            refine lv_aload_n hx hb dX8_runScript_65 rfl (lv_at hl 0 rfl) ?_
            obtain ⟨v15, ev15, hq⟩ := b_s hq
            refine fa_gi (own := RX8) (ref := "CoastlineRulerModel") (k := 25) hx hb hB inB_RX8 hown hI rfl (by decide) m_1556 (fun _ h9 => h9) ev15 dX8_runScript_66 ?_
            refine lv_icmp_ge (tgt := 89) hx hb dX8_runScript_69 (by decide) (fun c16 => ?_) (fun c16 => ?_)
            · replace hq := i_t c16 hq
              exact hK89 x2 f H locs ls hI (lv_sub hl [1] rfl) hq
            · replace hq := i_f c16 hq
              refine lv_aload_n hx hb dX8_runScript_72 rfl (lv_at hl 0 rfl) ?_
              refine lv_bipush (v := (73 : Int32)) hx hb dX8_runScript_73 (by decide) ?_
              refine lv_iload_n hx hb dX8_runScript_75 rfl (lv_at hl 1 rfl) ?_
              refine lv_imul hx hb dX8_runScript_76 ?_
              obtain ⟨v17, ev17, hq⟩ := b_s hq
              refine gw_i (g_runV (As := [.int ((73 : Int32) * x2)]) (rest := []) (ci := 10) hC (c_X8_does l V g D cT f n x0 ((73 : Int32) * x2) v17 ev17) k_X8_does m_2200 rfl rfl ⟨Nat.le_of_ble_eq_true rfl, Nat.le_of_ble_eq_true rfl⟩ hI rfl rfl (h_me_eq ev17).1 rfl hl.1 rfl (Nat.le_of_ble_eq_true rfl) dX8_runScript_77 ⟨by decide, by decide⟩) hI (fun H locs hI => ?_)
              refine lv_if_ne (tgt := 89) hx hb dX8_runScript_80 (by decide) (fun c18 => ?_) (fun c18 => ?_)
              · replace hq := i_f c18 hq
                exact hK89 x2 v17.2 H locs ls hI (lv_sub hl [1] rfl) hq
              · replace hq := i_t c18 hq
                refine lv_iinc (v := x2 + (1 : Int32)) (lv' := [(2, .int (x2 + (1 : Int32))), (0, .ref x0)]) hx hb dX8_runScript_83 hl (k := 1) rfl rfl (by decide) rfl (fun ls hl => ?_)
                refine lv_goto (tgt := 64) hx hb dX8_runScript_86 (by decide) ?_
                exact ih x0 (x2 + (1 : Int32)) v17.2 H locs ls hI (lv_sub hl [1, 0] rfl) hq
        refine hl64 _ ?_ FU x0 (0 : Int32) v14 H locs ls hI (lv_sub hl [1, 0] rfl) hq
        · intro x2 f H locs ls hI hl hq
          refine lv_iload_n hx hb dX8_runScript_89 rfl (lv_at hl 0 rfl) ?_
          exact ge_Wi hx hb hlocks hr rfl hI (congrArg (fun z => z.1) (Option.some.inj hq)) (congrArg (fun z => z.2) (Option.some.inj hq)) dX8_runScript_90
      · replace hq := i_f c12 hq
        refine lv_iconst (v := (-1 : Int32)) hx hb dX8_runScript_52 (by decide) ?_
        exact ge_Wi hx hb hlocks hr rfl hI (congrArg (fun z => z.1) (Option.some.inj hq)) (congrArg (fun z => z.2) (Option.some.inj hq)) dX8_runScript_53
  · replace hq := i_f c3 hq
    refine lv_iconst (v := (0 : Int32)) hx hb dX8_runScript_12 (by decide) ?_
    exact ge_Wi hx hb hlocks hr rfl hI (congrArg (fun z => z.1) (Option.some.inj hq)) (congrArg (fun z => z.2) (Option.some.inj hq)) dX8_runScript_13


abbrev rm_X8_startText : Room := { frames := 5, cells := 0, slots := 0, locals := 182 }
theorem k_X8_startText : g_CV yX8_startText cX8_startText 2 none 1 := ⟨⟨m_2085, m_14, by decide +kernel⟩, m_2084, ms_75⟩
set_option maxHeartbeats 4000000 in
set_option maxRecDepth 100000 in
theorem c_X8_startText (l : Launch) (V : Nat → Nat) (g : GH) (D : va_G) (cT : Nat → ClassId) (f : GH) (n : Nat) (a0 : Nat) (a1 : Int32) (o : GH) (hq : p_X8_startText V g f a0 a1 = some o) : Met l yX8_startText (Cond.code yX8_startText cX8_startText 2 none :: g_B) rm_X8_startText (va_Pc [.ref a0, .int a1] (g_I V g D cT f n)) (g_Wv V D cT o n) 0 0 (g_A V) := by
  refine g_begin (own := RX8) [.ref a0, .int a1] [(0, .ref a0), (1, .int a1)] (g_A V) (fun _ h => h) (by decide) rfl (Nat.le_of_ble_eq_true rfl) rfl ?_
  intro p e s m args below meth c hx hb hr hlocks hin hC hI ls hl
  obtain ⟨hx, hb, hml, hown, hB⟩ := id hC
  obtain ⟨H, hH⟩ : ∃ H, H = s.heap := ⟨_, rfl⟩
  obtain ⟨locs, hlocs⟩ : ∃ L : List Loc, L = [] := ⟨_, rfl⟩
  rw [← hH, ← hlocs] at hI ⊢
  clear hH hlocs
  unfold p_X8_startText at hq
  replace hq := (h_me_eq hq).2
  refine lv_aload_n hx hb dX8_startText_0 rfl (lv_at hl 0 rfl) ?_
  refine lv_iload_n hx hb dX8_startText_1 rfl (lv_at hl 1 rfl) ?_
  obtain ⟨f1, ef1, hq⟩ := b_s hq
  refine fa_pt (own := RX8) (ref := "CoastlineRulerModel") (k := 14) hx hb hB inB_RX8 tyX8_ok nmX8 hown hI rfl (by decide) m_1545 (fun _ h9 => h9) (by decide) rfl rfl ef1 dX8_startText_2 (fun H locs hI => ?_)
  refine lv_aload_n hx hb dX8_startText_5 rfl (lv_at hl 0 rfl) ?_
  refine lv_iconst (v := (0 : Int32)) hx hb dX8_startText_6 (by decide) ?_
  obtain ⟨f2, ef2, hq⟩ := b_s hq
  refine fa_pt (own := RX8) (ref := "CoastlineRulerModel") (k := 15) hx hb hB inB_RX8 tyX8_ok nmX8 hown hI rfl (by decide) m_1546 (fun _ h9 => h9) (by decide) rfl rfl ef2 dX8_startText_7 (fun H locs hI => ?_)
  refine lv_aload_n hx hb dX8_startText_10 rfl (lv_at hl 0 rfl) ?_
  refine lv_iconst (v := (0 : Int32)) hx hb dX8_startText_11 (by decide) ?_
  obtain ⟨f3, ef3, hq⟩ := b_s hq
  refine fa_pt (own := RX8) (ref := "CoastlineRulerModel") (k := 18) hx hb hB inB_RX8 tyX8_ok nmX8 hown hI rfl (by decide) m_1549 (fun _ h9 => h9) (by decide) rfl rfl ef3 dX8_startText_12 (fun H locs hI => ?_)
  refine lv_aload_n hx hb dX8_startText_15 rfl (lv_at hl 0 rfl) ?_
  refine lv_iconst (v := (0 : Int32)) hx hb dX8_startText_16 (by decide) ?_
  obtain ⟨f4, ef4, hq⟩ := b_s hq
  refine fa_pt (own := RX8) (ref := "CoastlineRulerModel") (k := 21) hx hb hB inB_RX8 tyX8_ok nmX8 hown hI rfl (by decide) m_1552 (fun _ h9 => h9) (by decide) rfl rfl ef4 dX8_startText_17 (fun H locs hI => ?_)
  refine lv_aload_n hx hb dX8_startText_20 rfl (lv_at hl 0 rfl) ?_
  obtain ⟨v5, ev5, hq⟩ := b_s hq
  refine gw_v (g_runV (As := []) (rest := []) (ci := 10) hC (c_X8_scan l V g D cT f4 n a0 v5 ev5) k_X8_scan m_2086 rfl rfl ⟨Nat.le_of_ble_eq_true rfl, Nat.le_of_ble_eq_true rfl⟩ hI rfl rfl (h_me_eq ev5).1 rfl hl.1 rfl (Nat.le_of_ble_eq_true rfl) dX8_startText_21 ⟨by decide, by decide⟩) hI (fun H locs hI => ?_)
  exact ge_Wv hx hb hlocks hr hI (Option.some.inj hq) dX8_startText_24

abbrev rm_X8_finish : Room := { frames := 2, cells := 0, slots := 0, locals := 120 }
theorem k_X8_finish : g_CV yX8_finish cX8_finish 1 (some .int) 0 := ⟨⟨m_2175, m_14, by decide +kernel⟩, m_2174, ms_96⟩
set_option maxHeartbeats 4000000 in
set_option maxRecDepth 100000 in
theorem c_X8_finish (l : Launch) (V : Nat → Nat) (g : GH) (D : va_G) (cT : Nat → ClassId) (f : GH) (n : Nat) (a0 : Nat) (o : Int32 × GH) (hq : p_X8_finish V g f a0 = some o) : Met l yX8_finish (Cond.code yX8_finish cX8_finish 1 (some .int) :: g_B) rm_X8_finish (va_Pc [.ref a0] (g_I V g D cT f n)) (g_Wi V D cT o.1 o.2 n) 0 0 (g_A V) := by
  refine g_begin (own := RX8) [.ref a0] [(0, .ref a0)] (g_A V) (fun _ h => h) (by decide) rfl (Nat.le_of_ble_eq_true rfl) rfl ?_
  intro p e s m args below meth c hx hb hr hlocks hin hC hI ls hl
  obtain ⟨hx, hb, hml, hown, hB⟩ := id hC
  obtain ⟨H, hH⟩ : ∃ H, H = s.heap := ⟨_, rfl⟩
  obtain ⟨locs, hlocs⟩ : ∃ L : List Loc, L = [] := ⟨_, rfl⟩
  rw [← hH, ← hlocs] at hI ⊢
  clear hH hlocs
  unfold p_X8_finish at hq
  replace hq := (h_me_eq hq).2
  refine lv_aload_n hx hb dX8_finish_0 rfl (lv_at hl 0 rfl) ?_
  refine lv_iconst (v := (0 : Int32)) hx hb dX8_finish_1 (by decide) ?_
  obtain ⟨f1, ef1, hq⟩ := b_s hq
  refine fa_pt (own := RX8) (ref := "CoastlineRulerModel") (k := 13) hx hb hB inB_RX8 tyX8_ok nmX8 hown hI rfl (by decide) m_1544 (fun _ h9 => h9) (by decide) rfl rfl ef1 dX8_finish_2 (fun H locs hI => ?_)
  refine lv_aload_n hx hb dX8_finish_5 rfl (lv_at hl 0 rfl) ?_
  refine lv_aload_n hx hb dX8_finish_6 rfl (lv_at hl 0 rfl) ?_
  obtain ⟨v2, ev2, hq⟩ := b_s hq
  refine fa_gi (own := RX8) (ref := "CoastlineRulerModel") (k := 18) hx hb hB inB_RX8 hown hI rfl (by decide) m_1549 (fun _ h9 => h9) ev2 dX8_finish_7 ?_
  refine lv_if_ne (tgt := 17) hx hb dX8_finish_10 (by decide) (fun c3 => ?_) (fun c3 => ?_)
  · replace hq := i_f c3 hq
    refine lv_aload_n hx hb dX8_finish_17 rfl (lv_at hl 0 rfl) ?_
    obtain ⟨v4, ev4, hq⟩ := b_s hq
    refine fa_gi (own := RX8) (ref := "CoastlineRulerModel") (k := 19) hx hb hB inB_RX8 hown hI rfl (by decide) m_1550 (fun _ h9 => h9) ev4 dX8_finish_18 ?_
    obtain ⟨f5, ef5, hq⟩ := b_s hq
    refine fa_pt (own := RX8) (ref := "CoastlineRulerModel") (k := 20) hx hb hB inB_RX8 tyX8_ok nmX8 hown hI rfl (by decide) m_1551 (fun _ h9 => h9) (by decide) rfl rfl ef5 dX8_finish_21 (fun H locs hI => ?_)
    refine lv_aload_n hx hb dX8_finish_24 rfl (lv_at hl 0 rfl) ?_
    obtain ⟨v6, ev6, hq⟩ := b_s hq
    refine fa_gi (own := RX8) (ref := "CoastlineRulerModel") (k := 18) hx hb hB inB_RX8 hown hI rfl (by decide) m_1549 (fun _ h9 => h9) ev6 dX8_finish_25 ?_
    exact ge_Wi hx hb hlocks hr rfl hI (congrArg (fun z => z.1) (Option.some.inj hq)) (congrArg (fun z => z.2) (Option.some.inj hq)) dX8_finish_28
  · replace hq := i_t c3 hq
    refine lv_iconst (v := (-1 : Int32)) hx hb dX8_finish_13 (by decide) ?_
    refine lv_goto (tgt := 21) hx hb dX8_finish_14 (by decide) ?_
    obtain ⟨f7, ef7, hq⟩ := b_s hq
    refine fa_pt (own := RX8) (ref := "CoastlineRulerModel") (k := 20) hx hb hB inB_RX8 tyX8_ok nmX8 hown hI rfl (by decide) m_1551 (fun _ h9 => h9) (by decide) rfl rfl ef7 dX8_finish_21 (fun H locs hI => ?_)
    refine lv_aload_n hx hb dX8_finish_24 rfl (lv_at hl 0 rfl) ?_
    obtain ⟨v8, ev8, hq⟩ := b_s hq
    refine fa_gi (own := RX8) (ref := "CoastlineRulerModel") (k := 18) hx hb hB inB_RX8 hown hI rfl (by decide) m_1549 (fun _ h9 => h9) ev8 dX8_finish_25 ?_
    exact ge_Wi hx hb hlocks hr rfl hI (congrArg (fun z => z.1) (Option.some.inj hq)) (congrArg (fun z => z.2) (Option.some.inj hq)) dX8_finish_28

abbrev rm_X8_check : Room := { frames := 2, cells := 0, slots := 0, locals := 120 }
theorem k_X8_check : g_CV yX8_check cX8_check 3 none 2 := ⟨⟨m_2116, m_14, by decide +kernel⟩, m_2115, ms_82⟩
set_option maxHeartbeats 4000000 in
set_option maxRecDepth 100000 in
theorem c_X8_check (l : Launch) (V : Nat → Nat) (g : GH) (D : va_G) (cT : Nat → ClassId) (f : GH) (n : Nat) (a0 : Nat) (a1 : Int32) (a2 : Int32) (o : GH) (hq : p_X8_check V g f a0 a1 a2 = some o) : Met l yX8_check (Cond.code yX8_check cX8_check 3 none :: g_B) rm_X8_check (va_Pc [.ref a0, .int a1, .int a2] (g_I V g D cT f n)) (g_Wv V D cT o n) 0 0 (g_A V) := by
  refine g_begin (own := RX8) [.ref a0, .int a1, .int a2] [(0, .ref a0), (1, .int a1), (2, .int a2)] (g_A V) (fun _ h => h) (by decide) rfl (Nat.le_of_ble_eq_true rfl) rfl ?_
  intro p e s m args below meth c hx hb hr hlocks hin hC hI ls hl
  obtain ⟨hx, hb, hml, hown, hB⟩ := id hC
  obtain ⟨H, hH⟩ : ∃ H, H = s.heap := ⟨_, rfl⟩
  obtain ⟨locs, hlocs⟩ : ∃ L : List Loc, L = [] := ⟨_, rfl⟩
  rw [← hH, ← hlocs] at hI ⊢
  clear hH hlocs
  unfold p_X8_check at hq
  replace hq := (h_me_eq hq).2
  refine lv_iload_n hx hb dX8_check_0 rfl (lv_at hl 1 rfl) ?_
  refine lv_if_ne (tgt := 24) hx hb dX8_check_1 (by decide) (fun c1 => ?_) (fun c1 => ?_)
  · replace hq := i_f c1 hq
    exact ge_Wv hx hb hlocks hr hI (Option.some.inj hq) dX8_check_24
  · replace hq := i_t c1 hq
    refine lv_aload_n hx hb dX8_check_4 rfl (lv_at hl 0 rfl) ?_
    obtain ⟨v2, ev2, hq⟩ := b_s hq
    refine fa_gi (own := RX8) (ref := "CoastlineRulerModel") (k := 18) hx hb hB inB_RX8 hown hI rfl (by decide) m_1549 (fun _ h9 => h9) ev2 dX8_check_5 ?_
    refine lv_if_ne (tgt := 24) hx hb dX8_check_8 (by decide) (fun c3 => ?_) (fun c3 => ?_)
    · replace hq := i_f c3 hq
      exact ge_Wv hx hb hlocks hr hI (Option.some.inj hq) dX8_check_24
    · replace hq := i_t c3 hq
      refine lv_aload_n hx hb dX8_check_11 rfl (lv_at hl 0 rfl) ?_
      refine lv_iload_n hx hb dX8_check_12 rfl (lv_at hl 2 rfl) ?_
      obtain ⟨f4, ef4, hq⟩ := b_s hq
      refine fa_pt (own := RX8) (ref := "CoastlineRulerModel") (k := 18) hx hb hB inB_RX8 tyX8_ok nmX8 hown hI rfl (by decide) m_1549 (fun _ h9 => h9) (by decide) rfl rfl ef4 dX8_check_13 (fun H locs hI => ?_)
      refine lv_aload_n hx hb dX8_check_16 rfl (lv_at hl 0 rfl) ?_
      refine lv_aload_n hx hb dX8_check_17 rfl (lv_at hl 0 rfl) ?_
      obtain ⟨v5, ev5, hq⟩ := b_s hq
      refine fa_gi (own := RX8) (ref := "CoastlineRulerModel") (k := 16) hx hb hB inB_RX8 hown hI rfl (by decide) m_1547 (fun _ h9 => h9) ev5 dX8_check_18 ?_
      obtain ⟨f6, ef6, hq⟩ := b_s hq
      refine fa_pt (own := RX8) (ref := "CoastlineRulerModel") (k := 19) hx hb hB inB_RX8 tyX8_ok nmX8 hown hI rfl (by decide) m_1550 (fun _ h9 => h9) (by decide) rfl rfl ef6 dX8_check_21 (fun H locs hI => ?_)
      exact ge_Wv hx hb hlocks hr hI (Option.some.inj hq) dX8_check_24

abbrev rm_X8_advance : Room := { frames := 5, cells := 0, slots := 0, locals := 182 }
theorem k_X8_advance : g_CV yX8_advance cX8_advance 1 none 0 := ⟨⟨m_2120, m_14, by decide +kernel⟩, m_2119, ms_83⟩
set_option maxHeartbeats 4000000 in
set_option maxRecDepth 100000 in
theorem c_X8_advance (l : Launch) (V : Nat → Nat) (g : GH) (D : va_G) (cT : Nat → ClassId) (f : GH) (n : Nat) (a0 : Nat) (o : GH) (hq : p_X8_advance V g f a0 = some o) : Met l yX8_advance (Cond.code yX8_advance cX8_advance 1 none :: g_B) rm_X8_advance (va_Pc [.ref a0] (g_I V g D cT f n)) (g_Wv V D cT o n) 0 0 (g_A V) := by
  refine g_begin (own := RX8) [.ref a0] [(0, .ref a0)] (g_A V) (fun _ h => h) (by decide) rfl (Nat.le_of_ble_eq_true rfl) rfl ?_
  intro p e s m args below meth c hx hb hr hlocks hin hC hI ls hl
  obtain ⟨hx, hb, hml, hown, hB⟩ := id hC
  obtain ⟨H, hH⟩ : ∃ H, H = s.heap := ⟨_, rfl⟩
  obtain ⟨locs, hlocs⟩ : ∃ L : List Loc, L = [] := ⟨_, rfl⟩
  rw [← hH, ← hlocs] at hI ⊢
  clear hH hlocs
  unfold p_X8_advance at hq
  replace hq := (h_me_eq hq).2
  refine lv_aload_n hx hb dX8_advance_0 rfl (lv_at hl 0 rfl) ?_
  obtain ⟨v1, ev1, hq⟩ := b_s hq
  refine fa_gi (own := RX8) (ref := "CoastlineRulerModel") (k := 18) hx hb hB inB_RX8 hown hI rfl (by decide) m_1549 (fun _ h9 => h9) ev1 dX8_advance_1 ?_
  refine lv_if_ne (tgt := 11) hx hb dX8_advance_4 (by decide) (fun c2 => ?_) (fun c2 => ?_)
  · replace hq := i_f c2 hq
    exact ge_Wv hx hb hlocks hr hI (Option.some.inj hq) dX8_advance_11
  · replace hq := i_t c2 hq
    refine lv_aload_n hx hb dX8_advance_7 rfl (lv_at hl 0 rfl) ?_
    obtain ⟨v3, ev3, hq⟩ := b_s hq
    refine gw_v (g_runV (As := []) (rest := []) (ci := 10) hC (c_X8_scan l V g D cT f n a0 v3 ev3) k_X8_scan m_2086 rfl rfl ⟨Nat.le_of_ble_eq_true rfl, Nat.le_of_ble_eq_true rfl⟩ hI rfl rfl (h_me_eq ev3).1 rfl hl.1 rfl (Nat.le_of_ble_eq_true rfl) dX8_advance_8 ⟨by decide, by decide⟩) hI (fun H locs hI => ?_)
    exact ge_Wv hx hb hlocks hr hI (Option.some.inj hq) dX8_advance_11

abbrev rm_X8_isSymbol : Room := { frames := 2, cells := 0, slots := 0, locals := 120 }
theorem k_X8_isSymbol : g_CV yX8_isSymbol cX8_isSymbol 2 (some .boolean) 1 := ⟨⟨m_2134, m_14, by decide +kernel⟩, m_2133, ms_86⟩
set_option maxHeartbeats 4000000 in
set_option maxRecDepth 100000 in
theorem c_X8_isSymbol (l : Launch) (V : Nat → Nat) (g : GH) (D : va_G) (cT : Nat → ClassId) (f : GH) (n : Nat) (a0 : Nat) (a1 : Int32) (o : Int32) (hq : p_X8_isSymbol V g f a0 a1 = some o) : Met l yX8_isSymbol (Cond.code yX8_isSymbol cX8_isSymbol 2 (some .boolean) :: g_B) rm_X8_isSymbol (va_Pc [.ref a0, .int a1] (g_I V g D cT f n)) (g_Ri o n) 0 0 g_no := by
  refine g_begin (own := RX8) [.ref a0, .int a1] [(0, .ref a0), (1, .int a1)] g_no (fun _ h => h.elim) (by decide) rfl (Nat.le_of_ble_eq_true rfl) rfl ?_
  intro p e s m args below meth c hx hb hr hlocks hin hC hI ls hl
  obtain ⟨hx, hb, hml, hown, hB⟩ := id hC
  obtain ⟨H, hH⟩ : ∃ H, H = s.heap := ⟨_, rfl⟩
  obtain ⟨locs, hlocs⟩ : ∃ L : List Loc, L = [] := ⟨_, rfl⟩
  rw [← hH, ← hlocs] at hI ⊢
  clear hH hlocs
  unfold p_X8_isSymbol at hq
  replace hq := (h_me_eq hq).2
  refine lv_aload_n hx hb dX8_isSymbol_0 rfl (lv_at hl 0 rfl) ?_
  obtain ⟨v1, ev1, hq⟩ := b_s hq
  refine fa_gi (own := RX8) (ref := "CoastlineRulerModel") (k := 18) hx hb hB inB_RX8 hown hI rfl (by decide) m_1549 (fun _ h9 => h9) ev1 dX8_isSymbol_1 ?_
  refine lv_if_ne (tgt := 32) hx hb dX8_isSymbol_4 (by decide) (fun c2 => ?_) (fun c2 => ?_)
  · replace hq := i_f c2 hq
    refine lv_iconst (v := (0 : Int32)) hx hb dX8_isSymbol_32 (by decide) ?_
    exact ge_Ri hx hb hlocks hr (by decide +kernel) hI hq dX8_isSymbol_33
  · replace hq := i_t c2 hq
    refine lv_aload_n hx hb dX8_isSymbol_7 rfl (lv_at hl 0 rfl) ?_
    obtain ⟨v3, ev3, hq⟩ := b_s hq
    refine fa_gi (own := RX8) (ref := "CoastlineRulerModel") (k := 17) hx hb hB inB_RX8 hown hI rfl (by decide) m_1548 (fun _ h9 => h9) ev3 dX8_isSymbol_8 ?_
    refine lv_iconst (v := (3 : Int32)) hx hb dX8_isSymbol_11 (by decide) ?_
    refine lv_icmp_ne (tgt := 32) hx hb dX8_isSymbol_12 (by decide) (fun c4 => ?_) (fun c4 => ?_)
    · replace hq := i_f c4 hq
      refine lv_iconst (v := (0 : Int32)) hx hb dX8_isSymbol_32 (by decide) ?_
      exact ge_Ri hx hb hlocks hr (by decide +kernel) hI hq dX8_isSymbol_33
    · replace hq := i_t c4 hq
      refine lv_aload_n hx hb dX8_isSymbol_15 rfl (lv_at hl 0 rfl) ?_
      obtain ⟨v5, ev5, hq⟩ := b_s hq
      refine fa_gr (own := RX8) (ref := "CoastlineRulerModel") (k := 12) hx hb hB inB_RX8 hown hI rfl (by decide) m_1543 (fun _ h9 => h9) ev5 dX8_isSymbol_16 ?_
      refine lv_aload_n hx hb dX8_isSymbol_19 rfl (lv_at hl 0 rfl) ?_
      obtain ⟨v6, ev6, hq⟩ := b_s hq
      refine fa_gi (own := RX8) (ref := "CoastlineRulerModel") (k := 16) hx hb hB inB_RX8 hown hI rfl (by decide) m_1547 (fun _ h9 => h9) ev6 dX8_isSymbol_20 ?_
      obtain ⟨v7, ev7, hq⟩ := b_s hq
      refine fa_li hx hb hI ev7 dX8_isSymbol_23 ?_
      refine lv_iload_n hx hb dX8_isSymbol_24 rfl (lv_at hl 1 rfl) ?_
      refine lv_icmp_ne (tgt := 32) hx hb dX8_isSymbol_25 (by decide) (fun c8 => ?_) (fun c8 => ?_)
      · replace hq := i_f c8 hq
        refine lv_iconst (v := (0 : Int32)) hx hb dX8_isSymbol_32 (by decide) ?_
        exact ge_Ri hx hb hlocks hr (by decide +kernel) hI hq dX8_isSymbol_33
      · replace hq := i_t c8 hq
        refine lv_iconst (v := (1 : Int32)) hx hb dX8_isSymbol_28 (by decide) ?_
        refine lv_goto (tgt := 33) hx hb dX8_isSymbol_29 (by decide) ?_
        exact ge_Ri hx hb hlocks hr (by decide +kernel) hI hq dX8_isSymbol_33

abbrev rm_X8_isWord : Room := { frames := 6, cells := 0, slots := 0, locals := 205 }
theorem k_X8_isWord : g_CV yX8_isWord cX8_isWord 4 (some .boolean) 1 := ⟨⟨m_2110, m_14, by decide +kernel⟩, m_2109, ms_81⟩
set_option maxHeartbeats 4000000 in
set_option maxRecDepth 100000 in
theorem c_X8_isWord (l : Launch) (V : Nat → Nat) (g : GH) (D : va_G) (cT : Nat → ClassId) (f : GH) (n : Nat) (a0 : Nat) (a1 : Nat) (o : Int32) (hq : p_X8_isWord V g f a0 a1 = some o) : Met l yX8_isWord (Cond.code yX8_isWord cX8_isWord 4 (some .boolean) :: g_B) rm_X8_isWord (va_Pc [.ref a0, .ref a1] (g_I V g D cT f n)) (g_Ri o n) 0 0 g_no := by
  refine g_begin (own := RX8) [.ref a0, .ref a1] [(0, .ref a0), (1, .ref a1)] g_no (fun _ h => h.elim) (by decide) rfl (Nat.le_of_ble_eq_true rfl) rfl ?_
  intro p e s m args below meth c hx hb hr hlocks hin hC hI ls hl
  obtain ⟨hx, hb, hml, hown, hB⟩ := id hC
  obtain ⟨H, hH⟩ : ∃ H, H = s.heap := ⟨_, rfl⟩
  obtain ⟨locs, hlocs⟩ : ∃ L : List Loc, L = [] := ⟨_, rfl⟩
  rw [← hH, ← hlocs] at hI ⊢
  clear hH hlocs
  unfold p_X8_isWord at hq
  replace hq := (h_me_eq hq).2
  refine lv_aload_n hx hb dX8_isWord_0 rfl (lv_at hl 0 rfl) ?_
  obtain ⟨v1, ev1, hq⟩ := b_s hq
  refine fa_gi (own := RX8) (ref := "CoastlineRulerModel") (k := 18) hx hb hB inB_RX8 hown hI rfl (by decide) m_1549 (fun _ h9 => h9) ev1 dX8_isWord_1 ?_
  have hj36 : ∀ (x0 : Nat) (x1 : Nat) (t0 : Int32) (H : Heap) (locs : List Loc) (ls : Array Slot), g_at g_no V g D cT f n s H locs → lv_has ls 4 [(0, .ref x0), (1, .ref x1)] → p_X8_isWord_j36 V g f x0 x1 t0 = some o → W p l e rm_X8_isWord s m args below meth c H locs 0 0 (MQ below (g_Ri o n) args s 0 0 g_no) (F0 m 36 ls [.int t0]) := by
    intro x0 x1 t0 H locs ls hI hl hq
    unfold p_X8_isWord_j36 at hq
    refine lv_istore_n (lv' := [(2, .int t0), (0, .ref x0), (1, .ref x1)]) hx hb dX8_isWord_36 rfl hl (by decide) rfl (fun ls hl => ?_)
    refine lv_iconst (v := (0 : Int32)) hx hb dX8_isWord_37 (by decide) ?_
    refine lv_istore_n (lv' := [(3, .int (0 : Int32)), (2, .int t0), (0, .ref x0), (1, .ref x1)]) hx hb dX8_isWord_38 rfl hl (by decide) rfl (fun ls hl => ?_)
    have hl39 : ∀ (K82 : Int32 → Option Int32) (hK82 : ∀ (x2 : Int32) (H : Heap) (locs : List Loc) (ls : Array Slot), g_at g_no V g D cT f n s H locs → lv_has ls 4 [(2, .int x2)] → K82 x2 = some o → W p l e rm_X8_isWord s m args below meth c H locs 0 0 (MQ below (g_Ri o n) args s 0 0 g_no) (F0 m 82 ls [])) (N : Nat) (x0 : Nat) (x1 : Nat) (x2 : Int32) (x3 : Int32) (H : Heap) (locs : List Loc) (ls : Array Slot), g_at g_no V g D cT f n s H locs → lv_has ls 4 [(0, .ref x0), (1, .ref x1), (2, .int x2), (3, .int x3)] → p_X8_isWord_l39 V g f K82 N x0 x1 x2 x3 = some o → W p l e rm_X8_isWord s m args below meth c H locs 0 0 (MQ below (g_Ri o n) args s 0 0 g_no) (F0 m 39 ls []) := by
      intro K82 hK82 N
      induction N with
      | zero =>
        intro x0 x1 x2 x3 H locs ls hI hl hq
        rw [p_X8_isWord_l39] at hq
        cases hq
      | succ N ih =>
        intro x0 x1 x2 x3 H locs ls hI hl hq
        rw [p_X8_isWord_l39] at hq
        refine lv_iload_n hx hb dX8_isWord_39 rfl (lv_at hl 2 rfl) ?_
        refine lv_if_eq (tgt := 82) hx hb dX8_isWord_40 (by decide) (fun c2 => ?_) (fun c2 => ?_)
        · replace hq := i_t c2 hq
          exact hK82 x2 H locs ls hI (lv_sub hl [2] rfl) hq
        · replace hq := i_f c2 hq
          refine lv_iload_n hx hb dX8_isWord_43 rfl (lv_at hl 3 rfl) ?_
          refine lv_aload_n hx hb dX8_isWord_44 rfl (lv_at hl 1 rfl) ?_
          obtain ⟨v3, ev3, hq⟩ := b_s hq
          refine gr_i (g_runVs (As := []) (rest := [.int x3]) (ci := 51) hC (c_J0_length_8abf5 l V g D cT f n x1 v3 ev3) k_J0_length_8abf5 m_2111 rfl rfl ⟨Nat.le_of_ble_eq_true rfl, Nat.le_of_ble_eq_true rfl⟩ hI rfl (h_me_eq ev3).1 rfl hl.1 rfl (Nat.le_of_ble_eq_true rfl) dX8_isWord_45 ⟨by decide, by decide⟩) hI (fun H locs hI => ?_)
          refine lv_icmp_ge (tgt := 82) hx hb dX8_isWord_48 (by decide) (fun c4 => ?_) (fun c4 => ?_)
          · replace hq := i_t c4 hq
            exact hK82 x2 H locs ls hI (lv_sub hl [2] rfl) hq
          · replace hq := i_f c4 hq
            refine lv_aload_n hx hb dX8_isWord_51 rfl (lv_at hl 1 rfl) ?_
            refine lv_iload_n hx hb dX8_isWord_52 rfl (lv_at hl 3 rfl) ?_
            obtain ⟨v5, ev5, hq⟩ := b_s hq
            refine gr_i (g_runVs (As := [.int x3]) (rest := []) (ci := 51) hC (c_J0_charAt_5068e l V g D cT f n x1 x3 v5 ev5) k_J0_charAt_5068e m_2112 rfl rfl ⟨Nat.le_of_ble_eq_true rfl, Nat.le_of_ble_eq_true rfl⟩ hI rfl (h_me_eq ev5).1 rfl hl.1 rfl (Nat.le_of_ble_eq_true rfl) dX8_isWord_53 ⟨by decide, by decide⟩) hI (fun H locs hI => ?_)
            refine lv_aload_n hx hb dX8_isWord_56 rfl (lv_at hl 0 rfl) ?_
            obtain ⟨v6, ev6, hq⟩ := b_s hq
            refine fa_gr (own := RX8) (ref := "CoastlineRulerModel") (k := 12) hx hb hB inB_RX8 hown hI rfl (by decide) m_1543 (fun _ h9 => h9) ev6 dX8_isWord_57 ?_
            refine lv_aload_n hx hb dX8_isWord_60 rfl (lv_at hl 0 rfl) ?_
            obtain ⟨v7, ev7, hq⟩ := b_s hq
            refine fa_gi (own := RX8) (ref := "CoastlineRulerModel") (k := 16) hx hb hB inB_RX8 hown hI rfl (by decide) m_1547 (fun _ h9 => h9) ev7 dX8_isWord_61 ?_
            refine lv_iload_n hx hb dX8_isWord_64 rfl (lv_at hl 3 rfl) ?_
            refine lv_iadd hx hb dX8_isWord_65 ?_
            obtain ⟨v8, ev8, hq⟩ := b_s hq
            refine fa_li hx hb hI ev8 dX8_isWord_66 ?_
            refine lv_icmp_ne (tgt := 74) hx hb dX8_isWord_67 (by decide) (fun c9 => ?_) (fun c9 => ?_)
            · replace hq := i_f c9 hq
              refine lv_iconst (v := (0 : Int32)) hx hb dX8_isWord_74 (by decide) ?_
              refine lv_istore_n (lv' := [(2, .int (0 : Int32)), (0, .ref x0), (1, .ref x1), (3, .int x3)]) hx hb dX8_isWord_75 rfl hl (by decide) rfl (fun ls hl => ?_)
              refine lv_iinc (v := x3 + (1 : Int32)) (lv' := [(3, .int (x3 + (1 : Int32))), (2, .int (0 : Int32)), (0, .ref x0), (1, .ref x1)]) hx hb dX8_isWord_76 hl (k := 3) rfl rfl (by decide) rfl (fun ls hl => ?_)
              refine lv_goto (tgt := 39) hx hb dX8_isWord_79 (by decide) ?_
              exact ih x0 x1 (0 : Int32) (x3 + (1 : Int32)) H locs ls hI (lv_sub hl [2, 3, 1, 0] rfl) hq
            · replace hq := i_t c9 hq
              refine lv_iconst (v := (1 : Int32)) hx hb dX8_isWord_70 (by decide) ?_
              refine lv_goto (tgt := 75) hx hb dX8_isWord_71 (by decide) ?_
              refine lv_istore_n (lv' := [(2, .int (1 : Int32)), (0, .ref x0), (1, .ref x1), (3, .int x3)]) hx hb dX8_isWord_75 rfl hl (by decide) rfl (fun ls hl => ?_)
              refine lv_iinc (v := x3 + (1 : Int32)) (lv' := [(3, .int (x3 + (1 : Int32))), (2, .int (1 : Int32)), (0, .ref x0), (1, .ref x1)]) hx hb dX8_isWord_76 hl (k := 3) rfl rfl (by decide) rfl (fun ls hl => ?_)
              refine lv_goto (tgt := 39) hx hb dX8_isWord_79 (by decide) ?_
              exact ih x0 x1 (1 : Int32) (x3 + (1 : Int32)) H locs ls hI (lv_sub hl [2, 3, 1, 0] rfl) hq
    refine hl39 _ ?_ FU x0 x1 t0 (0 : Int32) H locs ls hI (lv_sub hl [2, 3, 1, 0] rfl) hq
    · intro x2 H locs ls hI hl hq
      refine lv_iload_n hx hb dX8_isWord_82 rfl (lv_at hl 0 rfl) ?_
      obtain ⟨_, ev10, hq⟩ := b_s hq
      exact ge_Ri hx hb hlocks hr (h_bz_eq ev10).2.1 hI hq dX8_isWord_83
  have hj35 : ∀ (x0 : Nat) (x1 : Nat) (H : Heap) (locs : List Loc) (ls : Array Slot), g_at g_no V g D cT f n s H locs → lv_has ls 4 [(0, .ref x0), (1, .ref x1)] → p_X8_isWord_j35 V g f (p_X8_isWord_j36 V g f) x0 x1 = some o → W p l e rm_X8_isWord s m args below meth c H locs 0 0 (MQ below (g_Ri o n) args s 0 0 g_no) (F0 m 35 ls []) := by
    intro x0 x1 H locs ls hI hl hq
    unfold p_X8_isWord_j35 at hq
    refine lv_iconst (v := (0 : Int32)) hx hb dX8_isWord_35 (by decide) ?_
    exact hj36 x0 x1 (0 : Int32) H locs ls hI (lv_sub hl [0, 1] rfl) hq
  refine lv_if_ne (tgt := 35) hx hb dX8_isWord_4 (by decide) (fun c11 => ?_) (fun c11 => ?_)
  · replace hq := i_f c11 hq
    exact hj35 a0 a1 H locs ls hI (lv_sub hl [0, 1] rfl) hq
  · replace hq := i_t c11 hq
    refine lv_aload_n hx hb dX8_isWord_7 rfl (lv_at hl 0 rfl) ?_
    obtain ⟨v12, ev12, hq⟩ := b_s hq
    refine fa_gi (own := RX8) (ref := "CoastlineRulerModel") (k := 17) hx hb hB inB_RX8 hown hI rfl (by decide) m_1548 (fun _ h9 => h9) ev12 dX8_isWord_8 ?_
    refine lv_iconst (v := (1 : Int32)) hx hb dX8_isWord_11 (by decide) ?_
    refine lv_icmp_ne (tgt := 35) hx hb dX8_isWord_12 (by decide) (fun c13 => ?_) (fun c13 => ?_)
    · replace hq := i_f c13 hq
      exact hj35 a0 a1 H locs ls hI (lv_sub hl [0, 1] rfl) hq
    · replace hq := i_t c13 hq
      refine lv_aload_n hx hb dX8_isWord_15 rfl (lv_at hl 1 rfl) ?_
      obtain ⟨v14, ev14, hq⟩ := b_s hq
      refine gr_i (g_runVs (As := []) (rest := []) (ci := 51) hC (c_J0_length_8abf5 l V g D cT f n a1 v14 ev14) k_J0_length_8abf5 m_2111 rfl rfl ⟨Nat.le_of_ble_eq_true rfl, Nat.le_of_ble_eq_true rfl⟩ hI rfl (h_me_eq ev14).1 rfl hl.1 rfl (Nat.le_of_ble_eq_true rfl) dX8_isWord_16 ⟨by decide, by decide⟩) hI (fun H locs hI => ?_)
      refine lv_aload_n hx hb dX8_isWord_19 rfl (lv_at hl 0 rfl) ?_
      obtain ⟨v15, ev15, hq⟩ := b_s hq
      refine fa_gi (own := RX8) (ref := "CoastlineRulerModel") (k := 15) hx hb hB inB_RX8 hown hI rfl (by decide) m_1546 (fun _ h9 => h9) ev15 dX8_isWord_20 ?_
      refine lv_aload_n hx hb dX8_isWord_23 rfl (lv_at hl 0 rfl) ?_
      obtain ⟨v16, ev16, hq⟩ := b_s hq
      refine fa_gi (own := RX8) (ref := "CoastlineRulerModel") (k := 16) hx hb hB inB_RX8 hown hI rfl (by decide) m_1547 (fun _ h9 => h9) ev16 dX8_isWord_24 ?_
      refine lv_isub hx hb dX8_isWord_27 ?_
      refine lv_icmp_ne (tgt := 35) hx hb dX8_isWord_28 (by decide) (fun c17 => ?_) (fun c17 => ?_)
      · replace hq := i_f c17 hq
        exact hj35 a0 a1 H locs ls hI (lv_sub hl [0, 1] rfl) hq
      · replace hq := i_t c17 hq
        refine lv_iconst (v := (1 : Int32)) hx hb dX8_isWord_31 (by decide) ?_
        refine lv_goto (tgt := 36) hx hb dX8_isWord_32 (by decide) ?_
        exact hj36 a0 a1 (1 : Int32) H locs ls hI (lv_sub hl [0, 1] rfl) hq

abbrev rm_X8_expect : Room := { frames := 6, cells := 0, slots := 0, locals := 202 }
theorem k_X8_expect : g_CV yX8_expect cX8_expect 2 none 1 := ⟨⟨m_2130, m_14, by decide +kernel⟩, m_2129, ms_85⟩
set_option maxHeartbeats 4000000 in
set_option maxRecDepth 100000 in
theorem c_X8_expect (l : Launch) (V : Nat → Nat) (g : GH) (D : va_G) (cT : Nat → ClassId) (f : GH) (n : Nat) (a0 : Nat) (a1 : Int32) (o : GH) (hq : p_X8_expect V g f a0 a1 = some o) : Met l yX8_expect (Cond.code yX8_expect cX8_expect 2 none :: g_B) rm_X8_expect (va_Pc [.ref a0, .int a1] (g_I V g D cT f n)) (g_Wv V D cT o n) 0 0 (g_A V) := by
  refine g_begin (own := RX8) [.ref a0, .int a1] [(0, .ref a0), (1, .int a1)] (g_A V) (fun _ h => h) (by decide) rfl (Nat.le_of_ble_eq_true rfl) rfl ?_
  intro p e s m args below meth c hx hb hr hlocks hin hC hI ls hl
  obtain ⟨hx, hb, hml, hown, hB⟩ := id hC
  obtain ⟨H, hH⟩ : ∃ H, H = s.heap := ⟨_, rfl⟩
  obtain ⟨locs, hlocs⟩ : ∃ L : List Loc, L = [] := ⟨_, rfl⟩
  rw [← hH, ← hlocs] at hI ⊢
  clear hH hlocs
  unfold p_X8_expect at hq
  replace hq := (h_me_eq hq).2
  refine lv_aload_n hx hb dX8_expect_0 rfl (lv_at hl 0 rfl) ?_
  refine lv_aload_n hx hb dX8_expect_1 rfl (lv_at hl 0 rfl) ?_
  refine lv_iload_n hx hb dX8_expect_2 rfl (lv_at hl 1 rfl) ?_
  obtain ⟨v1, ev1, hq⟩ := b_s hq
  refine gr_i (g_runV (As := [.int a1]) (rest := [.ref a0]) (ci := 10) hC (c_X8_isSymbol l V g D cT f n a0 a1 v1 ev1) k_X8_isSymbol m_2131 rfl rfl ⟨Nat.le_of_ble_eq_true rfl, Nat.le_of_ble_eq_true rfl⟩ hI rfl rfl (h_me_eq ev1).1 rfl hl.1 rfl (Nat.le_of_ble_eq_true rfl) dX8_expect_3 ⟨by decide, by decide⟩) hI (fun H locs hI => ?_)
  refine lv_iconst (v := (1 : Int32)) hx hb dX8_expect_6 (by decide) ?_
  obtain ⟨v2, ev2, hq⟩ := b_s hq
  refine gw_v (g_runV (As := [.int v1, .int (1 : Int32)]) (rest := []) (ci := 10) hC (c_X8_check l V g D cT f n a0 v1 (1 : Int32) v2 ev2) k_X8_check m_2113 rfl rfl ⟨Nat.le_of_ble_eq_true rfl, Nat.le_of_ble_eq_true rfl⟩ hI rfl rfl (h_me_eq ev2).1 rfl hl.1 rfl (Nat.le_of_ble_eq_true rfl) dX8_expect_7 ⟨by decide, by decide⟩) hI (fun H locs hI => ?_)
  refine lv_aload_n hx hb dX8_expect_10 rfl (lv_at hl 0 rfl) ?_
  obtain ⟨v3, ev3, hq⟩ := b_s hq
  refine gw_v (g_runV (As := []) (rest := []) (ci := 10) hC (c_X8_advance l V g D cT v2 n a0 v3 ev3) k_X8_advance m_2117 rfl rfl ⟨Nat.le_of_ble_eq_true rfl, Nat.le_of_ble_eq_true rfl⟩ hI rfl rfl (h_me_eq ev3).1 rfl hl.1 rfl (Nat.le_of_ble_eq_true rfl) dX8_expect_11 ⟨by decide, by decide⟩) hI (fun H locs hI => ?_)
  exact ge_Wv hx hb hlocks hr hI (Option.some.inj hq) dX8_expect_14

abbrev rm_X8_value : Room := { frames := 2, cells := 0, slots := 0, locals := 120 }
theorem k_X8_value : g_CV yX8_value cX8_value 3 (some .int) 0 := ⟨⟨m_2154, m_14, by decide +kernel⟩, m_2153, ms_91⟩
set_option maxHeartbeats 4000000 in
set_option maxRecDepth 100000 in
theorem c_X8_value (l : Launch) (V : Nat → Nat) (g : GH) (D : va_G) (cT : Nat → ClassId) (f : GH) (n : Nat) (a0 : Nat) (o : Int32) (hq : p_X8_value V g f a0 = some o) : Met l yX8_value (Cond.code yX8_value cX8_value 3 (some .int) :: g_B) rm_X8_value (va_Pc [.ref a0] (g_I V g D cT f n)) (g_Ri o n) 0 0 g_no := by
  refine g_begin (own := RX8) [.ref a0] [(0, .ref a0)] g_no (fun _ h => h.elim) (by decide) rfl (Nat.le_of_ble_eq_true rfl) rfl ?_
  intro p e s m args below meth c hx hb hr hlocks hin hC hI ls hl
  obtain ⟨hx, hb, hml, hown, hB⟩ := id hC
  obtain ⟨H, hH⟩ : ∃ H, H = s.heap := ⟨_, rfl⟩
  obtain ⟨locs, hlocs⟩ : ∃ L : List Loc, L = [] := ⟨_, rfl⟩
  rw [← hH, ← hlocs] at hI ⊢
  clear hH hlocs
  unfold p_X8_value at hq
  replace hq := (h_me_eq hq).2
  refine lv_iconst (v := (0 : Int32)) hx hb dX8_value_0 (by decide) ?_
  refine lv_istore_n (lv' := [(1, .int (0 : Int32)), (0, .ref a0)]) hx hb dX8_value_1 rfl hl (by decide) rfl (fun ls hl => ?_)
  refine lv_aload_n hx hb dX8_value_2 rfl (lv_at hl 1 rfl) ?_
  obtain ⟨v1, ev1, hq⟩ := b_s hq
  refine fa_gi (own := RX8) (ref := "CoastlineRulerModel") (k := 16) hx hb hB inB_RX8 hown hI rfl (by decide) m_1547 (fun _ h9 => h9) ev1 dX8_value_3 ?_
  refine lv_istore_n (lv' := [(2, .int v1), (1, .int (0 : Int32)), (0, .ref a0)]) hx hb dX8_value_6 rfl hl (by decide) rfl (fun ls hl => ?_)
  have hl7 : ∀ (K55 : Int32 → Option Int32) (hK55 : ∀ (x1 : Int32) (H : Heap) (locs : List Loc) (ls : Array Slot), g_at g_no V g D cT f n s H locs → lv_has ls 3 [(1, .int x1)] → K55 x1 = some o → W p l e rm_X8_value s m args below meth c H locs 0 0 (MQ below (g_Ri o n) args s 0 0 g_no) (F0 m 55 ls [])) (N : Nat) (x0 : Nat) (x1 : Int32) (x2 : Int32) (H : Heap) (locs : List Loc) (ls : Array Slot), g_at g_no V g D cT f n s H locs → lv_has ls 3 [(0, .ref x0), (1, .int x1), (2, .int x2)] → p_X8_value_l7 V g f K55 N x0 x1 x2 = some o → W p l e rm_X8_value s m args below meth c H locs 0 0 (MQ below (g_Ri o n) args s 0 0 g_no) (F0 m 7 ls []) := by
    intro K55 hK55 N
    induction N with
    | zero =>
      intro x0 x1 x2 H locs ls hI hl hq
      rw [p_X8_value_l7] at hq
      cases hq
    | succ N ih =>
      intro x0 x1 x2 H locs ls hI hl hq
      rw [p_X8_value_l7] at hq
      refine lv_iload_n hx hb dX8_value_7 rfl (lv_at hl 2 rfl) ?_
      refine lv_aload_n hx hb dX8_value_8 rfl (lv_at hl 0 rfl) ?_
      obtain ⟨v2, ev2, hq⟩ := b_s hq
      refine fa_gi (own := RX8) (ref := "CoastlineRulerModel") (k := 15) hx hb hB inB_RX8 hown hI rfl (by decide) m_1546 (fun _ h9 => h9) ev2 dX8_value_9 ?_
      refine lv_icmp_ge (tgt := 55) hx hb dX8_value_12 (by decide) (fun c3 => ?_) (fun c3 => ?_)
      · replace hq := i_t c3 hq
        exact hK55 x1 H locs ls hI (lv_sub hl [1] rfl) hq
      · replace hq := i_f c3 hq
        refine lv_aload_n hx hb dX8_value_15 rfl (lv_at hl 0 rfl) ?_
        obtain ⟨v4, ev4, hq⟩ := b_s hq
        refine fa_gi (own := RX8) (ref := "CoastlineRulerModel") (k := 17) hx hb hB inB_RX8 hown hI rfl (by decide) m_1548 (fun _ h9 => h9) ev4 dX8_value_16 ?_
        refine lv_iconst (v := (2 : Int32)) hx hb dX8_value_19 (by decide) ?_
        refine lv_icmp_ne (tgt := 55) hx hb dX8_value_20 (by decide) (fun c5 => ?_) (fun c5 => ?_)
        · replace hq := i_f c5 hq
          exact hK55 x1 H locs ls hI (lv_sub hl [1] rfl) hq
        · replace hq := i_t c5 hq
          refine lv_iload_n hx hb dX8_value_23 rfl (lv_at hl 1 rfl) ?_
          refine lv_ldcw (own := RX8) (index := 372) (v := (9999999 : Int32)) hx hb hown (hB _ m_2155) dX8_value_24 ?_
          refine lv_icmp_le (tgt := 34) hx hb dX8_value_27 (by decide) (fun c6 => ?_) (fun c6 => ?_)
          · replace hq := i_t c6 hq
            refine lv_bipush (v := (10 : Int32)) hx hb dX8_value_34 (by decide) ?_
            refine lv_iload_n hx hb dX8_value_36 rfl (lv_at hl 1 rfl) ?_
            refine lv_imul hx hb dX8_value_37 ?_
            refine lv_aload_n hx hb dX8_value_38 rfl (lv_at hl 0 rfl) ?_
            obtain ⟨v7, ev7, hq⟩ := b_s hq
            refine fa_gr (own := RX8) (ref := "CoastlineRulerModel") (k := 12) hx hb hB inB_RX8 hown hI rfl (by decide) m_1543 (fun _ h9 => h9) ev7 dX8_value_39 ?_
            refine lv_iload_n hx hb dX8_value_42 rfl (lv_at hl 2 rfl) ?_
            obtain ⟨v8, ev8, hq⟩ := b_s hq
            refine fa_li hx hb hI ev8 dX8_value_43 ?_
            refine lv_iadd hx hb dX8_value_44 ?_
            refine lv_bipush (v := (48 : Int32)) hx hb dX8_value_45 (by decide) ?_
            refine lv_isub hx hb dX8_value_47 ?_
            refine lv_istore_n (lv' := [(1, .int ((((10 : Int32) * x1) + v8) - (48 : Int32))), (0, .ref x0), (2, .int x2)]) hx hb dX8_value_48 rfl hl (by decide) rfl (fun ls hl => ?_)
            refine lv_iinc (v := x2 + (1 : Int32)) (lv' := [(2, .int (x2 + (1 : Int32))), (1, .int ((((10 : Int32) * x1) + v8) - (48 : Int32))), (0, .ref x0)]) hx hb dX8_value_49 hl (k := 2) rfl rfl (by decide) rfl (fun ls hl => ?_)
            refine lv_goto (tgt := 7) hx hb dX8_value_52 (by decide) ?_
            exact ih x0 ((((10 : Int32) * x1) + v8) - (48 : Int32)) (x2 + (1 : Int32)) H locs ls hI (lv_sub hl [2, 1, 0] rfl) hq
          · replace hq := i_f c6 hq
            refine lv_iload_n hx hb dX8_value_30 rfl (lv_at hl 1 rfl) ?_
            refine lv_goto (tgt := 48) hx hb dX8_value_31 (by decide) ?_
            refine lv_istore_n (lv' := [(1, .int x1), (0, .ref x0), (2, .int x2)]) hx hb dX8_value_48 rfl hl (by decide) rfl (fun ls hl => ?_)
            refine lv_iinc (v := x2 + (1 : Int32)) (lv' := [(2, .int (x2 + (1 : Int32))), (1, .int x1), (0, .ref x0)]) hx hb dX8_value_49 hl (k := 2) rfl rfl (by decide) rfl (fun ls hl => ?_)
            refine lv_goto (tgt := 7) hx hb dX8_value_52 (by decide) ?_
            exact ih x0 x1 (x2 + (1 : Int32)) H locs ls hI (lv_sub hl [2, 1, 0] rfl) hq
  refine hl7 _ ?_ FU a0 (0 : Int32) v1 H locs ls hI (lv_sub hl [2, 1, 0] rfl) hq
  · intro x1 H locs ls hI hl hq
    refine lv_iload_n hx hb dX8_value_55 rfl (lv_at hl 0 rfl) ?_
    exact ge_Ri hx hb hlocks hr rfl hI hq dX8_value_56

abbrev rm_X8_look : Room := { frames := 3, cells := 0, slots := 0, locals := 142 }
theorem k_X8_look : g_CV yX8_look cX8_look 4 (some .int) 2 := ⟨⟨m_2167, m_14, by decide +kernel⟩, m_2166, ms_94⟩
set_option maxHeartbeats 4000000 in
set_option maxRecDepth 100000 in
theorem c_X8_look (l : Launch) (V : Nat → Nat) (g : GH) (D : va_G) (cT : Nat → ClassId) (f : GH) (n : Nat) (a0 : Nat) (a1 : Int32) (a2 : Int32) (o : Int32 × GH) (hq : p_X8_look V g f a0 a1 a2 = some o) : Met l yX8_look (Cond.code yX8_look cX8_look 4 (some .int) :: g_B) rm_X8_look (va_Pc [.ref a0, .int a1, .int a2] (g_I V g D cT f n)) (g_Wi V D cT o.1 o.2 n) 0 0 (g_A V) := by
  refine g_begin (own := RX8) [.ref a0, .int a1, .int a2] [(0, .ref a0), (1, .int a1), (2, .int a2)] (g_A V) (fun _ h => h) (by decide) rfl (Nat.le_of_ble_eq_true rfl) rfl ?_
  intro p e s m args below meth c hx hb hr hlocks hin hC hI ls hl
  obtain ⟨hx, hb, hml, hown, hB⟩ := id hC
  obtain ⟨H, hH⟩ : ∃ H, H = s.heap := ⟨_, rfl⟩
  obtain ⟨locs, hlocs⟩ : ∃ L : List Loc, L = [] := ⟨_, rfl⟩
  rw [← hH, ← hlocs] at hI ⊢
  clear hH hlocs
  unfold p_X8_look at hq
  replace hq := (h_me_eq hq).2
  refine lv_aload_n hx hb dX8_look_0 rfl (lv_at hl 0 rfl) ?_
  refine lv_aload_n hx hb dX8_look_1 rfl (lv_at hl 0 rfl) ?_
  obtain ⟨v1, ev1, hq⟩ := b_s hq
  refine fa_gi (own := RX8) (ref := "CoastlineRulerModel") (k := 17) hx hb hB inB_RX8 hown hI rfl (by decide) m_1548 (fun _ h9 => h9) ev1 dX8_look_2 ?_
  refine lv_iconst (v := (2 : Int32)) hx hb dX8_look_5 (by decide) ?_
  have hj14 : ∀ (x0 : Nat) (x1 : Int32) (x2 : Int32) (t0 : Int32) (t1 : Nat) (f : GH) (H : Heap) (locs : List Loc) (ls : Array Slot), g_at (g_A V) V g D cT f n s H locs → lv_has ls 4 [(0, .ref x0), (1, .int x1), (2, .int x2)] → p_X8_look_j14 V g x0 x1 x2 t0 t1 f = some o → W p l e rm_X8_look s m args below meth c H locs 0 0 (MQ below (g_Wi V D cT o.1 o.2 n) args s 0 0 (g_A V)) (F0 m 14 ls [.int t0, .ref t1]) := by
    intro x0 x1 x2 t0 t1 f H locs ls hI hl hq
    unfold p_X8_look_j14 at hq
    refine lv_iconst (v := (1 : Int32)) hx hb dX8_look_14 (by decide) ?_
    obtain ⟨v2, ev2, hq⟩ := b_s hq
    refine gw_v (g_runV (As := [.int t0, .int (1 : Int32)]) (rest := []) (ci := 10) hC (c_X8_check l V g D cT f n t1 t0 (1 : Int32) v2 ev2) k_X8_check m_2113 rfl rfl ⟨Nat.le_of_ble_eq_true rfl, Nat.le_of_ble_eq_true rfl⟩ hI rfl rfl (h_me_eq ev2).1 rfl hl.1 rfl (Nat.le_of_ble_eq_true rfl) dX8_look_15 ⟨by decide, by decide⟩) hI (fun H locs hI => ?_)
    refine lv_aload_n hx hb dX8_look_18 rfl (lv_at hl 0 rfl) ?_
    obtain ⟨v3, ev3, hq⟩ := b_s hq
    refine gr_i (g_runV (As := []) (rest := []) (ci := 10) hC (c_X8_value l V g D cT v2 n x0 v3 ev3) k_X8_value m_2151 rfl rfl ⟨Nat.le_of_ble_eq_true rfl, Nat.le_of_ble_eq_true rfl⟩ hI rfl rfl (h_me_eq ev3).1 rfl hl.1 rfl (Nat.le_of_ble_eq_true rfl) dX8_look_19 ⟨by decide, by decide⟩) hI (fun H locs hI => ?_)
    refine lv_istore_n (lv' := [(3, .int v3), (0, .ref x0), (1, .int x1), (2, .int x2)]) hx hb dX8_look_22 rfl hl (by decide) rfl (fun ls hl => ?_)
    refine lv_aload_n hx hb dX8_look_23 rfl (lv_at hl 1 rfl) ?_
    refine lv_iload_n hx hb dX8_look_24 rfl (lv_at hl 0 rfl) ?_
    refine lv_iload_n hx hb dX8_look_25 rfl (lv_at hl 2 rfl) ?_
    refine lv_iload_n hx hb dX8_look_26 rfl (lv_at hl 3 rfl) ?_
    obtain ⟨v4, ev4, hq⟩ := b_s hq
    refine gr_i (g_runS (As := [.int v3, .int x1, .int x2]) (rest := [.ref x0]) hC (c_X8_inRange l V g D cT v2 n v3 x1 x2 v4 ev4) k_X8_inRange m_1634 rfl rfl ⟨Nat.le_of_ble_eq_true rfl, Nat.le_of_ble_eq_true rfl⟩ hI rfl hl.1 rfl (Nat.le_of_ble_eq_true rfl) dX8_look_27 ⟨by decide, by decide⟩) hI (fun H locs hI => ?_)
    refine lv_iconst (v := (2 : Int32)) hx hb dX8_look_30 (by decide) ?_
    obtain ⟨v5, ev5, hq⟩ := b_s hq
    refine gw_v (g_runV (As := [.int v4, .int (2 : Int32)]) (rest := []) (ci := 10) hC (c_X8_check l V g D cT v2 n x0 v4 (2 : Int32) v5 ev5) k_X8_check m_2113 rfl rfl ⟨Nat.le_of_ble_eq_true rfl, Nat.le_of_ble_eq_true rfl⟩ hI rfl rfl (h_me_eq ev5).1 rfl hl.1 rfl (Nat.le_of_ble_eq_true rfl) dX8_look_31 ⟨by decide, by decide⟩) hI (fun H locs hI => ?_)
    refine lv_aload_n hx hb dX8_look_34 rfl (lv_at hl 1 rfl) ?_
    obtain ⟨v6, ev6, hq⟩ := b_s hq
    refine fa_gi (own := RX8) (ref := "CoastlineRulerModel") (k := 18) hx hb hB inB_RX8 hown hI rfl (by decide) m_1549 (fun _ h9 => h9) ev6 dX8_look_35 ?_
    refine lv_if_ne (tgt := 45) hx hb dX8_look_38 (by decide) (fun c7 => ?_) (fun c7 => ?_)
    · replace hq := i_f c7 hq
      refine lv_iload_n hx hb dX8_look_45 rfl (lv_at hl 2 rfl) ?_
      exact ge_Wi hx hb hlocks hr rfl hI (congrArg (fun z => z.1) (Option.some.inj hq)) (congrArg (fun z => z.2) (Option.some.inj hq)) dX8_look_46
    · replace hq := i_t c7 hq
      refine lv_iload_n hx hb dX8_look_41 rfl (lv_at hl 0 rfl) ?_
      refine lv_goto (tgt := 46) hx hb dX8_look_42 (by decide) ?_
      exact ge_Wi hx hb hlocks hr rfl hI (congrArg (fun z => z.1) (Option.some.inj hq)) (congrArg (fun z => z.2) (Option.some.inj hq)) dX8_look_46
  refine lv_icmp_ne (tgt := 13) hx hb dX8_look_6 (by decide) (fun c8 => ?_) (fun c8 => ?_)
  · replace hq := i_f c8 hq
    refine lv_iconst (v := (0 : Int32)) hx hb dX8_look_13 (by decide) ?_
    exact hj14 a0 a1 a2 (0 : Int32) a0 f H locs ls hI (lv_sub hl [0, 1, 2] rfl) hq
  · replace hq := i_t c8 hq
    refine lv_iconst (v := (1 : Int32)) hx hb dX8_look_9 (by decide) ?_
    refine lv_goto (tgt := 14) hx hb dX8_look_10 (by decide) ?_
    exact hj14 a0 a1 a2 (1 : Int32) a0 f H locs ls hI (lv_sub hl [0, 1, 2] rfl) hq

abbrev rm_X8_readNumber : Room := { frames := 6, cells := 0, slots := 0, locals := 202 }
theorem k_X8_readNumber : g_CV yX8_readNumber cX8_readNumber 4 (some .int) 2 := ⟨⟨m_2163, m_14, by decide +kernel⟩, m_2162, ms_93⟩
set_option maxHeartbeats 4000000 in
set_option maxRecDepth 100000 in
theorem c_X8_readNumber (l : Launch) (V : Nat → Nat) (g : GH) (D : va_G) (cT : Nat → ClassId) (f : GH) (n : Nat) (a0 : Nat) (a1 : Int32) (a2 : Int32) (o : Int32 × GH) (hq : p_X8_readNumber V g f a0 a1 a2 = some o) : Met l yX8_readNumber (Cond.code yX8_readNumber cX8_readNumber 4 (some .int) :: g_B) rm_X8_readNumber (va_Pc [.ref a0, .int a1, .int a2] (g_I V g D cT f n)) (g_Wi V D cT o.1 o.2 n) 0 0 (g_A V) := by
  refine g_begin (own := RX8) [.ref a0, .int a1, .int a2] [(0, .ref a0), (1, .int a1), (2, .int a2)] (g_A V) (fun _ h => h) (by decide) rfl (Nat.le_of_ble_eq_true rfl) rfl ?_
  intro p e s m args below meth c hx hb hr hlocks hin hC hI ls hl
  obtain ⟨hx, hb, hml, hown, hB⟩ := id hC
  obtain ⟨H, hH⟩ : ∃ H, H = s.heap := ⟨_, rfl⟩
  obtain ⟨locs, hlocs⟩ : ∃ L : List Loc, L = [] := ⟨_, rfl⟩
  rw [← hH, ← hlocs] at hI ⊢
  clear hH hlocs
  unfold p_X8_readNumber at hq
  replace hq := (h_me_eq hq).2
  refine lv_aload_n hx hb dX8_readNumber_0 rfl (lv_at hl 0 rfl) ?_
  refine lv_iload_n hx hb dX8_readNumber_1 rfl (lv_at hl 1 rfl) ?_
  refine lv_iload_n hx hb dX8_readNumber_2 rfl (lv_at hl 2 rfl) ?_
  obtain ⟨v1, ev1, hq⟩ := b_s hq
  refine gw_i (g_runV (As := [.int a1, .int a2]) (rest := []) (ci := 10) hC (c_X8_look l V g D cT f n a0 a1 a2 v1 ev1) k_X8_look m_2164 rfl rfl ⟨Nat.le_of_ble_eq_true rfl, Nat.le_of_ble_eq_true rfl⟩ hI rfl rfl (h_me_eq ev1).1 rfl hl.1 rfl (Nat.le_of_ble_eq_true rfl) dX8_readNumber_3 ⟨by decide, by decide⟩) hI (fun H locs hI => ?_)
  refine lv_istore_n (lv' := [(3, .int v1.1), (0, .ref a0), (1, .int a1), (2, .int a2)]) hx hb dX8_readNumber_6 rfl hl (by decide) rfl (fun ls hl => ?_)
  refine lv_aload_n hx hb dX8_readNumber_7 rfl (lv_at hl 1 rfl) ?_
  obtain ⟨v2, ev2, hq⟩ := b_s hq
  refine gw_v (g_runV (As := []) (rest := []) (ci := 10) hC (c_X8_advance l V g D cT v1.2 n a0 v2 ev2) k_X8_advance m_2117 rfl rfl ⟨Nat.le_of_ble_eq_true rfl, Nat.le_of_ble_eq_true rfl⟩ hI rfl rfl (h_me_eq ev2).1 rfl hl.1 rfl (Nat.le_of_ble_eq_true rfl) dX8_readNumber_8 ⟨by decide, by decide⟩) hI (fun H locs hI => ?_)
  refine lv_iload_n hx hb dX8_readNumber_11 rfl (lv_at hl 0 rfl) ?_
  exact ge_Wi hx hb hlocks hr rfl hI (congrArg (fun z => z.1) (Option.some.inj hq)) (congrArg (fun z => z.2) (Option.some.inj hq)) dX8_readNumber_12

abbrev rm_X8_errorCode : Room := { frames := 2, cells := 0, slots := 0, locals := 120 }
theorem k_X8_errorCode : g_CV yX8_errorCode cX8_errorCode 1 (some .int) 0 := ⟨⟨m_2073, m_14, by decide +kernel⟩, m_2071, m_2072⟩
set_option maxHeartbeats 4000000 in
set_option maxRecDepth 100000 in
theorem c_X8_errorCode (l : Launch) (V : Nat → Nat) (g : GH) (D : va_G) (cT : Nat → ClassId) (f : GH) (n : Nat) (a0 : Nat) (o : Int32 × GH) (hq : p_X8_errorCode V g f a0 = some o) : Met l yX8_errorCode (Cond.code yX8_errorCode cX8_errorCode 1 (some .int) :: g_B) rm_X8_errorCode (va_Pc [.ref a0] (g_I V g D cT f n)) (g_Wi V D cT o.1 o.2 n) 0 0 (g_A V) := by
  refine g_begin (own := RX8) [.ref a0] [(0, .ref a0)] (g_A V) (fun _ h => h) (by decide) rfl (Nat.le_of_ble_eq_true rfl) rfl ?_
  intro p e s m args below meth c hx hb hr hlocks hin hC hI ls hl
  obtain ⟨hx, hb, hml, hown, hB⟩ := id hC
  obtain ⟨H, hH⟩ : ∃ H, H = s.heap := ⟨_, rfl⟩
  obtain ⟨locs, hlocs⟩ : ∃ L : List Loc, L = [] := ⟨_, rfl⟩
  rw [← hH, ← hlocs] at hI ⊢
  clear hH hlocs
  unfold p_X8_errorCode at hq
  replace hq := (h_me_eq hq).2
  refine lv_aload_n hx hb dX8_errorCode_0 rfl (lv_at hl 0 rfl) ?_
  refine lv_iconst (v := (0 : Int32)) hx hb dX8_errorCode_1 (by decide) ?_
  obtain ⟨f1, ef1, hq⟩ := b_s hq
  refine fa_pt (own := RX8) (ref := "CoastlineRulerModel") (k := 7) hx hb hB inB_RX8 tyX8_ok nmX8 hown hI rfl (by decide) m_1538 (fun _ h9 => h9) (by decide) rfl rfl ef1 dX8_errorCode_2 (fun H locs hI => ?_)
  refine lv_aload_n hx hb dX8_errorCode_5 rfl (lv_at hl 0 rfl) ?_
  obtain ⟨v2, ev2, hq⟩ := b_s hq
  refine fa_gi (own := RX8) (ref := "CoastlineRulerModel") (k := 8) hx hb hB inB_RX8 hown hI rfl (by decide) m_1539 (fun _ h9 => h9) ev2 dX8_errorCode_6 ?_
  exact ge_Wi hx hb hlocks hr rfl hI (congrArg (fun z => z.1) (Option.some.inj hq)) (congrArg (fun z => z.2) (Option.some.inj hq)) dX8_errorCode_9

abbrev rm_X8_isFaulty : Room := { frames := 3, cells := 0, slots := 0, locals := 140 }
theorem k_X8_isFaulty : g_CV yX8_isFaulty cX8_isFaulty 1 (some .boolean) 0 := ⟨⟨m_2171, m_14, by decide +kernel⟩, m_2170, ms_95⟩
set_option maxHeartbeats 4000000 in
set_option maxRecDepth 100000 in
theorem c_X8_isFaulty (l : Launch) (V : Nat → Nat) (g : GH) (D : va_G) (cT : Nat → ClassId) (f : GH) (n : Nat) (a0 : Nat) (o : Int32 × GH) (hq : p_X8_isFaulty V g f a0 = some o) : Met l yX8_isFaulty (Cond.code yX8_isFaulty cX8_isFaulty 1 (some .boolean) :: g_B) rm_X8_isFaulty (va_Pc [.ref a0] (g_I V g D cT f n)) (g_Wi V D cT o.1 o.2 n) 0 0 (g_A V) := by
  refine g_begin (own := RX8) [.ref a0] [(0, .ref a0)] (g_A V) (fun _ h => h) (by decide) rfl (Nat.le_of_ble_eq_true rfl) rfl ?_
  intro p e s m args below meth c hx hb hr hlocks hin hC hI ls hl
  obtain ⟨hx, hb, hml, hown, hB⟩ := id hC
  obtain ⟨H, hH⟩ : ∃ H, H = s.heap := ⟨_, rfl⟩
  obtain ⟨locs, hlocs⟩ : ∃ L : List Loc, L = [] := ⟨_, rfl⟩
  rw [← hH, ← hlocs] at hI ⊢
  clear hH hlocs
  unfold p_X8_isFaulty at hq
  replace hq := (h_me_eq hq).2
  refine lv_aload_n hx hb dX8_isFaulty_0 rfl (lv_at hl 0 rfl) ?_
  refine lv_aload_n hx hb dX8_isFaulty_1 rfl (lv_at hl 0 rfl) ?_
  obtain ⟨v1, ev1, hq⟩ := b_s hq
  refine gw_i (g_runV (As := []) (rest := [.ref a0]) (ci := 10) hC (c_X8_finish l V g D cT f n a0 v1 ev1) k_X8_finish m_2172 rfl rfl ⟨Nat.le_of_ble_eq_true rfl, Nat.le_of_ble_eq_true rfl⟩ hI rfl rfl (h_me_eq ev1).1 rfl hl.1 rfl (Nat.le_of_ble_eq_true rfl) dX8_isFaulty_2 ⟨by decide, by decide⟩) hI (fun H locs hI => ?_)
  obtain ⟨f2, ef2, hq⟩ := b_s hq
  refine fa_pt (own := RX8) (ref := "CoastlineRulerModel") (k := 8) hx hb hB inB_RX8 tyX8_ok nmX8 hown hI rfl (by decide) m_1539 (fun _ h9 => h9) (by decide) rfl rfl ef2 dX8_isFaulty_5 (fun H locs hI => ?_)
  refine lv_aload_n hx hb dX8_isFaulty_8 rfl (lv_at hl 0 rfl) ?_
  obtain ⟨v3, ev3, hq⟩ := b_s hq
  refine fa_gi (own := RX8) (ref := "CoastlineRulerModel") (k := 8) hx hb hB inB_RX8 hown hI rfl (by decide) m_1539 (fun _ h9 => h9) ev3 dX8_isFaulty_9 ?_
  refine lv_if_eq (tgt := 19) hx hb dX8_isFaulty_12 (by decide) (fun c4 => ?_) (fun c4 => ?_)
  · replace hq := i_t c4 hq
    refine lv_iconst (v := (0 : Int32)) hx hb dX8_isFaulty_19 (by decide) ?_
    exact ge_Wi hx hb hlocks hr (by decide +kernel) hI (congrArg (fun z => z.1) (Option.some.inj hq)) (congrArg (fun z => z.2) (Option.some.inj hq)) dX8_isFaulty_20
  · replace hq := i_f c4 hq
    refine lv_iconst (v := (1 : Int32)) hx hb dX8_isFaulty_15 (by decide) ?_
    refine lv_goto (tgt := 20) hx hb dX8_isFaulty_16 (by decide) ?_
    exact ge_Wi hx hb hlocks hr (by decide +kernel) hI (congrArg (fun z => z.1) (Option.some.inj hq)) (congrArg (fun z => z.2) (Option.some.inj hq)) dX8_isFaulty_20

abbrev rm_X8_readSigned : Room := { frames := 7, cells := 0, slots := 0, locals := 225 }
theorem k_X8_readSigned : g_CV yX8_readSigned cX8_readSigned 4 (some .int) 1 := ⟨⟨m_2159, m_14, by decide +kernel⟩, m_2158, ms_92⟩
set_option maxHeartbeats 4000000 in
set_option maxRecDepth 100000 in
theorem c_X8_readSigned (l : Launch) (V : Nat → Nat) (g : GH) (D : va_G) (cT : Nat → ClassId) (f : GH) (n : Nat) (a0 : Nat) (a1 : Int32) (o : Int32 × GH) (hq : p_X8_readSigned V g f a0 a1 = some o) : Met l yX8_readSigned (Cond.code yX8_readSigned cX8_readSigned 4 (some .int) :: g_B) rm_X8_readSigned (va_Pc [.ref a0, .int a1] (g_I V g D cT f n)) (g_Wi V D cT o.1 o.2 n) 0 0 (g_A V) := by
  refine g_begin (own := RX8) [.ref a0, .int a1] [(0, .ref a0), (1, .int a1)] (g_A V) (fun _ h => h) (by decide) rfl (Nat.le_of_ble_eq_true rfl) rfl ?_
  intro p e s m args below meth c hx hb hr hlocks hin hC hI ls hl
  obtain ⟨hx, hb, hml, hown, hB⟩ := id hC
  obtain ⟨H, hH⟩ : ∃ H, H = s.heap := ⟨_, rfl⟩
  obtain ⟨locs, hlocs⟩ : ∃ L : List Loc, L = [] := ⟨_, rfl⟩
  rw [← hH, ← hlocs] at hI ⊢
  clear hH hlocs
  unfold p_X8_readSigned at hq
  replace hq := (h_me_eq hq).2
  refine lv_aload_n hx hb dX8_readSigned_0 rfl (lv_at hl 0 rfl) ?_
  refine lv_bipush (v := (45 : Int32)) hx hb dX8_readSigned_1 (by decide) ?_
  obtain ⟨v1, ev1, hq⟩ := b_s hq
  refine gr_i (g_runV (As := [.int (45 : Int32)]) (rest := []) (ci := 10) hC (c_X8_isSymbol l V g D cT f n a0 (45 : Int32) v1 ev1) k_X8_isSymbol m_2131 rfl rfl ⟨Nat.le_of_ble_eq_true rfl, Nat.le_of_ble_eq_true rfl⟩ hI rfl rfl (h_me_eq ev1).1 rfl hl.1 rfl (Nat.le_of_ble_eq_true rfl) dX8_readSigned_3 ⟨by decide, by decide⟩) hI (fun H locs hI => ?_)
  refine lv_istore_n (lv' := [(2, .int v1), (0, .ref a0), (1, .int a1)]) hx hb dX8_readSigned_6 rfl hl (by decide) rfl (fun ls hl => ?_)
  refine lv_iload_n hx hb dX8_readSigned_7 rfl (lv_at hl 0 rfl) ?_
  have hj15 : ∀ (x0 : Nat) (x1 : Int32) (x2 : Int32) (f : GH) (H : Heap) (locs : List Loc) (ls : Array Slot), g_at (g_A V) V g D cT f n s H locs → lv_has ls 4 [(0, .ref x0), (1, .int x1), (2, .int x2)] → p_X8_readSigned_j15 V g x0 x1 x2 f = some o → W p l e rm_X8_readSigned s m args below meth c H locs 0 0 (MQ below (g_Wi V D cT o.1 o.2 n) args s 0 0 (g_A V)) (F0 m 15 ls []) := by
    intro x0 x1 x2 f H locs ls hI hl hq
    unfold p_X8_readSigned_j15 at hq
    refine lv_aload_n hx hb dX8_readSigned_15 rfl (lv_at hl 0 rfl) ?_
    refine lv_iconst (v := (0 : Int32)) hx hb dX8_readSigned_16 (by decide) ?_
    refine lv_iload_n hx hb dX8_readSigned_17 rfl (lv_at hl 1 rfl) ?_
    obtain ⟨v2, ev2, hq⟩ := b_s hq
    refine gw_i (g_runV (As := [.int (0 : Int32), .int x1]) (rest := []) (ci := 10) hC (c_X8_readNumber l V g D cT f n x0 (0 : Int32) x1 v2 ev2) k_X8_readNumber m_2160 rfl rfl ⟨Nat.le_of_ble_eq_true rfl, Nat.le_of_ble_eq_true rfl⟩ hI rfl rfl (h_me_eq ev2).1 rfl hl.1 rfl (Nat.le_of_ble_eq_true rfl) dX8_readSigned_18 ⟨by decide, by decide⟩) hI (fun H locs hI => ?_)
    refine lv_istore_n (lv' := [(3, .int v2.1), (0, .ref x0), (1, .int x1), (2, .int x2)]) hx hb dX8_readSigned_21 rfl hl (by decide) rfl (fun ls hl => ?_)
    refine lv_iload_n hx hb dX8_readSigned_22 rfl (lv_at hl 3 rfl) ?_
    refine lv_if_eq (tgt := 31) hx hb dX8_readSigned_23 (by decide) (fun c3 => ?_) (fun c3 => ?_)
    · replace hq := i_t c3 hq
      refine lv_iload_n hx hb dX8_readSigned_31 rfl (lv_at hl 0 rfl) ?_
      exact ge_Wi hx hb hlocks hr rfl hI (congrArg (fun z => z.1) (Option.some.inj hq)) (congrArg (fun z => z.2) (Option.some.inj hq)) dX8_readSigned_32
    · replace hq := i_f c3 hq
      refine lv_iload_n hx hb dX8_readSigned_26 rfl (lv_at hl 0 rfl) ?_
      refine lv_ineg hx hb dX8_readSigned_27 ?_
      refine lv_goto (tgt := 32) hx hb dX8_readSigned_28 (by decide) ?_
      exact ge_Wi hx hb hlocks hr rfl hI (congrArg (fun z => z.1) (Option.some.inj hq)) (congrArg (fun z => z.2) (Option.some.inj hq)) dX8_readSigned_32
  refine lv_if_eq (tgt := 15) hx hb dX8_readSigned_8 (by decide) (fun c4 => ?_) (fun c4 => ?_)
  · replace hq := i_t c4 hq
    exact hj15 a0 a1 v1 f H locs ls hI (lv_sub hl [1, 2, 0] rfl) hq
  · replace hq := i_f c4 hq
    refine lv_aload_n hx hb dX8_readSigned_11 rfl (lv_at hl 1 rfl) ?_
    obtain ⟨v5, ev5, hq⟩ := b_s hq
    refine gw_v (g_runV (As := []) (rest := []) (ci := 10) hC (c_X8_advance l V g D cT f n a0 v5 ev5) k_X8_advance m_2117 rfl rfl ⟨Nat.le_of_ble_eq_true rfl, Nat.le_of_ble_eq_true rfl⟩ hI rfl rfl (h_me_eq ev5).1 rfl hl.1 rfl (Nat.le_of_ble_eq_true rfl) dX8_readSigned_12 ⟨by decide, by decide⟩) hI (fun H locs hI => ?_)
    exact hj15 a0 a1 v1 v5 H locs ls hI (lv_sub hl [1, 2, 0] rfl) hq

abbrev rm_X8_readPoint : Room := { frames := 8, cells := 0, slots := 0, locals := 248 }
theorem k_X8_readPoint : g_CV yX8_readPoint cX8_readPoint 3 none 0 := ⟨⟨m_2150, m_14, by decide +kernel⟩, m_2149, ms_90⟩
set_option maxHeartbeats 4000000 in
set_option maxRecDepth 100000 in
theorem c_X8_readPoint (l : Launch) (V : Nat → Nat) (g : GH) (D : va_G) (cT : Nat → ClassId) (f : GH) (n : Nat) (a0 : Nat) (o : GH) (hq : p_X8_readPoint V g f a0 = some o) : Met l yX8_readPoint (Cond.code yX8_readPoint cX8_readPoint 3 none :: g_B) rm_X8_readPoint (va_Pc [.ref a0] (g_I V g D cT f n)) (g_Wv V D cT o n) 0 0 (g_A V) := by
  refine g_begin (own := RX8) [.ref a0] [(0, .ref a0)] (g_A V) (fun _ h => h) (by decide) rfl (Nat.le_of_ble_eq_true rfl) rfl ?_
  intro p e s m args below meth c hx hb hr hlocks hin hC hI ls hl
  obtain ⟨hx, hb, hml, hown, hB⟩ := id hC
  obtain ⟨H, hH⟩ : ∃ H, H = s.heap := ⟨_, rfl⟩
  obtain ⟨locs, hlocs⟩ : ∃ L : List Loc, L = [] := ⟨_, rfl⟩
  rw [← hH, ← hlocs] at hI ⊢
  clear hH hlocs
  unfold p_X8_readPoint at hq
  replace hq := (h_me_eq hq).2
  refine lv_aload_n hx hb dX8_readPoint_0 rfl (lv_at hl 0 rfl) ?_
  refine lv_aload_n hx hb dX8_readPoint_1 rfl (lv_at hl 0 rfl) ?_
  obtain ⟨v1, ev1, hq⟩ := b_s hq
  refine fa_gi (own := RX8) (ref := "CoastlineRulerModel") (k := 18) hx hb hB inB_RX8 hown hI rfl (by decide) m_1549 (fun _ h9 => h9) ev1 dX8_readPoint_2 ?_
  have hj30 : ∀ (x0 : Nat) (t0 : Int32) (t1 : Nat) (f : GH) (H : Heap) (locs : List Loc) (ls : Array Slot), g_at (g_A V) V g D cT f n s H locs → lv_has ls 3 [(0, .ref x0)] → p_X8_readPoint_j30 V g x0 t0 t1 f = some o → W p l e rm_X8_readPoint s m args below meth c H locs 0 0 (MQ below (g_Wv V D cT o n) args s 0 0 (g_A V)) (F0 m 30 ls [.int t0, .ref t1]) := by
    intro x0 t0 t1 f H locs ls hI hl hq
    unfold p_X8_readPoint_j30 at hq
    refine lv_iconst (v := (1 : Int32)) hx hb dX8_readPoint_30 (by decide) ?_
    obtain ⟨v2, ev2, hq⟩ := b_s hq
    refine gw_v (g_runV (As := [.int t0, .int (1 : Int32)]) (rest := []) (ci := 10) hC (c_X8_check l V g D cT f n t1 t0 (1 : Int32) v2 ev2) k_X8_check m_2113 rfl rfl ⟨Nat.le_of_ble_eq_true rfl, Nat.le_of_ble_eq_true rfl⟩ hI rfl rfl (h_me_eq ev2).1 rfl hl.1 rfl (Nat.le_of_ble_eq_true rfl) dX8_readPoint_31 ⟨by decide, by decide⟩) hI (fun H locs hI => ?_)
    refine lv_aload_n hx hb dX8_readPoint_34 rfl (lv_at hl 0 rfl) ?_
    refine lv_aload_n hx hb dX8_readPoint_35 rfl (lv_at hl 0 rfl) ?_
    obtain ⟨v3, ev3, hq⟩ := b_s hq
    refine fa_gi (own := RX8) (ref := "CoastlineRulerModel") (k := 18) hx hb hB inB_RX8 hown hI rfl (by decide) m_1549 (fun _ h9 => h9) ev3 dX8_readPoint_36 ?_
    have hj65 : ∀ (x0 : Nat) (t0 : Int32) (t1 : Nat) (f : GH) (H : Heap) (locs : List Loc) (ls : Array Slot), g_at (g_A V) V g D cT f n s H locs → lv_has ls 3 [(0, .ref x0)] → p_X8_readPoint_j65 V g x0 t0 t1 f = some o → W p l e rm_X8_readPoint s m args below meth c H locs 0 0 (MQ below (g_Wv V D cT o n) args s 0 0 (g_A V)) (F0 m 65 ls [.int t0, .ref t1]) := by
      intro x0 t0 t1 f H locs ls hI hl hq
      unfold p_X8_readPoint_j65 at hq
      refine lv_iconst (v := (2 : Int32)) hx hb dX8_readPoint_65 (by decide) ?_
      obtain ⟨v4, ev4, hq⟩ := b_s hq
      refine gw_v (g_runV (As := [.int t0, .int (2 : Int32)]) (rest := []) (ci := 10) hC (c_X8_check l V g D cT f n t1 t0 (2 : Int32) v4 ev4) k_X8_check m_2113 rfl rfl ⟨Nat.le_of_ble_eq_true rfl, Nat.le_of_ble_eq_true rfl⟩ hI rfl rfl (h_me_eq ev4).1 rfl hl.1 rfl (Nat.le_of_ble_eq_true rfl) dX8_readPoint_66 ⟨by decide, by decide⟩) hI (fun H locs hI => ?_)
      refine lv_aload_n hx hb dX8_readPoint_69 rfl (lv_at hl 0 rfl) ?_
      refine lv_aload_n hx hb dX8_readPoint_70 rfl (lv_at hl 0 rfl) ?_
      obtain ⟨v5, ev5, hq⟩ := b_s hq
      refine fa_gi (own := RX8) (ref := "CoastlineRulerModel") (k := 18) hx hb hB inB_RX8 hown hI rfl (by decide) m_1549 (fun _ h9 => h9) ev5 dX8_readPoint_71 ?_
      have hj93 : ∀ (x0 : Nat) (t0 : Int32) (t1 : Nat) (f : GH) (H : Heap) (locs : List Loc) (ls : Array Slot), g_at (g_A V) V g D cT f n s H locs → lv_has ls 3 [(0, .ref x0)] → p_X8_readPoint_j93 V g x0 t0 t1 f = some o → W p l e rm_X8_readPoint s m args below meth c H locs 0 0 (MQ below (g_Wv V D cT o n) args s 0 0 (g_A V)) (F0 m 93 ls [.int t0, .ref t1]) := by
        intro x0 t0 t1 f H locs ls hI hl hq
        unfold p_X8_readPoint_j93 at hq
        refine lv_iconst (v := (3 : Int32)) hx hb dX8_readPoint_93 (by decide) ?_
        obtain ⟨v6, ev6, hq⟩ := b_s hq
        refine gw_v (g_runV (As := [.int t0, .int (3 : Int32)]) (rest := []) (ci := 10) hC (c_X8_check l V g D cT f n t1 t0 (3 : Int32) v6 ev6) k_X8_check m_2113 rfl rfl ⟨Nat.le_of_ble_eq_true rfl, Nat.le_of_ble_eq_true rfl⟩ hI rfl rfl (h_me_eq ev6).1 rfl hl.1 rfl (Nat.le_of_ble_eq_true rfl) dX8_readPoint_94 ⟨by decide, by decide⟩) hI (fun H locs hI => ?_)
        refine lv_aload_n hx hb dX8_readPoint_97 rfl (lv_at hl 0 rfl) ?_
        refine lv_sipush (v := (1000 : Int32)) hx hb dX8_readPoint_98 (by decide) ?_
        obtain ⟨v7, ev7, hq⟩ := b_s hq
        refine gw_i (g_runV (As := [.int (1000 : Int32)]) (rest := []) (ci := 10) hC (c_X8_readSigned l V g D cT v6 n x0 (1000 : Int32) v7 ev7) k_X8_readSigned m_2156 rfl rfl ⟨Nat.le_of_ble_eq_true rfl, Nat.le_of_ble_eq_true rfl⟩ hI rfl rfl (h_me_eq ev7).1 rfl hl.1 rfl (Nat.le_of_ble_eq_true rfl) dX8_readPoint_101 ⟨by decide, by decide⟩) hI (fun H locs hI => ?_)
        refine lv_istore_n (lv' := [(1, .int v7.1), (0, .ref x0)]) hx hb dX8_readPoint_104 rfl hl (by decide) rfl (fun ls hl => ?_)
        refine lv_aload_n hx hb dX8_readPoint_105 rfl (lv_at hl 1 rfl) ?_
        refine lv_sipush (v := (1000 : Int32)) hx hb dX8_readPoint_106 (by decide) ?_
        obtain ⟨v8, ev8, hq⟩ := b_s hq
        refine gw_i (g_runV (As := [.int (1000 : Int32)]) (rest := []) (ci := 10) hC (c_X8_readSigned l V g D cT v7.2 n x0 (1000 : Int32) v8 ev8) k_X8_readSigned m_2156 rfl rfl ⟨Nat.le_of_ble_eq_true rfl, Nat.le_of_ble_eq_true rfl⟩ hI rfl rfl (h_me_eq ev8).1 rfl hl.1 rfl (Nat.le_of_ble_eq_true rfl) dX8_readPoint_109 ⟨by decide, by decide⟩) hI (fun H locs hI => ?_)
        refine lv_istore_n (lv' := [(2, .int v8.1), (1, .int v7.1), (0, .ref x0)]) hx hb dX8_readPoint_112 rfl hl (by decide) rfl (fun ls hl => ?_)
        refine lv_aload_n hx hb dX8_readPoint_113 rfl (lv_at hl 2 rfl) ?_
        obtain ⟨v9, ev9, hq⟩ := b_s hq
        refine fa_gi (own := RX8) (ref := "CoastlineRulerModel") (k := 18) hx hb hB inB_RX8 hown hI rfl (by decide) m_1549 (fun _ h9 => h9) ev9 dX8_readPoint_114 ?_
        refine lv_if_ne (tgt := 126) hx hb dX8_readPoint_117 (by decide) (fun c10 => ?_) (fun c10 => ?_)
        · replace hq := i_f c10 hq
          exact ge_Wv hx hb hlocks hr hI (Option.some.inj hq) dX8_readPoint_126
        · replace hq := i_t c10 hq
          refine lv_aload_n hx hb dX8_readPoint_120 rfl (lv_at hl 2 rfl) ?_
          refine lv_iload_n hx hb dX8_readPoint_121 rfl (lv_at hl 1 rfl) ?_
          refine lv_iload_n hx hb dX8_readPoint_122 rfl (lv_at hl 0 rfl) ?_
          obtain ⟨v11, ev11, hq⟩ := b_s hq
          refine gw_v (g_runV (As := [.int v7.1, .int v8.1]) (rest := []) (ci := 10) hC (c_X8_tellPoint l V g D cT v8.2 n x0 v7.1 v8.1 v11 ev11) k_X8_tellPoint m_1507 rfl rfl ⟨Nat.le_of_ble_eq_true rfl, Nat.le_of_ble_eq_true rfl⟩ hI rfl rfl (h_me_eq ev11).1 rfl hl.1 rfl (Nat.le_of_ble_eq_true rfl) dX8_readPoint_123 ⟨by decide, by decide⟩) hI (fun H locs hI => ?_)
          exact ge_Wv hx hb hlocks hr hI (Option.some.inj hq) dX8_readPoint_126
      have hj88 : ∀ (x0 : Nat) (t0 : Nat) (f : GH) (H : Heap) (locs : List Loc) (ls : Array Slot), g_at (g_A V) V g D cT f n s H locs → lv_has ls 3 [(0, .ref x0)] → p_X8_readPoint_j88 V g (p_X8_readPoint_j93 V g) x0 t0 f = some o → W p l e rm_X8_readPoint s m args below meth c H locs 0 0 (MQ below (g_Wv V D cT o n) args s 0 0 (g_A V)) (F0 m 88 ls [.ref t0]) := by
        intro x0 t0 f H locs ls hI hl hq
        unfold p_X8_readPoint_j88 at hq
        refine lv_iconst (v := (1 : Int32)) hx hb dX8_readPoint_88 (by decide) ?_
        refine lv_goto (tgt := 93) hx hb dX8_readPoint_89 (by decide) ?_
        exact hj93 x0 (1 : Int32) t0 f H locs ls hI (lv_sub hl [0] rfl) hq
      refine lv_if_ne (tgt := 88) hx hb dX8_readPoint_74 (by decide) (fun c12 => ?_) (fun c12 => ?_)
      · replace hq := i_f c12 hq
        exact hj88 x0 x0 v4 H locs ls hI (lv_sub hl [0] rfl) hq
      · replace hq := i_t c12 hq
        refine lv_aload_n hx hb dX8_readPoint_77 rfl (lv_at hl 0 rfl) ?_
        obtain ⟨v13, ev13, hq⟩ := b_s hq
        refine fa_gr (own := RX8) (ref := "CoastlineRulerModel") (k := 22) hx hb hB inB_RX8 hown hI rfl (by decide) m_1553 (fun _ h9 => h9) ev13 dX8_readPoint_78 ?_
        refine lv_iconst (v := (1 : Int32)) hx hb dX8_readPoint_81 (by decide) ?_
        obtain ⟨v14, ev14, hq⟩ := b_s hq
        refine fa_li hx hb hI ev14 dX8_readPoint_82 ?_
        refine lv_bipush (v := (33 : Int32)) hx hb dX8_readPoint_83 (by decide) ?_
        refine lv_icmp_ge (tgt := 92) hx hb dX8_readPoint_85 (by decide) (fun c15 => ?_) (fun c15 => ?_)
        · replace hq := i_t c15 hq
          refine lv_iconst (v := (0 : Int32)) hx hb dX8_readPoint_92 (by decide) ?_
          exact hj93 x0 (0 : Int32) x0 v4 H locs ls hI (lv_sub hl [0] rfl) hq
        · replace hq := i_f c15 hq
          exact hj88 x0 x0 v4 H locs ls hI (lv_sub hl [0] rfl) hq
    have hj60 : ∀ (x0 : Nat) (t0 : Nat) (f : GH) (H : Heap) (locs : List Loc) (ls : Array Slot), g_at (g_A V) V g D cT f n s H locs → lv_has ls 3 [(0, .ref x0)] → p_X8_readPoint_j60 V g (p_X8_readPoint_j65 V g) x0 t0 f = some o → W p l e rm_X8_readPoint s m args below meth c H locs 0 0 (MQ below (g_Wv V D cT o n) args s 0 0 (g_A V)) (F0 m 60 ls [.ref t0]) := by
      intro x0 t0 f H locs ls hI hl hq
      unfold p_X8_readPoint_j60 at hq
      refine lv_iconst (v := (1 : Int32)) hx hb dX8_readPoint_60 (by decide) ?_
      refine lv_goto (tgt := 65) hx hb dX8_readPoint_61 (by decide) ?_
      exact hj65 x0 (1 : Int32) t0 f H locs ls hI (lv_sub hl [0] rfl) hq
    refine lv_if_ne (tgt := 60) hx hb dX8_readPoint_39 (by decide) (fun c16 => ?_) (fun c16 => ?_)
    · replace hq := i_f c16 hq
      exact hj60 x0 x0 v2 H locs ls hI (lv_sub hl [0] rfl) hq
    · replace hq := i_t c16 hq
      refine lv_aload_n hx hb dX8_readPoint_42 rfl (lv_at hl 0 rfl) ?_
      obtain ⟨v17, ev17, hq⟩ := b_s hq
      refine fa_gi (own := RX8) (ref := "CoastlineRulerModel") (k := 17) hx hb hB inB_RX8 hown hI rfl (by decide) m_1548 (fun _ h9 => h9) ev17 dX8_readPoint_43 ?_
      refine lv_iconst (v := (2 : Int32)) hx hb dX8_readPoint_46 (by decide) ?_
      refine lv_icmp_ne (tgt := 60) hx hb dX8_readPoint_47 (by decide) (fun c18 => ?_) (fun c18 => ?_)
      · replace hq := i_f c18 hq
        exact hj60 x0 x0 v2 H locs ls hI (lv_sub hl [0] rfl) hq
      · replace hq := i_t c18 hq
        refine lv_aload_n hx hb dX8_readPoint_50 rfl (lv_at hl 0 rfl) ?_
        obtain ⟨v19, ev19, hq⟩ := b_s hq
        refine gr_i (g_runV (As := []) (rest := [.ref x0]) (ci := 10) hC (c_X8_value l V g D cT v2 n x0 v19 ev19) k_X8_value m_2151 rfl rfl ⟨Nat.le_of_ble_eq_true rfl, Nat.le_of_ble_eq_true rfl⟩ hI rfl rfl (h_me_eq ev19).1 rfl hl.1 rfl (Nat.le_of_ble_eq_true rfl) dX8_readPoint_51 ⟨by decide, by decide⟩) hI (fun H locs hI => ?_)
        refine lv_sipush (v := (1000 : Int32)) hx hb dX8_readPoint_54 (by decide) ?_
        refine lv_icmp_gt (tgt := 64) hx hb dX8_readPoint_57 (by decide) (fun c20 => ?_) (fun c20 => ?_)
        · replace hq := i_t c20 hq
          refine lv_iconst (v := (0 : Int32)) hx hb dX8_readPoint_64 (by decide) ?_
          exact hj65 x0 (0 : Int32) x0 v2 H locs ls hI (lv_sub hl [0] rfl) hq
        · replace hq := i_f c20 hq
          exact hj60 x0 x0 v2 H locs ls hI (lv_sub hl [0] rfl) hq
  have hj25 : ∀ (x0 : Nat) (t0 : Nat) (f : GH) (H : Heap) (locs : List Loc) (ls : Array Slot), g_at (g_A V) V g D cT f n s H locs → lv_has ls 3 [(0, .ref x0)] → p_X8_readPoint_j25 V g (p_X8_readPoint_j30 V g) x0 t0 f = some o → W p l e rm_X8_readPoint s m args below meth c H locs 0 0 (MQ below (g_Wv V D cT o n) args s 0 0 (g_A V)) (F0 m 25 ls [.ref t0]) := by
    intro x0 t0 f H locs ls hI hl hq
    unfold p_X8_readPoint_j25 at hq
    refine lv_iconst (v := (1 : Int32)) hx hb dX8_readPoint_25 (by decide) ?_
    refine lv_goto (tgt := 30) hx hb dX8_readPoint_26 (by decide) ?_
    exact hj30 x0 (1 : Int32) t0 f H locs ls hI (lv_sub hl [0] rfl) hq
  refine lv_if_ne (tgt := 25) hx hb dX8_readPoint_5 (by decide) (fun c21 => ?_) (fun c21 => ?_)
  · replace hq := i_f c21 hq
    exact hj25 a0 a0 f H locs ls hI (lv_sub hl [0] rfl) hq
  · replace hq := i_t c21 hq
    refine lv_aload_n hx hb dX8_readPoint_8 rfl (lv_at hl 0 rfl) ?_
    obtain ⟨v22, ev22, hq⟩ := b_s hq
    refine fa_gi (own := RX8) (ref := "CoastlineRulerModel") (k := 17) hx hb hB inB_RX8 hown hI rfl (by decide) m_1548 (fun _ h9 => h9) ev22 dX8_readPoint_9 ?_
    refine lv_iconst (v := (2 : Int32)) hx hb dX8_readPoint_12 (by decide) ?_
    refine lv_icmp_eq (tgt := 25) hx hb dX8_readPoint_13 (by decide) (fun c23 => ?_) (fun c23 => ?_)
    · replace hq := i_t c23 hq
      exact hj25 a0 a0 f H locs ls hI (lv_sub hl [0] rfl) hq
    · replace hq := i_f c23 hq
      refine lv_aload_n hx hb dX8_readPoint_16 rfl (lv_at hl 0 rfl) ?_
      refine lv_bipush (v := (45 : Int32)) hx hb dX8_readPoint_17 (by decide) ?_
      obtain ⟨v24, ev24, hq⟩ := b_s hq
      refine gr_i (g_runV (As := [.int (45 : Int32)]) (rest := [.ref a0]) (ci := 10) hC (c_X8_isSymbol l V g D cT f n a0 (45 : Int32) v24 ev24) k_X8_isSymbol m_2131 rfl rfl ⟨Nat.le_of_ble_eq_true rfl, Nat.le_of_ble_eq_true rfl⟩ hI rfl rfl (h_me_eq ev24).1 rfl hl.1 rfl (Nat.le_of_ble_eq_true rfl) dX8_readPoint_19 ⟨by decide, by decide⟩) hI (fun H locs hI => ?_)
      refine lv_if_eq (tgt := 29) hx hb dX8_readPoint_22 (by decide) (fun c25 => ?_) (fun c25 => ?_)
      · replace hq := i_t c25 hq
        refine lv_iconst (v := (0 : Int32)) hx hb dX8_readPoint_29 (by decide) ?_
        exact hj30 a0 (0 : Int32) a0 f H locs ls hI (lv_sub hl [0] rfl) hq
      · replace hq := i_f c25 hq
        exact hj25 a0 a0 f H locs ls hI (lv_sub hl [0] rfl) hq

abbrev rm_X8_readPoints : Room := { frames := 9, cells := 0, slots := 0, locals := 270 }
theorem k_X8_readPoints : g_CV yX8_readPoints cX8_readPoints 2 none 1 := ⟨⟨m_2146, m_14, by decide +kernel⟩, m_2145, ms_89⟩
set_option maxHeartbeats 4000000 in
set_option maxRecDepth 100000 in
theorem c_X8_readPoints (l : Launch) (V : Nat → Nat) (g : GH) (D : va_G) (cT : Nat → ClassId) (f : GH) (n : Nat) (a0 : Nat) (a1 : Int32) (o : GH) (hq : p_X8_readPoints V g f a0 a1 = some o) : Met l yX8_readPoints (Cond.code yX8_readPoints cX8_readPoints 2 none :: g_B) rm_X8_readPoints (va_Pc [.ref a0, .int a1] (g_I V g D cT f n)) (g_Wv V D cT o n) 0 0 (g_A V) := by
  refine g_begin (own := RX8) [.ref a0, .int a1] [(0, .ref a0), (1, .int a1)] (g_A V) (fun _ h => h) (by decide) rfl (Nat.le_of_ble_eq_true rfl) rfl ?_
  intro p e s m args below meth c hx hb hr hlocks hin hC hI ls hl
  obtain ⟨hx, hb, hml, hown, hB⟩ := id hC
  obtain ⟨H, hH⟩ : ∃ H, H = s.heap := ⟨_, rfl⟩
  obtain ⟨locs, hlocs⟩ : ∃ L : List Loc, L = [] := ⟨_, rfl⟩
  rw [← hH, ← hlocs] at hI ⊢
  clear hH hlocs
  unfold p_X8_readPoints at hq
  replace hq := (h_me_eq hq).2
  refine lv_aload_n hx hb dX8_readPoints_0 rfl (lv_at hl 0 rfl) ?_
  refine lv_iload_n hx hb dX8_readPoints_1 rfl (lv_at hl 1 rfl) ?_
  obtain ⟨v1, ev1, hq⟩ := b_s hq
  refine gw_v (g_runV (As := [.int a1]) (rest := []) (ci := 10) hC (c_X8_startCoast l V g D cT f n a0 a1 v1 ev1) k_X8_startCoast m_1503 rfl rfl ⟨Nat.le_of_ble_eq_true rfl, Nat.le_of_ble_eq_true rfl⟩ hI rfl rfl (h_me_eq ev1).1 rfl hl.1 rfl (Nat.le_of_ble_eq_true rfl) dX8_readPoints_2 ⟨by decide, by decide⟩) hI (fun H locs hI => ?_)
  refine lv_aload_n hx hb dX8_readPoints_5 rfl (lv_at hl 0 rfl) ?_
  obtain ⟨v2, ev2, hq⟩ := b_s hq
  refine gw_v (g_runV (As := []) (rest := []) (ci := 10) hC (c_X8_readPoint l V g D cT v1 n a0 v2 ev2) k_X8_readPoint m_2147 rfl rfl ⟨Nat.le_of_ble_eq_true rfl, Nat.le_of_ble_eq_true rfl⟩ hI rfl rfl (h_me_eq ev2).1 rfl hl.1 rfl (Nat.le_of_ble_eq_true rfl) dX8_readPoints_6 ⟨by decide, by decide⟩) hI (fun H locs hI => ?_)
  have hl9 : ∀ (K29 : Nat → Int32 → GH → Option GH) (hK29 : ∀ (x0 : Nat) (x1 : Int32) (f : GH) (H : Heap) (locs : List Loc) (ls : Array Slot), g_at (g_A V) V g D cT f n s H locs → lv_has ls 2 [(0, .ref x0), (1, .int x1)] → K29 x0 x1 f = some o → W p l e rm_X8_readPoints s m args below meth c H locs 0 0 (MQ below (g_Wv V D cT o n) args s 0 0 (g_A V)) (F0 m 29 ls [])) (N : Nat) (x0 : Nat) (x1 : Int32) (f : GH) (H : Heap) (locs : List Loc) (ls : Array Slot), g_at (g_A V) V g D cT f n s H locs → lv_has ls 2 [(0, .ref x0), (1, .int x1)] → p_X8_readPoints_l9 V g K29 N x0 x1 f = some o → W p l e rm_X8_readPoints s m args below meth c H locs 0 0 (MQ below (g_Wv V D cT o n) args s 0 0 (g_A V)) (F0 m 9 ls []) := by
    intro K29 hK29 N
    induction N with
    | zero =>
      intro x0 x1 f H locs ls hI hl hq
      rw [p_X8_readPoints_l9] at hq
      cases hq
    | succ N ih =>
      intro x0 x1 f H locs ls hI hl hq
      rw [p_X8_readPoints_l9] at hq
      refine lv_aload_n hx hb dX8_readPoints_9 rfl (lv_at hl 0 rfl) ?_
      refine lv_bipush (v := (44 : Int32)) hx hb dX8_readPoints_10 (by decide) ?_
      obtain ⟨v3, ev3, hq⟩ := b_s hq
      refine gr_i (g_runV (As := [.int (44 : Int32)]) (rest := []) (ci := 10) hC (c_X8_isSymbol l V g D cT f n x0 (44 : Int32) v3 ev3) k_X8_isSymbol m_2131 rfl rfl ⟨Nat.le_of_ble_eq_true rfl, Nat.le_of_ble_eq_true rfl⟩ hI rfl rfl (h_me_eq ev3).1 rfl hl.1 rfl (Nat.le_of_ble_eq_true rfl) dX8_readPoints_12 ⟨by decide, by decide⟩) hI (fun H locs hI => ?_)
      refine lv_if_eq (tgt := 29) hx hb dX8_readPoints_15 (by decide) (fun c4 => ?_) (fun c4 => ?_)
      · replace hq := i_t c4 hq
        exact hK29 x0 x1 f H locs ls hI (lv_sub hl [0, 1] rfl) hq
      · replace hq := i_f c4 hq
        refine lv_aload_n hx hb dX8_readPoints_18 rfl (lv_at hl 0 rfl) ?_
        obtain ⟨v5, ev5, hq⟩ := b_s hq
        refine gw_v (g_runV (As := []) (rest := []) (ci := 10) hC (c_X8_advance l V g D cT f n x0 v5 ev5) k_X8_advance m_2117 rfl rfl ⟨Nat.le_of_ble_eq_true rfl, Nat.le_of_ble_eq_true rfl⟩ hI rfl rfl (h_me_eq ev5).1 rfl hl.1 rfl (Nat.le_of_ble_eq_true rfl) dX8_readPoints_19 ⟨by decide, by decide⟩) hI (fun H locs hI => ?_)
        refine lv_aload_n hx hb dX8_readPoints_22 rfl (lv_at hl 0 rfl) ?_
        obtain ⟨v6, ev6, hq⟩ := b_s hq
        refine gw_v (g_runV (As := []) (rest := []) (ci := 10) hC (c_X8_readPoint l V g D cT v5 n x0 v6 ev6) k_X8_readPoint m_2147 rfl rfl ⟨Nat.le_of_ble_eq_true rfl, Nat.le_of_ble_eq_true rfl⟩ hI rfl rfl (h_me_eq ev6).1 rfl hl.1 rfl (Nat.le_of_ble_eq_true rfl) dX8_readPoints_23 ⟨by decide, by decide⟩) hI (fun H locs hI => ?_)
        refine lv_goto (tgt := 9) hx hb dX8_readPoints_26 (by decide) ?_
        exact ih x0 x1 v6 H locs ls hI (lv_sub hl [0, 1] rfl) hq
  refine hl9 _ ?_ FU a0 a1 v2 H locs ls hI (lv_sub hl [0, 1] rfl) hq
  · intro x0 x1 f H locs ls hI hl hq
    refine lv_aload_n hx hb dX8_readPoints_29 rfl (lv_at hl 0 rfl) ?_
    refine lv_aload_n hx hb dX8_readPoints_30 rfl (lv_at hl 0 rfl) ?_
    obtain ⟨v7, ev7, hq⟩ := b_s hq
    refine fa_gi (own := RX8) (ref := "CoastlineRulerModel") (k := 18) hx hb hB inB_RX8 hown hI rfl (by decide) m_1549 (fun _ h9 => h9) ev7 dX8_readPoints_31 ?_
    refine lv_if_ne (tgt := 49) hx hb dX8_readPoints_34 (by decide) (fun c8 => ?_) (fun c8 => ?_)
    · replace hq := i_f c8 hq
      refine lv_iconst (v := (1 : Int32)) hx hb dX8_readPoints_49 (by decide) ?_
      refine lv_goto (tgt := 54) hx hb dX8_readPoints_50 (by decide) ?_
      refine lv_iconst (v := (1 : Int32)) hx hb dX8_readPoints_54 (by decide) ?_
      obtain ⟨v9, ev9, hq⟩ := b_s hq
      refine gw_v (g_runV (As := [.int (1 : Int32), .int (1 : Int32)]) (rest := []) (ci := 10) hC (c_X8_check l V g D cT f n x0 (1 : Int32) (1 : Int32) v9 ev9) k_X8_check m_2113 rfl rfl ⟨Nat.le_of_ble_eq_true rfl, Nat.le_of_ble_eq_true rfl⟩ hI rfl rfl (h_me_eq ev9).1 rfl hl.1 rfl (Nat.le_of_ble_eq_true rfl) dX8_readPoints_55 ⟨by decide, by decide⟩) hI (fun H locs hI => ?_)
      exact ge_Wv hx hb hlocks hr hI (Option.some.inj hq) dX8_readPoints_58
    · replace hq := i_t c8 hq
      refine lv_aload_n hx hb dX8_readPoints_37 rfl (lv_at hl 0 rfl) ?_
      obtain ⟨v10, ev10, hq⟩ := b_s hq
      refine fa_gr (own := RX8) (ref := "CoastlineRulerModel") (k := 22) hx hb hB inB_RX8 hown hI rfl (by decide) m_1553 (fun _ h9 => h9) ev10 dX8_readPoints_38 ?_
      refine lv_iconst (v := (1 : Int32)) hx hb dX8_readPoints_41 (by decide) ?_
      obtain ⟨v11, ev11, hq⟩ := b_s hq
      refine fa_li hx hb hI ev11 dX8_readPoints_42 ?_
      refine lv_iconst (v := (2 : Int32)) hx hb dX8_readPoints_43 (by decide) ?_
      refine lv_iload_n hx hb dX8_readPoints_44 rfl (lv_at hl 1 rfl) ?_
      refine lv_iadd hx hb dX8_readPoints_45 ?_
      refine lv_icmp_lt (tgt := 53) hx hb dX8_readPoints_46 (by decide) (fun c12 => ?_) (fun c12 => ?_)
      · replace hq := i_t c12 hq
        refine lv_iconst (v := (0 : Int32)) hx hb dX8_readPoints_53 (by decide) ?_
        refine lv_iconst (v := (1 : Int32)) hx hb dX8_readPoints_54 (by decide) ?_
        obtain ⟨v13, ev13, hq⟩ := b_s hq
        refine gw_v (g_runV (As := [.int (0 : Int32), .int (1 : Int32)]) (rest := []) (ci := 10) hC (c_X8_check l V g D cT f n x0 (0 : Int32) (1 : Int32) v13 ev13) k_X8_check m_2113 rfl rfl ⟨Nat.le_of_ble_eq_true rfl, Nat.le_of_ble_eq_true rfl⟩ hI rfl rfl (h_me_eq ev13).1 rfl hl.1 rfl (Nat.le_of_ble_eq_true rfl) dX8_readPoints_55 ⟨by decide, by decide⟩) hI (fun H locs hI => ?_)
        exact ge_Wv hx hb hlocks hr hI (Option.some.inj hq) dX8_readPoints_58
      · replace hq := i_f c12 hq
        refine lv_iconst (v := (1 : Int32)) hx hb dX8_readPoints_49 (by decide) ?_
        refine lv_goto (tgt := 54) hx hb dX8_readPoints_50 (by decide) ?_
        refine lv_iconst (v := (1 : Int32)) hx hb dX8_readPoints_54 (by decide) ?_
        obtain ⟨v14, ev14, hq⟩ := b_s hq
        refine gw_v (g_runV (As := [.int (1 : Int32), .int (1 : Int32)]) (rest := []) (ci := 10) hC (c_X8_check l V g D cT f n x0 (1 : Int32) (1 : Int32) v14 ev14) k_X8_check m_2113 rfl rfl ⟨Nat.le_of_ble_eq_true rfl, Nat.le_of_ble_eq_true rfl⟩ hI rfl rfl (h_me_eq ev14).1 rfl hl.1 rfl (Nat.le_of_ble_eq_true rfl) dX8_readPoints_55 ⟨by decide, by decide⟩) hI (fun H locs hI => ?_)
        exact ge_Wv hx hb hlocks hr hI (Option.some.inj hq) dX8_readPoints_58

abbrev rm_X8_isCoastHere : Room := { frames := 7, cells := 0, slots := 0, locals := 228 }
theorem k_X8_isCoastHere : g_CV yX8_isCoastHere cX8_isCoastHere 1 (some .boolean) 0 := ⟨⟨m_2138, m_14, by decide +kernel⟩, m_2137, ms_87⟩
set_option maxHeartbeats 4000000 in
set_option maxRecDepth 100000 in
theorem c_X8_isCoastHere (l : Launch) (V : Nat → Nat) (g : GH) (D : va_G) (cT : Nat → ClassId) (f : GH) (n : Nat) (a0 : Nat) (o : Int32) (hq : p_X8_isCoastHere V g f a0 = some o) : Met l yX8_isCoastHere (Cond.code yX8_isCoastHere cX8_isCoastHere 1 (some .boolean) :: g_B) rm_X8_isCoastHere (va_Pc [.ref a0] (g_I V g D cT f n)) (g_Ri o n) 0 0 g_no := by
  refine g_begin (own := RX8) [.ref a0] [(0, .ref a0)] g_no (fun _ h => h.elim) (by decide) rfl (Nat.le_of_ble_eq_true rfl) rfl ?_
  intro p e s m args below meth c hx hb hr hlocks hin hC hI ls hl
  obtain ⟨hx, hb, hml, hown, hB⟩ := id hC
  obtain ⟨H, hH⟩ : ∃ H, H = s.heap := ⟨_, rfl⟩
  obtain ⟨locs, hlocs⟩ : ∃ L : List Loc, L = [] := ⟨_, rfl⟩
  rw [← hH, ← hlocs] at hI ⊢
  clear hH hlocs
  unfold p_X8_isCoastHere at hq
  replace hq := (h_me_eq hq).2
  refine lv_aload_n hx hb dX8_isCoastHere_0 rfl (lv_at hl 0 rfl) ?_
  refine lv_ldcS hx hb hown (g_rtq hI rt_20) dX8_isCoastHere_1 ?_
  obtain ⟨v1, ev1, hq⟩ := b_s hq
  refine gr_i (g_runV (As := [.ref (V 27)]) (rest := []) (ci := 10) hC (c_X8_isWord l V g D cT f n a0 (V 27) v1 ev1) k_X8_isWord m_2107 rfl rfl ⟨Nat.le_of_ble_eq_true rfl, Nat.le_of_ble_eq_true rfl⟩ hI rfl rfl (h_me_eq ev1).1 rfl hl.1 rfl (Nat.le_of_ble_eq_true rfl) dX8_isCoastHere_3 ⟨by decide, by decide⟩) hI (fun H locs hI => ?_)
  refine lv_if_ne (tgt := 18) hx hb dX8_isCoastHere_6 (by decide) (fun c2 => ?_) (fun c2 => ?_)
  · replace hq := i_f c2 hq
    refine lv_iconst (v := (1 : Int32)) hx hb dX8_isCoastHere_18 (by decide) ?_
    refine lv_goto (tgt := 23) hx hb dX8_isCoastHere_19 (by decide) ?_
    exact ge_Ri hx hb hlocks hr (by decide +kernel) hI hq dX8_isCoastHere_23
  · replace hq := i_t c2 hq
    refine lv_aload_n hx hb dX8_isCoastHere_9 rfl (lv_at hl 0 rfl) ?_
    refine lv_ldcS hx hb hown (g_rtq hI rt_30) dX8_isCoastHere_10 ?_
    obtain ⟨v3, ev3, hq⟩ := b_s hq
    refine gr_i (g_runV (As := [.ref (V 26)]) (rest := []) (ci := 10) hC (c_X8_isWord l V g D cT f n a0 (V 26) v3 ev3) k_X8_isWord m_2107 rfl rfl ⟨Nat.le_of_ble_eq_true rfl, Nat.le_of_ble_eq_true rfl⟩ hI rfl rfl (h_me_eq ev3).1 rfl hl.1 rfl (Nat.le_of_ble_eq_true rfl) dX8_isCoastHere_12 ⟨by decide, by decide⟩) hI (fun H locs hI => ?_)
    refine lv_if_eq (tgt := 22) hx hb dX8_isCoastHere_15 (by decide) (fun c4 => ?_) (fun c4 => ?_)
    · replace hq := i_t c4 hq
      refine lv_iconst (v := (0 : Int32)) hx hb dX8_isCoastHere_22 (by decide) ?_
      exact ge_Ri hx hb hlocks hr (by decide +kernel) hI hq dX8_isCoastHere_23
    · replace hq := i_f c4 hq
      refine lv_iconst (v := (1 : Int32)) hx hb dX8_isCoastHere_18 (by decide) ?_
      refine lv_goto (tgt := 23) hx hb dX8_isCoastHere_19 (by decide) ?_
      exact ge_Ri hx hb hlocks hr (by decide +kernel) hI hq dX8_isCoastHere_23

abbrev rm_X8_readCoast : Room := { frames := 10, cells := 0, slots := 0, locals := 291 }
theorem k_X8_readCoast : g_CV yX8_readCoast cX8_readCoast 2 none 0 := ⟨⟨m_2142, m_14, by decide +kernel⟩, m_2141, ms_88⟩
set_option maxHeartbeats 4000000 in
set_option maxRecDepth 100000 in
theorem c_X8_readCoast (l : Launch) (V : Nat → Nat) (g : GH) (D : va_G) (cT : Nat → ClassId) (f : GH) (n : Nat) (a0 : Nat) (o : GH) (hq : p_X8_readCoast V g f a0 = some o) : Met l yX8_readCoast (Cond.code yX8_readCoast cX8_readCoast 2 none :: g_B) rm_X8_readCoast (va_Pc [.ref a0] (g_I V g D cT f n)) (g_Wv V D cT o n) 0 0 (g_A V) := by
  refine g_begin (own := RX8) [.ref a0] [(0, .ref a0)] (g_A V) (fun _ h => h) (by decide) rfl (Nat.le_of_ble_eq_true rfl) rfl ?_
  intro p e s m args below meth c hx hb hr hlocks hin hC hI ls hl
  obtain ⟨hx, hb, hml, hown, hB⟩ := id hC
  obtain ⟨H, hH⟩ : ∃ H, H = s.heap := ⟨_, rfl⟩
  obtain ⟨locs, hlocs⟩ : ∃ L : List Loc, L = [] := ⟨_, rfl⟩
  rw [← hH, ← hlocs] at hI ⊢
  clear hH hlocs
  unfold p_X8_readCoast at hq
  replace hq := (h_me_eq hq).2
  refine lv_aload_n hx hb dX8_readCoast_0 rfl (lv_at hl 0 rfl) ?_
  refine lv_aload_n hx hb dX8_readCoast_1 rfl (lv_at hl 0 rfl) ?_
  obtain ⟨v1, ev1, hq⟩ := b_s hq
  refine gr_i (g_runV (As := []) (rest := [.ref a0]) (ci := 10) hC (c_X8_isCoastHere l V g D cT f n a0 v1 ev1) k_X8_isCoastHere m_2135 rfl rfl ⟨Nat.le_of_ble_eq_true rfl, Nat.le_of_ble_eq_true rfl⟩ hI rfl rfl (h_me_eq ev1).1 rfl hl.1 rfl (Nat.le_of_ble_eq_true rfl) dX8_readCoast_2 ⟨by decide, by decide⟩) hI (fun H locs hI => ?_)
  refine lv_iconst (v := (1 : Int32)) hx hb dX8_readCoast_5 (by decide) ?_
  obtain ⟨v2, ev2, hq⟩ := b_s hq
  refine gw_v (g_runV (As := [.int v1, .int (1 : Int32)]) (rest := []) (ci := 10) hC (c_X8_check l V g D cT f n a0 v1 (1 : Int32) v2 ev2) k_X8_check m_2113 rfl rfl ⟨Nat.le_of_ble_eq_true rfl, Nat.le_of_ble_eq_true rfl⟩ hI rfl rfl (h_me_eq ev2).1 rfl hl.1 rfl (Nat.le_of_ble_eq_true rfl) dX8_readCoast_6 ⟨by decide, by decide⟩) hI (fun H locs hI => ?_)
  refine lv_aload_n hx hb dX8_readCoast_9 rfl (lv_at hl 0 rfl) ?_
  refine lv_ldcS hx hb hown (g_rtq hI rt_30) dX8_readCoast_10 ?_
  obtain ⟨v3, ev3, hq⟩ := b_s hq
  refine gr_i (g_runV (As := [.ref (V 26)]) (rest := []) (ci := 10) hC (c_X8_isWord l V g D cT v2 n a0 (V 26) v3 ev3) k_X8_isWord m_2107 rfl rfl ⟨Nat.le_of_ble_eq_true rfl, Nat.le_of_ble_eq_true rfl⟩ hI rfl rfl (h_me_eq ev3).1 rfl hl.1 rfl (Nat.le_of_ble_eq_true rfl) dX8_readCoast_12 ⟨by decide, by decide⟩) hI (fun H locs hI => ?_)
  refine lv_if_eq (tgt := 22) hx hb dX8_readCoast_15 (by decide) (fun c4 => ?_) (fun c4 => ?_)
  · replace hq := i_t c4 hq
    refine lv_iconst (v := (0 : Int32)) hx hb dX8_readCoast_22 (by decide) ?_
    refine lv_istore_n (lv' := [(1, .int (0 : Int32)), (0, .ref a0)]) hx hb dX8_readCoast_23 rfl hl (by decide) rfl (fun ls hl => ?_)
    refine lv_aload_n hx hb dX8_readCoast_24 rfl (lv_at hl 1 rfl) ?_
    obtain ⟨v5, ev5, hq⟩ := b_s hq
    refine gw_v (g_runV (As := []) (rest := []) (ci := 10) hC (c_X8_advance l V g D cT v2 n a0 v5 ev5) k_X8_advance m_2117 rfl rfl ⟨Nat.le_of_ble_eq_true rfl, Nat.le_of_ble_eq_true rfl⟩ hI rfl rfl (h_me_eq ev5).1 rfl hl.1 rfl (Nat.le_of_ble_eq_true rfl) dX8_readCoast_25 ⟨by decide, by decide⟩) hI (fun H locs hI => ?_)
    refine lv_aload_n hx hb dX8_readCoast_28 rfl (lv_at hl 1 rfl) ?_
    refine lv_iload_n hx hb dX8_readCoast_29 rfl (lv_at hl 0 rfl) ?_
    obtain ⟨v6, ev6, hq⟩ := b_s hq
    refine gw_v (g_runV (As := [.int (0 : Int32)]) (rest := []) (ci := 10) hC (c_X8_readPoints l V g D cT v5 n a0 (0 : Int32) v6 ev6) k_X8_readPoints m_2143 rfl rfl ⟨Nat.le_of_ble_eq_true rfl, Nat.le_of_ble_eq_true rfl⟩ hI rfl rfl (h_me_eq ev6).1 rfl hl.1 rfl (Nat.le_of_ble_eq_true rfl) dX8_readCoast_30 ⟨by decide, by decide⟩) hI (fun H locs hI => ?_)
    exact ge_Wv hx hb hlocks hr hI (Option.some.inj hq) dX8_readCoast_33
  · replace hq := i_f c4 hq
    refine lv_iconst (v := (1 : Int32)) hx hb dX8_readCoast_18 (by decide) ?_
    refine lv_goto (tgt := 23) hx hb dX8_readCoast_19 (by decide) ?_
    refine lv_istore_n (lv' := [(1, .int (1 : Int32)), (0, .ref a0)]) hx hb dX8_readCoast_23 rfl hl (by decide) rfl (fun ls hl => ?_)
    refine lv_aload_n hx hb dX8_readCoast_24 rfl (lv_at hl 1 rfl) ?_
    obtain ⟨v7, ev7, hq⟩ := b_s hq
    refine gw_v (g_runV (As := []) (rest := []) (ci := 10) hC (c_X8_advance l V g D cT v2 n a0 v7 ev7) k_X8_advance m_2117 rfl rfl ⟨Nat.le_of_ble_eq_true rfl, Nat.le_of_ble_eq_true rfl⟩ hI rfl rfl (h_me_eq ev7).1 rfl hl.1 rfl (Nat.le_of_ble_eq_true rfl) dX8_readCoast_25 ⟨by decide, by decide⟩) hI (fun H locs hI => ?_)
    refine lv_aload_n hx hb dX8_readCoast_28 rfl (lv_at hl 1 rfl) ?_
    refine lv_iload_n hx hb dX8_readCoast_29 rfl (lv_at hl 0 rfl) ?_
    obtain ⟨v8, ev8, hq⟩ := b_s hq
    refine gw_v (g_runV (As := [.int (1 : Int32)]) (rest := []) (ci := 10) hC (c_X8_readPoints l V g D cT v7 n a0 (1 : Int32) v8 ev8) k_X8_readPoints m_2143 rfl rfl ⟨Nat.le_of_ble_eq_true rfl, Nat.le_of_ble_eq_true rfl⟩ hI rfl rfl (h_me_eq ev8).1 rfl hl.1 rfl (Nat.le_of_ble_eq_true rfl) dX8_readCoast_30 ⟨by decide, by decide⟩) hI (fun H locs hI => ?_)
    exact ge_Wv hx hb hlocks hr hI (Option.some.inj hq) dX8_readCoast_33

abbrev rm_X8_readMetric : Room := { frames := 7, cells := 0, slots := 0, locals := 228 }
theorem k_X8_readMetric : g_CV yX8_readMetric cX8_readMetric 2 (some .boolean) 0 := ⟨⟨m_2124, m_14, by decide +kernel⟩, m_2123, ms_84⟩
set_option maxHeartbeats 4000000 in
set_option maxRecDepth 100000 in
theorem c_X8_readMetric (l : Launch) (V : Nat → Nat) (g : GH) (D : va_G) (cT : Nat → ClassId) (f : GH) (n : Nat) (a0 : Nat) (o : Int32 × GH) (hq : p_X8_readMetric V g f a0 = some o) : Met l yX8_readMetric (Cond.code yX8_readMetric cX8_readMetric 2 (some .boolean) :: g_B) rm_X8_readMetric (va_Pc [.ref a0] (g_I V g D cT f n)) (g_Wi V D cT o.1 o.2 n) 0 0 (g_A V) := by
  refine g_begin (own := RX8) [.ref a0] [(0, .ref a0)] (g_A V) (fun _ h => h) (by decide) rfl (Nat.le_of_ble_eq_true rfl) rfl ?_
  intro p e s m args below meth c hx hb hr hlocks hin hC hI ls hl
  obtain ⟨hx, hb, hml, hown, hB⟩ := id hC
  obtain ⟨H, hH⟩ : ∃ H, H = s.heap := ⟨_, rfl⟩
  obtain ⟨locs, hlocs⟩ : ∃ L : List Loc, L = [] := ⟨_, rfl⟩
  rw [← hH, ← hlocs] at hI ⊢
  clear hH hlocs
  unfold p_X8_readMetric at hq
  replace hq := (h_me_eq hq).2
  refine lv_aload_n hx hb dX8_readMetric_0 rfl (lv_at hl 0 rfl) ?_
  refine lv_ldcSw hx hb hown (g_rtq hI rt_32) dX8_readMetric_1 ?_
  obtain ⟨v1, ev1, hq⟩ := b_s hq
  refine gr_i (g_runV (As := [.ref (V 24)]) (rest := []) (ci := 10) hC (c_X8_isWord l V g D cT f n a0 (V 24) v1 ev1) k_X8_isWord m_2107 rfl rfl ⟨Nat.le_of_ble_eq_true rfl, Nat.le_of_ble_eq_true rfl⟩ hI rfl rfl (h_me_eq ev1).1 rfl hl.1 rfl (Nat.le_of_ble_eq_true rfl) dX8_readMetric_4 ⟨by decide, by decide⟩) hI (fun H locs hI => ?_)
  refine lv_istore_n (lv' := [(1, .int v1), (0, .ref a0)]) hx hb dX8_readMetric_7 rfl hl (by decide) rfl (fun ls hl => ?_)
  refine lv_aload_n hx hb dX8_readMetric_8 rfl (lv_at hl 1 rfl) ?_
  refine lv_iload_n hx hb dX8_readMetric_9 rfl (lv_at hl 0 rfl) ?_
  refine lv_if_ne (tgt := 23) hx hb dX8_readMetric_10 (by decide) (fun c2 => ?_) (fun c2 => ?_)
  · replace hq := i_f c2 hq
    refine lv_iconst (v := (1 : Int32)) hx hb dX8_readMetric_23 (by decide) ?_
    refine lv_goto (tgt := 28) hx hb dX8_readMetric_24 (by decide) ?_
    refine lv_iconst (v := (1 : Int32)) hx hb dX8_readMetric_28 (by decide) ?_
    obtain ⟨v3, ev3, hq⟩ := b_s hq
    refine gw_v (g_runV (As := [.int (1 : Int32), .int (1 : Int32)]) (rest := []) (ci := 10) hC (c_X8_check l V g D cT f n a0 (1 : Int32) (1 : Int32) v3 ev3) k_X8_check m_2113 rfl rfl ⟨Nat.le_of_ble_eq_true rfl, Nat.le_of_ble_eq_true rfl⟩ hI rfl rfl (h_me_eq ev3).1 rfl hl.1 rfl (Nat.le_of_ble_eq_true rfl) dX8_readMetric_29 ⟨by decide, by decide⟩) hI (fun H locs hI => ?_)
    refine lv_aload_n hx hb dX8_readMetric_32 rfl (lv_at hl 1 rfl) ?_
    obtain ⟨v4, ev4, hq⟩ := b_s hq
    refine gw_v (g_runV (As := []) (rest := []) (ci := 10) hC (c_X8_advance l V g D cT v3 n a0 v4 ev4) k_X8_advance m_2117 rfl rfl ⟨Nat.le_of_ble_eq_true rfl, Nat.le_of_ble_eq_true rfl⟩ hI rfl rfl (h_me_eq ev4).1 rfl hl.1 rfl (Nat.le_of_ble_eq_true rfl) dX8_readMetric_33 ⟨by decide, by decide⟩) hI (fun H locs hI => ?_)
    refine lv_iload_n hx hb dX8_readMetric_36 rfl (lv_at hl 0 rfl) ?_
    obtain ⟨_, ev5, hq⟩ := b_s hq
    exact ge_Wi hx hb hlocks hr (h_bz_eq ev5).2.1 hI (congrArg (fun z => z.1) (Option.some.inj hq)) (congrArg (fun z => z.2) (Option.some.inj hq)) dX8_readMetric_37
  · replace hq := i_t c2 hq
    refine lv_aload_n hx hb dX8_readMetric_13 rfl (lv_at hl 1 rfl) ?_
    refine lv_ldcSw hx hb hown (g_rtq hI rt_33) dX8_readMetric_14 ?_
    obtain ⟨v6, ev6, hq⟩ := b_s hq
    refine gr_i (g_runV (As := [.ref (V 25)]) (rest := [.ref a0]) (ci := 10) hC (c_X8_isWord l V g D cT f n a0 (V 25) v6 ev6) k_X8_isWord m_2107 rfl rfl ⟨Nat.le_of_ble_eq_true rfl, Nat.le_of_ble_eq_true rfl⟩ hI rfl rfl (h_me_eq ev6).1 rfl hl.1 rfl (Nat.le_of_ble_eq_true rfl) dX8_readMetric_17 ⟨by decide, by decide⟩) hI (fun H locs hI => ?_)
    refine lv_if_eq (tgt := 27) hx hb dX8_readMetric_20 (by decide) (fun c7 => ?_) (fun c7 => ?_)
    · replace hq := i_t c7 hq
      refine lv_iconst (v := (0 : Int32)) hx hb dX8_readMetric_27 (by decide) ?_
      refine lv_iconst (v := (1 : Int32)) hx hb dX8_readMetric_28 (by decide) ?_
      obtain ⟨v8, ev8, hq⟩ := b_s hq
      refine gw_v (g_runV (As := [.int (0 : Int32), .int (1 : Int32)]) (rest := []) (ci := 10) hC (c_X8_check l V g D cT f n a0 (0 : Int32) (1 : Int32) v8 ev8) k_X8_check m_2113 rfl rfl ⟨Nat.le_of_ble_eq_true rfl, Nat.le_of_ble_eq_true rfl⟩ hI rfl rfl (h_me_eq ev8).1 rfl hl.1 rfl (Nat.le_of_ble_eq_true rfl) dX8_readMetric_29 ⟨by decide, by decide⟩) hI (fun H locs hI => ?_)
      refine lv_aload_n hx hb dX8_readMetric_32 rfl (lv_at hl 1 rfl) ?_
      obtain ⟨v9, ev9, hq⟩ := b_s hq
      refine gw_v (g_runV (As := []) (rest := []) (ci := 10) hC (c_X8_advance l V g D cT v8 n a0 v9 ev9) k_X8_advance m_2117 rfl rfl ⟨Nat.le_of_ble_eq_true rfl, Nat.le_of_ble_eq_true rfl⟩ hI rfl rfl (h_me_eq ev9).1 rfl hl.1 rfl (Nat.le_of_ble_eq_true rfl) dX8_readMetric_33 ⟨by decide, by decide⟩) hI (fun H locs hI => ?_)
      refine lv_iload_n hx hb dX8_readMetric_36 rfl (lv_at hl 0 rfl) ?_
      obtain ⟨_, ev10, hq⟩ := b_s hq
      exact ge_Wi hx hb hlocks hr (h_bz_eq ev10).2.1 hI (congrArg (fun z => z.1) (Option.some.inj hq)) (congrArg (fun z => z.2) (Option.some.inj hq)) dX8_readMetric_37
    · replace hq := i_f c7 hq
      refine lv_iconst (v := (1 : Int32)) hx hb dX8_readMetric_23 (by decide) ?_
      refine lv_goto (tgt := 28) hx hb dX8_readMetric_24 (by decide) ?_
      refine lv_iconst (v := (1 : Int32)) hx hb dX8_readMetric_28 (by decide) ?_
      obtain ⟨v11, ev11, hq⟩ := b_s hq
      refine gw_v (g_runV (As := [.int (1 : Int32), .int (1 : Int32)]) (rest := []) (ci := 10) hC (c_X8_check l V g D cT f n a0 (1 : Int32) (1 : Int32) v11 ev11) k_X8_check m_2113 rfl rfl ⟨Nat.le_of_ble_eq_true rfl, Nat.le_of_ble_eq_true rfl⟩ hI rfl rfl (h_me_eq ev11).1 rfl hl.1 rfl (Nat.le_of_ble_eq_true rfl) dX8_readMetric_29 ⟨by decide, by decide⟩) hI (fun H locs hI => ?_)
      refine lv_aload_n hx hb dX8_readMetric_32 rfl (lv_at hl 1 rfl) ?_
      obtain ⟨v12, ev12, hq⟩ := b_s hq
      refine gw_v (g_runV (As := []) (rest := []) (ci := 10) hC (c_X8_advance l V g D cT v11 n a0 v12 ev12) k_X8_advance m_2117 rfl rfl ⟨Nat.le_of_ble_eq_true rfl, Nat.le_of_ble_eq_true rfl⟩ hI rfl rfl (h_me_eq ev12).1 rfl hl.1 rfl (Nat.le_of_ble_eq_true rfl) dX8_readMetric_33 ⟨by decide, by decide⟩) hI (fun H locs hI => ?_)
      refine lv_iload_n hx hb dX8_readMetric_36 rfl (lv_at hl 0 rfl) ?_
      obtain ⟨_, ev13, hq⟩ := b_s hq
      exact ge_Wi hx hb hlocks hr (h_bz_eq ev13).2.1 hI (congrArg (fun z => z.1) (Option.some.inj hq)) (congrArg (fun z => z.2) (Option.some.inj hq)) dX8_readMetric_37

abbrev rm_X8_readMap : Room := { frames := 11, cells := 0, slots := 0, locals := 312 }
theorem k_X8_readMap : g_CV yX8_readMap cX8_readMap 2 none 0 := ⟨⟨m_2105, m_14, by decide +kernel⟩, m_2104, ms_80⟩
set_option maxHeartbeats 4000000 in
set_option maxRecDepth 100000 in
theorem c_X8_readMap (l : Launch) (V : Nat → Nat) (g : GH) (D : va_G) (cT : Nat → ClassId) (f : GH) (n : Nat) (a0 : Nat) (o : GH) (hq : p_X8_readMap V g f a0 = some o) : Met l yX8_readMap (Cond.code yX8_readMap cX8_readMap 2 none :: g_B) rm_X8_readMap (va_Pc [.ref a0] (g_I V g D cT f n)) (g_Wv V D cT o n) 0 0 (g_A V) := by
  refine g_begin (own := RX8) [.ref a0] [(0, .ref a0)] (g_A V) (fun _ h => h) (by decide) rfl (Nat.le_of_ble_eq_true rfl) rfl ?_
  intro p e s m args below meth c hx hb hr hlocks hin hC hI ls hl
  obtain ⟨hx, hb, hml, hown, hB⟩ := id hC
  obtain ⟨H, hH⟩ : ∃ H, H = s.heap := ⟨_, rfl⟩
  obtain ⟨locs, hlocs⟩ : ∃ L : List Loc, L = [] := ⟨_, rfl⟩
  rw [← hH, ← hlocs] at hI ⊢
  clear hH hlocs
  unfold p_X8_readMap at hq
  replace hq := (h_me_eq hq).2
  refine lv_aload_n hx hb dX8_readMap_0 rfl (lv_at hl 0 rfl) ?_
  refine lv_aload_n hx hb dX8_readMap_1 rfl (lv_at hl 0 rfl) ?_
  refine lv_ldcSw hx hb hown (g_rtq hI rt_31) dX8_readMap_2 ?_
  obtain ⟨v1, ev1, hq⟩ := b_s hq
  refine gr_i (g_runV (As := [.ref (V 23)]) (rest := [.ref a0]) (ci := 10) hC (c_X8_isWord l V g D cT f n a0 (V 23) v1 ev1) k_X8_isWord m_2107 rfl rfl ⟨Nat.le_of_ble_eq_true rfl, Nat.le_of_ble_eq_true rfl⟩ hI rfl rfl (h_me_eq ev1).1 rfl hl.1 rfl (Nat.le_of_ble_eq_true rfl) dX8_readMap_5 ⟨by decide, by decide⟩) hI (fun H locs hI => ?_)
  refine lv_iconst (v := (1 : Int32)) hx hb dX8_readMap_8 (by decide) ?_
  obtain ⟨v2, ev2, hq⟩ := b_s hq
  refine gw_v (g_runV (As := [.int v1, .int (1 : Int32)]) (rest := []) (ci := 10) hC (c_X8_check l V g D cT f n a0 v1 (1 : Int32) v2 ev2) k_X8_check m_2113 rfl rfl ⟨Nat.le_of_ble_eq_true rfl, Nat.le_of_ble_eq_true rfl⟩ hI rfl rfl (h_me_eq ev2).1 rfl hl.1 rfl (Nat.le_of_ble_eq_true rfl) dX8_readMap_9 ⟨by decide, by decide⟩) hI (fun H locs hI => ?_)
  refine lv_aload_n hx hb dX8_readMap_12 rfl (lv_at hl 0 rfl) ?_
  obtain ⟨v3, ev3, hq⟩ := b_s hq
  refine gw_v (g_runV (As := []) (rest := []) (ci := 10) hC (c_X8_advance l V g D cT v2 n a0 v3 ev3) k_X8_advance m_2117 rfl rfl ⟨Nat.le_of_ble_eq_true rfl, Nat.le_of_ble_eq_true rfl⟩ hI rfl rfl (h_me_eq ev3).1 rfl hl.1 rfl (Nat.le_of_ble_eq_true rfl) dX8_readMap_13 ⟨by decide, by decide⟩) hI (fun H locs hI => ?_)
  refine lv_aload_n hx hb dX8_readMap_16 rfl (lv_at hl 0 rfl) ?_
  obtain ⟨v4, ev4, hq⟩ := b_s hq
  refine gw_i (g_runV (As := []) (rest := []) (ci := 10) hC (c_X8_readMetric l V g D cT v3 n a0 v4 ev4) k_X8_readMetric m_2121 rfl rfl ⟨Nat.le_of_ble_eq_true rfl, Nat.le_of_ble_eq_true rfl⟩ hI rfl rfl (h_me_eq ev4).1 rfl hl.1 rfl (Nat.le_of_ble_eq_true rfl) dX8_readMap_17 ⟨by decide, by decide⟩) hI (fun H locs hI => ?_)
  refine lv_istore_n (lv' := [(1, .int v4.1), (0, .ref a0)]) hx hb dX8_readMap_20 rfl hl (by decide) rfl (fun ls hl => ?_)
  refine lv_aload_n hx hb dX8_readMap_21 rfl (lv_at hl 1 rfl) ?_
  refine lv_bipush (v := (59 : Int32)) hx hb dX8_readMap_22 (by decide) ?_
  obtain ⟨v5, ev5, hq⟩ := b_s hq
  refine gw_v (g_runV (As := [.int (59 : Int32)]) (rest := []) (ci := 10) hC (c_X8_expect l V g D cT v4.2 n a0 (59 : Int32) v5 ev5) k_X8_expect m_2127 rfl rfl ⟨Nat.le_of_ble_eq_true rfl, Nat.le_of_ble_eq_true rfl⟩ hI rfl rfl (h_me_eq ev5).1 rfl hl.1 rfl (Nat.le_of_ble_eq_true rfl) dX8_readMap_24 ⟨by decide, by decide⟩) hI (fun H locs hI => ?_)
  refine lv_aload_n hx hb dX8_readMap_27 rfl (lv_at hl 1 rfl) ?_
  obtain ⟨v6, ev6, hq⟩ := b_s hq
  refine fa_gr (own := RX8) (ref := "CoastlineRulerModel") (k := 5) hx hb hB inB_RX8 hown hI rfl (by decide) m_1536 (fun _ h9 => h9) ev6 dX8_readMap_28 ?_
  refine lv_iconst (v := (1 : Int32)) hx hb dX8_readMap_31 (by decide) ?_
  refine lv_iconst (v := (0 : Int32)) hx hb dX8_readMap_32 (by decide) ?_
  obtain ⟨f7, ef7, hq⟩ := b_s hq
  refine fa_si hx hb hI ef7 dX8_readMap_33 (fun H locs hI => ?_)
  refine lv_aload_n hx hb dX8_readMap_34 rfl (lv_at hl 1 rfl) ?_
  refine lv_iload_n hx hb dX8_readMap_35 rfl (lv_at hl 0 rfl) ?_
  obtain ⟨v8, ev8, hq⟩ := b_s hq
  refine gw_v (g_runV (As := [.int v4.1]) (rest := []) (ci := 10) hC (c_X8_setMetric l V g D cT f7 n a0 v4.1 v8 ev8) k_X8_setMetric m_2022 rfl rfl ⟨Nat.le_of_ble_eq_true rfl, Nat.le_of_ble_eq_true rfl⟩ hI rfl rfl (h_me_eq ev8).1 rfl hl.1 rfl (Nat.le_of_ble_eq_true rfl) dX8_readMap_36 ⟨by decide, by decide⟩) hI (fun H locs hI => ?_)
  have hl39 : ∀ (K121 : GH → Option GH) (hK121 : ∀ (f : GH) (H : Heap) (locs : List Loc) (ls : Array Slot), g_at (g_A V) V g D cT f n s H locs → lv_has ls 2 [] → K121 f = some o → W p l e rm_X8_readMap s m args below meth c H locs 0 0 (MQ below (g_Wv V D cT o n) args s 0 0 (g_A V)) (F0 m 121 ls [])) (N : Nat) (x0 : Nat) (f : GH) (H : Heap) (locs : List Loc) (ls : Array Slot), g_at (g_A V) V g D cT f n s H locs → lv_has ls 2 [(0, .ref x0)] → p_X8_readMap_l39 V g K121 N x0 f = some o → W p l e rm_X8_readMap s m args below meth c H locs 0 0 (MQ below (g_Wv V D cT o n) args s 0 0 (g_A V)) (F0 m 39 ls []) := by
    intro K121 hK121 N
    induction N with
    | zero =>
      intro x0 f H locs ls hI hl hq
      rw [p_X8_readMap_l39] at hq
      cases hq
    | succ N ih =>
      intro x0 f H locs ls hI hl hq
      rw [p_X8_readMap_l39] at hq
      refine lv_aload_n hx hb dX8_readMap_39 rfl (lv_at hl 0 rfl) ?_
      obtain ⟨v9, ev9, hq⟩ := b_s hq
      refine fa_gi (own := RX8) (ref := "CoastlineRulerModel") (k := 18) hx hb hB inB_RX8 hown hI rfl (by decide) m_1549 (fun _ h9 => h9) ev9 dX8_readMap_40 ?_
      refine lv_if_ne (tgt := 121) hx hb dX8_readMap_43 (by decide) (fun c10 => ?_) (fun c10 => ?_)
      · replace hq := i_f c10 hq
        exact hK121 f H locs ls hI (lv_sub hl [] rfl) hq
      · replace hq := i_t c10 hq
        refine lv_aload_n hx hb dX8_readMap_46 rfl (lv_at hl 0 rfl) ?_
        obtain ⟨v11, ev11, hq⟩ := b_s hq
        refine fa_gi (own := RX8) (ref := "CoastlineRulerModel") (k := 17) hx hb hB inB_RX8 hown hI rfl (by decide) m_1548 (fun _ h9 => h9) ev11 dX8_readMap_47 ?_
        refine lv_if_eq (tgt := 121) hx hb dX8_readMap_50 (by decide) (fun c12 => ?_) (fun c12 => ?_)
        · replace hq := i_t c12 hq
          exact hK121 f H locs ls hI (lv_sub hl [] rfl) hq
        · replace hq := i_f c12 hq
          refine lv_aload_n hx hb dX8_readMap_53 rfl (lv_at hl 0 rfl) ?_
          refine lv_aload_n hx hb dX8_readMap_54 rfl (lv_at hl 0 rfl) ?_
          obtain ⟨v13, ev13, hq⟩ := b_s hq
          refine gr_i (g_runV (As := []) (rest := [.ref x0]) (ci := 10) hC (c_X8_isCoastHere l V g D cT f n x0 v13 ev13) k_X8_isCoastHere m_2135 rfl rfl ⟨Nat.le_of_ble_eq_true rfl, Nat.le_of_ble_eq_true rfl⟩ hI rfl rfl (h_me_eq ev13).1 rfl hl.1 rfl (Nat.le_of_ble_eq_true rfl) dX8_readMap_55 ⟨by decide, by decide⟩) hI (fun H locs hI => ?_)
          refine lv_iconst (v := (1 : Int32)) hx hb dX8_readMap_58 (by decide) ?_
          obtain ⟨v14, ev14, hq⟩ := b_s hq
          refine gw_v (g_runV (As := [.int v13, .int (1 : Int32)]) (rest := []) (ci := 10) hC (c_X8_check l V g D cT f n x0 v13 (1 : Int32) v14 ev14) k_X8_check m_2113 rfl rfl ⟨Nat.le_of_ble_eq_true rfl, Nat.le_of_ble_eq_true rfl⟩ hI rfl rfl (h_me_eq ev14).1 rfl hl.1 rfl (Nat.le_of_ble_eq_true rfl) dX8_readMap_59 ⟨by decide, by decide⟩) hI (fun H locs hI => ?_)
          refine lv_aload_n hx hb dX8_readMap_62 rfl (lv_at hl 0 rfl) ?_
          refine lv_aload_n hx hb dX8_readMap_63 rfl (lv_at hl 0 rfl) ?_
          obtain ⟨v15, ev15, hq⟩ := b_s hq
          refine fa_gi (own := RX8) (ref := "CoastlineRulerModel") (k := 18) hx hb hB inB_RX8 hown hI rfl (by decide) m_1549 (fun _ h9 => h9) ev15 dX8_readMap_64 ?_
          have hj86 : ∀ (x0 : Nat) (t0 : Int32) (t1 : Nat) (f : GH) (H : Heap) (locs : List Loc) (ls : Array Slot), g_at (g_A V) V g D cT f n s H locs → lv_has ls 2 [(0, .ref x0)] → p_X8_readMap_j86 V g (p_X8_readMap_l39 V g K121 N) x0 t0 t1 f = some o → W p l e rm_X8_readMap s m args below meth c H locs 0 0 (MQ below (g_Wv V D cT o n) args s 0 0 (g_A V)) (F0 m 86 ls [.int t0, .ref t1]) := by
            intro x0 t0 t1 f H locs ls hI hl hq
            unfold p_X8_readMap_j86 at hq
            refine lv_iconst (v := (3 : Int32)) hx hb dX8_readMap_86 (by decide) ?_
            obtain ⟨v16, ev16, hq⟩ := b_s hq
            refine gw_v (g_runV (As := [.int t0, .int (3 : Int32)]) (rest := []) (ci := 10) hC (c_X8_check l V g D cT f n t1 t0 (3 : Int32) v16 ev16) k_X8_check m_2113 rfl rfl ⟨Nat.le_of_ble_eq_true rfl, Nat.le_of_ble_eq_true rfl⟩ hI rfl rfl (h_me_eq ev16).1 rfl hl.1 rfl (Nat.le_of_ble_eq_true rfl) dX8_readMap_87 ⟨by decide, by decide⟩) hI (fun H locs hI => ?_)
            refine lv_aload_n hx hb dX8_readMap_90 rfl (lv_at hl 0 rfl) ?_
            obtain ⟨v17, ev17, hq⟩ := b_s hq
            refine fa_gi (own := RX8) (ref := "CoastlineRulerModel") (k := 18) hx hb hB inB_RX8 hown hI rfl (by decide) m_1549 (fun _ h9 => h9) ev17 dX8_readMap_91 ?_
            refine lv_if_ne (tgt := 107) hx hb dX8_readMap_94 (by decide) (fun c18 => ?_) (fun c18 => ?_)
            · replace hq := i_f c18 hq
              refine lv_aload_n hx hb dX8_readMap_107 rfl (lv_at hl 0 rfl) ?_
              obtain ⟨v19, ev19, hq⟩ := b_s hq
              refine fa_gi (own := RX8) (ref := "CoastlineRulerModel") (k := 18) hx hb hB inB_RX8 hown hI rfl (by decide) m_1549 (fun _ h9 => h9) ev19 dX8_readMap_108 ?_
              refine lv_if_ne (tgt := 39) hx hb dX8_readMap_111 (by decide) (fun c20 => ?_) (fun c20 => ?_)
              · replace hq := i_f c20 hq
                exact ih x0 v16 H locs ls hI (lv_sub hl [0] rfl) hq
              · replace hq := i_t c20 hq
                refine lv_aload_n hx hb dX8_readMap_114 rfl (lv_at hl 0 rfl) ?_
                obtain ⟨v21, ev21, hq⟩ := b_s hq
                refine gw_v (g_runV (As := []) (rest := []) (ci := 10) hC (c_X8_layTold l V g D cT v16 n x0 v21 ev21) k_X8_layTold m_1511 rfl rfl ⟨Nat.le_of_ble_eq_true rfl, Nat.le_of_ble_eq_true rfl⟩ hI rfl rfl (h_me_eq ev21).1 rfl hl.1 rfl (Nat.le_of_ble_eq_true rfl) dX8_readMap_115 ⟨by decide, by decide⟩) hI (fun H locs hI => ?_)
                refine lv_goto (tgt := 39) hx hb dX8_readMap_118 (by decide) ?_
                exact ih x0 v21 H locs ls hI (lv_sub hl [0] rfl) hq
            · replace hq := i_t c18 hq
              refine lv_aload_n hx hb dX8_readMap_97 rfl (lv_at hl 0 rfl) ?_
              obtain ⟨v22, ev22, hq⟩ := b_s hq
              refine gw_v (g_runV (As := []) (rest := []) (ci := 10) hC (c_X8_readCoast l V g D cT v16 n x0 v22 ev22) k_X8_readCoast m_2139 rfl rfl ⟨Nat.le_of_ble_eq_true rfl, Nat.le_of_ble_eq_true rfl⟩ hI rfl rfl (h_me_eq ev22).1 rfl hl.1 rfl (Nat.le_of_ble_eq_true rfl) dX8_readMap_98 ⟨by decide, by decide⟩) hI (fun H locs hI => ?_)
              refine lv_aload_n hx hb dX8_readMap_101 rfl (lv_at hl 0 rfl) ?_
              refine lv_bipush (v := (59 : Int32)) hx hb dX8_readMap_102 (by decide) ?_
              obtain ⟨v23, ev23, hq⟩ := b_s hq
              refine gw_v (g_runV (As := [.int (59 : Int32)]) (rest := []) (ci := 10) hC (c_X8_expect l V g D cT v22 n x0 (59 : Int32) v23 ev23) k_X8_expect m_2127 rfl rfl ⟨Nat.le_of_ble_eq_true rfl, Nat.le_of_ble_eq_true rfl⟩ hI rfl rfl (h_me_eq ev23).1 rfl hl.1 rfl (Nat.le_of_ble_eq_true rfl) dX8_readMap_104 ⟨by decide, by decide⟩) hI (fun H locs hI => ?_)
              refine lv_aload_n hx hb dX8_readMap_107 rfl (lv_at hl 0 rfl) ?_
              obtain ⟨v24, ev24, hq⟩ := b_s hq
              refine fa_gi (own := RX8) (ref := "CoastlineRulerModel") (k := 18) hx hb hB inB_RX8 hown hI rfl (by decide) m_1549 (fun _ h9 => h9) ev24 dX8_readMap_108 ?_
              refine lv_if_ne (tgt := 39) hx hb dX8_readMap_111 (by decide) (fun c25 => ?_) (fun c25 => ?_)
              · replace hq := i_f c25 hq
                exact ih x0 v23 H locs ls hI (lv_sub hl [0] rfl) hq
              · replace hq := i_t c25 hq
                refine lv_aload_n hx hb dX8_readMap_114 rfl (lv_at hl 0 rfl) ?_
                obtain ⟨v26, ev26, hq⟩ := b_s hq
                refine gw_v (g_runV (As := []) (rest := []) (ci := 10) hC (c_X8_layTold l V g D cT v23 n x0 v26 ev26) k_X8_layTold m_1511 rfl rfl ⟨Nat.le_of_ble_eq_true rfl, Nat.le_of_ble_eq_true rfl⟩ hI rfl rfl (h_me_eq ev26).1 rfl hl.1 rfl (Nat.le_of_ble_eq_true rfl) dX8_readMap_115 ⟨by decide, by decide⟩) hI (fun H locs hI => ?_)
                refine lv_goto (tgt := 39) hx hb dX8_readMap_118 (by decide) ?_
                exact ih x0 v26 H locs ls hI (lv_sub hl [0] rfl) hq
          have hj81 : ∀ (x0 : Nat) (t0 : Nat) (f : GH) (H : Heap) (locs : List Loc) (ls : Array Slot), g_at (g_A V) V g D cT f n s H locs → lv_has ls 2 [(0, .ref x0)] → p_X8_readMap_j81 V g (p_X8_readMap_j86 V g (p_X8_readMap_l39 V g K121 N)) x0 t0 f = some o → W p l e rm_X8_readMap s m args below meth c H locs 0 0 (MQ below (g_Wv V D cT o n) args s 0 0 (g_A V)) (F0 m 81 ls [.ref t0]) := by
            intro x0 t0 f H locs ls hI hl hq
            unfold p_X8_readMap_j81 at hq
            refine lv_iconst (v := (1 : Int32)) hx hb dX8_readMap_81 (by decide) ?_
            refine lv_goto (tgt := 86) hx hb dX8_readMap_82 (by decide) ?_
            exact hj86 x0 (1 : Int32) t0 f H locs ls hI (lv_sub hl [0] rfl) hq
          refine lv_if_ne (tgt := 81) hx hb dX8_readMap_67 (by decide) (fun c27 => ?_) (fun c27 => ?_)
          · replace hq := i_f c27 hq
            exact hj81 x0 x0 v14 H locs ls hI (lv_sub hl [0] rfl) hq
          · replace hq := i_t c27 hq
            refine lv_aload_n hx hb dX8_readMap_70 rfl (lv_at hl 0 rfl) ?_
            obtain ⟨v28, ev28, hq⟩ := b_s hq
            refine fa_gr (own := RX8) (ref := "CoastlineRulerModel") (k := 5) hx hb hB inB_RX8 hown hI rfl (by decide) m_1536 (fun _ h9 => h9) ev28 dX8_readMap_71 ?_
            refine lv_iconst (v := (1 : Int32)) hx hb dX8_readMap_74 (by decide) ?_
            obtain ⟨v29, ev29, hq⟩ := b_s hq
            refine fa_li hx hb hI ev29 dX8_readMap_75 ?_
            refine lv_bipush (v := (6 : Int32)) hx hb dX8_readMap_76 (by decide) ?_
            refine lv_icmp_ge (tgt := 85) hx hb dX8_readMap_78 (by decide) (fun c30 => ?_) (fun c30 => ?_)
            · replace hq := i_t c30 hq
              refine lv_iconst (v := (0 : Int32)) hx hb dX8_readMap_85 (by decide) ?_
              exact hj86 x0 (0 : Int32) x0 v14 H locs ls hI (lv_sub hl [0] rfl) hq
            · replace hq := i_f c30 hq
              exact hj81 x0 x0 v14 H locs ls hI (lv_sub hl [0] rfl) hq
  refine hl39 _ ?_ FU a0 v8 H locs ls hI (lv_sub hl [1] rfl) hq
  · intro f H locs ls hI hl hq
    exact ge_Wv hx hb hlocks hr hI (Option.some.inj hq) dX8_readMap_121


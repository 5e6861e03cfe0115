abbrev rm_X8_copyCoast : Room := { frames := 3, cells := 0, slots := 0, locals := 140 }
theorem k_X8_copyCoast : g_CV yX8_copyCoast cX8_copyCoast 3 none 2 := ⟨⟨m_1907, m_14, by decide +kernel⟩, m_1906, ms_57⟩
set_option maxHeartbeats 4000000 in
set_option maxRecDepth 100000 in
theorem c_X8_copyCoast (l : Launch) (V : Nat → Nat) (g : GH) (D : va_G) (cT : Nat → ClassId) (f : GH) (n : Nat) (a0 : Nat) (a1 : Int32) (a2 : Int32) (o : GH) (hq : p_X8_copyCoast V g f a0 a1 a2 = some o) : Met l yX8_copyCoast (Cond.code yX8_copyCoast cX8_copyCoast 3 none :: g_B) rm_X8_copyCoast (va_Pc [.ref a0, .int a1, .int a2] (g_I V g D cT f n)) (g_Wv V D cT o n) 0 0 (g_A V) := by
  refine g_begin (own := RX8) [.ref a0, .int a1, .int a2] [(0, .ref a0), (1, .int a1), (2, .int a2)] (g_A V) (fun _ h => h) (by decide) rfl (Nat.le_of_ble_eq_true rfl) rfl ?_
  intro p e s m args below meth c hx hb hr hlocks hin hC hI ls hl
  obtain ⟨hx, hb, hml, hown, hB⟩ := id hC
  obtain ⟨H, hH⟩ : ∃ H, H = s.heap := ⟨_, rfl⟩
  obtain ⟨locs, hlocs⟩ : ∃ L : List Loc, L = [] := ⟨_, rfl⟩
  rw [← hH, ← hlocs] at hI ⊢
  clear hH hlocs
  unfold p_X8_copyCoast at hq
  replace hq := (h_me_eq hq).2
  refine lv_aload_n hx hb dX8_copyCoast_0 rfl (lv_at hl 0 rfl) ?_
  obtain ⟨v1, ev1, hq⟩ := b_s hq
  refine fa_gr (own := RX8) (ref := "CoastlineRulerModel") (k := 5) hx hb hB inB_RX8 hown hI rfl (by decide) m_1536 (fun _ h9 => h9) ev1 dX8_copyCoast_1 ?_
  refine lv_iload_n hx hb dX8_copyCoast_4 rfl (lv_at hl 1 rfl) ?_
  obtain ⟨v2, ev2, hq⟩ := b_s hq
  refine gr_i (g_runS (As := [.int a1]) (rest := [.ref v1]) hC (c_X8_at l V g D cT f n a1 v2 ev2) k_X8_at m_1515 rfl rfl ⟨Nat.le_of_ble_eq_true rfl, Nat.le_of_ble_eq_true rfl⟩ hI rfl hl.1 rfl (Nat.le_of_ble_eq_true rfl) dX8_copyCoast_5 ⟨by decide, by decide⟩) hI (fun H locs hI => ?_)
  refine lv_aload_n hx hb dX8_copyCoast_8 rfl (lv_at hl 0 rfl) ?_
  obtain ⟨v3, ev3, hq⟩ := b_s hq
  refine fa_gr (own := RX8) (ref := "CoastlineRulerModel") (k := 5) hx hb hB inB_RX8 hown hI rfl (by decide) m_1536 (fun _ h9 => h9) ev3 dX8_copyCoast_9 ?_
  refine lv_iload_n hx hb dX8_copyCoast_12 rfl (lv_at hl 2 rfl) ?_
  obtain ⟨v4, ev4, hq⟩ := b_s hq
  refine gr_i (g_runS (As := [.int a2]) (rest := [.ref v3, .int v2, .ref v1]) hC (c_X8_at l V g D cT f n a2 v4 ev4) k_X8_at m_1515 rfl rfl ⟨Nat.le_of_ble_eq_true rfl, Nat.le_of_ble_eq_true rfl⟩ hI rfl hl.1 rfl (Nat.le_of_ble_eq_true rfl) dX8_copyCoast_13 ⟨by decide, by decide⟩) hI (fun H locs hI => ?_)
  refine lv_sipush (v := (260 : Int32)) hx hb dX8_copyCoast_16 (by decide) ?_
  obtain ⟨f5, ef5, hq⟩ := b_s hq
  refine fa_cp (own := RX8) hx hb (hml.trans hl.1.symm) hB hown m_1518 m_252 m_251 m_13 hI ef5 (by decide) (by decide) dX8_copyCoast_19 (fun H locs hI => ?_)
  exact ge_Wv hx hb hlocks hr hI (Option.some.inj hq) dX8_copyCoast_22

abbrev rm_X8_measure : Room := { frames := 3, cells := 0, slots := 0, locals := 140 }
theorem k_X8_measure : g_CS yX8_measure cX8_measure 5 (some .int) 3 := ⟨⟨m_1679, m_14, by decide +kernel⟩, m_1678⟩
set_option maxHeartbeats 4000000 in
set_option maxRecDepth 100000 in
theorem c_X8_measure (l : Launch) (V : Nat → Nat) (g : GH) (D : va_G) (cT : Nat → ClassId) (f : GH) (n : Nat) (a0 : Int32) (a1 : Int32) (a2 : Int32) (o : Int32) (hq : p_X8_measure V g f a0 a1 a2 = some o) : Met l yX8_measure (Cond.code yX8_measure cX8_measure 5 (some .int) :: g_B) rm_X8_measure (va_Pc [.int a0, .int a1, .int a2] (g_I V g D cT f n)) (g_Ri o n) 0 0 g_no := by
  refine g_begin (own := RX8) [.int a0, .int a1, .int a2] [(0, .int a0), (1, .int a1), (2, .int a2)] g_no (fun _ h => h.elim) (by decide) rfl (Nat.le_of_ble_eq_true rfl) rfl ?_
  intro p e s m args below meth c hx hb hr hlocks hin hC hI ls hl
  obtain ⟨hx, hb, hml, hown, hB⟩ := id hC
  obtain ⟨H, hH⟩ : ∃ H, H = s.heap := ⟨_, rfl⟩
  obtain ⟨locs, hlocs⟩ : ∃ L : List Loc, L = [] := ⟨_, rfl⟩
  rw [← hH, ← hlocs] at hI ⊢
  clear hH hlocs
  unfold p_X8_measure at hq
  refine lv_iload_n hx hb dX8_measure_0 rfl (lv_at hl 0 rfl) ?_
  obtain ⟨v1, ev1, hq⟩ := b_s hq
  refine gr_i (g_runS (As := [.int a0]) (rest := []) hC (c_X8_sizeOf l V g D cT f n a0 v1 ev1) k_X8_sizeOf m_1680 rfl rfl ⟨Nat.le_of_ble_eq_true rfl, Nat.le_of_ble_eq_true rfl⟩ hI rfl hl.1 rfl (Nat.le_of_ble_eq_true rfl) dX8_measure_1 ⟨by decide, by decide⟩) hI (fun H locs hI => ?_)
  refine lv_istore_n (lv' := [(3, .int v1), (0, .int a0), (1, .int a1), (2, .int a2)]) hx hb dX8_measure_4 rfl hl (by decide) rfl (fun ls hl => ?_)
  refine lv_iload_n hx hb dX8_measure_5 rfl (lv_at hl 2 rfl) ?_
  obtain ⟨v2, ev2, hq⟩ := b_s hq
  refine gr_i (g_runS (As := [.int a1]) (rest := []) hC (c_X8_sizeOf l V g D cT f n a1 v2 ev2) k_X8_sizeOf m_1680 rfl rfl ⟨Nat.le_of_ble_eq_true rfl, Nat.le_of_ble_eq_true rfl⟩ hI rfl hl.1 rfl (Nat.le_of_ble_eq_true rfl) dX8_measure_6 ⟨by decide, by decide⟩) hI (fun H locs hI => ?_)
  refine lv_istore (lv' := [(4, .int v2), (3, .int v1), (0, .int a0), (1, .int a1), (2, .int a2)]) hx hb dX8_measure_9 hl (by decide) rfl (fun ls hl => ?_)
  refine lv_iload_n hx hb dX8_measure_11 rfl (lv_at hl 4 rfl) ?_
  refine lv_if_ne (tgt := 22) hx hb dX8_measure_12 (by decide) (fun c3 => ?_) (fun c3 => ?_)
  · replace hq := i_f c3 hq
    refine lv_iload_n hx hb dX8_measure_22 rfl (lv_at hl 1 rfl) ?_
    refine lv_iload hx hb dX8_measure_23 (lv_at hl 0 rfl) ?_
    refine lv_icmp_le (tgt := 32) hx hb dX8_measure_25 (by decide) (fun c4 => ?_) (fun c4 => ?_)
    · replace hq := i_t c4 hq
      refine lv_iload hx hb dX8_measure_32 (lv_at hl 0 rfl) ?_
      exact ge_Ri hx hb hlocks hr rfl hI hq dX8_measure_34
    · replace hq := i_f c4 hq
      refine lv_iload_n hx hb dX8_measure_28 rfl (lv_at hl 1 rfl) ?_
      refine lv_goto (tgt := 34) hx hb dX8_measure_29 (by decide) ?_
      exact ge_Ri hx hb hlocks hr rfl hI hq dX8_measure_34
  · replace hq := i_t c3 hq
    refine lv_iload_n hx hb dX8_measure_15 rfl (lv_at hl 1 rfl) ?_
    refine lv_iload hx hb dX8_measure_16 (lv_at hl 0 rfl) ?_
    refine lv_iadd hx hb dX8_measure_18 ?_
    refine lv_goto (tgt := 34) hx hb dX8_measure_19 (by decide) ?_
    exact ge_Ri hx hb hlocks hr rfl hI hq dX8_measure_34

abbrev rm_X8_isKing : Room := { frames := 2, cells := 0, slots := 0, locals := 120 }
theorem k_X8_isKing : g_CV yX8_isKing cX8_isKing 1 (some .boolean) 0 := ⟨⟨m_1625, m_14, by decide +kernel⟩, m_1624, ms_24⟩
set_option maxHeartbeats 4000000 in
set_option maxRecDepth 100000 in
theorem c_X8_isKing (l : Launch) (V : Nat → Nat) (g : GH) (D : va_G) (cT : Nat → ClassId) (f : GH) (n : Nat) (a0 : Nat) (o : Int32) (hq : p_X8_isKing V g f a0 = some o) : Met l yX8_isKing (Cond.code yX8_isKing cX8_isKing 1 (some .boolean) :: g_B) rm_X8_isKing (va_Pc [.ref a0] (g_I V g D cT f n)) (g_Ri o n) 0 0 g_no := by
  refine g_begin (own := RX8) [.ref a0] [(0, .ref a0)] g_no (fun _ h => h.elim) (by decide) rfl (Nat.le_of_ble_eq_true rfl) rfl ?_
  intro p e s m args below meth c hx hb hr hlocks hin hC hI ls hl
  obtain ⟨hx, hb, hml, hown, hB⟩ := id hC
  obtain ⟨H, hH⟩ : ∃ H, H = s.heap := ⟨_, rfl⟩
  obtain ⟨locs, hlocs⟩ : ∃ L : List Loc, L = [] := ⟨_, rfl⟩
  rw [← hH, ← hlocs] at hI ⊢
  clear hH hlocs
  unfold p_X8_isKing at hq
  replace hq := (h_me_eq hq).2
  refine lv_aload_n hx hb dX8_isKing_0 rfl (lv_at hl 0 rfl) ?_
  obtain ⟨v1, ev1, hq⟩ := b_s hq
  refine fa_gr (own := RX8) (ref := "CoastlineRulerModel") (k := 5) hx hb hB inB_RX8 hown hI rfl (by decide) m_1536 (fun _ h9 => h9) ev1 dX8_isKing_1 ?_
  refine lv_iconst (v := (0 : Int32)) hx hb dX8_isKing_4 (by decide) ?_
  obtain ⟨v2, ev2, hq⟩ := b_s hq
  refine fa_li hx hb hI ev2 dX8_isKing_5 ?_
  refine lv_iconst (v := (1 : Int32)) hx hb dX8_isKing_6 (by decide) ?_
  refine lv_icmp_ne (tgt := 14) hx hb dX8_isKing_7 (by decide) (fun c3 => ?_) (fun c3 => ?_)
  · replace hq := i_f c3 hq
    refine lv_iconst (v := (0 : Int32)) hx hb dX8_isKing_14 (by decide) ?_
    exact ge_Ri hx hb hlocks hr (by decide +kernel) hI hq dX8_isKing_15
  · replace hq := i_t c3 hq
    refine lv_iconst (v := (1 : Int32)) hx hb dX8_isKing_10 (by decide) ?_
    refine lv_goto (tgt := 15) hx hb dX8_isKing_11 (by decide) ?_
    exact ge_Ri hx hb hlocks hr (by decide +kernel) hI hq dX8_isKing_15

abbrev rm_X8_distance : Room := { frames := 4, cells := 0, slots := 0, locals := 164 }
theorem k_X8_distance : g_CV yX8_distance cX8_distance 5 (some .int) 4 := ⟨⟨m_1676, m_14, by decide +kernel⟩, m_1675, ms_31⟩
set_option maxHeartbeats 4000000 in
set_option maxRecDepth 100000 in
theorem c_X8_distance (l : Launch) (V : Nat → Nat) (g : GH) (D : va_G) (cT : Nat → ClassId) (f : GH) (n : Nat) (a0 : Nat) (a1 : Int32) (a2 : Int32) (a3 : Int32) (a4 : Int32) (o : Int32) (hq : p_X8_distance V g f a0 a1 a2 a3 a4 = some o) : Met l yX8_distance (Cond.code yX8_distance cX8_distance 5 (some .int) :: g_B) rm_X8_distance (va_Pc [.ref a0, .int a1, .int a2, .int a3, .int a4] (g_I V g D cT f n)) (g_Ri o n) 0 0 g_no := by
  refine g_begin (own := RX8) [.ref a0, .int a1, .int a2, .int a3, .int a4] [(0, .ref a0), (1, .int a1), (2, .int a2), (3, .int a3), (4, .int a4)] g_no (fun _ h => h.elim) (by decide) rfl (Nat.le_of_ble_eq_true rfl) rfl ?_
  intro p e s m args below meth c hx hb hr hlocks hin hC hI ls hl
  obtain ⟨hx, hb, hml, hown, hB⟩ := id hC
  obtain ⟨H, hH⟩ : ∃ H, H = s.heap := ⟨_, rfl⟩
  obtain ⟨locs, hlocs⟩ : ∃ L : List Loc, L = [] := ⟨_, rfl⟩
  rw [← hH, ← hlocs] at hI ⊢
  clear hH hlocs
  unfold p_X8_distance at hq
  replace hq := (h_me_eq hq).2
  refine lv_aload_n hx hb dX8_distance_0 rfl (lv_at hl 0 rfl) ?_
  refine lv_iload_n hx hb dX8_distance_1 rfl (lv_at hl 1 rfl) ?_
  refine lv_iload_n hx hb dX8_distance_2 rfl (lv_at hl 2 rfl) ?_
  obtain ⟨v1, ev1, hq⟩ := b_s hq
  refine gr_i (g_runV (As := [.int a1, .int a2]) (rest := []) (ci := 10) hC (c_X8_x l V g D cT f n a0 a1 a2 v1 ev1) k_X8_x m_1657 rfl rfl ⟨Nat.le_of_ble_eq_true rfl, Nat.le_of_ble_eq_true rfl⟩ hI rfl rfl (h_me_eq ev1).1 rfl hl.1 rfl (Nat.le_of_ble_eq_true rfl) dX8_distance_3 ⟨by decide, by decide⟩) hI (fun H locs hI => ?_)
  refine lv_aload_n hx hb dX8_distance_6 rfl (lv_at hl 0 rfl) ?_
  refine lv_iload_n hx hb dX8_distance_7 rfl (lv_at hl 1 rfl) ?_
  refine lv_iload_n hx hb dX8_distance_8 rfl (lv_at hl 3 rfl) ?_
  obtain ⟨v2, ev2, hq⟩ := b_s hq
  refine gr_i (g_runV (As := [.int a1, .int a3]) (rest := [.int v1]) (ci := 10) hC (c_X8_x l V g D cT f n a0 a1 a3 v2 ev2) k_X8_x m_1657 rfl rfl ⟨Nat.le_of_ble_eq_true rfl, Nat.le_of_ble_eq_true rfl⟩ hI rfl rfl (h_me_eq ev2).1 rfl hl.1 rfl (Nat.le_of_ble_eq_true rfl) dX8_distance_9 ⟨by decide, by decide⟩) hI (fun H locs hI => ?_)
  refine lv_isub hx hb dX8_distance_12 ?_
  refine lv_aload_n hx hb dX8_distance_13 rfl (lv_at hl 0 rfl) ?_
  refine lv_iload_n hx hb dX8_distance_14 rfl (lv_at hl 1 rfl) ?_
  refine lv_iload_n hx hb dX8_distance_15 rfl (lv_at hl 2 rfl) ?_
  obtain ⟨v3, ev3, hq⟩ := b_s hq
  refine gr_i (g_runV (As := [.int a1, .int a2]) (rest := [.int (v1 - v2)]) (ci := 10) hC (c_X8_y l V g D cT f n a0 a1 a2 v3 ev3) k_X8_y m_1665 rfl rfl ⟨Nat.le_of_ble_eq_true rfl, Nat.le_of_ble_eq_true rfl⟩ hI rfl rfl (h_me_eq ev3).1 rfl hl.1 rfl (Nat.le_of_ble_eq_true rfl) dX8_distance_16 ⟨by decide, by decide⟩) hI (fun H locs hI => ?_)
  refine lv_aload_n hx hb dX8_distance_19 rfl (lv_at hl 0 rfl) ?_
  refine lv_iload_n hx hb dX8_distance_20 rfl (lv_at hl 1 rfl) ?_
  refine lv_iload_n hx hb dX8_distance_21 rfl (lv_at hl 3 rfl) ?_
  obtain ⟨v4, ev4, hq⟩ := b_s hq
  refine gr_i (g_runV (As := [.int a1, .int a3]) (rest := [.int v3, .int (v1 - v2)]) (ci := 10) hC (c_X8_y l V g D cT f n a0 a1 a3 v4 ev4) k_X8_y m_1665 rfl rfl ⟨Nat.le_of_ble_eq_true rfl, Nat.le_of_ble_eq_true rfl⟩ hI rfl rfl (h_me_eq ev4).1 rfl hl.1 rfl (Nat.le_of_ble_eq_true rfl) dX8_distance_22 ⟨by decide, by decide⟩) hI (fun H locs hI => ?_)
  refine lv_isub hx hb dX8_distance_25 ?_
  refine lv_iload hx hb dX8_distance_26 (lv_at hl 4 rfl) ?_
  obtain ⟨v5, ev5, hq⟩ := b_s hq
  refine gr_i (g_runS (As := [.int (v1 - v2), .int (v3 - v4), .int a4]) (rest := []) hC (c_X8_measure l V g D cT f n (v1 - v2) (v3 - v4) a4 v5 ev5) k_X8_measure m_1677 rfl rfl ⟨Nat.le_of_ble_eq_true rfl, Nat.le_of_ble_eq_true rfl⟩ hI rfl hl.1 rfl (Nat.le_of_ble_eq_true rfl) dX8_distance_28 ⟨by decide, by decide⟩) hI (fun H locs hI => ?_)
  exact ge_Ri hx hb hlocks hr rfl hI hq dX8_distance_31

abbrev rm_X8_sticks : Room := { frames := 4, cells := 0, slots := 0, locals := 161 }
theorem k_X8_sticks : g_CV yX8_sticks cX8_sticks 5 (some .int) 2 := ⟨⟨m_1719, m_14, by decide +kernel⟩, m_1718, ms_36⟩
set_option maxHeartbeats 4000000 in
set_option maxRecDepth 100000 in
theorem c_X8_sticks (l : Launch) (V : Nat → Nat) (g : GH) (D : va_G) (cT : Nat → ClassId) (f : GH) (n : Nat) (a0 : Nat) (a1 : Int32) (a2 : Int32) (o : Int32) (hq : p_X8_sticks V g f a0 a1 a2 = some o) : Met l yX8_sticks (Cond.code yX8_sticks cX8_sticks 5 (some .int) :: g_B) rm_X8_sticks (va_Pc [.ref a0, .int a1, .int a2] (g_I V g D cT f n)) (g_Ri o n) 0 0 g_no := by
  refine g_begin (own := RX8) [.ref a0, .int a1, .int a2] [(0, .ref a0), (1, .int a1), (2, .int a2)] g_no (fun _ h => h.elim) (by decide) rfl (Nat.le_of_ble_eq_true rfl) rfl ?_
  intro p e s m args below meth c hx hb hr hlocks hin hC hI ls hl
  obtain ⟨hx, hb, hml, hown, hB⟩ := id hC
  obtain ⟨H, hH⟩ : ∃ H, H = s.heap := ⟨_, rfl⟩
  obtain ⟨locs, hlocs⟩ : ∃ L : List Loc, L = [] := ⟨_, rfl⟩
  rw [← hH, ← hlocs] at hI ⊢
  clear hH hlocs
  unfold p_X8_sticks at hq
  replace hq := (h_me_eq hq).2
  refine lv_aload_n hx hb dX8_sticks_0 rfl (lv_at hl 0 rfl) ?_
  refine lv_iload_n hx hb dX8_sticks_1 rfl (lv_at hl 1 rfl) ?_
  obtain ⟨v1, ev1, hq⟩ := b_s hq
  refine gr_i (g_runV (As := [.int a1]) (rest := []) (ci := 10) hC (c_X8_count l V g D cT f n a0 a1 v1 ev1) k_X8_count m_1527 rfl rfl ⟨Nat.le_of_ble_eq_true rfl, Nat.le_of_ble_eq_true rfl⟩ hI rfl rfl (h_me_eq ev1).1 rfl hl.1 rfl (Nat.le_of_ble_eq_true rfl) dX8_sticks_2 ⟨by decide, by decide⟩) hI (fun H locs hI => ?_)
  refine lv_iconst (v := (1 : Int32)) hx hb dX8_sticks_5 (by decide) ?_
  refine lv_isub hx hb dX8_sticks_6 ?_
  refine lv_iload_n hx hb dX8_sticks_7 rfl (lv_at hl 2 rfl) ?_
  refine lv_ishr hx hb dX8_sticks_8 ?_
  refine lv_iconst (v := (1 : Int32)) hx hb dX8_sticks_9 (by decide) ?_
  refine lv_iadd hx hb dX8_sticks_10 ?_
  refine lv_istore_n (lv' := [(3, .int (((v1 - (1 : Int32)) >>> (a2 &&& 31)) + (1 : Int32))), (0, .ref a0), (1, .int a1), (2, .int a2)]) hx hb dX8_sticks_11 rfl hl (by decide) rfl (fun ls hl => ?_)
  refine lv_iload_n hx hb dX8_sticks_12 rfl (lv_at hl 0 rfl) ?_
  refine lv_iconst (v := (1 : Int32)) hx hb dX8_sticks_13 (by decide) ?_
  refine lv_isub hx hb dX8_sticks_14 ?_
  refine lv_iload_n hx hb dX8_sticks_15 rfl (lv_at hl 3 rfl) ?_
  refine lv_ishl hx hb dX8_sticks_16 ?_
  refine lv_aload_n hx hb dX8_sticks_17 rfl (lv_at hl 1 rfl) ?_
  refine lv_iload_n hx hb dX8_sticks_18 rfl (lv_at hl 2 rfl) ?_
  obtain ⟨v2, ev2, hq⟩ := b_s hq
  refine gr_i (g_runV (As := [.int a1]) (rest := [.int (((((v1 - (1 : Int32)) >>> (a2 &&& 31)) + (1 : Int32)) - (1 : Int32)) <<< (a2 &&& 31))]) (ci := 10) hC (c_X8_count l V g D cT f n a0 a1 v2 ev2) k_X8_count m_1527 rfl rfl ⟨Nat.le_of_ble_eq_true rfl, Nat.le_of_ble_eq_true rfl⟩ hI rfl rfl (h_me_eq ev2).1 rfl hl.1 rfl (Nat.le_of_ble_eq_true rfl) dX8_sticks_19 ⟨by decide, by decide⟩) hI (fun H locs hI => ?_)
  refine lv_iconst (v := (1 : Int32)) hx hb dX8_sticks_22 (by decide) ?_
  refine lv_isub hx hb dX8_sticks_23 ?_
  have hj32 : ∀ (x0 : Nat) (x1 : Int32) (x3 : Int32) (t0 : Int32) (H : Heap) (locs : List Loc) (ls : Array Slot), g_at g_no V g D cT f n s H locs → lv_has ls 5 [(0, .ref x0), (1, .int x1), (3, .int x3)] → p_X8_sticks_j32 V g f x0 x1 x3 t0 = some o → W p l e rm_X8_sticks s m args below meth c H locs 0 0 (MQ below (g_Ri o n) args s 0 0 g_no) (F0 m 32 ls [.int t0]) := by
    intro x0 x1 x3 t0 H locs ls hI hl hq
    unfold p_X8_sticks_j32 at hq
    refine lv_istore (lv' := [(4, .int t0), (0, .ref x0), (1, .int x1), (3, .int x3)]) hx hb dX8_sticks_32 hl (by decide) rfl (fun ls hl => ?_)
    refine lv_aload_n hx hb dX8_sticks_34 rfl (lv_at hl 1 rfl) ?_
    refine lv_iload_n hx hb dX8_sticks_35 rfl (lv_at hl 2 rfl) ?_
    obtain ⟨v3, ev3, hq⟩ := b_s hq
    refine gr_i (g_runV (As := [.int x1]) (rest := []) (ci := 10) hC (c_X8_island l V g D cT f n x0 x1 v3 ev3) k_X8_island m_1641 rfl rfl ⟨Nat.le_of_ble_eq_true rfl, Nat.le_of_ble_eq_true rfl⟩ hI rfl rfl (h_me_eq ev3).1 rfl hl.1 rfl (Nat.le_of_ble_eq_true rfl) dX8_sticks_36 ⟨by decide, by decide⟩) hI (fun H locs hI => ?_)
    refine lv_if_eq (tgt := 46) hx hb dX8_sticks_39 (by decide) (fun c4 => ?_) (fun c4 => ?_)
    · replace hq := i_t c4 hq
      refine lv_iload hx hb dX8_sticks_46 (lv_at hl 0 rfl) ?_
      refine lv_if_eq (tgt := 57) hx hb dX8_sticks_48 (by decide) (fun c5 => ?_) (fun c5 => ?_)
      · replace hq := i_t c5 hq
        refine lv_iload_n hx hb dX8_sticks_57 rfl (lv_at hl 3 rfl) ?_
        exact ge_Ri hx hb hlocks hr rfl hI hq dX8_sticks_58
      · replace hq := i_f c5 hq
        refine lv_iload_n hx hb dX8_sticks_51 rfl (lv_at hl 3 rfl) ?_
        refine lv_iconst (v := (1 : Int32)) hx hb dX8_sticks_52 (by decide) ?_
        refine lv_isub hx hb dX8_sticks_53 ?_
        refine lv_goto (tgt := 58) hx hb dX8_sticks_54 (by decide) ?_
        exact ge_Ri hx hb hlocks hr rfl hI hq dX8_sticks_58
    · replace hq := i_f c4 hq
      refine lv_iload_n hx hb dX8_sticks_42 rfl (lv_at hl 3 rfl) ?_
      refine lv_goto (tgt := 58) hx hb dX8_sticks_43 (by decide) ?_
      exact ge_Ri hx hb hlocks hr rfl hI hq dX8_sticks_58
  refine lv_icmp_ne (tgt := 31) hx hb dX8_sticks_24 (by decide) (fun c6 => ?_) (fun c6 => ?_)
  · replace hq := i_f c6 hq
    refine lv_iconst (v := (0 : Int32)) hx hb dX8_sticks_31 (by decide) ?_
    exact hj32 a0 a1 (((v1 - (1 : Int32)) >>> (a2 &&& 31)) + (1 : Int32)) (0 : Int32) H locs ls hI (lv_sub hl [1, 2, 0] rfl) hq
  · replace hq := i_t c6 hq
    refine lv_iconst (v := (1 : Int32)) hx hb dX8_sticks_27 (by decide) ?_
    refine lv_goto (tgt := 32) hx hb dX8_sticks_28 (by decide) ?_
    exact hj32 a0 a1 (((v1 - (1 : Int32)) >>> (a2 &&& 31)) + (1 : Int32)) (1 : Int32) H locs ls hI (lv_sub hl [1, 2, 0] rfl) hq

abbrev rm_X8_endOf : Room := { frames := 4, cells := 0, slots := 0, locals := 161 }
theorem k_X8_endOf : g_CV yX8_endOf cX8_endOf 5 (some .int) 3 := ⟨⟨m_1727, m_14, by decide +kernel⟩, m_1726, ms_38⟩
set_option maxHeartbeats 4000000 in
set_option maxRecDepth 100000 in
theorem c_X8_endOf (l : Launch) (V : Nat → Nat) (g : GH) (D : va_G) (cT : Nat → ClassId) (f : GH) (n : Nat) (a0 : Nat) (a1 : Int32) (a2 : Int32) (a3 : Int32) (o : Int32) (hq : p_X8_endOf V g f a0 a1 a2 a3 = some o) : Met l yX8_endOf (Cond.code yX8_endOf cX8_endOf 5 (some .int) :: g_B) rm_X8_endOf (va_Pc [.ref a0, .int a1, .int a2, .int a3] (g_I V g D cT f n)) (g_Ri o n) 0 0 g_no := by
  refine g_begin (own := RX8) [.ref a0, .int a1, .int a2, .int a3] [(0, .ref a0), (1, .int a1), (2, .int a2), (3, .int a3)] g_no (fun _ h => h.elim) (by decide) rfl (Nat.le_of_ble_eq_true rfl) rfl ?_
  intro p e s m args below meth c hx hb hr hlocks hin hC hI ls hl
  obtain ⟨hx, hb, hml, hown, hB⟩ := id hC
  obtain ⟨H, hH⟩ : ∃ H, H = s.heap := ⟨_, rfl⟩
  obtain ⟨locs, hlocs⟩ : ∃ L : List Loc, L = [] := ⟨_, rfl⟩
  rw [← hH, ← hlocs] at hI ⊢
  clear hH hlocs
  unfold p_X8_endOf at hq
  replace hq := (h_me_eq hq).2
  refine lv_iload_n hx hb dX8_endOf_0 rfl (lv_at hl 3 rfl) ?_
  refine lv_iconst (v := (1 : Int32)) hx hb dX8_endOf_1 (by decide) ?_
  refine lv_iadd hx hb dX8_endOf_2 ?_
  refine lv_iload_n hx hb dX8_endOf_3 rfl (lv_at hl 2 rfl) ?_
  refine lv_ishl hx hb dX8_endOf_4 ?_
  refine lv_istore (lv' := [(4, .int ((a3 + (1 : Int32)) <<< (a2 &&& 31))), (0, .ref a0), (1, .int a1), (2, .int a2), (3, .int a3)]) hx hb dX8_endOf_5 hl (by decide) rfl (fun ls hl => ?_)
  refine lv_iload hx hb dX8_endOf_7 (lv_at hl 0 rfl) ?_
  refine lv_aload_n hx hb dX8_endOf_9 rfl (lv_at hl 1 rfl) ?_
  refine lv_iload_n hx hb dX8_endOf_10 rfl (lv_at hl 2 rfl) ?_
  obtain ⟨v1, ev1, hq⟩ := b_s hq
  refine gr_i (g_runV (As := [.int a1]) (rest := [.int ((a3 + (1 : Int32)) <<< (a2 &&& 31))]) (ci := 10) hC (c_X8_count l V g D cT f n a0 a1 v1 ev1) k_X8_count m_1527 rfl rfl ⟨Nat.le_of_ble_eq_true rfl, Nat.le_of_ble_eq_true rfl⟩ hI rfl rfl (h_me_eq ev1).1 rfl hl.1 rfl (Nat.le_of_ble_eq_true rfl) dX8_endOf_11 ⟨by decide, by decide⟩) hI (fun H locs hI => ?_)
  refine lv_icmp_ge (tgt := 22) hx hb dX8_endOf_14 (by decide) (fun c2 => ?_) (fun c2 => ?_)
  · replace hq := i_t c2 hq
    refine lv_aload_n hx hb dX8_endOf_22 rfl (lv_at hl 1 rfl) ?_
    refine lv_iload_n hx hb dX8_endOf_23 rfl (lv_at hl 2 rfl) ?_
    obtain ⟨v3, ev3, hq⟩ := b_s hq
    refine gr_i (g_runV (As := [.int a1]) (rest := []) (ci := 10) hC (c_X8_island l V g D cT f n a0 a1 v3 ev3) k_X8_island m_1641 rfl rfl ⟨Nat.le_of_ble_eq_true rfl, Nat.le_of_ble_eq_true rfl⟩ hI rfl rfl (h_me_eq ev3).1 rfl hl.1 rfl (Nat.le_of_ble_eq_true rfl) dX8_endOf_24 ⟨by decide, by decide⟩) hI (fun H locs hI => ?_)
    refine lv_if_eq (tgt := 34) hx hb dX8_endOf_27 (by decide) (fun c4 => ?_) (fun c4 => ?_)
    · replace hq := i_t c4 hq
      refine lv_aload_n hx hb dX8_endOf_34 rfl (lv_at hl 1 rfl) ?_
      refine lv_iload_n hx hb dX8_endOf_35 rfl (lv_at hl 2 rfl) ?_
      obtain ⟨v5, ev5, hq⟩ := b_s hq
      refine gr_i (g_runV (As := [.int a1]) (rest := []) (ci := 10) hC (c_X8_count l V g D cT f n a0 a1 v5 ev5) k_X8_count m_1527 rfl rfl ⟨Nat.le_of_ble_eq_true rfl, Nat.le_of_ble_eq_true rfl⟩ hI rfl rfl (h_me_eq ev5).1 rfl hl.1 rfl (Nat.le_of_ble_eq_true rfl) dX8_endOf_36 ⟨by decide, by decide⟩) hI (fun H locs hI => ?_)
      refine lv_iconst (v := (1 : Int32)) hx hb dX8_endOf_39 (by decide) ?_
      refine lv_isub hx hb dX8_endOf_40 ?_
      exact ge_Ri hx hb hlocks hr rfl hI hq dX8_endOf_41
    · replace hq := i_f c4 hq
      refine lv_iconst (v := (0 : Int32)) hx hb dX8_endOf_30 (by decide) ?_
      refine lv_goto (tgt := 41) hx hb dX8_endOf_31 (by decide) ?_
      exact ge_Ri hx hb hlocks hr rfl hI hq dX8_endOf_41
  · replace hq := i_f c2 hq
    refine lv_iload hx hb dX8_endOf_17 (lv_at hl 0 rfl) ?_
    refine lv_goto (tgt := 41) hx hb dX8_endOf_19 (by decide) ?_
    exact ge_Ri hx hb hlocks hr rfl hI hq dX8_endOf_41

abbrev rm_X8_lengthOf : Room := { frames := 5, cells := 0, slots := 0, locals := 188 }
theorem k_X8_lengthOf : g_CV yX8_lengthOf cX8_lengthOf 5 (some .int) 4 := ⟨⟨m_1723, m_14, by decide +kernel⟩, m_1722, ms_37⟩
set_option maxHeartbeats 4000000 in
set_option maxRecDepth 100000 in
theorem c_X8_lengthOf (l : Launch) (V : Nat → Nat) (g : GH) (D : va_G) (cT : Nat → ClassId) (f : GH) (n : Nat) (a0 : Nat) (a1 : Int32) (a2 : Int32) (a3 : Int32) (a4 : Int32) (o : Int32) (hq : p_X8_lengthOf V g f a0 a1 a2 a3 a4 = some o) : Met l yX8_lengthOf (Cond.code yX8_lengthOf cX8_lengthOf 5 (some .int) :: g_B) rm_X8_lengthOf (va_Pc [.ref a0, .int a1, .int a2, .int a3, .int a4] (g_I V g D cT f n)) (g_Ri o n) 0 0 g_no := by
  refine g_begin (own := RX8) [.ref a0, .int a1, .int a2, .int a3, .int a4] [(0, .ref a0), (1, .int a1), (2, .int a2), (3, .int a3), (4, .int a4)] g_no (fun _ h => h.elim) (by decide) rfl (Nat.le_of_ble_eq_true rfl) rfl ?_
  intro p e s m args below meth c hx hb hr hlocks hin hC hI ls hl
  obtain ⟨hx, hb, hml, hown, hB⟩ := id hC
  obtain ⟨H, hH⟩ : ∃ H, H = s.heap := ⟨_, rfl⟩
  obtain ⟨locs, hlocs⟩ : ∃ L : List Loc, L = [] := ⟨_, rfl⟩
  rw [← hH, ← hlocs] at hI ⊢
  clear hH hlocs
  unfold p_X8_lengthOf at hq
  replace hq := (h_me_eq hq).2
  refine lv_aload_n hx hb dX8_lengthOf_0 rfl (lv_at hl 0 rfl) ?_
  refine lv_iload_n hx hb dX8_lengthOf_1 rfl (lv_at hl 1 rfl) ?_
  refine lv_iload_n hx hb dX8_lengthOf_2 rfl (lv_at hl 3 rfl) ?_
  refine lv_iload_n hx hb dX8_lengthOf_3 rfl (lv_at hl 2 rfl) ?_
  refine lv_ishl hx hb dX8_lengthOf_4 ?_
  refine lv_aload_n hx hb dX8_lengthOf_5 rfl (lv_at hl 0 rfl) ?_
  refine lv_iload_n hx hb dX8_lengthOf_6 rfl (lv_at hl 1 rfl) ?_
  refine lv_iload_n hx hb dX8_lengthOf_7 rfl (lv_at hl 2 rfl) ?_
  refine lv_iload_n hx hb dX8_lengthOf_8 rfl (lv_at hl 3 rfl) ?_
  obtain ⟨v1, ev1, hq⟩ := b_s hq
  refine gr_i (g_runV (As := [.int a1, .int a2, .int a3]) (rest := [.int (a3 <<< (a2 &&& 31)), .int a1, .ref a0]) (ci := 10) hC (c_X8_endOf l V g D cT f n a0 a1 a2 a3 v1 ev1) k_X8_endOf m_1724 rfl rfl ⟨Nat.le_of_ble_eq_true rfl, Nat.le_of_ble_eq_true rfl⟩ hI rfl rfl (h_me_eq ev1).1 rfl hl.1 rfl (Nat.le_of_ble_eq_true rfl) dX8_lengthOf_9 ⟨by decide, by decide⟩) hI (fun H locs hI => ?_)
  refine lv_iload hx hb dX8_lengthOf_12 (lv_at hl 4 rfl) ?_
  obtain ⟨v2, ev2, hq⟩ := b_s hq
  refine gr_i (g_runV (As := [.int a1, .int (a3 <<< (a2 &&& 31)), .int v1, .int a4]) (rest := []) (ci := 10) hC (c_X8_distance l V g D cT f n a0 a1 (a3 <<< (a2 &&& 31)) v1 a4 v2 ev2) k_X8_distance m_1673 rfl rfl ⟨Nat.le_of_ble_eq_true rfl, Nat.le_of_ble_eq_true rfl⟩ hI rfl rfl (h_me_eq ev2).1 rfl hl.1 rfl (Nat.le_of_ble_eq_true rfl) dX8_lengthOf_14 ⟨by decide, by decide⟩) hI (fun H locs hI => ?_)
  exact ge_Ri hx hb hlocks hr rfl hI hq dX8_lengthOf_17

abbrev rm_X8_length : Room := { frames := 6, cells := 0, slots := 0, locals := 212 }
theorem k_X8_length : g_CV yX8_length cX8_length 6 (some .int) 3 := ⟨⟨m_1715, m_14, by decide +kernel⟩, m_1714, ms_35⟩
set_option maxHeartbeats 4000000 in
set_option maxRecDepth 100000 in
theorem c_X8_length (l : Launch) (V : Nat → Nat) (g : GH) (D : va_G) (cT : Nat → ClassId) (f : GH) (n : Nat) (a0 : Nat) (a1 : Int32) (a2 : Int32) (a3 : Int32) (o : Int32) (hq : p_X8_length V g f a0 a1 a2 a3 = some o) : Met l yX8_length (Cond.code yX8_length cX8_length 6 (some .int) :: g_B) rm_X8_length (va_Pc [.ref a0, .int a1, .int a2, .int a3] (g_I V g D cT f n)) (g_Ri o n) 0 0 g_no := by
  refine g_begin (own := RX8) [.ref a0, .int a1, .int a2, .int a3] [(0, .ref a0), (1, .int a1), (2, .int a2), (3, .int a3)] g_no (fun _ h => h.elim) (by decide) rfl (Nat.le_of_ble_eq_true rfl) rfl ?_
  intro p e s m args below meth c hx hb hr hlocks hin hC hI ls hl
  obtain ⟨hx, hb, hml, hown, hB⟩ := id hC
  obtain ⟨H, hH⟩ : ∃ H, H = s.heap := ⟨_, rfl⟩
  obtain ⟨locs, hlocs⟩ : ∃ L : List Loc, L = [] := ⟨_, rfl⟩
  rw [← hH, ← hlocs] at hI ⊢
  clear hH hlocs
  unfold p_X8_length at hq
  replace hq := (h_me_eq hq).2
  refine lv_iconst (v := (0 : Int32)) hx hb dX8_length_0 (by decide) ?_
  refine lv_istore (lv' := [(4, .int (0 : Int32)), (0, .ref a0), (1, .int a1), (2, .int a2), (3, .int a3)]) hx hb dX8_length_1 hl (by decide) rfl (fun ls hl => ?_)
  refine lv_iconst (v := (0 : Int32)) hx hb dX8_length_3 (by decide) ?_
  refine lv_istore (lv' := [(5, .int (0 : Int32)), (4, .int (0 : Int32)), (0, .ref a0), (1, .int a1), (2, .int a2), (3, .int a3)]) hx hb dX8_length_4 hl (by decide) rfl (fun ls hl => ?_)
  have hl6 : ∀ (K37 : Int32 → Option Int32) (hK37 : ∀ (x4 : Int32) (H : Heap) (locs : List Loc) (ls : Array Slot), g_at g_no V g D cT f n s H locs → lv_has ls 6 [(4, .int x4)] → K37 x4 = some o → W p l e rm_X8_length s m args below meth c H locs 0 0 (MQ below (g_Ri o n) args s 0 0 g_no) (F0 m 37 ls [])) (N : Nat) (x0 : Nat) (x1 : Int32) (x2 : Int32) (x3 : Int32) (x4 : Int32) (x5 : Int32) (H : Heap) (locs : List Loc) (ls : Array Slot), g_at g_no V g D cT f n s H locs → lv_has ls 6 [(0, .ref x0), (1, .int x1), (2, .int x2), (3, .int x3), (4, .int x4), (5, .int x5)] → p_X8_length_l6 V g f K37 N x0 x1 x2 x3 x4 x5 = some o → W p l e rm_X8_length s m args below meth c H locs 0 0 (MQ below (g_Ri o n) args s 0 0 g_no) (F0 m 6 ls []) := by
    intro K37 hK37 N
    induction N with
    | zero =>
      intro x0 x1 x2 x3 x4 x5 H locs ls hI hl hq
      rw [p_X8_length_l6] at hq
      cases hq
    | succ N ih =>
      intro x0 x1 x2 x3 x4 x5 H locs ls hI hl hq
      rw [p_X8_length_l6] at hq
      refine lv_iload hx hb dX8_length_6 (lv_at hl 5 rfl) ?_
      refine lv_aload_n hx hb dX8_length_8 rfl (lv_at hl 0 rfl) ?_
      refine lv_iload_n hx hb dX8_length_9 rfl (lv_at hl 1 rfl) ?_
      refine lv_iload_n hx hb dX8_length_10 rfl (lv_at hl 2 rfl) ?_
      obtain ⟨v1, ev1, hq⟩ := b_s hq
      refine gr_i (g_runV (As := [.int x1, .int x2]) (rest := [.int x5]) (ci := 10) hC (c_X8_sticks l V g D cT f n x0 x1 x2 v1 ev1) k_X8_sticks m_1716 rfl rfl ⟨Nat.le_of_ble_eq_true rfl, Nat.le_of_ble_eq_true rfl⟩ hI rfl rfl (h_me_eq ev1).1 rfl hl.1 rfl (Nat.le_of_ble_eq_true rfl) dX8_length_11 ⟨by decide, by decide⟩) hI (fun H locs hI => ?_)
      refine lv_icmp_ge (tgt := 37) hx hb dX8_length_14 (by decide) (fun c2 => ?_) (fun c2 => ?_)
      · replace hq := i_t c2 hq
        exact hK37 x4 H locs ls hI (lv_sub hl [4] rfl) hq
      · replace hq := i_f c2 hq
        refine lv_iload hx hb dX8_length_17 (lv_at hl 4 rfl) ?_
        refine lv_aload_n hx hb dX8_length_19 rfl (lv_at hl 0 rfl) ?_
        refine lv_iload_n hx hb dX8_length_20 rfl (lv_at hl 1 rfl) ?_
        refine lv_iload_n hx hb dX8_length_21 rfl (lv_at hl 2 rfl) ?_
        refine lv_iload hx hb dX8_length_22 (lv_at hl 5 rfl) ?_
        refine lv_iload_n hx hb dX8_length_24 rfl (lv_at hl 3 rfl) ?_
        obtain ⟨v3, ev3, hq⟩ := b_s hq
        refine gr_i (g_runV (As := [.int x1, .int x2, .int x5, .int x3]) (rest := [.int x4]) (ci := 10) hC (c_X8_lengthOf l V g D cT f n x0 x1 x2 x5 x3 v3 ev3) k_X8_lengthOf m_1720 rfl rfl ⟨Nat.le_of_ble_eq_true rfl, Nat.le_of_ble_eq_true rfl⟩ hI rfl rfl (h_me_eq ev3).1 rfl hl.1 rfl (Nat.le_of_ble_eq_true rfl) dX8_length_25 ⟨by decide, by decide⟩) hI (fun H locs hI => ?_)
        refine lv_iadd hx hb dX8_length_28 ?_
        refine lv_istore (lv' := [(4, .int (x4 + v3)), (0, .ref x0), (1, .int x1), (2, .int x2), (3, .int x3), (5, .int x5)]) hx hb dX8_length_29 hl (by decide) rfl (fun ls hl => ?_)
        refine lv_iinc (v := x5 + (1 : Int32)) (lv' := [(5, .int (x5 + (1 : Int32))), (4, .int (x4 + v3)), (0, .ref x0), (1, .int x1), (2, .int x2), (3, .int x3)]) hx hb dX8_length_31 hl (k := 5) rfl rfl (by decide) rfl (fun ls hl => ?_)
        refine lv_goto (tgt := 6) hx hb dX8_length_34 (by decide) ?_
        exact ih x0 x1 x2 x3 (x4 + v3) (x5 + (1 : Int32)) H locs ls hI (lv_sub hl [2, 3, 4, 5, 1, 0] rfl) hq
  refine hl6 _ ?_ FU a0 a1 a2 a3 (0 : Int32) (0 : Int32) H locs ls hI (lv_sub hl [2, 3, 4, 5, 1, 0] rfl) hq
  · intro x4 H locs ls hI hl hq
    refine lv_iload hx hb dX8_length_37 (lv_at hl 0 rfl) ?_
    exact ge_Ri hx hb hlocks hr rfl hI hq dX8_length_39

abbrev rm_X8_lengthNow : Room := { frames := 7, cells := 0, slots := 0, locals := 237 }
theorem k_X8_lengthNow : g_CV yX8_lengthNow cX8_lengthNow 3 (some .int) 2 := ⟨⟨m_1711, m_14, by decide +kernel⟩, m_1710, ms_34⟩
set_option maxHeartbeats 4000000 in
set_option maxRecDepth 100000 in
theorem c_X8_lengthNow (l : Launch) (V : Nat → Nat) (g : GH) (D : va_G) (cT : Nat → ClassId) (f : GH) (n : Nat) (a0 : Nat) (a1 : Int32) (a2 : Int32) (o : Int32) (hq : p_X8_lengthNow V g f a0 a1 a2 = some o) : Met l yX8_lengthNow (Cond.code yX8_lengthNow cX8_lengthNow 3 (some .int) :: g_B) rm_X8_lengthNow (va_Pc [.ref a0, .int a1, .int a2] (g_I V g D cT f n)) (g_Ri o n) 0 0 g_no := by
  refine g_begin (own := RX8) [.ref a0, .int a1, .int a2] [(0, .ref a0), (1, .int a1), (2, .int a2)] g_no (fun _ h => h.elim) (by decide) rfl (Nat.le_of_ble_eq_true rfl) rfl ?_
  intro p e s m args below meth c hx hb hr hlocks hin hC hI ls hl
  obtain ⟨hx, hb, hml, hown, hB⟩ := id hC
  obtain ⟨H, hH⟩ : ∃ H, H = s.heap := ⟨_, rfl⟩
  obtain ⟨locs, hlocs⟩ : ∃ L : List Loc, L = [] := ⟨_, rfl⟩
  rw [← hH, ← hlocs] at hI ⊢
  clear hH hlocs
  unfold p_X8_lengthNow at hq
  replace hq := (h_me_eq hq).2
  refine lv_aload_n hx hb dX8_lengthNow_0 rfl (lv_at hl 0 rfl) ?_
  refine lv_iload_n hx hb dX8_lengthNow_1 rfl (lv_at hl 1 rfl) ?_
  refine lv_iload_n hx hb dX8_lengthNow_2 rfl (lv_at hl 2 rfl) ?_
  refine lv_aload_n hx hb dX8_lengthNow_3 rfl (lv_at hl 0 rfl) ?_
  obtain ⟨v1, ev1, hq⟩ := b_s hq
  refine gr_i (g_runV (As := []) (rest := [.int a2, .int a1, .ref a0]) (ci := 10) hC (c_X8_isKing l V g D cT f n a0 v1 ev1) k_X8_isKing m_1622 rfl rfl ⟨Nat.le_of_ble_eq_true rfl, Nat.le_of_ble_eq_true rfl⟩ hI rfl rfl (h_me_eq ev1).1 rfl hl.1 rfl (Nat.le_of_ble_eq_true rfl) dX8_lengthNow_4 ⟨by decide, by decide⟩) hI (fun H locs hI => ?_)
  obtain ⟨v2, ev2, hq⟩ := b_s hq
  refine gr_i (g_runV (As := [.int a1, .int a2, .int v1]) (rest := []) (ci := 10) hC (c_X8_length l V g D cT f n a0 a1 a2 v1 v2 ev2) k_X8_length m_1712 rfl rfl ⟨Nat.le_of_ble_eq_true rfl, Nat.le_of_ble_eq_true rfl⟩ hI rfl rfl (h_me_eq ev2).1 rfl hl.1 rfl (Nat.le_of_ble_eq_true rfl) dX8_lengthNow_7 ⟨by decide, by decide⟩) hI (fun H locs hI => ?_)
  exact ge_Ri hx hb hlocks hr rfl hI hq dX8_lengthNow_10

abbrev rm_X8_coastCount : Room := { frames := 2, cells := 0, slots := 0, locals := 120 }
theorem k_X8_coastCount : g_CV yX8_coastCount cX8_coastCount 1 (some .int) 0 := ⟨⟨m_1617, m_14, by decide +kernel⟩, m_1615, m_1616⟩
set_option maxHeartbeats 4000000 in
set_option maxRecDepth 100000 in
theorem c_X8_coastCount (l : Launch) (V : Nat → Nat) (g : GH) (D : va_G) (cT : Nat → ClassId) (f : GH) (n : Nat) (a0 : Nat) (o : Int32 × GH) (hq : p_X8_coastCount V g f a0 = some o) : Met l yX8_coastCount (Cond.code yX8_coastCount cX8_coastCount 1 (some .int) :: g_B) rm_X8_coastCount (va_Pc [.ref a0] (g_I V g D cT f n)) (g_Wi V D cT o.1 o.2 n) 0 0 (g_A V) := by
  refine g_begin (own := RX8) [.ref a0] [(0, .ref a0)] (g_A V) (fun _ h => h) (by decide) rfl (Nat.le_of_ble_eq_true rfl) rfl ?_
  intro p e s m args below meth c hx hb hr hlocks hin hC hI ls hl
  obtain ⟨hx, hb, hml, hown, hB⟩ := id hC
  obtain ⟨H, hH⟩ : ∃ H, H = s.heap := ⟨_, rfl⟩
  obtain ⟨locs, hlocs⟩ : ∃ L : List Loc, L = [] := ⟨_, rfl⟩
  rw [← hH, ← hlocs] at hI ⊢
  clear hH hlocs
  unfold p_X8_coastCount at hq
  replace hq := (h_me_eq hq).2
  refine lv_aload_n hx hb dX8_coastCount_0 rfl (lv_at hl 0 rfl) ?_
  refine lv_iconst (v := (0 : Int32)) hx hb dX8_coastCount_1 (by decide) ?_
  obtain ⟨f1, ef1, hq⟩ := b_s hq
  refine fa_pt (own := RX8) (ref := "CoastlineRulerModel") (k := 7) hx hb hB inB_RX8 tyX8_ok nmX8 hown hI rfl (by decide) m_1538 (fun _ h9 => h9) (by decide) rfl rfl ef1 dX8_coastCount_2 (fun H locs hI => ?_)
  refine lv_aload_n hx hb dX8_coastCount_5 rfl (lv_at hl 0 rfl) ?_
  obtain ⟨v2, ev2, hq⟩ := b_s hq
  refine fa_gr (own := RX8) (ref := "CoastlineRulerModel") (k := 5) hx hb hB inB_RX8 hown hI rfl (by decide) m_1536 (fun _ h9 => h9) ev2 dX8_coastCount_6 ?_
  refine lv_iconst (v := (1 : Int32)) hx hb dX8_coastCount_9 (by decide) ?_
  obtain ⟨v3, ev3, hq⟩ := b_s hq
  refine fa_li hx hb hI ev3 dX8_coastCount_10 ?_
  exact ge_Wi hx hb hlocks hr rfl hI (congrArg (fun z => z.1) (Option.some.inj hq)) (congrArg (fun z => z.2) (Option.some.inj hq)) dX8_coastCount_11

abbrev rm_X8_usesKingMetric : Room := { frames := 3, cells := 0, slots := 0, locals := 140 }
theorem k_X8_usesKingMetric : g_CV yX8_usesKingMetric cX8_usesKingMetric 1 (some .boolean) 0 := ⟨⟨m_1621, m_14, by decide +kernel⟩, m_1619, m_1620⟩
set_option maxHeartbeats 4000000 in
set_option maxRecDepth 100000 in
theorem c_X8_usesKingMetric (l : Launch) (V : Nat → Nat) (g : GH) (D : va_G) (cT : Nat → ClassId) (f : GH) (n : Nat) (a0 : Nat) (o : Int32 × GH) (hq : p_X8_usesKingMetric V g f a0 = some o) : Met l yX8_usesKingMetric (Cond.code yX8_usesKingMetric cX8_usesKingMetric 1 (some .boolean) :: g_B) rm_X8_usesKingMetric (va_Pc [.ref a0] (g_I V g D cT f n)) (g_Wi V D cT o.1 o.2 n) 0 0 (g_A V) := by
  refine g_begin (own := RX8) [.ref a0] [(0, .ref a0)] (g_A V) (fun _ h => h) (by decide) rfl (Nat.le_of_ble_eq_true rfl) rfl ?_
  intro p e s m args below meth c hx hb hr hlocks hin hC hI ls hl
  obtain ⟨hx, hb, hml, hown, hB⟩ := id hC
  obtain ⟨H, hH⟩ : ∃ H, H = s.heap := ⟨_, rfl⟩
  obtain ⟨locs, hlocs⟩ : ∃ L : List Loc, L = [] := ⟨_, rfl⟩
  rw [← hH, ← hlocs] at hI ⊢
  clear hH hlocs
  unfold p_X8_usesKingMetric at hq
  replace hq := (h_me_eq hq).2
  refine lv_aload_n hx hb dX8_usesKingMetric_0 rfl (lv_at hl 0 rfl) ?_
  refine lv_iconst (v := (0 : Int32)) hx hb dX8_usesKingMetric_1 (by decide) ?_
  obtain ⟨f1, ef1, hq⟩ := b_s hq
  refine fa_pt (own := RX8) (ref := "CoastlineRulerModel") (k := 7) hx hb hB inB_RX8 tyX8_ok nmX8 hown hI rfl (by decide) m_1538 (fun _ h9 => h9) (by decide) rfl rfl ef1 dX8_usesKingMetric_2 (fun H locs hI => ?_)
  refine lv_aload_n hx hb dX8_usesKingMetric_5 rfl (lv_at hl 0 rfl) ?_
  obtain ⟨v2, ev2, hq⟩ := b_s hq
  refine gr_i (g_runV (As := []) (rest := []) (ci := 10) hC (c_X8_isKing l V g D cT f1 n a0 v2 ev2) k_X8_isKing m_1622 rfl rfl ⟨Nat.le_of_ble_eq_true rfl, Nat.le_of_ble_eq_true rfl⟩ hI rfl rfl (h_me_eq ev2).1 rfl hl.1 rfl (Nat.le_of_ble_eq_true rfl) dX8_usesKingMetric_6 ⟨by decide, by decide⟩) hI (fun H locs hI => ?_)
  obtain ⟨_, ev3, hq⟩ := b_s hq
  exact ge_Wi hx hb hlocks hr (h_bz_eq ev3).2.1 hI (congrArg (fun z => z.1) (Option.some.inj hq)) (congrArg (fun z => z.2) (Option.some.inj hq)) dX8_usesKingMetric_9

abbrev rm_X8_isIsland : Room := { frames := 4, cells := 0, slots := 0, locals := 163 }
theorem k_X8_isIsland : g_CV yX8_isIsland cX8_isIsland 2 (some .boolean) 1 := ⟨⟨m_1629, m_14, by decide +kernel⟩, m_1627, m_1628⟩
set_option maxHeartbeats 4000000 in
set_option maxRecDepth 100000 in
theorem c_X8_isIsland (l : Launch) (V : Nat → Nat) (g : GH) (D : va_G) (cT : Nat → ClassId) (f : GH) (n : Nat) (a0 : Nat) (a1 : Int32) (o : Int32 × GH) (hq : p_X8_isIsland V g f a0 a1 = some o) : Met l yX8_isIsland (Cond.code yX8_isIsland cX8_isIsland 2 (some .boolean) :: g_B) rm_X8_isIsland (va_Pc [.ref a0, .int a1] (g_I V g D cT f n)) (g_Wi V D cT o.1 o.2 n) 0 0 (g_A V) := by
  refine g_begin (own := RX8) [.ref a0, .int a1] [(0, .ref a0), (1, .int a1)] (g_A V) (fun _ h => h) (by decide) rfl (Nat.le_of_ble_eq_true rfl) rfl ?_
  intro p e s m args below meth c hx hb hr hlocks hin hC hI ls hl
  obtain ⟨hx, hb, hml, hown, hB⟩ := id hC
  obtain ⟨H, hH⟩ : ∃ H, H = s.heap := ⟨_, rfl⟩
  obtain ⟨locs, hlocs⟩ : ∃ L : List Loc, L = [] := ⟨_, rfl⟩
  rw [← hH, ← hlocs] at hI ⊢
  clear hH hlocs
  unfold p_X8_isIsland at hq
  replace hq := (h_me_eq hq).2
  refine lv_aload_n hx hb dX8_isIsland_0 rfl (lv_at hl 0 rfl) ?_
  refine lv_aload_n hx hb dX8_isIsland_1 rfl (lv_at hl 0 rfl) ?_
  refine lv_iload_n hx hb dX8_isIsland_2 rfl (lv_at hl 1 rfl) ?_
  obtain ⟨v1, ev1, hq⟩ := b_s hq
  refine gr_i (g_runV (As := [.int a1]) (rest := [.ref a0]) (ci := 10) hC (c_X8_isCoast l V g D cT f n a0 a1 v1 ev1) k_X8_isCoast m_1630 rfl rfl ⟨Nat.le_of_ble_eq_true rfl, Nat.le_of_ble_eq_true rfl⟩ hI rfl rfl (h_me_eq ev1).1 rfl hl.1 rfl (Nat.le_of_ble_eq_true rfl) dX8_isIsland_3 ⟨by decide, by decide⟩) hI (fun H locs hI => ?_)
  obtain ⟨v2, ev2, hq⟩ := b_s hq
  refine gw_i (g_runV (As := [.int v1]) (rest := []) (ci := 10) hC (c_X8_lacks l V g D cT f n a0 v1 v2 ev2) k_X8_lacks m_1637 rfl rfl ⟨Nat.le_of_ble_eq_true rfl, Nat.le_of_ble_eq_true rfl⟩ hI rfl rfl (h_me_eq ev2).1 rfl hl.1 rfl (Nat.le_of_ble_eq_true rfl) dX8_isIsland_6 ⟨by decide, by decide⟩) hI (fun H locs hI => ?_)
  refine lv_if_ne (tgt := 24) hx hb dX8_isIsland_9 (by decide) (fun c3 => ?_) (fun c3 => ?_)
  · replace hq := i_f c3 hq
    refine lv_iconst (v := (0 : Int32)) hx hb dX8_isIsland_24 (by decide) ?_
    exact ge_Wi hx hb hlocks hr (by decide +kernel) hI (congrArg (fun z => z.1) (Option.some.inj hq)) (congrArg (fun z => z.2) (Option.some.inj hq)) dX8_isIsland_25
  · replace hq := i_t c3 hq
    refine lv_aload_n hx hb dX8_isIsland_12 rfl (lv_at hl 0 rfl) ?_
    refine lv_iload_n hx hb dX8_isIsland_13 rfl (lv_at hl 1 rfl) ?_
    obtain ⟨v4, ev4, hq⟩ := b_s hq
    refine gr_i (g_runV (As := [.int a1]) (rest := []) (ci := 10) hC (c_X8_island l V g D cT v2.2 n a0 a1 v4 ev4) k_X8_island m_1641 rfl rfl ⟨Nat.le_of_ble_eq_true rfl, Nat.le_of_ble_eq_true rfl⟩ hI rfl rfl (h_me_eq ev4).1 rfl hl.1 rfl (Nat.le_of_ble_eq_true rfl) dX8_isIsland_14 ⟨by decide, by decide⟩) hI (fun H locs hI => ?_)
    refine lv_if_eq (tgt := 24) hx hb dX8_isIsland_17 (by decide) (fun c5 => ?_) (fun c5 => ?_)
    · replace hq := i_t c5 hq
      refine lv_iconst (v := (0 : Int32)) hx hb dX8_isIsland_24 (by decide) ?_
      exact ge_Wi hx hb hlocks hr (by decide +kernel) hI (congrArg (fun z => z.1) (Option.some.inj hq)) (congrArg (fun z => z.2) (Option.some.inj hq)) dX8_isIsland_25
    · replace hq := i_f c5 hq
      refine lv_iconst (v := (1 : Int32)) hx hb dX8_isIsland_20 (by decide) ?_
      refine lv_goto (tgt := 25) hx hb dX8_isIsland_21 (by decide) ?_
      exact ge_Wi hx hb hlocks hr (by decide +kernel) hI (congrArg (fun z => z.1) (Option.some.inj hq)) (congrArg (fun z => z.2) (Option.some.inj hq)) dX8_isIsland_25

abbrev rm_X8_pointCount : Room := { frames := 4, cells := 0, slots := 0, locals := 163 }
theorem k_X8_pointCount : g_CV yX8_pointCount cX8_pointCount 2 (some .int) 1 := ⟨⟨m_1648, m_14, by decide +kernel⟩, m_1646, m_1647⟩
set_option maxHeartbeats 4000000 in
set_option maxRecDepth 100000 in
theorem c_X8_pointCount (l : Launch) (V : Nat → Nat) (g : GH) (D : va_G) (cT : Nat → ClassId) (f : GH) (n : Nat) (a0 : Nat) (a1 : Int32) (o : Int32 × GH) (hq : p_X8_pointCount V g f a0 a1 = some o) : Met l yX8_pointCount (Cond.code yX8_pointCount cX8_pointCount 2 (some .int) :: g_B) rm_X8_pointCount (va_Pc [.ref a0, .int a1] (g_I V g D cT f n)) (g_Wi V D cT o.1 o.2 n) 0 0 (g_A V) := by
  refine g_begin (own := RX8) [.ref a0, .int a1] [(0, .ref a0), (1, .int a1)] (g_A V) (fun _ h => h) (by decide) rfl (Nat.le_of_ble_eq_true rfl) rfl ?_
  intro p e s m args below meth c hx hb hr hlocks hin hC hI ls hl
  obtain ⟨hx, hb, hml, hown, hB⟩ := id hC
  obtain ⟨H, hH⟩ : ∃ H, H = s.heap := ⟨_, rfl⟩
  obtain ⟨locs, hlocs⟩ : ∃ L : List Loc, L = [] := ⟨_, rfl⟩
  rw [← hH, ← hlocs] at hI ⊢
  clear hH hlocs
  unfold p_X8_pointCount at hq
  replace hq := (h_me_eq hq).2
  refine lv_aload_n hx hb dX8_pointCount_0 rfl (lv_at hl 0 rfl) ?_
  refine lv_aload_n hx hb dX8_pointCount_1 rfl (lv_at hl 0 rfl) ?_
  refine lv_iload_n hx hb dX8_pointCount_2 rfl (lv_at hl 1 rfl) ?_
  obtain ⟨v1, ev1, hq⟩ := b_s hq
  refine gr_i (g_runV (As := [.int a1]) (rest := [.ref a0]) (ci := 10) hC (c_X8_isCoast l V g D cT f n a0 a1 v1 ev1) k_X8_isCoast m_1630 rfl rfl ⟨Nat.le_of_ble_eq_true rfl, Nat.le_of_ble_eq_true rfl⟩ hI rfl rfl (h_me_eq ev1).1 rfl hl.1 rfl (Nat.le_of_ble_eq_true rfl) dX8_pointCount_3 ⟨by decide, by decide⟩) hI (fun H locs hI => ?_)
  obtain ⟨v2, ev2, hq⟩ := b_s hq
  refine gw_i (g_runV (As := [.int v1]) (rest := []) (ci := 10) hC (c_X8_lacks l V g D cT f n a0 v1 v2 ev2) k_X8_lacks m_1637 rfl rfl ⟨Nat.le_of_ble_eq_true rfl, Nat.le_of_ble_eq_true rfl⟩ hI rfl rfl (h_me_eq ev2).1 rfl hl.1 rfl (Nat.le_of_ble_eq_true rfl) dX8_pointCount_6 ⟨by decide, by decide⟩) hI (fun H locs hI => ?_)
  refine lv_if_eq (tgt := 16) hx hb dX8_pointCount_9 (by decide) (fun c3 => ?_) (fun c3 => ?_)
  · replace hq := i_t c3 hq
    refine lv_aload_n hx hb dX8_pointCount_16 rfl (lv_at hl 0 rfl) ?_
    refine lv_iload_n hx hb dX8_pointCount_17 rfl (lv_at hl 1 rfl) ?_
    obtain ⟨v4, ev4, hq⟩ := b_s hq
    refine gr_i (g_runV (As := [.int a1]) (rest := []) (ci := 10) hC (c_X8_count l V g D cT v2.2 n a0 a1 v4 ev4) k_X8_count m_1527 rfl rfl ⟨Nat.le_of_ble_eq_true rfl, Nat.le_of_ble_eq_true rfl⟩ hI rfl rfl (h_me_eq ev4).1 rfl hl.1 rfl (Nat.le_of_ble_eq_true rfl) dX8_pointCount_18 ⟨by decide, by decide⟩) hI (fun H locs hI => ?_)
    exact ge_Wi hx hb hlocks hr rfl hI (congrArg (fun z => z.1) (Option.some.inj hq)) (congrArg (fun z => z.2) (Option.some.inj hq)) dX8_pointCount_21
  · replace hq := i_f c3 hq
    refine lv_iconst (v := (0 : Int32)) hx hb dX8_pointCount_12 (by decide) ?_
    refine lv_goto (tgt := 21) hx hb dX8_pointCount_13 (by decide) ?_
    exact ge_Wi hx hb hlocks hr rfl hI (congrArg (fun z => z.1) (Option.some.inj hq)) (congrArg (fun z => z.2) (Option.some.inj hq)) dX8_pointCount_21

abbrev rm_X8_pointX : Room := { frames := 5, cells := 0, slots := 0, locals := 185 }
theorem k_X8_pointX : g_CV yX8_pointX cX8_pointX 3 (some .int) 2 := ⟨⟨m_1652, m_14, by decide +kernel⟩, m_1650, m_1651⟩
set_option maxHeartbeats 4000000 in
set_option maxRecDepth 100000 in
theorem c_X8_pointX (l : Launch) (V : Nat → Nat) (g : GH) (D : va_G) (cT : Nat → ClassId) (f : GH) (n : Nat) (a0 : Nat) (a1 : Int32) (a2 : Int32) (o : Int32 × GH) (hq : p_X8_pointX V g f a0 a1 a2 = some o) : Met l yX8_pointX (Cond.code yX8_pointX cX8_pointX 3 (some .int) :: g_B) rm_X8_pointX (va_Pc [.ref a0, .int a1, .int a2] (g_I V g D cT f n)) (g_Wi V D cT o.1 o.2 n) 0 0 (g_A V) := by
  refine g_begin (own := RX8) [.ref a0, .int a1, .int a2] [(0, .ref a0), (1, .int a1), (2, .int a2)] (g_A V) (fun _ h => h) (by decide) rfl (Nat.le_of_ble_eq_true rfl) rfl ?_
  intro p e s m args below meth c hx hb hr hlocks hin hC hI ls hl
  obtain ⟨hx, hb, hml, hown, hB⟩ := id hC
  obtain ⟨H, hH⟩ : ∃ H, H = s.heap := ⟨_, rfl⟩
  obtain ⟨locs, hlocs⟩ : ∃ L : List Loc, L = [] := ⟨_, rfl⟩
  rw [← hH, ← hlocs] at hI ⊢
  clear hH hlocs
  unfold p_X8_pointX at hq
  replace hq := (h_me_eq hq).2
  refine lv_aload_n hx hb dX8_pointX_0 rfl (lv_at hl 0 rfl) ?_
  refine lv_aload_n hx hb dX8_pointX_1 rfl (lv_at hl 0 rfl) ?_
  refine lv_iload_n hx hb dX8_pointX_2 rfl (lv_at hl 1 rfl) ?_
  refine lv_iload_n hx hb dX8_pointX_3 rfl (lv_at hl 2 rfl) ?_
  obtain ⟨v1, ev1, hq⟩ := b_s hq
  refine gr_i (g_runV (As := [.int a1, .int a2]) (rest := [.ref a0]) (ci := 10) hC (c_X8_isPoint l V g D cT f n a0 a1 a2 v1 ev1) k_X8_isPoint m_1653 rfl rfl ⟨Nat.le_of_ble_eq_true rfl, Nat.le_of_ble_eq_true rfl⟩ hI rfl rfl (h_me_eq ev1).1 rfl hl.1 rfl (Nat.le_of_ble_eq_true rfl) dX8_pointX_4 ⟨by decide, by decide⟩) hI (fun H locs hI => ?_)
  obtain ⟨v2, ev2, hq⟩ := b_s hq
  refine gw_i (g_runV (As := [.int v1]) (rest := []) (ci := 10) hC (c_X8_lacks l V g D cT f n a0 v1 v2 ev2) k_X8_lacks m_1637 rfl rfl ⟨Nat.le_of_ble_eq_true rfl, Nat.le_of_ble_eq_true rfl⟩ hI rfl rfl (h_me_eq ev2).1 rfl hl.1 rfl (Nat.le_of_ble_eq_true rfl) dX8_pointX_7 ⟨by decide, by decide⟩) hI (fun H locs hI => ?_)
  refine lv_if_eq (tgt := 17) hx hb dX8_pointX_10 (by decide) (fun c3 => ?_) (fun c3 => ?_)
  · replace hq := i_t c3 hq
    refine lv_aload_n hx hb dX8_pointX_17 rfl (lv_at hl 0 rfl) ?_
    refine lv_iload_n hx hb dX8_pointX_18 rfl (lv_at hl 1 rfl) ?_
    refine lv_iload_n hx hb dX8_pointX_19 rfl (lv_at hl 2 rfl) ?_
    obtain ⟨v4, ev4, hq⟩ := b_s hq
    refine gr_i (g_runV (As := [.int a1, .int a2]) (rest := []) (ci := 10) hC (c_X8_x l V g D cT v2.2 n a0 a1 a2 v4 ev4) k_X8_x m_1657 rfl rfl ⟨Nat.le_of_ble_eq_true rfl, Nat.le_of_ble_eq_true rfl⟩ hI rfl rfl (h_me_eq ev4).1 rfl hl.1 rfl (Nat.le_of_ble_eq_true rfl) dX8_pointX_20 ⟨by decide, by decide⟩) hI (fun H locs hI => ?_)
    exact ge_Wi hx hb hlocks hr rfl hI (congrArg (fun z => z.1) (Option.some.inj hq)) (congrArg (fun z => z.2) (Option.some.inj hq)) dX8_pointX_23
  · replace hq := i_f c3 hq
    refine lv_iconst (v := (0 : Int32)) hx hb dX8_pointX_13 (by decide) ?_
    refine lv_goto (tgt := 23) hx hb dX8_pointX_14 (by decide) ?_
    exact ge_Wi hx hb hlocks hr rfl hI (congrArg (fun z => z.1) (Option.some.inj hq)) (congrArg (fun z => z.2) (Option.some.inj hq)) dX8_pointX_23

abbrev rm_X8_pointY : Room := { frames := 5, cells := 0, slots := 0, locals := 185 }
theorem k_X8_pointY : g_CV yX8_pointY cX8_pointY 3 (some .int) 2 := ⟨⟨m_1664, m_14, by decide +kernel⟩, m_1662, m_1663⟩
set_option maxHeartbeats 4000000 in
set_option maxRecDepth 100000 in
theorem c_X8_pointY (l : Launch) (V : Nat → Nat) (g : GH) (D : va_G) (cT : Nat → ClassId) (f : GH) (n : Nat) (a0 : Nat) (a1 : Int32) (a2 : Int32) (o : Int32 × GH) (hq : p_X8_pointY V g f a0 a1 a2 = some o) : Met l yX8_pointY (Cond.code yX8_pointY cX8_pointY 3 (some .int) :: g_B) rm_X8_pointY (va_Pc [.ref a0, .int a1, .int a2] (g_I V g D cT f n)) (g_Wi V D cT o.1 o.2 n) 0 0 (g_A V) := by
  refine g_begin (own := RX8) [.ref a0, .int a1, .int a2] [(0, .ref a0), (1, .int a1), (2, .int a2)] (g_A V) (fun _ h => h) (by decide) rfl (Nat.le_of_ble_eq_true rfl) rfl ?_
  intro p e s m args below meth c hx hb hr hlocks hin hC hI ls hl
  obtain ⟨hx, hb, hml, hown, hB⟩ := id hC
  obtain ⟨H, hH⟩ : ∃ H, H = s.heap := ⟨_, rfl⟩
  obtain ⟨locs, hlocs⟩ : ∃ L : List Loc, L = [] := ⟨_, rfl⟩
  rw [← hH, ← hlocs] at hI ⊢
  clear hH hlocs
  unfold p_X8_pointY at hq
  replace hq := (h_me_eq hq).2
  refine lv_aload_n hx hb dX8_pointY_0 rfl (lv_at hl 0 rfl) ?_
  refine lv_aload_n hx hb dX8_pointY_1 rfl (lv_at hl 0 rfl) ?_
  refine lv_iload_n hx hb dX8_pointY_2 rfl (lv_at hl 1 rfl) ?_
  refine lv_iload_n hx hb dX8_pointY_3 rfl (lv_at hl 2 rfl) ?_
  obtain ⟨v1, ev1, hq⟩ := b_s hq
  refine gr_i (g_runV (As := [.int a1, .int a2]) (rest := [.ref a0]) (ci := 10) hC (c_X8_isPoint l V g D cT f n a0 a1 a2 v1 ev1) k_X8_isPoint m_1653 rfl rfl ⟨Nat.le_of_ble_eq_true rfl, Nat.le_of_ble_eq_true rfl⟩ hI rfl rfl (h_me_eq ev1).1 rfl hl.1 rfl (Nat.le_of_ble_eq_true rfl) dX8_pointY_4 ⟨by decide, by decide⟩) hI (fun H locs hI => ?_)
  obtain ⟨v2, ev2, hq⟩ := b_s hq
  refine gw_i (g_runV (As := [.int v1]) (rest := []) (ci := 10) hC (c_X8_lacks l V g D cT f n a0 v1 v2 ev2) k_X8_lacks m_1637 rfl rfl ⟨Nat.le_of_ble_eq_true rfl, Nat.le_of_ble_eq_true rfl⟩ hI rfl rfl (h_me_eq ev2).1 rfl hl.1 rfl (Nat.le_of_ble_eq_true rfl) dX8_pointY_7 ⟨by decide, by decide⟩) hI (fun H locs hI => ?_)
  refine lv_if_eq (tgt := 17) hx hb dX8_pointY_10 (by decide) (fun c3 => ?_) (fun c3 => ?_)
  · replace hq := i_t c3 hq
    refine lv_aload_n hx hb dX8_pointY_17 rfl (lv_at hl 0 rfl) ?_
    refine lv_iload_n hx hb dX8_pointY_18 rfl (lv_at hl 1 rfl) ?_
    refine lv_iload_n hx hb dX8_pointY_19 rfl (lv_at hl 2 rfl) ?_
    obtain ⟨v4, ev4, hq⟩ := b_s hq
    refine gr_i (g_runV (As := [.int a1, .int a2]) (rest := []) (ci := 10) hC (c_X8_y l V g D cT v2.2 n a0 a1 a2 v4 ev4) k_X8_y m_1665 rfl rfl ⟨Nat.le_of_ble_eq_true rfl, Nat.le_of_ble_eq_true rfl⟩ hI rfl rfl (h_me_eq ev4).1 rfl hl.1 rfl (Nat.le_of_ble_eq_true rfl) dX8_pointY_20 ⟨by decide, by decide⟩) hI (fun H locs hI => ?_)
    exact ge_Wi hx hb hlocks hr rfl hI (congrArg (fun z => z.1) (Option.some.inj hq)) (congrArg (fun z => z.2) (Option.some.inj hq)) dX8_pointY_23
  · replace hq := i_f c3 hq
    refine lv_iconst (v := (0 : Int32)) hx hb dX8_pointY_13 (by decide) ?_
    refine lv_goto (tgt := 23) hx hb dX8_pointY_14 (by decide) ?_
    exact ge_Wi hx hb hlocks hr rfl hI (congrArg (fun z => z.1) (Option.some.inj hq)) (congrArg (fun z => z.2) (Option.some.inj hq)) dX8_pointY_23

abbrev rm_X8_pointDistance : Room := { frames := 5, cells := 0, slots := 0, locals := 188 }
theorem k_X8_pointDistance : g_CV yX8_pointDistance cX8_pointDistance 4 (some .int) 3 := ⟨⟨m_1672, m_14, by decide +kernel⟩, m_1670, m_1671⟩
set_option maxHeartbeats 4000000 in
set_option maxRecDepth 100000 in
theorem c_X8_pointDistance (l : Launch) (V : Nat → Nat) (g : GH) (D : va_G) (cT : Nat → ClassId) (f : GH) (n : Nat) (a0 : Nat) (a1 : Int32) (a2 : Int32) (a3 : Int32) (o : Int32 × GH) (hq : p_X8_pointDistance V g f a0 a1 a2 a3 = some o) : Met l yX8_pointDistance (Cond.code yX8_pointDistance cX8_pointDistance 4 (some .int) :: g_B) rm_X8_pointDistance (va_Pc [.ref a0, .int a1, .int a2, .int a3] (g_I V g D cT f n)) (g_Wi V D cT o.1 o.2 n) 0 0 (g_A V) := by
  refine g_begin (own := RX8) [.ref a0, .int a1, .int a2, .int a3] [(0, .ref a0), (1, .int a1), (2, .int a2), (3, .int a3)] (g_A V) (fun _ h => h) (by decide) rfl (Nat.le_of_ble_eq_true rfl) rfl ?_
  intro p e s m args below meth c hx hb hr hlocks hin hC hI ls hl
  obtain ⟨hx, hb, hml, hown, hB⟩ := id hC
  obtain ⟨H, hH⟩ : ∃ H, H = s.heap := ⟨_, rfl⟩
  obtain ⟨locs, hlocs⟩ : ∃ L : List Loc, L = [] := ⟨_, rfl⟩
  rw [← hH, ← hlocs] at hI ⊢
  clear hH hlocs
  unfold p_X8_pointDistance at hq
  replace hq := (h_me_eq hq).2
  refine lv_aload_n hx hb dX8_pointDistance_0 rfl (lv_at hl 0 rfl) ?_
  refine lv_aload_n hx hb dX8_pointDistance_1 rfl (lv_at hl 0 rfl) ?_
  refine lv_iload_n hx hb dX8_pointDistance_2 rfl (lv_at hl 1 rfl) ?_
  refine lv_iload_n hx hb dX8_pointDistance_3 rfl (lv_at hl 2 rfl) ?_
  obtain ⟨v1, ev1, hq⟩ := b_s hq
  refine gr_i (g_runV (As := [.int a1, .int a2]) (rest := [.ref a0]) (ci := 10) hC (c_X8_isPoint l V g D cT f n a0 a1 a2 v1 ev1) k_X8_isPoint m_1653 rfl rfl ⟨Nat.le_of_ble_eq_true rfl, Nat.le_of_ble_eq_true rfl⟩ hI rfl rfl (h_me_eq ev1).1 rfl hl.1 rfl (Nat.le_of_ble_eq_true rfl) dX8_pointDistance_4 ⟨by decide, by decide⟩) hI (fun H locs hI => ?_)
  have hj24 : ∀ (x0 : Nat) (x1 : Int32) (x2 : Int32) (x3 : Int32) (t0 : Int32) (t1 : Nat) (f : GH) (H : Heap) (locs : List Loc) (ls : Array Slot), g_at (g_A V) V g D cT f n s H locs → lv_has ls 4 [(0, .ref x0), (1, .int x1), (2, .int x2), (3, .int x3)] → p_X8_pointDistance_j24 V g x0 x1 x2 x3 t0 t1 f = some o → W p l e rm_X8_pointDistance s m args below meth c H locs 0 0 (MQ below (g_Wi V D cT o.1 o.2 n) args s 0 0 (g_A V)) (F0 m 24 ls [.int t0, .ref t1]) := by
    intro x0 x1 x2 x3 t0 t1 f H locs ls hI hl hq
    unfold p_X8_pointDistance_j24 at hq
    obtain ⟨v2, ev2, hq⟩ := b_s hq
    refine gw_i (g_runV (As := [.int t0]) (rest := []) (ci := 10) hC (c_X8_lacks l V g D cT f n t1 t0 v2 ev2) k_X8_lacks m_1637 rfl rfl ⟨Nat.le_of_ble_eq_true rfl, Nat.le_of_ble_eq_true rfl⟩ hI rfl rfl (h_me_eq ev2).1 rfl hl.1 rfl (Nat.le_of_ble_eq_true rfl) dX8_pointDistance_24 ⟨by decide, by decide⟩) hI (fun H locs hI => ?_)
    refine lv_if_eq (tgt := 34) hx hb dX8_pointDistance_27 (by decide) (fun c3 => ?_) (fun c3 => ?_)
    · replace hq := i_t c3 hq
      refine lv_aload_n hx hb dX8_pointDistance_34 rfl (lv_at hl 0 rfl) ?_
      refine lv_iload_n hx hb dX8_pointDistance_35 rfl (lv_at hl 1 rfl) ?_
      refine lv_iload_n hx hb dX8_pointDistance_36 rfl (lv_at hl 2 rfl) ?_
      refine lv_iload_n hx hb dX8_pointDistance_37 rfl (lv_at hl 3 rfl) ?_
      refine lv_aload_n hx hb dX8_pointDistance_38 rfl (lv_at hl 0 rfl) ?_
      obtain ⟨v4, ev4, hq⟩ := b_s hq
      refine gr_i (g_runV (As := []) (rest := [.int x3, .int x2, .int x1, .ref x0]) (ci := 10) hC (c_X8_isKing l V g D cT v2.2 n x0 v4 ev4) k_X8_isKing m_1622 rfl rfl ⟨Nat.le_of_ble_eq_true rfl, Nat.le_of_ble_eq_true rfl⟩ hI rfl rfl (h_me_eq ev4).1 rfl hl.1 rfl (Nat.le_of_ble_eq_true rfl) dX8_pointDistance_39 ⟨by decide, by decide⟩) hI (fun H locs hI => ?_)
      obtain ⟨v5, ev5, hq⟩ := b_s hq
      refine gr_i (g_runV (As := [.int x1, .int x2, .int x3, .int v4]) (rest := []) (ci := 10) hC (c_X8_distance l V g D cT v2.2 n x0 x1 x2 x3 v4 v5 ev5) k_X8_distance m_1673 rfl rfl ⟨Nat.le_of_ble_eq_true rfl, Nat.le_of_ble_eq_true rfl⟩ hI rfl rfl (h_me_eq ev5).1 rfl hl.1 rfl (Nat.le_of_ble_eq_true rfl) dX8_pointDistance_42 ⟨by decide, by decide⟩) hI (fun H locs hI => ?_)
      exact ge_Wi hx hb hlocks hr rfl hI (congrArg (fun z => z.1) (Option.some.inj hq)) (congrArg (fun z => z.2) (Option.some.inj hq)) dX8_pointDistance_45
    · replace hq := i_f c3 hq
      refine lv_iconst (v := (0 : Int32)) hx hb dX8_pointDistance_30 (by decide) ?_
      refine lv_goto (tgt := 45) hx hb dX8_pointDistance_31 (by decide) ?_
      exact ge_Wi hx hb hlocks hr rfl hI (congrArg (fun z => z.1) (Option.some.inj hq)) (congrArg (fun z => z.2) (Option.some.inj hq)) dX8_pointDistance_45
  have hj23 : ∀ (x0 : Nat) (x1 : Int32) (x2 : Int32) (x3 : Int32) (t0 : Nat) (f : GH) (H : Heap) (locs : List Loc) (ls : Array Slot), g_at (g_A V) V g D cT f n s H locs → lv_has ls 4 [(0, .ref x0), (1, .int x1), (2, .int x2), (3, .int x3)] → p_X8_pointDistance_j23 V g (p_X8_pointDistance_j24 V g) x0 x1 x2 x3 t0 f = some o → W p l e rm_X8_pointDistance s m args below meth c H locs 0 0 (MQ below (g_Wi V D cT o.1 o.2 n) args s 0 0 (g_A V)) (F0 m 23 ls [.ref t0]) := by
    intro x0 x1 x2 x3 t0 f H locs ls hI hl hq
    unfold p_X8_pointDistance_j23 at hq
    refine lv_iconst (v := (0 : Int32)) hx hb dX8_pointDistance_23 (by decide) ?_
    exact hj24 x0 x1 x2 x3 (0 : Int32) t0 f H locs ls hI (lv_sub hl [0, 1, 2, 3] rfl) hq
  refine lv_if_eq (tgt := 23) hx hb dX8_pointDistance_7 (by decide) (fun c6 => ?_) (fun c6 => ?_)
  · replace hq := i_t c6 hq
    exact hj23 a0 a1 a2 a3 a0 f H locs ls hI (lv_sub hl [0, 1, 2, 3] rfl) hq
  · replace hq := i_f c6 hq
    refine lv_aload_n hx hb dX8_pointDistance_10 rfl (lv_at hl 0 rfl) ?_
    refine lv_iload_n hx hb dX8_pointDistance_11 rfl (lv_at hl 1 rfl) ?_
    refine lv_iload_n hx hb dX8_pointDistance_12 rfl (lv_at hl 3 rfl) ?_
    obtain ⟨v7, ev7, hq⟩ := b_s hq
    refine gr_i (g_runV (As := [.int a1, .int a3]) (rest := [.ref a0]) (ci := 10) hC (c_X8_isPoint l V g D cT f n a0 a1 a3 v7 ev7) k_X8_isPoint m_1653 rfl rfl ⟨Nat.le_of_ble_eq_true rfl, Nat.le_of_ble_eq_true rfl⟩ hI rfl rfl (h_me_eq ev7).1 rfl hl.1 rfl (Nat.le_of_ble_eq_true rfl) dX8_pointDistance_13 ⟨by decide, by decide⟩) hI (fun H locs hI => ?_)
    refine lv_if_eq (tgt := 23) hx hb dX8_pointDistance_16 (by decide) (fun c8 => ?_) (fun c8 => ?_)
    · replace hq := i_t c8 hq
      exact hj23 a0 a1 a2 a3 a0 f H locs ls hI (lv_sub hl [0, 1, 2, 3] rfl) hq
    · replace hq := i_f c8 hq
      refine lv_iconst (v := (1 : Int32)) hx hb dX8_pointDistance_19 (by decide) ?_
      refine lv_goto (tgt := 24) hx hb dX8_pointDistance_20 (by decide) ?_
      exact hj24 a0 a1 a2 a3 (1 : Int32) a0 f H locs ls hI (lv_sub hl [0, 1, 2, 3] rfl) hq

abbrev rm_X8_nearestPoint : Room := { frames := 5, cells := 0, slots := 0, locals := 183 }
theorem k_X8_nearestPoint : g_CV yX8_nearestPoint cX8_nearestPoint 8 (some .int) 3 := ⟨⟨m_1686, m_14, by decide +kernel⟩, m_1684, m_1685⟩
set_option maxHeartbeats 4000000 in
set_option maxRecDepth 100000 in
theorem c_X8_nearestPoint (l : Launch) (V : Nat → Nat) (g : GH) (D : va_G) (cT : Nat → ClassId) (f : GH) (n : Nat) (a0 : Nat) (a1 : Int32) (a2 : Int32) (a3 : Int32) (o : Int32 × GH) (hq : p_X8_nearestPoint V g f a0 a1 a2 a3 = some o) : Met l yX8_nearestPoint (Cond.code yX8_nearestPoint cX8_nearestPoint 8 (some .int) :: g_B) rm_X8_nearestPoint (va_Pc [.ref a0, .int a1, .int a2, .int a3] (g_I V g D cT f n)) (g_Wi V D cT o.1 o.2 n) 0 0 (g_A V) := by
  refine g_begin (own := RX8) [.ref a0, .int a1, .int a2, .int a3] [(0, .ref a0), (1, .int a1), (2, .int a2), (3, .int a3)] (g_A V) (fun _ h => h) (by decide) rfl (Nat.le_of_ble_eq_true rfl) rfl ?_
  intro p e s m args below meth c hx hb hr hlocks hin hC hI ls hl
  obtain ⟨hx, hb, hml, hown, hB⟩ := id hC
  obtain ⟨H, hH⟩ : ∃ H, H = s.heap := ⟨_, rfl⟩
  obtain ⟨locs, hlocs⟩ : ∃ L : List Loc, L = [] := ⟨_, rfl⟩
  rw [← hH, ← hlocs] at hI ⊢
  clear hH hlocs
  unfold p_X8_nearestPoint at hq
  replace hq := (h_me_eq hq).2
  refine lv_aload_n hx hb dX8_nearestPoint_0 rfl (lv_at hl 0 rfl) ?_
  refine lv_aload_n hx hb dX8_nearestPoint_1 rfl (lv_at hl 0 rfl) ?_
  refine lv_iload_n hx hb dX8_nearestPoint_2 rfl (lv_at hl 1 rfl) ?_
  obtain ⟨v1, ev1, hq⟩ := b_s hq
  refine gr_i (g_runV (As := [.int a1]) (rest := [.ref a0]) (ci := 10) hC (c_X8_isCoast l V g D cT f n a0 a1 v1 ev1) k_X8_isCoast m_1630 rfl rfl ⟨Nat.le_of_ble_eq_true rfl, Nat.le_of_ble_eq_true rfl⟩ hI rfl rfl (h_me_eq ev1).1 rfl hl.1 rfl (Nat.le_of_ble_eq_true rfl) dX8_nearestPoint_3 ⟨by decide, by decide⟩) hI (fun H locs hI => ?_)
  refine lv_iload_n hx hb dX8_nearestPoint_6 rfl (lv_at hl 2 rfl) ?_
  refine lv_iload_n hx hb dX8_nearestPoint_7 rfl (lv_at hl 3 rfl) ?_
  obtain ⟨v2, ev2, hq⟩ := b_s hq
  refine gr_i (g_runS (As := [.int a2, .int a3]) (rest := [.int v1, .ref a0]) hC (c_X8_isPosition l V g D cT f n a2 a3 v2 ev2) k_X8_isPosition m_1687 rfl rfl ⟨Nat.le_of_ble_eq_true rfl, Nat.le_of_ble_eq_true rfl⟩ hI rfl hl.1 rfl (Nat.le_of_ble_eq_true rfl) dX8_nearestPoint_8 ⟨by decide, by decide⟩) hI (fun H locs hI => ?_)
  obtain ⟨v3, ev3, hq⟩ := b_s hq
  refine gw_i (g_runV (As := [.int v1, .int v2]) (rest := []) (ci := 10) hC (c_X8_lacksBoth l V g D cT f n a0 v1 v2 v3 ev3) k_X8_lacksBoth m_1693 rfl rfl ⟨Nat.le_of_ble_eq_true rfl, Nat.le_of_ble_eq_true rfl⟩ hI rfl rfl (h_me_eq ev3).1 rfl hl.1 rfl (Nat.le_of_ble_eq_true rfl) dX8_nearestPoint_11 ⟨by decide, by decide⟩) hI (fun H locs hI => ?_)
  refine lv_if_eq (tgt := 19) hx hb dX8_nearestPoint_14 (by decide) (fun c4 => ?_) (fun c4 => ?_)
  · replace hq := i_t c4 hq
    refine lv_iconst (v := (-1 : Int32)) hx hb dX8_nearestPoint_19 (by decide) ?_
    refine lv_istore (lv' := [(4, .int (-1 : Int32)), (0, .ref a0), (1, .int a1), (2, .int a2), (3, .int a3)]) hx hb dX8_nearestPoint_20 hl (by decide) rfl (fun ls hl => ?_)
    refine lv_iconst (v := (0 : Int32)) hx hb dX8_nearestPoint_22 (by decide) ?_
    refine lv_istore (lv' := [(5, .int (0 : Int32)), (4, .int (-1 : Int32)), (0, .ref a0), (1, .int a1), (2, .int a2), (3, .int a3)]) hx hb dX8_nearestPoint_23 hl (by decide) rfl (fun ls hl => ?_)
    refine lv_iconst (v := (0 : Int32)) hx hb dX8_nearestPoint_25 (by decide) ?_
    refine lv_istore (lv' := [(6, .int (0 : Int32)), (5, .int (0 : Int32)), (4, .int (-1 : Int32)), (0, .ref a0), (1, .int a1), (2, .int a2), (3, .int a3)]) hx hb dX8_nearestPoint_26 hl (by decide) rfl (fun ls hl => ?_)
    have hl28 : ∀ (K92 : Int32 → GH → Option (Int32 × GH)) (hK92 : ∀ (x4 : Int32) (f : GH) (H : Heap) (locs : List Loc) (ls : Array Slot), g_at (g_A V) V g D cT f n s H locs → lv_has ls 8 [(4, .int x4)] → K92 x4 f = some o → W p l e rm_X8_nearestPoint s m args below meth c H locs 0 0 (MQ below (g_Wi V D cT o.1 o.2 n) args s 0 0 (g_A V)) (F0 m 92 ls [])) (N : Nat) (x0 : Nat) (x1 : Int32) (x2 : Int32) (x3 : Int32) (x4 : Int32) (x5 : Int32) (x6 : Int32) (f : GH) (H : Heap) (locs : List Loc) (ls : Array Slot), g_at (g_A V) V g D cT f n s H locs → lv_has ls 8 [(0, .ref x0), (1, .int x1), (2, .int x2), (3, .int x3), (4, .int x4), (5, .int x5), (6, .int x6)] → p_X8_nearestPoint_l28 V g K92 N x0 x1 x2 x3 x4 x5 x6 f = some o → W p l e rm_X8_nearestPoint s m args below meth c H locs 0 0 (MQ below (g_Wi V D cT o.1 o.2 n) args s 0 0 (g_A V)) (F0 m 28 ls []) := by
      intro K92 hK92 N
      induction N with
      | zero =>
        intro x0 x1 x2 x3 x4 x5 x6 f H locs ls hI hl hq
        rw [p_X8_nearestPoint_l28] at hq
        cases hq
      | succ N ih =>
        intro x0 x1 x2 x3 x4 x5 x6 f H locs ls hI hl hq
        rw [p_X8_nearestPoint_l28] at hq
        refine lv_iload hx hb dX8_nearestPoint_28 (lv_at hl 6 rfl) ?_
        refine lv_aload_n hx hb dX8_nearestPoint_30 rfl (lv_at hl 0 rfl) ?_
        refine lv_iload_n hx hb dX8_nearestPoint_31 rfl (lv_at hl 1 rfl) ?_
        obtain ⟨v5, ev5, hq⟩ := b_s hq
        refine gr_i (g_runV (As := [.int x1]) (rest := [.int x6]) (ci := 10) hC (c_X8_count l V g D cT f n x0 x1 v5 ev5) k_X8_count m_1527 rfl rfl ⟨Nat.le_of_ble_eq_true rfl, Nat.le_of_ble_eq_true rfl⟩ hI rfl rfl (h_me_eq ev5).1 rfl hl.1 rfl (Nat.le_of_ble_eq_true rfl) dX8_nearestPoint_32 ⟨by decide, by decide⟩) hI (fun H locs hI => ?_)
        refine lv_icmp_ge (tgt := 92) hx hb dX8_nearestPoint_35 (by decide) (fun c6 => ?_) (fun c6 => ?_)
        · replace hq := i_t c6 hq
          exact hK92 x4 f H locs ls hI (lv_sub hl [4] rfl) hq
        · replace hq := i_f c6 hq
          refine lv_aload_n hx hb dX8_nearestPoint_38 rfl (lv_at hl 0 rfl) ?_
          refine lv_iload_n hx hb dX8_nearestPoint_39 rfl (lv_at hl 1 rfl) ?_
          refine lv_iload hx hb dX8_nearestPoint_40 (lv_at hl 6 rfl) ?_
          obtain ⟨v7, ev7, hq⟩ := b_s hq
          refine gr_i (g_runV (As := [.int x1, .int x6]) (rest := []) (ci := 10) hC (c_X8_x l V g D cT f n x0 x1 x6 v7 ev7) k_X8_x m_1657 rfl rfl ⟨Nat.le_of_ble_eq_true rfl, Nat.le_of_ble_eq_true rfl⟩ hI rfl rfl (h_me_eq ev7).1 rfl hl.1 rfl (Nat.le_of_ble_eq_true rfl) dX8_nearestPoint_42 ⟨by decide, by decide⟩) hI (fun H locs hI => ?_)
          refine lv_iload_n hx hb dX8_nearestPoint_45 rfl (lv_at hl 2 rfl) ?_
          refine lv_isub hx hb dX8_nearestPoint_46 ?_
          refine lv_aload_n hx hb dX8_nearestPoint_47 rfl (lv_at hl 0 rfl) ?_
          refine lv_iload_n hx hb dX8_nearestPoint_48 rfl (lv_at hl 1 rfl) ?_
          refine lv_iload hx hb dX8_nearestPoint_49 (lv_at hl 6 rfl) ?_
          obtain ⟨v8, ev8, hq⟩ := b_s hq
          refine gr_i (g_runV (As := [.int x1, .int x6]) (rest := [.int (v7 - x2)]) (ci := 10) hC (c_X8_y l V g D cT f n x0 x1 x6 v8 ev8) k_X8_y m_1665 rfl rfl ⟨Nat.le_of_ble_eq_true rfl, Nat.le_of_ble_eq_true rfl⟩ hI rfl rfl (h_me_eq ev8).1 rfl hl.1 rfl (Nat.le_of_ble_eq_true rfl) dX8_nearestPoint_51 ⟨by decide, by decide⟩) hI (fun H locs hI => ?_)
          refine lv_iload_n hx hb dX8_nearestPoint_54 rfl (lv_at hl 3 rfl) ?_
          refine lv_isub hx hb dX8_nearestPoint_55 ?_
          refine lv_aload_n hx hb dX8_nearestPoint_56 rfl (lv_at hl 0 rfl) ?_
          obtain ⟨v9, ev9, hq⟩ := b_s hq
          refine gr_i (g_runV (As := []) (rest := [.int (v8 - x3), .int (v7 - x2)]) (ci := 10) hC (c_X8_isKing l V g D cT f n x0 v9 ev9) k_X8_isKing m_1622 rfl rfl ⟨Nat.le_of_ble_eq_true rfl, Nat.le_of_ble_eq_true rfl⟩ hI rfl rfl (h_me_eq ev9).1 rfl hl.1 rfl (Nat.le_of_ble_eq_true rfl) dX8_nearestPoint_57 ⟨by decide, by decide⟩) hI (fun H locs hI => ?_)
          obtain ⟨v10, ev10, hq⟩ := b_s hq
          refine gr_i (g_runS (As := [.int (v7 - x2), .int (v8 - x3), .int v9]) (rest := []) hC (c_X8_measure l V g D cT f n (v7 - x2) (v8 - x3) v9 v10 ev10) k_X8_measure m_1677 rfl rfl ⟨Nat.le_of_ble_eq_true rfl, Nat.le_of_ble_eq_true rfl⟩ hI rfl hl.1 rfl (Nat.le_of_ble_eq_true rfl) dX8_nearestPoint_60 ⟨by decide, by decide⟩) hI (fun H locs hI => ?_)
          refine lv_istore (lv' := [(7, .int v10), (0, .ref x0), (1, .int x1), (2, .int x2), (3, .int x3), (4, .int x4), (5, .int x5), (6, .int x6)]) hx hb dX8_nearestPoint_63 hl (by decide) rfl (fun ls hl => ?_)
          refine lv_iload hx hb dX8_nearestPoint_65 (lv_at hl 5 rfl) ?_
          refine lv_iconst (v := (-1 : Int32)) hx hb dX8_nearestPoint_67 (by decide) ?_
          refine lv_icmp_eq (tgt := 78) hx hb dX8_nearestPoint_68 (by decide) (fun c11 => ?_) (fun c11 => ?_)
          · replace hq := i_t c11 hq
            refine lv_iload hx hb dX8_nearestPoint_78 (lv_at hl 7 rfl) ?_
            refine lv_istore (lv' := [(4, .int x6), (7, .int v10), (0, .ref x0), (1, .int x1), (2, .int x2), (3, .int x3), (5, .int x5), (6, .int x6)]) hx hb dX8_nearestPoint_80 hl (by decide) rfl (fun ls hl => ?_)
            refine lv_iload hx hb dX8_nearestPoint_82 (lv_at hl 1 rfl) ?_
            refine lv_istore (lv' := [(5, .int v10), (4, .int x6), (7, .int v10), (0, .ref x0), (1, .int x1), (2, .int x2), (3, .int x3), (6, .int x6)]) hx hb dX8_nearestPoint_84 hl (by decide) rfl (fun ls hl => ?_)
            refine lv_iinc (v := x6 + (1 : Int32)) (lv' := [(6, .int (x6 + (1 : Int32))), (5, .int v10), (4, .int x6), (7, .int v10), (0, .ref x0), (1, .int x1), (2, .int x2), (3, .int x3)]) hx hb dX8_nearestPoint_86 hl (k := 7) rfl rfl (by decide) rfl (fun ls hl => ?_)
            refine lv_goto (tgt := 28) hx hb dX8_nearestPoint_89 (by decide) ?_
            exact ih x0 x1 x2 x3 x6 v10 (x6 + (1 : Int32)) f H locs ls hI (lv_sub hl [4, 5, 6, 7, 2, 1, 0] rfl) hq
          · replace hq := i_f c11 hq
            refine lv_iload hx hb dX8_nearestPoint_71 (lv_at hl 0 rfl) ?_
            refine lv_iload hx hb dX8_nearestPoint_73 (lv_at hl 6 rfl) ?_
            refine lv_icmp_ge (tgt := 86) hx hb dX8_nearestPoint_75 (by decide) (fun c12 => ?_) (fun c12 => ?_)
            · replace hq := i_t c12 hq
              refine lv_iinc (v := x6 + (1 : Int32)) (lv' := [(6, .int (x6 + (1 : Int32))), (7, .int v10), (0, .ref x0), (1, .int x1), (2, .int x2), (3, .int x3), (4, .int x4), (5, .int x5)]) hx hb dX8_nearestPoint_86 hl (k := 7) rfl rfl (by decide) rfl (fun ls hl => ?_)
              refine lv_goto (tgt := 28) hx hb dX8_nearestPoint_89 (by decide) ?_
              exact ih x0 x1 x2 x3 x4 x5 (x6 + (1 : Int32)) f H locs ls hI (lv_sub hl [2, 3, 4, 5, 6, 7, 0] rfl) hq
            · replace hq := i_f c12 hq
              refine lv_iload hx hb dX8_nearestPoint_78 (lv_at hl 7 rfl) ?_
              refine lv_istore (lv' := [(4, .int x6), (7, .int v10), (0, .ref x0), (1, .int x1), (2, .int x2), (3, .int x3), (5, .int x5), (6, .int x6)]) hx hb dX8_nearestPoint_80 hl (by decide) rfl (fun ls hl => ?_)
              refine lv_iload hx hb dX8_nearestPoint_82 (lv_at hl 1 rfl) ?_
              refine lv_istore (lv' := [(5, .int v10), (4, .int x6), (7, .int v10), (0, .ref x0), (1, .int x1), (2, .int x2), (3, .int x3), (6, .int x6)]) hx hb dX8_nearestPoint_84 hl (by decide) rfl (fun ls hl => ?_)
              refine lv_iinc (v := x6 + (1 : Int32)) (lv' := [(6, .int (x6 + (1 : Int32))), (5, .int v10), (4, .int x6), (7, .int v10), (0, .ref x0), (1, .int x1), (2, .int x2), (3, .int x3)]) hx hb dX8_nearestPoint_86 hl (k := 7) rfl rfl (by decide) rfl (fun ls hl => ?_)
              refine lv_goto (tgt := 28) hx hb dX8_nearestPoint_89 (by decide) ?_
              exact ih x0 x1 x2 x3 x6 v10 (x6 + (1 : Int32)) f H locs ls hI (lv_sub hl [4, 5, 6, 7, 2, 1, 0] rfl) hq
    refine hl28 _ ?_ FU a0 a1 a2 a3 (-1 : Int32) (0 : Int32) (0 : Int32) v3.2 H locs ls hI (lv_sub hl [3, 4, 5, 6, 2, 1, 0] rfl) hq
    · intro x4 f H locs ls hI hl hq
      refine lv_iload hx hb dX8_nearestPoint_92 (lv_at hl 0 rfl) ?_
      exact ge_Wi hx hb hlocks hr rfl hI (congrArg (fun z => z.1) (Option.some.inj hq)) (congrArg (fun z => z.2) (Option.some.inj hq)) dX8_nearestPoint_94
  · replace hq := i_f c4 hq
    refine lv_iconst (v := (0 : Int32)) hx hb dX8_nearestPoint_17 (by decide) ?_
    exact ge_Wi hx hb hlocks hr rfl hI (congrArg (fun z => z.1) (Option.some.inj hq)) (congrArg (fun z => z.2) (Option.some.inj hq)) dX8_nearestPoint_18

abbrev rm_X8_lacksLevel : Room := { frames := 4, cells := 0, slots := 0, locals := 163 }
theorem k_X8_lacksLevel : g_CV yX8_lacksLevel cX8_lacksLevel 3 (some .boolean) 2 := ⟨⟨m_1704, m_14, by decide +kernel⟩, m_1703, ms_33⟩
set_option maxHeartbeats 4000000 in
set_option maxRecDepth 100000 in
theorem c_X8_lacksLevel (l : Launch) (V : Nat → Nat) (g : GH) (D : va_G) (cT : Nat → ClassId) (f : GH) (n : Nat) (a0 : Nat) (a1 : Int32) (a2 : Int32) (o : Int32 × GH) (hq : p_X8_lacksLevel V g f a0 a1 a2 = some o) : Met l yX8_lacksLevel (Cond.code yX8_lacksLevel cX8_lacksLevel 3 (some .boolean) :: g_B) rm_X8_lacksLevel (va_Pc [.ref a0, .int a1, .int a2] (g_I V g D cT f n)) (g_Wi V D cT o.1 o.2 n) 0 0 (g_A V) := by
  refine g_begin (own := RX8) [.ref a0, .int a1, .int a2] [(0, .ref a0), (1, .int a1), (2, .int a2)] (g_A V) (fun _ h => h) (by decide) rfl (Nat.le_of_ble_eq_true rfl) rfl ?_
  intro p e s m args below meth c hx hb hr hlocks hin hC hI ls hl
  obtain ⟨hx, hb, hml, hown, hB⟩ := id hC
  obtain ⟨H, hH⟩ : ∃ H, H = s.heap := ⟨_, rfl⟩
  obtain ⟨locs, hlocs⟩ : ∃ L : List Loc, L = [] := ⟨_, rfl⟩
  rw [← hH, ← hlocs] at hI ⊢
  clear hH hlocs
  unfold p_X8_lacksLevel at hq
  replace hq := (h_me_eq hq).2
  refine lv_aload_n hx hb dX8_lacksLevel_0 rfl (lv_at hl 0 rfl) ?_
  refine lv_aload_n hx hb dX8_lacksLevel_1 rfl (lv_at hl 0 rfl) ?_
  refine lv_iload_n hx hb dX8_lacksLevel_2 rfl (lv_at hl 1 rfl) ?_
  obtain ⟨v1, ev1, hq⟩ := b_s hq
  refine gr_i (g_runV (As := [.int a1]) (rest := [.ref a0]) (ci := 10) hC (c_X8_isCoast l V g D cT f n a0 a1 v1 ev1) k_X8_isCoast m_1630 rfl rfl ⟨Nat.le_of_ble_eq_true rfl, Nat.le_of_ble_eq_true rfl⟩ hI rfl rfl (h_me_eq ev1).1 rfl hl.1 rfl (Nat.le_of_ble_eq_true rfl) dX8_lacksLevel_3 ⟨by decide, by decide⟩) hI (fun H locs hI => ?_)
  refine lv_iload_n hx hb dX8_lacksLevel_6 rfl (lv_at hl 2 rfl) ?_
  obtain ⟨v2, ev2, hq⟩ := b_s hq
  refine gr_i (g_runS (As := [.int a2]) (rest := [.int v1, .ref a0]) hC (c_X8_isLevel l V g D cT f n a2 v2 ev2) k_X8_isLevel m_1705 rfl rfl ⟨Nat.le_of_ble_eq_true rfl, Nat.le_of_ble_eq_true rfl⟩ hI rfl hl.1 rfl (Nat.le_of_ble_eq_true rfl) dX8_lacksLevel_7 ⟨by decide, by decide⟩) hI (fun H locs hI => ?_)
  obtain ⟨v3, ev3, hq⟩ := b_s hq
  refine gw_i (g_runV (As := [.int v1, .int v2]) (rest := []) (ci := 10) hC (c_X8_lacksBoth l V g D cT f n a0 v1 v2 v3 ev3) k_X8_lacksBoth m_1693 rfl rfl ⟨Nat.le_of_ble_eq_true rfl, Nat.le_of_ble_eq_true rfl⟩ hI rfl rfl (h_me_eq ev3).1 rfl hl.1 rfl (Nat.le_of_ble_eq_true rfl) dX8_lacksLevel_10 ⟨by decide, by decide⟩) hI (fun H locs hI => ?_)
  obtain ⟨_, ev4, hq⟩ := b_s hq
  exact ge_Wi hx hb hlocks hr (h_bz_eq ev4).2.1 hI (congrArg (fun z => z.1) (Option.some.inj hq)) (congrArg (fun z => z.2) (Option.some.inj hq)) dX8_lacksLevel_13

abbrev rm_X8_lacksStick : Room := { frames := 5, cells := 0, slots := 0, locals := 185 }
theorem k_X8_lacksStick : g_CV yX8_lacksStick cX8_lacksStick 4 (some .boolean) 3 := ⟨⟨m_1739, m_14, by decide +kernel⟩, m_1738, ms_39⟩
set_option maxHeartbeats 4000000 in
set_option maxRecDepth 100000 in
theorem c_X8_lacksStick (l : Launch) (V : Nat → Nat) (g : GH) (D : va_G) (cT : Nat → ClassId) (f : GH) (n : Nat) (a0 : Nat) (a1 : Int32) (a2 : Int32) (a3 : Int32) (o : Int32 × GH) (hq : p_X8_lacksStick V g f a0 a1 a2 a3 = some o) : Met l yX8_lacksStick (Cond.code yX8_lacksStick cX8_lacksStick 4 (some .boolean) :: g_B) rm_X8_lacksStick (va_Pc [.ref a0, .int a1, .int a2, .int a3] (g_I V g D cT f n)) (g_Wi V D cT o.1 o.2 n) 0 0 (g_A V) := by
  refine g_begin (own := RX8) [.ref a0, .int a1, .int a2, .int a3] [(0, .ref a0), (1, .int a1), (2, .int a2), (3, .int a3)] (g_A V) (fun _ h => h) (by decide) rfl (Nat.le_of_ble_eq_true rfl) rfl ?_
  intro p e s m args below meth c hx hb hr hlocks hin hC hI ls hl
  obtain ⟨hx, hb, hml, hown, hB⟩ := id hC
  obtain ⟨H, hH⟩ : ∃ H, H = s.heap := ⟨_, rfl⟩
  obtain ⟨locs, hlocs⟩ : ∃ L : List Loc, L = [] := ⟨_, rfl⟩
  rw [← hH, ← hlocs] at hI ⊢
  clear hH hlocs
  unfold p_X8_lacksStick at hq
  replace hq := (h_me_eq hq).2
  refine lv_aload_n hx hb dX8_lacksStick_0 rfl (lv_at hl 0 rfl) ?_
  refine lv_aload_n hx hb dX8_lacksStick_1 rfl (lv_at hl 0 rfl) ?_
  refine lv_iload_n hx hb dX8_lacksStick_2 rfl (lv_at hl 1 rfl) ?_
  obtain ⟨v1, ev1, hq⟩ := b_s hq
  refine gr_i (g_runV (As := [.int a1]) (rest := [.ref a0]) (ci := 10) hC (c_X8_isCoast l V g D cT f n a0 a1 v1 ev1) k_X8_isCoast m_1630 rfl rfl ⟨Nat.le_of_ble_eq_true rfl, Nat.le_of_ble_eq_true rfl⟩ hI rfl rfl (h_me_eq ev1).1 rfl hl.1 rfl (Nat.le_of_ble_eq_true rfl) dX8_lacksStick_3 ⟨by decide, by decide⟩) hI (fun H locs hI => ?_)
  refine lv_aload_n hx hb dX8_lacksStick_6 rfl (lv_at hl 0 rfl) ?_
  refine lv_iload_n hx hb dX8_lacksStick_7 rfl (lv_at hl 1 rfl) ?_
  obtain ⟨v2, ev2, hq⟩ := b_s hq
  refine gr_i (g_runV (As := [.int a1]) (rest := [.int v1, .ref a0]) (ci := 10) hC (c_X8_isCoast l V g D cT f n a0 a1 v2 ev2) k_X8_isCoast m_1630 rfl rfl ⟨Nat.le_of_ble_eq_true rfl, Nat.le_of_ble_eq_true rfl⟩ hI rfl rfl (h_me_eq ev2).1 rfl hl.1 rfl (Nat.le_of_ble_eq_true rfl) dX8_lacksStick_8 ⟨by decide, by decide⟩) hI (fun H locs hI => ?_)
  refine lv_if_eq (tgt := 41) hx hb dX8_lacksStick_11 (by decide) (fun c3 => ?_) (fun c3 => ?_)
  · replace hq := i_t c3 hq
    refine lv_iconst (v := (0 : Int32)) hx hb dX8_lacksStick_41 (by decide) ?_
    obtain ⟨v4, ev4, hq⟩ := b_s hq
    refine gw_i (g_runV (As := [.int v1, .int (0 : Int32)]) (rest := []) (ci := 10) hC (c_X8_lacksBoth l V g D cT f n a0 v1 (0 : Int32) v4 ev4) k_X8_lacksBoth m_1693 rfl rfl ⟨Nat.le_of_ble_eq_true rfl, Nat.le_of_ble_eq_true rfl⟩ hI rfl rfl (h_me_eq ev4).1 rfl hl.1 rfl (Nat.le_of_ble_eq_true rfl) dX8_lacksStick_42 ⟨by decide, by decide⟩) hI (fun H locs hI => ?_)
    obtain ⟨_, ev5, hq⟩ := b_s hq
    exact ge_Wi hx hb hlocks hr (h_bz_eq ev5).2.1 hI (congrArg (fun z => z.1) (Option.some.inj hq)) (congrArg (fun z => z.2) (Option.some.inj hq)) dX8_lacksStick_45
  · replace hq := i_f c3 hq
    refine lv_iload_n hx hb dX8_lacksStick_14 rfl (lv_at hl 2 rfl) ?_
    obtain ⟨v6, ev6, hq⟩ := b_s hq
    refine gr_i (g_runS (As := [.int a2]) (rest := [.int v1, .ref a0]) hC (c_X8_isLevel l V g D cT f n a2 v6 ev6) k_X8_isLevel m_1705 rfl rfl ⟨Nat.le_of_ble_eq_true rfl, Nat.le_of_ble_eq_true rfl⟩ hI rfl hl.1 rfl (Nat.le_of_ble_eq_true rfl) dX8_lacksStick_15 ⟨by decide, by decide⟩) hI (fun H locs hI => ?_)
    refine lv_if_eq (tgt := 41) hx hb dX8_lacksStick_18 (by decide) (fun c7 => ?_) (fun c7 => ?_)
    · replace hq := i_t c7 hq
      refine lv_iconst (v := (0 : Int32)) hx hb dX8_lacksStick_41 (by decide) ?_
      obtain ⟨v8, ev8, hq⟩ := b_s hq
      refine gw_i (g_runV (As := [.int v1, .int (0 : Int32)]) (rest := []) (ci := 10) hC (c_X8_lacksBoth l V g D cT f n a0 v1 (0 : Int32) v8 ev8) k_X8_lacksBoth m_1693 rfl rfl ⟨Nat.le_of_ble_eq_true rfl, Nat.le_of_ble_eq_true rfl⟩ hI rfl rfl (h_me_eq ev8).1 rfl hl.1 rfl (Nat.le_of_ble_eq_true rfl) dX8_lacksStick_42 ⟨by decide, by decide⟩) hI (fun H locs hI => ?_)
      obtain ⟨_, ev9, hq⟩ := b_s hq
      exact ge_Wi hx hb hlocks hr (h_bz_eq ev9).2.1 hI (congrArg (fun z => z.1) (Option.some.inj hq)) (congrArg (fun z => z.2) (Option.some.inj hq)) dX8_lacksStick_45
    · replace hq := i_f c7 hq
      refine lv_iload_n hx hb dX8_lacksStick_21 rfl (lv_at hl 3 rfl) ?_
      refine lv_iconst (v := (0 : Int32)) hx hb dX8_lacksStick_22 (by decide) ?_
      refine lv_aload_n hx hb dX8_lacksStick_23 rfl (lv_at hl 0 rfl) ?_
      refine lv_iload_n hx hb dX8_lacksStick_24 rfl (lv_at hl 1 rfl) ?_
      refine lv_iload_n hx hb dX8_lacksStick_25 rfl (lv_at hl 2 rfl) ?_
      obtain ⟨v10, ev10, hq⟩ := b_s hq
      refine gr_i (g_runV (As := [.int a1, .int a2]) (rest := [.int (0 : Int32), .int a3, .int v1, .ref a0]) (ci := 10) hC (c_X8_sticks l V g D cT f n a0 a1 a2 v10 ev10) k_X8_sticks m_1716 rfl rfl ⟨Nat.le_of_ble_eq_true rfl, Nat.le_of_ble_eq_true rfl⟩ hI rfl rfl (h_me_eq ev10).1 rfl hl.1 rfl (Nat.le_of_ble_eq_true rfl) dX8_lacksStick_26 ⟨by decide, by decide⟩) hI (fun H locs hI => ?_)
      refine lv_iconst (v := (1 : Int32)) hx hb dX8_lacksStick_29 (by decide) ?_
      refine lv_isub hx hb dX8_lacksStick_30 ?_
      obtain ⟨v11, ev11, hq⟩ := b_s hq
      refine gr_i (g_runS (As := [.int a3, .int (0 : Int32), .int (v10 - (1 : Int32))]) (rest := [.int v1, .ref a0]) hC (c_X8_inRange l V g D cT f n a3 (0 : Int32) (v10 - (1 : Int32)) v11 ev11) k_X8_inRange m_1634 rfl rfl ⟨Nat.le_of_ble_eq_true rfl, Nat.le_of_ble_eq_true rfl⟩ hI rfl hl.1 rfl (Nat.le_of_ble_eq_true rfl) dX8_lacksStick_31 ⟨by decide, by decide⟩) hI (fun H locs hI => ?_)
      refine lv_if_eq (tgt := 41) hx hb dX8_lacksStick_34 (by decide) (fun c12 => ?_) (fun c12 => ?_)
      · replace hq := i_t c12 hq
        refine lv_iconst (v := (0 : Int32)) hx hb dX8_lacksStick_41 (by decide) ?_
        obtain ⟨v13, ev13, hq⟩ := b_s hq
        refine gw_i (g_runV (As := [.int v1, .int (0 : Int32)]) (rest := []) (ci := 10) hC (c_X8_lacksBoth l V g D cT f n a0 v1 (0 : Int32) v13 ev13) k_X8_lacksBoth m_1693 rfl rfl ⟨Nat.le_of_ble_eq_true rfl, Nat.le_of_ble_eq_true rfl⟩ hI rfl rfl (h_me_eq ev13).1 rfl hl.1 rfl (Nat.le_of_ble_eq_true rfl) dX8_lacksStick_42 ⟨by decide, by decide⟩) hI (fun H locs hI => ?_)
        obtain ⟨_, ev14, hq⟩ := b_s hq
        exact ge_Wi hx hb hlocks hr (h_bz_eq ev14).2.1 hI (congrArg (fun z => z.1) (Option.some.inj hq)) (congrArg (fun z => z.2) (Option.some.inj hq)) dX8_lacksStick_45
      · replace hq := i_f c12 hq
        refine lv_iconst (v := (1 : Int32)) hx hb dX8_lacksStick_37 (by decide) ?_
        refine lv_goto (tgt := 42) hx hb dX8_lacksStick_38 (by decide) ?_
        obtain ⟨v15, ev15, hq⟩ := b_s hq
        refine gw_i (g_runV (As := [.int v1, .int (1 : Int32)]) (rest := []) (ci := 10) hC (c_X8_lacksBoth l V g D cT f n a0 v1 (1 : Int32) v15 ev15) k_X8_lacksBoth m_1693 rfl rfl ⟨Nat.le_of_ble_eq_true rfl, Nat.le_of_ble_eq_true rfl⟩ hI rfl rfl (h_me_eq ev15).1 rfl hl.1 rfl (Nat.le_of_ble_eq_true rfl) dX8_lacksStick_42 ⟨by decide, by decide⟩) hI (fun H locs hI => ?_)
        obtain ⟨_, ev16, hq⟩ := b_s hq
        exact ge_Wi hx hb hlocks hr (h_bz_eq ev16).2.1 hI (congrArg (fun z => z.1) (Option.some.inj hq)) (congrArg (fun z => z.2) (Option.some.inj hq)) dX8_lacksStick_45

abbrev rm_X8_lengthAt : Room := { frames := 8, cells := 0, slots := 0, locals := 259 }
theorem k_X8_lengthAt : g_CV yX8_lengthAt cX8_lengthAt 3 (some .int) 2 := ⟨⟨m_1700, m_14, by decide +kernel⟩, m_1698, m_1699⟩
set_option maxHeartbeats 4000000 in
set_option maxRecDepth 100000 in
theorem c_X8_lengthAt (l : Launch) (V : Nat → Nat) (g : GH) (D : va_G) (cT : Nat → ClassId) (f : GH) (n : Nat) (a0 : Nat) (a1 : Int32) (a2 : Int32) (o : Int32 × GH) (hq : p_X8_lengthAt V g f a0 a1 a2 = some o) : Met l yX8_lengthAt (Cond.code yX8_lengthAt cX8_lengthAt 3 (some .int) :: g_B) rm_X8_lengthAt (va_Pc [.ref a0, .int a1, .int a2] (g_I V g D cT f n)) (g_Wi V D cT o.1 o.2 n) 0 0 (g_A V) := by
  refine g_begin (own := RX8) [.ref a0, .int a1, .int a2] [(0, .ref a0), (1, .int a1), (2, .int a2)] (g_A V) (fun _ h => h) (by decide) rfl (Nat.le_of_ble_eq_true rfl) rfl ?_
  intro p e s m args below meth c hx hb hr hlocks hin hC hI ls hl
  obtain ⟨hx, hb, hml, hown, hB⟩ := id hC
  obtain ⟨H, hH⟩ : ∃ H, H = s.heap := ⟨_, rfl⟩
  obtain ⟨locs, hlocs⟩ : ∃ L : List Loc, L = [] := ⟨_, rfl⟩
  rw [← hH, ← hlocs] at hI ⊢
  clear hH hlocs
  unfold p_X8_lengthAt at hq
  replace hq := (h_me_eq hq).2
  refine lv_aload_n hx hb dX8_lengthAt_0 rfl (lv_at hl 0 rfl) ?_
  refine lv_iload_n hx hb dX8_lengthAt_1 rfl (lv_at hl 1 rfl) ?_
  refine lv_iload_n hx hb dX8_lengthAt_2 rfl (lv_at hl 2 rfl) ?_
  obtain ⟨v1, ev1, hq⟩ := b_s hq
  refine gw_i (g_runV (As := [.int a1, .int a2]) (rest := []) (ci := 10) hC (c_X8_lacksLevel l V g D cT f n a0 a1 a2 v1 ev1) k_X8_lacksLevel m_1701 rfl rfl ⟨Nat.le_of_ble_eq_true rfl, Nat.le_of_ble_eq_true rfl⟩ hI rfl rfl (h_me_eq ev1).1 rfl hl.1 rfl (Nat.le_of_ble_eq_true rfl) dX8_lengthAt_3 ⟨by decide, by decide⟩) hI (fun H locs hI => ?_)
  refine lv_if_eq (tgt := 13) hx hb dX8_lengthAt_6 (by decide) (fun c2 => ?_) (fun c2 => ?_)
  · replace hq := i_t c2 hq
    refine lv_aload_n hx hb dX8_lengthAt_13 rfl (lv_at hl 0 rfl) ?_
    refine lv_iload_n hx hb dX8_lengthAt_14 rfl (lv_at hl 1 rfl) ?_
    refine lv_iload_n hx hb dX8_lengthAt_15 rfl (lv_at hl 2 rfl) ?_
    obtain ⟨v3, ev3, hq⟩ := b_s hq
    refine gr_i (g_runV (As := [.int a1, .int a2]) (rest := []) (ci := 10) hC (c_X8_lengthNow l V g D cT v1.2 n a0 a1 a2 v3 ev3) k_X8_lengthNow m_1708 rfl rfl ⟨Nat.le_of_ble_eq_true rfl, Nat.le_of_ble_eq_true rfl⟩ hI rfl rfl (h_me_eq ev3).1 rfl hl.1 rfl (Nat.le_of_ble_eq_true rfl) dX8_lengthAt_16 ⟨by decide, by decide⟩) hI (fun H locs hI => ?_)
    exact ge_Wi hx hb hlocks hr rfl hI (congrArg (fun z => z.1) (Option.some.inj hq)) (congrArg (fun z => z.2) (Option.some.inj hq)) dX8_lengthAt_19
  · replace hq := i_f c2 hq
    refine lv_iconst (v := (0 : Int32)) hx hb dX8_lengthAt_9 (by decide) ?_
    refine lv_goto (tgt := 19) hx hb dX8_lengthAt_10 (by decide) ?_
    exact ge_Wi hx hb hlocks hr rfl hI (congrArg (fun z => z.1) (Option.some.inj hq)) (congrArg (fun z => z.2) (Option.some.inj hq)) dX8_lengthAt_19

abbrev rm_X8_stickCount : Room := { frames := 5, cells := 0, slots := 0, locals := 185 }
theorem k_X8_stickCount : g_CV yX8_stickCount cX8_stickCount 3 (some .int) 2 := ⟨⟨m_1731, m_14, by decide +kernel⟩, m_1729, m_1730⟩
set_option maxHeartbeats 4000000 in
set_option maxRecDepth 100000 in
theorem c_X8_stickCount (l : Launch) (V : Nat → Nat) (g : GH) (D : va_G) (cT : Nat → ClassId) (f : GH) (n : Nat) (a0 : Nat) (a1 : Int32) (a2 : Int32) (o : Int32 × GH) (hq : p_X8_stickCount V g f a0 a1 a2 = some o) : Met l yX8_stickCount (Cond.code yX8_stickCount cX8_stickCount 3 (some .int) :: g_B) rm_X8_stickCount (va_Pc [.ref a0, .int a1, .int a2] (g_I V g D cT f n)) (g_Wi V D cT o.1 o.2 n) 0 0 (g_A V) := by
  refine g_begin (own := RX8) [.ref a0, .int a1, .int a2] [(0, .ref a0), (1, .int a1), (2, .int a2)] (g_A V) (fun _ h => h) (by decide) rfl (Nat.le_of_ble_eq_true rfl) rfl ?_
  intro p e s m args below meth c hx hb hr hlocks hin hC hI ls hl
  obtain ⟨hx, hb, hml, hown, hB⟩ := id hC
  obtain ⟨H, hH⟩ : ∃ H, H = s.heap := ⟨_, rfl⟩
  obtain ⟨locs, hlocs⟩ : ∃ L : List Loc, L = [] := ⟨_, rfl⟩
  rw [← hH, ← hlocs] at hI ⊢
  clear hH hlocs
  unfold p_X8_stickCount at hq
  replace hq := (h_me_eq hq).2
  refine lv_aload_n hx hb dX8_stickCount_0 rfl (lv_at hl 0 rfl) ?_
  refine lv_iload_n hx hb dX8_stickCount_1 rfl (lv_at hl 1 rfl) ?_
  refine lv_iload_n hx hb dX8_stickCount_2 rfl (lv_at hl 2 rfl) ?_
  obtain ⟨v1, ev1, hq⟩ := b_s hq
  refine gw_i (g_runV (As := [.int a1, .int a2]) (rest := []) (ci := 10) hC (c_X8_lacksLevel l V g D cT f n a0 a1 a2 v1 ev1) k_X8_lacksLevel m_1701 rfl rfl ⟨Nat.le_of_ble_eq_true rfl, Nat.le_of_ble_eq_true rfl⟩ hI rfl rfl (h_me_eq ev1).1 rfl hl.1 rfl (Nat.le_of_ble_eq_true rfl) dX8_stickCount_3 ⟨by decide, by decide⟩) hI (fun H locs hI => ?_)
  refine lv_if_eq (tgt := 13) hx hb dX8_stickCount_6 (by decide) (fun c2 => ?_) (fun c2 => ?_)
  · replace hq := i_t c2 hq
    refine lv_aload_n hx hb dX8_stickCount_13 rfl (lv_at hl 0 rfl) ?_
    refine lv_iload_n hx hb dX8_stickCount_14 rfl (lv_at hl 1 rfl) ?_
    refine lv_iload_n hx hb dX8_stickCount_15 rfl (lv_at hl 2 rfl) ?_
    obtain ⟨v3, ev3, hq⟩ := b_s hq
    refine gr_i (g_runV (As := [.int a1, .int a2]) (rest := []) (ci := 10) hC (c_X8_sticks l V g D cT v1.2 n a0 a1 a2 v3 ev3) k_X8_sticks m_1716 rfl rfl ⟨Nat.le_of_ble_eq_true rfl, Nat.le_of_ble_eq_true rfl⟩ hI rfl rfl (h_me_eq ev3).1 rfl hl.1 rfl (Nat.le_of_ble_eq_true rfl) dX8_stickCount_16 ⟨by decide, by decide⟩) hI (fun H locs hI => ?_)
    exact ge_Wi hx hb hlocks hr rfl hI (congrArg (fun z => z.1) (Option.some.inj hq)) (congrArg (fun z => z.2) (Option.some.inj hq)) dX8_stickCount_19
  · replace hq := i_f c2 hq
    refine lv_iconst (v := (0 : Int32)) hx hb dX8_stickCount_9 (by decide) ?_
    refine lv_goto (tgt := 19) hx hb dX8_stickCount_10 (by decide) ?_
    exact ge_Wi hx hb hlocks hr rfl hI (congrArg (fun z => z.1) (Option.some.inj hq)) (congrArg (fun z => z.2) (Option.some.inj hq)) dX8_stickCount_19

abbrev rm_X8_stickStart : Room := { frames := 6, cells := 0, slots := 0, locals := 208 }
theorem k_X8_stickStart : g_CV yX8_stickStart cX8_stickStart 4 (some .int) 3 := ⟨⟨m_1735, m_14, by decide +kernel⟩, m_1733, m_1734⟩
set_option maxHeartbeats 4000000 in
set_option maxRecDepth 100000 in
theorem c_X8_stickStart (l : Launch) (V : Nat → Nat) (g : GH) (D : va_G) (cT : Nat → ClassId) (f : GH) (n : Nat) (a0 : Nat) (a1 : Int32) (a2 : Int32) (a3 : Int32) (o : Int32 × GH) (hq : p_X8_stickStart V g f a0 a1 a2 a3 = some o) : Met l yX8_stickStart (Cond.code yX8_stickStart cX8_stickStart 4 (some .int) :: g_B) rm_X8_stickStart (va_Pc [.ref a0, .int a1, .int a2, .int a3] (g_I V g D cT f n)) (g_Wi V D cT o.1 o.2 n) 0 0 (g_A V) := by
  refine g_begin (own := RX8) [.ref a0, .int a1, .int a2, .int a3] [(0, .ref a0), (1, .int a1), (2, .int a2), (3, .int a3)] (g_A V) (fun _ h => h) (by decide) rfl (Nat.le_of_ble_eq_true rfl) rfl ?_
  intro p e s m args below meth c hx hb hr hlocks hin hC hI ls hl
  obtain ⟨hx, hb, hml, hown, hB⟩ := id hC
  obtain ⟨H, hH⟩ : ∃ H, H = s.heap := ⟨_, rfl⟩
  obtain ⟨locs, hlocs⟩ : ∃ L : List Loc, L = [] := ⟨_, rfl⟩
  rw [← hH, ← hlocs] at hI ⊢
  clear hH hlocs
  unfold p_X8_stickStart at hq
  replace hq := (h_me_eq hq).2
  refine lv_aload_n hx hb dX8_stickStart_0 rfl (lv_at hl 0 rfl) ?_
  refine lv_iload_n hx hb dX8_stickStart_1 rfl (lv_at hl 1 rfl) ?_
  refine lv_iload_n hx hb dX8_stickStart_2 rfl (lv_at hl 2 rfl) ?_
  refine lv_iload_n hx hb dX8_stickStart_3 rfl (lv_at hl 3 rfl) ?_
  obtain ⟨v1, ev1, hq⟩ := b_s hq
  refine gw_i (g_runV (As := [.int a1, .int a2, .int a3]) (rest := []) (ci := 10) hC (c_X8_lacksStick l V g D cT f n a0 a1 a2 a3 v1 ev1) k_X8_lacksStick m_1736 rfl rfl ⟨Nat.le_of_ble_eq_true rfl, Nat.le_of_ble_eq_true rfl⟩ hI rfl rfl (h_me_eq ev1).1 rfl hl.1 rfl (Nat.le_of_ble_eq_true rfl) dX8_stickStart_4 ⟨by decide, by decide⟩) hI (fun H locs hI => ?_)
  refine lv_if_eq (tgt := 14) hx hb dX8_stickStart_7 (by decide) (fun c2 => ?_) (fun c2 => ?_)
  · replace hq := i_t c2 hq
    refine lv_iload_n hx hb dX8_stickStart_14 rfl (lv_at hl 3 rfl) ?_
    refine lv_iload_n hx hb dX8_stickStart_15 rfl (lv_at hl 2 rfl) ?_
    refine lv_ishl hx hb dX8_stickStart_16 ?_
    exact ge_Wi hx hb hlocks hr rfl hI (congrArg (fun z => z.1) (Option.some.inj hq)) (congrArg (fun z => z.2) (Option.some.inj hq)) dX8_stickStart_17
  · replace hq := i_f c2 hq
    refine lv_iconst (v := (0 : Int32)) hx hb dX8_stickStart_10 (by decide) ?_
    refine lv_goto (tgt := 17) hx hb dX8_stickStart_11 (by decide) ?_
    exact ge_Wi hx hb hlocks hr rfl hI (congrArg (fun z => z.1) (Option.some.inj hq)) (congrArg (fun z => z.2) (Option.some.inj hq)) dX8_stickStart_17

abbrev rm_X8_stickLength : Room := { frames := 6, cells := 0, slots := 0, locals := 212 }
theorem k_X8_stickLength : g_CV yX8_stickLength cX8_stickLength 4 (some .int) 3 := ⟨⟨m_1743, m_14, by decide +kernel⟩, m_1741, m_1742⟩
set_option maxHeartbeats 4000000 in
set_option maxRecDepth 100000 in
theorem c_X8_stickLength (l : Launch) (V : Nat → Nat) (g : GH) (D : va_G) (cT : Nat → ClassId) (f : GH) (n : Nat) (a0 : Nat) (a1 : Int32) (a2 : Int32) (a3 : Int32) (o : Int32 × GH) (hq : p_X8_stickLength V g f a0 a1 a2 a3 = some o) : Met l yX8_stickLength (Cond.code yX8_stickLength cX8_stickLength 4 (some .int) :: g_B) rm_X8_stickLength (va_Pc [.ref a0, .int a1, .int a2, .int a3] (g_I V g D cT f n)) (g_Wi V D cT o.1 o.2 n) 0 0 (g_A V) := by
  refine g_begin (own := RX8) [.ref a0, .int a1, .int a2, .int a3] [(0, .ref a0), (1, .int a1), (2, .int a2), (3, .int a3)] (g_A V) (fun _ h => h) (by decide) rfl (Nat.le_of_ble_eq_true rfl) rfl ?_
  intro p e s m args below meth c hx hb hr hlocks hin hC hI ls hl
  obtain ⟨hx, hb, hml, hown, hB⟩ := id hC
  obtain ⟨H, hH⟩ : ∃ H, H = s.heap := ⟨_, rfl⟩
  obtain ⟨locs, hlocs⟩ : ∃ L : List Loc, L = [] := ⟨_, rfl⟩
  rw [← hH, ← hlocs] at hI ⊢
  clear hH hlocs
  unfold p_X8_stickLength at hq
  replace hq := (h_me_eq hq).2
  refine lv_aload_n hx hb dX8_stickLength_0 rfl (lv_at hl 0 rfl) ?_
  refine lv_iload_n hx hb dX8_stickLength_1 rfl (lv_at hl 1 rfl) ?_
  refine lv_iload_n hx hb dX8_stickLength_2 rfl (lv_at hl 2 rfl) ?_
  refine lv_iload_n hx hb dX8_stickLength_3 rfl (lv_at hl 3 rfl) ?_
  obtain ⟨v1, ev1, hq⟩ := b_s hq
  refine gw_i (g_runV (As := [.int a1, .int a2, .int a3]) (rest := []) (ci := 10) hC (c_X8_lacksStick l V g D cT f n a0 a1 a2 a3 v1 ev1) k_X8_lacksStick m_1736 rfl rfl ⟨Nat.le_of_ble_eq_true rfl, Nat.le_of_ble_eq_true rfl⟩ hI rfl rfl (h_me_eq ev1).1 rfl hl.1 rfl (Nat.le_of_ble_eq_true rfl) dX8_stickLength_4 ⟨by decide, by decide⟩) hI (fun H locs hI => ?_)
  refine lv_if_eq (tgt := 14) hx hb dX8_stickLength_7 (by decide) (fun c2 => ?_) (fun c2 => ?_)
  · replace hq := i_t c2 hq
    refine lv_aload_n hx hb dX8_stickLength_14 rfl (lv_at hl 0 rfl) ?_
    refine lv_iload_n hx hb dX8_stickLength_15 rfl (lv_at hl 1 rfl) ?_
    refine lv_iload_n hx hb dX8_stickLength_16 rfl (lv_at hl 2 rfl) ?_
    refine lv_iload_n hx hb dX8_stickLength_17 rfl (lv_at hl 3 rfl) ?_
    refine lv_aload_n hx hb dX8_stickLength_18 rfl (lv_at hl 0 rfl) ?_
    obtain ⟨v3, ev3, hq⟩ := b_s hq
    refine gr_i (g_runV (As := []) (rest := [.int a3, .int a2, .int a1, .ref a0]) (ci := 10) hC (c_X8_isKing l V g D cT v1.2 n a0 v3 ev3) k_X8_isKing m_1622 rfl rfl ⟨Nat.le_of_ble_eq_true rfl, Nat.le_of_ble_eq_true rfl⟩ hI rfl rfl (h_me_eq ev3).1 rfl hl.1 rfl (Nat.le_of_ble_eq_true rfl) dX8_stickLength_19 ⟨by decide, by decide⟩) hI (fun H locs hI => ?_)
    obtain ⟨v4, ev4, hq⟩ := b_s hq
    refine gr_i (g_runV (As := [.int a1, .int a2, .int a3, .int v3]) (rest := []) (ci := 10) hC (c_X8_lengthOf l V g D cT v1.2 n a0 a1 a2 a3 v3 v4 ev4) k_X8_lengthOf m_1720 rfl rfl ⟨Nat.le_of_ble_eq_true rfl, Nat.le_of_ble_eq_true rfl⟩ hI rfl rfl (h_me_eq ev4).1 rfl hl.1 rfl (Nat.le_of_ble_eq_true rfl) dX8_stickLength_22 ⟨by decide, by decide⟩) hI (fun H locs hI => ?_)
    exact ge_Wi hx hb hlocks hr rfl hI (congrArg (fun z => z.1) (Option.some.inj hq)) (congrArg (fun z => z.2) (Option.some.inj hq)) dX8_stickLength_25
  · replace hq := i_f c2 hq
    refine lv_iconst (v := (0 : Int32)) hx hb dX8_stickLength_10 (by decide) ?_
    refine lv_goto (tgt := 25) hx hb dX8_stickLength_11 (by decide) ?_
    exact ge_Wi hx hb hlocks hr rfl hI (congrArg (fun z => z.1) (Option.some.inj hq)) (congrArg (fun z => z.2) (Option.some.inj hq)) dX8_stickLength_25


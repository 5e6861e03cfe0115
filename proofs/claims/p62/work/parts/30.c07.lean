abbrev rm_X7_lengthInOtherMetric : Room := { frames := 9, cells := 2, slots := 12, locals := 238 }
theorem k_X7_lengthInOtherMetric : g_CV yX7_lengthInOtherMetric cX7_lengthInOtherMetric 4 (some .int) 2 := ⟨⟨m_726, m_1, by decide +kernel⟩, m_724, m_725⟩
set_option maxHeartbeats 4000000 in
set_option maxRecDepth 100000 in
theorem c_X7_lengthInOtherMetric (l : Launch) (hl0 : l.stackTraces = false) (V : Nat → Nat) (g : GH) (D : va_G) (cT : Nat → ClassId) (f : GH) (n : Nat) (a0 : Nat) (a1 : Int32) (a2 : Int32) (o : Nat ⊕ Int32) (hq : p_X7_lengthInOtherMetric V g f a0 a1 a2 = some o) : vx_Met l yX7_lengthInOtherMetric (Cond.code yX7_lengthInOtherMetric cX7_lengthInOtherMetric 4 (some .int) :: g_B) rm_X7_lengthInOtherMetric (va_Pc [.ref a0, .int a1, .int a2] (g_I V g D cT f n)) (g_Xi o n) (g_XX V D cT f o) 2 12 g_no := by
  refine g_beginX (own := RX7) [.ref a0, .int a1, .int a2] [(0, .ref a0), (1, .int a1), (2, .int a2)] g_no (fun _ h => h.elim) (by decide) rfl (Nat.le_of_ble_eq_true rfl) rfl ?_
  intro p e s m args below meth c hx hb hr hlocks ht0 hC hI ls hl
  obtain ⟨hx, hb, hml, hown, hB⟩ := id hC
  obtain ⟨H, hH⟩ : ∃ H, H = s.heap := ⟨_, rfl⟩
  obtain ⟨locs, hlocs⟩ : ∃ L : List Loc, L = [] := ⟨_, rfl⟩
  rw [← hH, ← hlocs] at hI ⊢
  clear hH hlocs
  unfold p_X7_lengthInOtherMetric at hq
  replace hq := (h_me_eq hq).2
  refine lv_aload_n hx hb dX7_lengthInOtherMetric_0 rfl (lv_at hl 0 rfl) ?_
  refine lv_iload_n hx hb dX7_lengthInOtherMetric_1 rfl (lv_at hl 1 rfl) ?_
  rcases x_b_eq hq with ⟨v1, ev1, hq⟩ | ⟨v1, ev1, hq⟩
  · exact gt_RR hlocks ht0 (g_runVX (As := [.int a1]) (rest := []) (ci := 9) hC (c_X7_coastAt l hl0 V g D cT f n a0 a1 (.inl v1) ev1) k_X7_coastAt m_577 rfl rfl ⟨Nat.le_of_ble_eq_true rfl, Nat.le_of_ble_eq_true rfl⟩ hI rfl rfl (h_me_eq ev1).1 rfl hl.1 rfl (Nat.le_of_ble_eq_true rfl) dX7_lengthInOtherMetric_2 ⟨by decide, by decide⟩) no_r hI hq (by decide) (by decide)
  · refine gx_r (g_runVX (As := [.int a1]) (rest := []) (ci := 9) hC (c_X7_coastAt l hl0 V g D cT f n a0 a1 (.inr v1) ev1) k_X7_coastAt m_577 rfl rfl ⟨Nat.le_of_ble_eq_true rfl, Nat.le_of_ble_eq_true rfl⟩ hI rfl rfl (h_me_eq ev1).1 rfl hl.1 rfl (Nat.le_of_ble_eq_true rfl) dX7_lengthInOtherMetric_2 ⟨by decide, by decide⟩) hI (fun H locs hI => ?_)
    refine lv_astore_n (lv' := [(3, .ref v1), (0, .ref a0), (1, .int a1), (2, .int a2)]) hx hb dX7_lengthInOtherMetric_5 rfl hl (by decide) rfl (fun ls hl => ?_)
    refine lv_iload_n hx hb dX7_lengthInOtherMetric_6 rfl (lv_at hl 3 rfl) ?_
    refine lv_iconst (v := (0 : Int32)) hx hb dX7_lengthInOtherMetric_7 (by decide) ?_
    refine lv_bipush (v := (7 : Int32)) hx hb dX7_lengthInOtherMetric_8 (by decide) ?_
    rcases x_b_eq hq with ⟨v2, ev2, hq⟩ | ⟨v2, ev2, hq⟩
    · exact gt_RR hlocks ht0 (g_runSX (As := [.int a2, .int (0 : Int32), .int (7 : Int32)]) (rest := []) hC (c_X7_requireWithin l hl0 V g D cT f n a2 (0 : Int32) (7 : Int32) (.inl v2) ev2) k_X7_requireWithin m_301 rfl rfl ⟨Nat.le_of_ble_eq_true rfl, Nat.le_of_ble_eq_true rfl⟩ hI rfl hl.1 rfl (Nat.le_of_ble_eq_true rfl) dX7_lengthInOtherMetric_10 ⟨by decide, by decide⟩) no_v hI hq (by decide) (by decide)
    · refine gx_v (g_runSX (As := [.int a2, .int (0 : Int32), .int (7 : Int32)]) (rest := []) hC (c_X7_requireWithin l hl0 V g D cT f n a2 (0 : Int32) (7 : Int32) (.inr v2) ev2) k_X7_requireWithin m_301 rfl rfl ⟨Nat.le_of_ble_eq_true rfl, Nat.le_of_ble_eq_true rfl⟩ hI rfl hl.1 rfl (Nat.le_of_ble_eq_true rfl) dX7_lengthInOtherMetric_10 ⟨by decide, by decide⟩) hI (fun H locs hI => ?_)
      refine lv_aload_n hx hb dX7_lengthInOtherMetric_13 rfl (lv_at hl 0 rfl) ?_
      refine lv_iload_n hx hb dX7_lengthInOtherMetric_14 rfl (lv_at hl 3 rfl) ?_
      refine lv_aload_n hx hb dX7_lengthInOtherMetric_15 rfl (lv_at hl 1 rfl) ?_
      obtain ⟨v3, ev3, hq⟩ := b_s hq
      refine fa_gr (own := RX7) (ref := "CoastlineRuler") (k := 0) hx hb hB inB_RX7 hown hI rfl (by decide) m_253 (fun _ h9 => h9) ev3 dX7_lengthInOtherMetric_16 ?_
      obtain ⟨v4, ev4, hq⟩ := b_s hq
      refine fa_gi (own := RX7) (ref := "CoastlineRuler$Chart") (k := 2) hx hb hB inB_RX1 hown hI rfl (by decide) m_80 (fun _ h9 => h9) ev4 dX7_lengthInOtherMetric_19 ?_
      refine lv_if_ne (tgt := 29) hx hb dX7_lengthInOtherMetric_22 (by decide) (fun c5 => ?_) (fun c5 => ?_)
      · replace hq := i_f c5 hq
        refine lv_iconst (v := (0 : Int32)) hx hb dX7_lengthInOtherMetric_29 (by decide) ?_
        obtain ⟨v6, ev6, hq⟩ := b_s hq
        refine gr_i (g_runV (As := [.int a2, .int (0 : Int32)]) (rest := []) (ci := 5) hC (c_X2_measure l V g D cT f n v1 a2 (0 : Int32) v6 ev6) k_X2_measure m_695 rfl rfl ⟨Nat.le_of_ble_eq_true rfl, Nat.le_of_ble_eq_true rfl⟩ hI rfl rfl (h_me_eq ev6).1 rfl hl.1 rfl (Nat.le_of_ble_eq_true rfl) dX7_lengthInOtherMetric_30 ⟨by decide, by decide⟩) hI (fun H locs hI => ?_)
        exact ge_Xi hx hb hlocks hr rfl hI hq dX7_lengthInOtherMetric_33
      · replace hq := i_t c5 hq
        refine lv_iconst (v := (1 : Int32)) hx hb dX7_lengthInOtherMetric_25 (by decide) ?_
        refine lv_goto (tgt := 30) hx hb dX7_lengthInOtherMetric_26 (by decide) ?_
        obtain ⟨v7, ev7, hq⟩ := b_s hq
        refine gr_i (g_runV (As := [.int a2, .int (1 : Int32)]) (rest := []) (ci := 5) hC (c_X2_measure l V g D cT f n v1 a2 (1 : Int32) v7 ev7) k_X2_measure m_695 rfl rfl ⟨Nat.le_of_ble_eq_true rfl, Nat.le_of_ble_eq_true rfl⟩ hI rfl rfl (h_me_eq ev7).1 rfl hl.1 rfl (Nat.le_of_ble_eq_true rfl) dX7_lengthInOtherMetric_30 ⟨by decide, by decide⟩) hI (fun H locs hI => ?_)
        exact ge_Xi hx hb hlocks hr rfl hI hq dX7_lengthInOtherMetric_33

abbrev rm_X7_loadedPoints : Room := { frames := 2, cells := 0, slots := 0, locals := 120 }
theorem k_X7_loadedPoints : g_CV yX7_loadedPoints cX7_loadedPoints 1 (some .int) 0 := ⟨⟨m_608, m_1, by decide +kernel⟩, m_606, m_607⟩
set_option maxHeartbeats 4000000 in
set_option maxRecDepth 100000 in
theorem c_X7_loadedPoints (l : Launch) (V : Nat → Nat) (g : GH) (D : va_G) (cT : Nat → ClassId) (f : GH) (n : Nat) (a0 : Nat) (o : Int32) (hq : p_X7_loadedPoints V g f a0 = some o) : Met l yX7_loadedPoints (Cond.code yX7_loadedPoints cX7_loadedPoints 1 (some .int) :: g_B) rm_X7_loadedPoints (va_Pc [.ref a0] (g_I V g D cT f n)) (g_Ri o n) 0 0 g_no := by
  refine g_begin (own := RX7) [.ref a0] [(0, .ref a0)] g_no (fun _ h => h.elim) (by decide) rfl (Nat.le_of_ble_eq_true rfl) rfl ?_
  intro p e s m args below meth c hx hb hr hlocks hin hC hI ls hl
  obtain ⟨hx, hb, hml, hown, hB⟩ := id hC
  obtain ⟨H, hH⟩ : ∃ H, H = s.heap := ⟨_, rfl⟩
  obtain ⟨locs, hlocs⟩ : ∃ L : List Loc, L = [] := ⟨_, rfl⟩
  rw [← hH, ← hlocs] at hI ⊢
  clear hH hlocs
  unfold p_X7_loadedPoints at hq
  replace hq := (h_me_eq hq).2
  refine lv_aload_n hx hb dX7_loadedPoints_0 rfl (lv_at hl 0 rfl) ?_
  obtain ⟨v1, ev1, hq⟩ := b_s hq
  refine fa_gr (own := RX7) (ref := "CoastlineRuler") (k := 0) hx hb hB inB_RX7 hown hI rfl (by decide) m_253 (fun _ h9 => h9) ev1 dX7_loadedPoints_1 ?_
  obtain ⟨v2, ev2, hq⟩ := b_s hq
  refine fa_gi (own := RX7) (ref := "CoastlineRuler$Chart") (k := 3) hx hb hB inB_RX1 hown hI rfl (by decide) m_82 (fun _ h9 => h9) ev2 dX7_loadedPoints_4 ?_
  exact ge_Ri hx hb hlocks hr rfl hI hq dX7_loadedPoints_7

abbrev rm_X7_addedPoints : Room := { frames := 2, cells := 0, slots := 0, locals := 120 }
theorem k_X7_addedPoints : g_CV yX7_addedPoints cX7_addedPoints 1 (some .int) 0 := ⟨⟨m_510, m_1, by decide +kernel⟩, m_508, m_509⟩
set_option maxHeartbeats 4000000 in
set_option maxRecDepth 100000 in
theorem c_X7_addedPoints (l : Launch) (V : Nat → Nat) (g : GH) (D : va_G) (cT : Nat → ClassId) (f : GH) (n : Nat) (a0 : Nat) (o : Int32) (hq : p_X7_addedPoints V g f a0 = some o) : Met l yX7_addedPoints (Cond.code yX7_addedPoints cX7_addedPoints 1 (some .int) :: g_B) rm_X7_addedPoints (va_Pc [.ref a0] (g_I V g D cT f n)) (g_Ri o n) 0 0 g_no := by
  refine g_begin (own := RX7) [.ref a0] [(0, .ref a0)] g_no (fun _ h => h.elim) (by decide) rfl (Nat.le_of_ble_eq_true rfl) rfl ?_
  intro p e s m args below meth c hx hb hr hlocks hin hC hI ls hl
  obtain ⟨hx, hb, hml, hown, hB⟩ := id hC
  obtain ⟨H, hH⟩ : ∃ H, H = s.heap := ⟨_, rfl⟩
  obtain ⟨locs, hlocs⟩ : ∃ L : List Loc, L = [] := ⟨_, rfl⟩
  rw [← hH, ← hlocs] at hI ⊢
  clear hH hlocs
  unfold p_X7_addedPoints at hq
  replace hq := (h_me_eq hq).2
  refine lv_aload_n hx hb dX7_addedPoints_0 rfl (lv_at hl 0 rfl) ?_
  obtain ⟨v1, ev1, hq⟩ := b_s hq
  refine fa_gr (own := RX7) (ref := "CoastlineRuler") (k := 0) hx hb hB inB_RX7 hown hI rfl (by decide) m_253 (fun _ h9 => h9) ev1 dX7_addedPoints_1 ?_
  obtain ⟨v2, ev2, hq⟩ := b_s hq
  refine fa_gi (own := RX7) (ref := "CoastlineRuler$Chart") (k := 4) hx hb hB inB_RX1 hown hI rfl (by decide) m_84 (fun _ h9 => h9) ev2 dX7_addedPoints_4 ?_
  exact ge_Ri hx hb hlocks hr rfl hI hq dX7_addedPoints_7

abbrev rm_X7_removedPoints : Room := { frames := 2, cells := 0, slots := 0, locals := 120 }
theorem k_X7_removedPoints : g_CV yX7_removedPoints cX7_removedPoints 1 (some .int) 0 := ⟨⟨m_612, m_1, by decide +kernel⟩, m_610, m_611⟩
set_option maxHeartbeats 4000000 in
set_option maxRecDepth 100000 in
theorem c_X7_removedPoints (l : Launch) (V : Nat → Nat) (g : GH) (D : va_G) (cT : Nat → ClassId) (f : GH) (n : Nat) (a0 : Nat) (o : Int32) (hq : p_X7_removedPoints V g f a0 = some o) : Met l yX7_removedPoints (Cond.code yX7_removedPoints cX7_removedPoints 1 (some .int) :: g_B) rm_X7_removedPoints (va_Pc [.ref a0] (g_I V g D cT f n)) (g_Ri o n) 0 0 g_no := by
  refine g_begin (own := RX7) [.ref a0] [(0, .ref a0)] g_no (fun _ h => h.elim) (by decide) rfl (Nat.le_of_ble_eq_true rfl) rfl ?_
  intro p e s m args below meth c hx hb hr hlocks hin hC hI ls hl
  obtain ⟨hx, hb, hml, hown, hB⟩ := id hC
  obtain ⟨H, hH⟩ : ∃ H, H = s.heap := ⟨_, rfl⟩
  obtain ⟨locs, hlocs⟩ : ∃ L : List Loc, L = [] := ⟨_, rfl⟩
  rw [← hH, ← hlocs] at hI ⊢
  clear hH hlocs
  unfold p_X7_removedPoints at hq
  replace hq := (h_me_eq hq).2
  refine lv_aload_n hx hb dX7_removedPoints_0 rfl (lv_at hl 0 rfl) ?_
  obtain ⟨v1, ev1, hq⟩ := b_s hq
  refine fa_gr (own := RX7) (ref := "CoastlineRuler") (k := 0) hx hb hB inB_RX7 hown hI rfl (by decide) m_253 (fun _ h9 => h9) ev1 dX7_removedPoints_1 ?_
  obtain ⟨v2, ev2, hq⟩ := b_s hq
  refine fa_gi (own := RX7) (ref := "CoastlineRuler$Chart") (k := 5) hx hb hB inB_RX1 hown hI rfl (by decide) m_86 (fun _ h9 => h9) ev2 dX7_removedPoints_4 ?_
  exact ge_Ri hx hb hlocks hr rfl hI hq dX7_removedPoints_7

abbrev rm_X7_ledgerGap : Room := { frames := 3, cells := 0, slots := 0, locals := 142 }
theorem k_X7_ledgerGap : g_CV yX7_ledgerGap cX7_ledgerGap 1 (some .int) 0 := ⟨⟨m_846, m_1, by decide +kernel⟩, m_844, m_845⟩
set_option maxHeartbeats 4000000 in
set_option maxRecDepth 100000 in
theorem c_X7_ledgerGap (l : Launch) (V : Nat → Nat) (g : GH) (D : va_G) (cT : Nat → ClassId) (f : GH) (n : Nat) (a0 : Nat) (o : Int32) (hq : p_X7_ledgerGap V g f a0 = some o) : Met l yX7_ledgerGap (Cond.code yX7_ledgerGap cX7_ledgerGap 1 (some .int) :: g_B) rm_X7_ledgerGap (va_Pc [.ref a0] (g_I V g D cT f n)) (g_Ri o n) 0 0 g_no := by
  refine g_begin (own := RX7) [.ref a0] [(0, .ref a0)] g_no (fun _ h => h.elim) (by decide) rfl (Nat.le_of_ble_eq_true rfl) rfl ?_
  intro p e s m args below meth c hx hb hr hlocks hin hC hI ls hl
  obtain ⟨hx, hb, hml, hown, hB⟩ := id hC
  obtain ⟨H, hH⟩ : ∃ H, H = s.heap := ⟨_, rfl⟩
  obtain ⟨locs, hlocs⟩ : ∃ L : List Loc, L = [] := ⟨_, rfl⟩
  rw [← hH, ← hlocs] at hI ⊢
  clear hH hlocs
  unfold p_X7_ledgerGap at hq
  replace hq := (h_me_eq hq).2
  refine lv_aload_n hx hb dX7_ledgerGap_0 rfl (lv_at hl 0 rfl) ?_
  obtain ⟨v1, ev1, hq⟩ := b_s hq
  refine fa_gr (own := RX7) (ref := "CoastlineRuler") (k := 0) hx hb hB inB_RX7 hown hI rfl (by decide) m_253 (fun _ h9 => h9) ev1 dX7_ledgerGap_1 ?_
  obtain ⟨v2, ev2, hq⟩ := b_s hq
  refine fa_gi (own := RX7) (ref := "CoastlineRuler$Chart") (k := 3) hx hb hB inB_RX1 hown hI rfl (by decide) m_82 (fun _ h9 => h9) ev2 dX7_ledgerGap_4 ?_
  refine lv_aload_n hx hb dX7_ledgerGap_7 rfl (lv_at hl 0 rfl) ?_
  obtain ⟨v3, ev3, hq⟩ := b_s hq
  refine fa_gr (own := RX7) (ref := "CoastlineRuler") (k := 0) hx hb hB inB_RX7 hown hI rfl (by decide) m_253 (fun _ h9 => h9) ev3 dX7_ledgerGap_8 ?_
  obtain ⟨v4, ev4, hq⟩ := b_s hq
  refine fa_gi (own := RX7) (ref := "CoastlineRuler$Chart") (k := 4) hx hb hB inB_RX1 hown hI rfl (by decide) m_84 (fun _ h9 => h9) ev4 dX7_ledgerGap_11 ?_
  refine lv_iadd hx hb dX7_ledgerGap_14 ?_
  refine lv_aload_n hx hb dX7_ledgerGap_15 rfl (lv_at hl 0 rfl) ?_
  obtain ⟨v5, ev5, hq⟩ := b_s hq
  refine fa_gr (own := RX7) (ref := "CoastlineRuler") (k := 0) hx hb hB inB_RX7 hown hI rfl (by decide) m_253 (fun _ h9 => h9) ev5 dX7_ledgerGap_16 ?_
  obtain ⟨v6, ev6, hq⟩ := b_s hq
  refine fa_gi (own := RX7) (ref := "CoastlineRuler$Chart") (k := 5) hx hb hB inB_RX1 hown hI rfl (by decide) m_86 (fun _ h9 => h9) ev6 dX7_ledgerGap_19 ?_
  refine lv_isub hx hb dX7_ledgerGap_22 ?_
  refine lv_aload_n hx hb dX7_ledgerGap_23 rfl (lv_at hl 0 rfl) ?_
  obtain ⟨v7, ev7, hq⟩ := b_s hq
  refine fa_gr (own := RX7) (ref := "CoastlineRuler") (k := 0) hx hb hB inB_RX7 hown hI rfl (by decide) m_253 (fun _ h9 => h9) ev7 dX7_ledgerGap_24 ?_
  obtain ⟨v8, ev8, hq⟩ := b_s hq
  refine gr_i (g_runV (As := []) (rest := [.int ((v2 + v4) - v6)]) (ci := 4) hC (c_X1_pointTotal l V g D cT f n v7 v8 ev8) k_X1_pointTotal m_847 rfl rfl ⟨Nat.le_of_ble_eq_true rfl, Nat.le_of_ble_eq_true rfl⟩ hI rfl rfl (h_me_eq ev8).1 rfl hl.1 rfl (Nat.le_of_ble_eq_true rfl) dX7_ledgerGap_27 ⟨by decide, by decide⟩) hI (fun H locs hI => ?_)
  refine lv_isub hx hb dX7_ledgerGap_30 ?_
  obtain ⟨v9, ev9, hq⟩ := b_s hq
  refine g_abs hx hb (hml.trans hl.1.symm) hown (hB _ m_777) (hB _ m_669) (hB _ m_15) (hB _ m_670) (Nat.le_of_ble_eq_true rfl) (Nat.le_of_ble_eq_true rfl) (Nat.le_of_ble_eq_true rfl) (Nat.le_of_ble_eq_true rfl) ev9 dX7_ledgerGap_31 ?_
  exact ge_Ri hx hb hlocks hr rfl hI hq dX7_ledgerGap_34

abbrev rm_X7_refuse : Room := { frames := 8, cells := 1, slots := 6, locals := 120 }
theorem k_X7_refuse : g_CS yX7_refuse cX7_refuse 1 none 1 := ⟨⟨m_937, m_1, by decide +kernel⟩, m_936⟩
set_option maxHeartbeats 4000000 in
set_option maxRecDepth 100000 in
theorem c_X7_refuse (l : Launch) (hl0 : l.stackTraces = false) (V : Nat → Nat) (g : GH) (D : va_G) (cT : Nat → ClassId) (f : GH) (n : Nat) (a0 : Int32) (o : Nat ⊕ Unit) (hq : p_X7_refuse V g f a0 = some o) : vx_Met l yX7_refuse (Cond.code yX7_refuse cX7_refuse 1 none :: g_B) rm_X7_refuse (va_Pc [.int a0] (g_I V g D cT f n)) (g_Xv o n) (g_XX V D cT f o) 1 6 g_no := by
  refine g_beginX (own := RX7) [.int a0] [(0, .int a0)] g_no (fun _ h => h.elim) (by decide) rfl (Nat.le_of_ble_eq_true rfl) rfl ?_
  intro p e s m args below meth c hx hb hr hlocks ht0 hC hI ls hl
  obtain ⟨hx, hb, hml, hown, hB⟩ := id hC
  obtain ⟨H, hH⟩ : ∃ H, H = s.heap := ⟨_, rfl⟩
  obtain ⟨locs, hlocs⟩ : ∃ L : List Loc, L = [] := ⟨_, rfl⟩
  rw [← hH, ← hlocs] at hI ⊢
  clear hH hlocs
  unfold p_X7_refuse at hq
  refine lv_iload_n hx hb dX7_refuse_0 rfl (lv_at hl 0 rfl) ?_
  refine lv_iconst (v := (1 : Int32)) hx hb dX7_refuse_1 (by decide) ?_
  refine lv_icmp_ne (tgt := 16) hx hb dX7_refuse_2 (by decide) (fun c1 => ?_) (fun c1 => ?_)
  · replace hq := i_f c1 hq
    refine lv_iload_n hx hb dX7_refuse_16 rfl (lv_at hl 0 rfl) ?_
    refine lv_iconst (v := (2 : Int32)) hx hb dX7_refuse_17 (by decide) ?_
    refine lv_icmp_ne (tgt := 32) hx hb dX7_refuse_18 (by decide) (fun c2 => ?_) (fun c2 => ?_)
    · replace hq := i_f c2 hq
      refine lv_iload_n hx hb dX7_refuse_32 rfl (lv_at hl 0 rfl) ?_
      refine lv_iconst (v := (3 : Int32)) hx hb dX7_refuse_33 (by decide) ?_
      refine lv_icmp_ne (tgt := 48) hx hb dX7_refuse_34 (by decide) (fun c3 => ?_) (fun c3 => ?_)
      · replace hq := i_f c3 hq
        refine W.widen (k := 1) (n := 6) (by decide) (by decide) ?_
        exact ge_Xv hx hb hlocks hr hI hq dX7_refuse_48
      · replace hq := i_t c3 hq
        exact vx_throwSW (own := RX7) (cls := "java/lang/IllegalStateException") (names := ["java/lang/RuntimeException", "java/lang/Exception"]) hx hb hl0 hown (by decide +kernel) (by decide +kernel) (hB _ m_519) (hB _ m_25) (g_rtq hI rt_12) (g_hat hB hI xat_RX7_330) xgd_RX7_330 (g_uns hI) (g_sup hI) hI.2.2.2.2.2.2.1 (hl.1.trans hml.symm) dX7_refuse_37 dX7_refuse_40 dX7_refuse_41 dX7_refuse_44 dX7_refuse_47 (fun x hx => (ht0 x hx).elim) (by decide) (by decide) (by decide) (by decide) hlocks (g_thrR hI hq) hI.2.2.2.2.2.2.1.2.2 (by decide) (by decide)
    · replace hq := i_t c2 hq
      exact vx_throwSW (own := RX7) (cls := "java/lang/IllegalArgumentException") (names := ["java/lang/RuntimeException", "java/lang/Exception"]) hx hb hl0 hown (by decide +kernel) (by decide +kernel) (hB _ m_304) (hB _ m_23) (g_rtq hI rt_0) (g_hat hB hI xat_RX7_350) xgd_RX7_350 (g_uns hI) (g_sup hI) hI.2.2.2.2.2.2.1 (hl.1.trans hml.symm) dX7_refuse_21 dX7_refuse_24 dX7_refuse_25 dX7_refuse_28 dX7_refuse_31 (fun x hx => (ht0 x hx).elim) (by decide) (by decide) (by decide) (by decide) hlocks (g_thrR hI hq) hI.2.2.2.2.2.2.1.2.2 (by decide) (by decide)
  · replace hq := i_t c1 hq
    exact vx_throwSW (own := RX7) (cls := "java/lang/IndexOutOfBoundsException") (names := ["java/lang/RuntimeException", "java/lang/Exception"]) hx hb hl0 hown (by decide +kernel) (by decide +kernel) (hB _ m_585) (hB _ m_24) (g_rtq hI rt_11) (g_hat hB hI xat_RX7_319) xgd_RX7_319 (g_uns hI) (g_sup hI) hI.2.2.2.2.2.2.1 (hl.1.trans hml.symm) dX7_refuse_5 dX7_refuse_8 dX7_refuse_9 dX7_refuse_12 dX7_refuse_15 (fun x hx => (ht0 x hx).elim) (by decide) (by decide) (by decide) (by decide) hlocks (g_thrR hI hq) hI.2.2.2.2.2.2.1.2.2 (by decide) (by decide)

abbrev rm_X7_rememberChart : Room := { frames := 4, cells := 0, slots := 0, locals := 163 }
theorem k_X7_rememberChart : g_CV yX7_rememberChart cX7_rememberChart 1 none 0 := ⟨⟨m_943, m_1, by decide +kernel⟩, m_942, ms_15⟩
set_option maxHeartbeats 4000000 in
set_option maxRecDepth 100000 in
theorem c_X7_rememberChart (l : Launch) (V : Nat → Nat) (g : GH) (D : va_G) (cT : Nat → ClassId) (f : GH) (n : Nat) (a0 : Nat) (o : GH) (hq : p_X7_rememberChart V g f a0 = some o) : Met l yX7_rememberChart (Cond.code yX7_rememberChart cX7_rememberChart 1 none :: g_B) rm_X7_rememberChart (va_Pc [.ref a0] (g_I V g D cT f n)) (g_Wv V D cT o n) 0 0 (g_A V) := by
  refine g_begin (own := RX7) [.ref a0] [(0, .ref a0)] (g_A V) (fun _ h => h) (by decide) rfl (Nat.le_of_ble_eq_true rfl) rfl ?_
  intro p e s m args below meth c hx hb hr hlocks hin hC hI ls hl
  obtain ⟨hx, hb, hml, hown, hB⟩ := id hC
  obtain ⟨H, hH⟩ : ∃ H, H = s.heap := ⟨_, rfl⟩
  obtain ⟨locs, hlocs⟩ : ∃ L : List Loc, L = [] := ⟨_, rfl⟩
  rw [← hH, ← hlocs] at hI ⊢
  clear hH hlocs
  unfold p_X7_rememberChart at hq
  replace hq := (h_me_eq hq).2
  refine lv_aload_n hx hb dX7_rememberChart_0 rfl (lv_at hl 0 rfl) ?_
  obtain ⟨v1, ev1, hq⟩ := b_s hq
  refine fa_gr (own := RX7) (ref := "CoastlineRuler") (k := 4) hx hb hB inB_RX7 hown hI rfl (by decide) m_257 (fun _ h9 => h9) ev1 dX7_rememberChart_1 ?_
  refine lv_aload_n hx hb dX7_rememberChart_4 rfl (lv_at hl 0 rfl) ?_
  obtain ⟨v2, ev2, hq⟩ := b_s hq
  refine fa_gi (own := RX7) (ref := "CoastlineRuler") (k := 6) hx hb hB inB_RX7 hown hI rfl (by decide) m_259 (fun _ h9 => h9) ev2 dX7_rememberChart_5 ?_
  obtain ⟨v3, ev3, hq⟩ := b_s hq
  refine fa_lq hx hb hI (by decide) rfl ev3 dX7_rememberChart_8 ?_
  refine lv_aload_n hx hb dX7_rememberChart_9 rfl (lv_at hl 0 rfl) ?_
  obtain ⟨v4, ev4, hq⟩ := b_s hq
  refine fa_gr (own := RX7) (ref := "CoastlineRuler") (k := 0) hx hb hB inB_RX7 hown hI rfl (by decide) m_253 (fun _ h9 => h9) ev4 dX7_rememberChart_10 ?_
  obtain ⟨v5, ev5, hq⟩ := b_s hq
  refine gw_v (g_runV (As := [.ref v4]) (rest := []) (ci := 4) hC (c_X1_copyFrom l V g D cT f n v3 v4 v5 ev5) k_X1_copyFrom m_495 rfl rfl ⟨Nat.le_of_ble_eq_true rfl, Nat.le_of_ble_eq_true rfl⟩ hI rfl rfl (h_me_eq ev5).1 rfl hl.1 rfl (Nat.le_of_ble_eq_true rfl) dX7_rememberChart_13 ⟨by decide, by decide⟩) hI (fun H locs hI => ?_)
  refine lv_aload_n hx hb dX7_rememberChart_16 rfl (lv_at hl 0 rfl) ?_
  refine lv_aload_n hx hb dX7_rememberChart_17 rfl (lv_at hl 0 rfl) ?_
  obtain ⟨v6, ev6, hq⟩ := b_s hq
  refine fa_gi (own := RX7) (ref := "CoastlineRuler") (k := 6) hx hb hB inB_RX7 hown hI rfl (by decide) m_259 (fun _ h9 => h9) ev6 dX7_rememberChart_18 ?_
  refine lv_bipush (v := (7 : Int32)) hx hb dX7_rememberChart_21 (by decide) ?_
  have hj36 : ∀ (x0 : Nat) (t0 : Int32) (t1 : Nat) (f : GH) (H : Heap) (locs : List Loc) (ls : Array Slot), g_at (g_A V) V g D cT f n s H locs → lv_has ls 1 [(0, .ref x0)] → p_X7_rememberChart_j36 V g x0 t0 t1 f = some o → W p l e rm_X7_rememberChart s m args below meth c H locs 0 0 (MQ below (g_Wv V D cT o n) args s 0 0 (g_A V)) (F0 m 36 ls [.int t0, .ref t1]) := by
    intro x0 t0 t1 f H locs ls hI hl hq
    unfold p_X7_rememberChart_j36 at hq
    obtain ⟨f7, ef7, hq⟩ := b_s hq
    refine fa_pt (own := RX7) (ref := "CoastlineRuler") (k := 6) hx hb hB inB_RX7 tyX7_ok nmX7 hown hI rfl (by decide) m_259 (fun _ h9 => h9) (by decide) rfl rfl ef7 dX7_rememberChart_36 (fun H locs hI => ?_)
    refine lv_aload_n hx hb dX7_rememberChart_39 rfl (lv_at hl 0 rfl) ?_
    obtain ⟨v8, ev8, hq⟩ := b_s hq
    refine fa_gi (own := RX7) (ref := "CoastlineRuler") (k := 5) hx hb hB inB_RX7 hown hI rfl (by decide) m_258 (fun _ h9 => h9) ev8 dX7_rememberChart_40 ?_
    refine lv_bipush (v := (8 : Int32)) hx hb dX7_rememberChart_43 (by decide) ?_
    refine lv_icmp_ge (tgt := 58) hx hb dX7_rememberChart_45 (by decide) (fun c9 => ?_) (fun c9 => ?_)
    · replace hq := i_t c9 hq
      exact ge_Wv hx hb hlocks hr hI (Option.some.inj hq) dX7_rememberChart_58
    · replace hq := i_f c9 hq
      refine lv_aload_n hx hb dX7_rememberChart_48 rfl (lv_at hl 0 rfl) ?_
      refine lv_dup hx hb dX7_rememberChart_49 rfl ?_
      obtain ⟨v10, ev10, hq⟩ := b_s hq
      refine fa_gi (own := RX7) (ref := "CoastlineRuler") (k := 5) hx hb hB inB_RX7 hown hI rfl (by decide) m_258 (fun _ h9 => h9) ev10 dX7_rememberChart_50 ?_
      refine lv_iconst (v := (1 : Int32)) hx hb dX7_rememberChart_53 (by decide) ?_
      refine lv_iadd hx hb dX7_rememberChart_54 ?_
      obtain ⟨f11, ef11, hq⟩ := b_s hq
      refine fa_pt (own := RX7) (ref := "CoastlineRuler") (k := 5) hx hb hB inB_RX7 tyX7_ok nmX7 hown hI rfl (by decide) m_258 (fun _ h9 => h9) (by decide) rfl rfl ef11 dX7_rememberChart_55 (fun H locs hI => ?_)
      exact ge_Wv hx hb hlocks hr hI (Option.some.inj hq) dX7_rememberChart_58
  refine lv_icmp_ne (tgt := 30) hx hb dX7_rememberChart_23 (by decide) (fun c12 => ?_) (fun c12 => ?_)
  · replace hq := i_f c12 hq
    refine lv_aload_n hx hb dX7_rememberChart_30 rfl (lv_at hl 0 rfl) ?_
    obtain ⟨v13, ev13, hq⟩ := b_s hq
    refine fa_gi (own := RX7) (ref := "CoastlineRuler") (k := 6) hx hb hB inB_RX7 hown hI rfl (by decide) m_259 (fun _ h9 => h9) ev13 dX7_rememberChart_31 ?_
    refine lv_iconst (v := (1 : Int32)) hx hb dX7_rememberChart_34 (by decide) ?_
    refine lv_iadd hx hb dX7_rememberChart_35 ?_
    exact hj36 a0 (v13 + (1 : Int32)) a0 v5 H locs ls hI (lv_sub hl [0] rfl) hq
  · replace hq := i_t c12 hq
    refine lv_iconst (v := (0 : Int32)) hx hb dX7_rememberChart_26 (by decide) ?_
    refine lv_goto (tgt := 36) hx hb dX7_rememberChart_27 (by decide) ?_
    exact hj36 a0 (0 : Int32) a0 v5 H locs ls hI (lv_sub hl [0] rfl) hq

abbrev rm_X7_change : Room := { frames := 9, cells := 1, slots := 6, locals := 257 }
theorem k_X7_change : g_CV yX7_change cX7_change 1 (some .int) 0 := ⟨⟨m_900, m_1, by decide +kernel⟩, m_899, ms_14⟩
set_option maxHeartbeats 4000000 in
set_option maxRecDepth 100000 in
theorem c_X7_change (l : Launch) (hl0 : l.stackTraces = false) (V : Nat → Nat) (g : GH) (D : va_G) (cT : Nat → ClassId) (f : GH) (n : Nat) (a0 : Nat) (o : (Nat × GH) ⊕ (Int32 × GH)) (hq : p_X7_change V g f a0 = some o) : vx_Met l yX7_change (Cond.code yX7_change cX7_change 1 (some .int) :: g_B) rm_X7_change (va_Pc [.ref a0] (g_I V g D cT f n)) (g_Yi V D cT o n) (g_YX V D cT o) 1 6 (g_A V) := by
  refine g_beginX (own := RX7) [.ref a0] [(0, .ref a0)] (g_A V) (fun _ h => h) (by decide) rfl (Nat.le_of_ble_eq_true rfl) rfl ?_
  intro p e s m args below meth c hx hb hr hlocks ht0 hC hI ls hl
  obtain ⟨hx, hb, hml, hown, hB⟩ := id hC
  obtain ⟨H, hH⟩ : ∃ H, H = s.heap := ⟨_, rfl⟩
  obtain ⟨locs, hlocs⟩ : ∃ L : List Loc, L = [] := ⟨_, rfl⟩
  rw [← hH, ← hlocs] at hI ⊢
  clear hH hlocs
  unfold p_X7_change at hq
  replace hq := (h_me_eq hq).2
  refine lv_aload_n hx hb dX7_change_0 rfl (lv_at hl 0 rfl) ?_
  obtain ⟨v1, ev1, hq⟩ := b_s hq
  refine fa_gr (own := RX7) (ref := "CoastlineRuler") (k := 0) hx hb hB inB_RX7 hown hI rfl (by decide) m_253 (fun _ h9 => h9) ev1 dX7_change_1 ?_
  refine lv_aload_n hx hb dX7_change_4 rfl (lv_at hl 0 rfl) ?_
  obtain ⟨v2, ev2, hq⟩ := b_s hq
  refine fa_gr (own := RX7) (ref := "CoastlineRuler") (k := 10) hx hb hB inB_RX7 hown hI rfl (by decide) m_263 (fun _ h9 => h9) ev2 dX7_change_5 ?_
  obtain ⟨v3, ev3, hq⟩ := b_s hq
  refine gr_i (g_runV (As := [.ref v2]) (rest := []) (ci := 4) hC (c_X1_refusalOf l V g D cT f n v1 v2 v3 ev3) k_X1_refusalOf m_901 rfl rfl ⟨Nat.le_of_ble_eq_true rfl, Nat.le_of_ble_eq_true rfl⟩ hI rfl rfl (h_me_eq ev3).1 rfl hl.1 rfl (Nat.le_of_ble_eq_true rfl) dX7_change_8 ⟨by decide, by decide⟩) hI (fun H locs hI => ?_)
  rcases x_b_eq hq with ⟨v4, ev4, hq⟩ | ⟨v4, ev4, hq⟩
  · exact gt_RW hlocks ht0 (g_runSX (As := [.int v3]) (rest := []) hC (c_X7_refuse l hl0 V g D cT f n v3 (.inl v4) ev4) k_X7_refuse m_935 rfl rfl ⟨Nat.le_of_ble_eq_true rfl, Nat.le_of_ble_eq_true rfl⟩ hI rfl hl.1 rfl (Nat.le_of_ble_eq_true rfl) dX7_change_11 ⟨by decide, by decide⟩) no_v hI hq (by decide) (by decide)
  · refine gx_v (g_runSX (As := [.int v3]) (rest := []) hC (c_X7_refuse l hl0 V g D cT f n v3 (.inr v4) ev4) k_X7_refuse m_935 rfl rfl ⟨Nat.le_of_ble_eq_true rfl, Nat.le_of_ble_eq_true rfl⟩ hI rfl hl.1 rfl (Nat.le_of_ble_eq_true rfl) dX7_change_11 ⟨by decide, by decide⟩) hI (fun H locs hI => ?_)
    refine lv_aload_n hx hb dX7_change_14 rfl (lv_at hl 0 rfl) ?_
    obtain ⟨v5, ev5, hq⟩ := b_s hq
    refine gw_v (g_runV (As := []) (rest := []) (ci := 9) hC (c_X7_rememberChart l V g D cT f n a0 v5 ev5) k_X7_rememberChart m_940 rfl rfl ⟨Nat.le_of_ble_eq_true rfl, Nat.le_of_ble_eq_true rfl⟩ hI rfl rfl (h_me_eq ev5).1 rfl hl.1 rfl (Nat.le_of_ble_eq_true rfl) dX7_change_15 ⟨by decide, by decide⟩) hI (fun H locs hI => ?_)
    refine lv_aload_n hx hb dX7_change_18 rfl (lv_at hl 0 rfl) ?_
    obtain ⟨v6, ev6, hq⟩ := b_s hq
    refine fa_gr (own := RX7) (ref := "CoastlineRuler") (k := 0) hx hb hB inB_RX7 hown hI rfl (by decide) m_253 (fun _ h9 => h9) ev6 dX7_change_19 ?_
    refine lv_aload_n hx hb dX7_change_22 rfl (lv_at hl 0 rfl) ?_
    obtain ⟨v7, ev7, hq⟩ := b_s hq
    refine fa_gr (own := RX7) (ref := "CoastlineRuler") (k := 10) hx hb hB inB_RX7 hown hI rfl (by decide) m_263 (fun _ h9 => h9) ev7 dX7_change_23 ?_
    obtain ⟨v8, ev8, hq⟩ := b_s hq
    refine gw_i (g_runV (As := [.ref v7]) (rest := []) (ci := 4) hC (c_X1_apply l V g D cT v5 n v6 v7 v8 ev8) k_X1_apply m_944 rfl rfl ⟨Nat.le_of_ble_eq_true rfl, Nat.le_of_ble_eq_true rfl⟩ hI rfl rfl (h_me_eq ev8).1 rfl hl.1 rfl (Nat.le_of_ble_eq_true rfl) dX7_change_26 ⟨by decide, by decide⟩) hI (fun H locs hI => ?_)
    exact ge_Yi hx hb hlocks hr rfl hI hq dX7_change_29

abbrev rm_X7_addCoast : Room := { frames := 10, cells := 3, slots := 18, locals := 293 }
theorem k_X7_addCoast : g_CV yX7_addCoast cX7_addCoast 3 (some .int) 1 := ⟨⟨m_1183, m_1, by decide +kernel⟩, m_1181, m_1182⟩
set_option maxHeartbeats 4000000 in
set_option maxRecDepth 100000 in
theorem c_X7_addCoast (l : Launch) (hl0 : l.stackTraces = false) (V : Nat → Nat) (g : GH) (D : va_G) (cT : Nat → ClassId) (f : GH) (n : Nat) (a0 : Nat) (a1 : Int32) (o : (Nat × GH) ⊕ (Int32 × GH)) (hq : p_X7_addCoast V g f a0 a1 = some o) : vx_Met l yX7_addCoast (Cond.code yX7_addCoast cX7_addCoast 3 (some .int) :: g_B) rm_X7_addCoast (va_Pc [.ref a0, .int a1] (g_I V g D cT f n)) (g_Yi V D cT o n) (g_YX V D cT o) 3 18 (g_A V) := by
  refine g_beginX (own := RX7) [.ref a0, .int a1] [(0, .ref a0), (1, .int a1)] (g_A V) (fun _ h => h) (by decide) rfl (Nat.le_of_ble_eq_true rfl) rfl ?_
  intro p e s m args below meth c hx hb hr hlocks ht0 hC hI ls hl
  obtain ⟨hx, hb, hml, hown, hB⟩ := id hC
  obtain ⟨H, hH⟩ : ∃ H, H = s.heap := ⟨_, rfl⟩
  obtain ⟨locs, hlocs⟩ : ∃ L : List Loc, L = [] := ⟨_, rfl⟩
  rw [← hH, ← hlocs] at hI ⊢
  clear hH hlocs
  unfold p_X7_addCoast at hq
  replace hq := (h_me_eq hq).2
  refine lv_aload_n hx hb dX7_addCoast_0 rfl (lv_at hl 0 rfl) ?_
  refine lv_iload_n hx hb dX7_addCoast_1 rfl (lv_at hl 1 rfl) ?_
  rcases x_b_eq hq with ⟨v1, ev1, hq⟩ | ⟨v1, ev1, hq⟩
  · exact gt_RW hlocks ht0 (g_runVX (As := [.int a1]) (rest := []) (ci := 9) hC (c_X7_requireText l hl0 V g D cT f n a0 a1 (.inl v1) ev1) k_X7_requireText m_297 rfl rfl ⟨Nat.le_of_ble_eq_true rfl, Nat.le_of_ble_eq_true rfl⟩ hI rfl rfl (h_me_eq ev1).1 rfl hl.1 rfl (Nat.le_of_ble_eq_true rfl) dX7_addCoast_2 ⟨by decide, by decide⟩) no_v hI hq (by decide) (by decide)
  · refine gx_v (g_runVX (As := [.int a1]) (rest := []) (ci := 9) hC (c_X7_requireText l hl0 V g D cT f n a0 a1 (.inr v1) ev1) k_X7_requireText m_297 rfl rfl ⟨Nat.le_of_ble_eq_true rfl, Nat.le_of_ble_eq_true rfl⟩ hI rfl rfl (h_me_eq ev1).1 rfl hl.1 rfl (Nat.le_of_ble_eq_true rfl) dX7_addCoast_2 ⟨by decide, by decide⟩) hI (fun H locs hI => ?_)
    refine lv_aload_n hx hb dX7_addCoast_5 rfl (lv_at hl 0 rfl) ?_
    obtain ⟨v2, ev2, hq⟩ := b_s hq
    refine fa_gr (own := RX7) (ref := "CoastlineRuler") (k := 10) hx hb hB inB_RX7 hown hI rfl (by decide) m_263 (fun _ h9 => h9) ev2 dX7_addCoast_6 ?_
    refine fs_gs (i := 0) hx hb hown hI rfl (hB _ m_1184) (fun _ h9 => h9) dX7_addCoast_9 ?_
    obtain ⟨f3, ef3, hq⟩ := b_s hq
    refine fa_pt (own := RX7) (ref := "CoastlineRuler$Command") (k := 0) hx hb hB inB_RX3 tyX3_ok nmX3 hown hI rfl (by decide) m_166 (fun _ h9 => h9) (by decide) rfl rfl ef3 dX7_addCoast_12 (fun H locs hI => ?_)
    refine lv_aload_n hx hb dX7_addCoast_15 rfl (lv_at hl 0 rfl) ?_
    obtain ⟨v4, ev4, hq⟩ := b_s hq
    refine fa_gr (own := RX7) (ref := "CoastlineRuler") (k := 0) hx hb hB inB_RX7 hown hI rfl (by decide) m_253 (fun _ h9 => h9) ev4 dX7_addCoast_16 ?_
    refine lv_aload_n hx hb dX7_addCoast_19 rfl (lv_at hl 0 rfl) ?_
    obtain ⟨v5, ev5, hq⟩ := b_s hq
    refine fa_gr (own := RX7) (ref := "CoastlineRuler") (k := 10) hx hb hB inB_RX7 hown hI rfl (by decide) m_263 (fun _ h9 => h9) ev5 dX7_addCoast_20 ?_
    obtain ⟨v6, ev6, hq⟩ := b_s hq
    refine gr_i (g_runV (As := [.ref v5]) (rest := []) (ci := 4) hC (c_X1_refusalOf l V g D cT f3 n v4 v5 v6 ev6) k_X1_refusalOf m_901 rfl rfl ⟨Nat.le_of_ble_eq_true rfl, Nat.le_of_ble_eq_true rfl⟩ hI rfl rfl (h_me_eq ev6).1 rfl hl.1 rfl (Nat.le_of_ble_eq_true rfl) dX7_addCoast_23 ⟨by decide, by decide⟩) hI (fun H locs hI => ?_)
    rcases x_b_eq hq with ⟨v7, ev7, hq⟩ | ⟨v7, ev7, hq⟩
    · exact gt_RW hlocks ht0 (g_runSX (As := [.int v6]) (rest := []) hC (c_X7_refuse l hl0 V g D cT f3 n v6 (.inl v7) ev7) k_X7_refuse m_935 rfl rfl ⟨Nat.le_of_ble_eq_true rfl, Nat.le_of_ble_eq_true rfl⟩ hI rfl hl.1 rfl (Nat.le_of_ble_eq_true rfl) dX7_addCoast_26 ⟨by decide, by decide⟩) no_v hI hq (by decide) (by decide)
    · refine gx_v (g_runSX (As := [.int v6]) (rest := []) hC (c_X7_refuse l hl0 V g D cT f3 n v6 (.inr v7) ev7) k_X7_refuse m_935 rfl rfl ⟨Nat.le_of_ble_eq_true rfl, Nat.le_of_ble_eq_true rfl⟩ hI rfl hl.1 rfl (Nat.le_of_ble_eq_true rfl) dX7_addCoast_26 ⟨by decide, by decide⟩) hI (fun H locs hI => ?_)
      refine lv_aload_n hx hb dX7_addCoast_29 rfl (lv_at hl 0 rfl) ?_
      obtain ⟨v8, ev8, hq⟩ := b_s hq
      refine fa_gr (own := RX7) (ref := "CoastlineRuler") (k := 8) hx hb hB inB_RX7 hown hI rfl (by decide) m_261 (fun _ h9 => h9) ev8 dX7_addCoast_30 ?_
      refine lv_iload_n hx hb dX7_addCoast_33 rfl (lv_at hl 1 rfl) ?_
      refine lv_aload_n hx hb dX7_addCoast_34 rfl (lv_at hl 0 rfl) ?_
      obtain ⟨v9, ev9, hq⟩ := b_s hq
      refine fa_gr (own := RX7) (ref := "CoastlineRuler") (k := 10) hx hb hB inB_RX7 hown hI rfl (by decide) m_263 (fun _ h9 => h9) ev9 dX7_addCoast_35 ?_
      obtain ⟨v10, ev10, hq⟩ := b_s hq
      refine fa_gr (own := RX7) (ref := "CoastlineRuler$Command") (k := 6) hx hb hB inB_RX3 hown hI rfl (by decide) m_179 (fun _ h9 => h9) ev10 dX7_addCoast_38 ?_
      obtain ⟨v11, ev11, hq⟩ := b_s hq
      refine gw_i (g_runV (As := [.int a1, .ref v10]) (rest := []) (ci := 7) hC (c_X4_readLoneCoast l V g D cT f3 n v8 a1 v10 v11 ev11) k_X4_readLoneCoast m_1186 rfl rfl ⟨Nat.le_of_ble_eq_true rfl, Nat.le_of_ble_eq_true rfl⟩ hI rfl rfl (h_me_eq ev11).1 rfl hl.1 rfl (Nat.le_of_ble_eq_true rfl) dX7_addCoast_41 ⟨by decide, by decide⟩) hI (fun H locs hI => ?_)
      refine lv_istore_n (lv' := [(2, .int v11.1), (0, .ref a0), (1, .int a1)]) hx hb dX7_addCoast_44 rfl hl (by decide) rfl (fun ls hl => ?_)
      refine lv_aload_n hx hb dX7_addCoast_45 rfl (lv_at hl 1 rfl) ?_
      obtain ⟨v12, ev12, hq⟩ := b_s hq
      refine fa_gr (own := RX7) (ref := "CoastlineRuler") (k := 7) hx hb hB inB_RX7 hown hI rfl (by decide) m_260 (fun _ h9 => h9) ev12 dX7_addCoast_46 ?_
      refine lv_iconst (v := (0 : Int32)) hx hb dX7_addCoast_49 (by decide) ?_
      obtain ⟨f13, ef13, hq⟩ := b_s hq
      refine fa_pt (own := RX7) (ref := "CoastlineRuler$Tokens") (k := 1) hx hb hB inB_RX5 tyX5_ok nmX5 hown hI rfl (by decide) m_108 (fun _ h9 => h9) (by decide) rfl rfl ef13 dX7_addCoast_50 (fun H locs hI => ?_)
      refine lv_iload_n hx hb dX7_addCoast_53 rfl (lv_at hl 0 rfl) ?_
      refine lv_if_eq (tgt := 64) hx hb dX7_addCoast_54 (by decide) (fun c14 => ?_) (fun c14 => ?_)
      · replace hq := i_t c14 hq
        refine lv_iconst (v := (-1 : Int32)) hx hb dX7_addCoast_64 (by decide) ?_
        refine W.widen (k := 3) (n := 18) (by decide) (by decide) ?_
        exact ge_Yi hx hb hlocks hr rfl hI hq dX7_addCoast_65
      · replace hq := i_f c14 hq
        refine lv_aload_n hx hb dX7_addCoast_57 rfl (lv_at hl 1 rfl) ?_
        rcases x_b_eq hq with ⟨v15, ev15, hq⟩ | ⟨v15, ev15, hq⟩
        · exact gt_WW hlocks ht0 (g_runVX (As := []) (rest := []) (ci := 9) hC (c_X7_change l hl0 V g D cT f13 n a0 (.inl v15) ev15) k_X7_change m_897 rfl rfl ⟨Nat.le_of_ble_eq_true rfl, Nat.le_of_ble_eq_true rfl⟩ hI rfl rfl (h_me_eq ev15).1 rfl hl.1 rfl (Nat.le_of_ble_eq_true rfl) dX7_addCoast_58 ⟨by decide, by decide⟩) noy_i hI hq (by decide) (by decide)
        · refine gy_i (g_runVX (As := []) (rest := []) (ci := 9) hC (c_X7_change l hl0 V g D cT f13 n a0 (.inr v15) ev15) k_X7_change m_897 rfl rfl ⟨Nat.le_of_ble_eq_true rfl, Nat.le_of_ble_eq_true rfl⟩ hI rfl rfl (h_me_eq ev15).1 rfl hl.1 rfl (Nat.le_of_ble_eq_true rfl) dX7_addCoast_58 ⟨by decide, by decide⟩) hI (fun H locs hI => ?_)
          refine lv_goto (tgt := 65) hx hb dX7_addCoast_61 (by decide) ?_
          exact ge_Yi hx hb hlocks hr rfl hI hq dX7_addCoast_65

abbrev rm_X7_removeCoast : Room := { frames := 10, cells := 1, slots := 6, locals := 277 }
theorem k_X7_removeCoast : g_CV yX7_removeCoast cX7_removeCoast 2 (some .int) 1 := ⟨⟨m_1229, m_1, by decide +kernel⟩, m_1227, m_1228⟩
set_option maxHeartbeats 4000000 in
set_option maxRecDepth 100000 in
theorem c_X7_removeCoast (l : Launch) (hl0 : l.stackTraces = false) (V : Nat → Nat) (g : GH) (D : va_G) (cT : Nat → ClassId) (f : GH) (n : Nat) (a0 : Nat) (a1 : Int32) (o : (Nat × GH) ⊕ (Int32 × GH)) (hq : p_X7_removeCoast V g f a0 a1 = some o) : vx_Met l yX7_removeCoast (Cond.code yX7_removeCoast cX7_removeCoast 2 (some .int) :: g_B) rm_X7_removeCoast (va_Pc [.ref a0, .int a1] (g_I V g D cT f n)) (g_Yi V D cT o n) (g_YX V D cT o) 1 6 (g_A V) := by
  refine g_beginX (own := RX7) [.ref a0, .int a1] [(0, .ref a0), (1, .int a1)] (g_A V) (fun _ h => h) (by decide) rfl (Nat.le_of_ble_eq_true rfl) rfl ?_
  intro p e s m args below meth c hx hb hr hlocks ht0 hC hI ls hl
  obtain ⟨hx, hb, hml, hown, hB⟩ := id hC
  obtain ⟨H, hH⟩ : ∃ H, H = s.heap := ⟨_, rfl⟩
  obtain ⟨locs, hlocs⟩ : ∃ L : List Loc, L = [] := ⟨_, rfl⟩
  rw [← hH, ← hlocs] at hI ⊢
  clear hH hlocs
  unfold p_X7_removeCoast at hq
  replace hq := (h_me_eq hq).2
  refine lv_aload_n hx hb dX7_removeCoast_0 rfl (lv_at hl 0 rfl) ?_
  obtain ⟨v1, ev1, hq⟩ := b_s hq
  refine fa_gr (own := RX7) (ref := "CoastlineRuler") (k := 10) hx hb hB inB_RX7 hown hI rfl (by decide) m_263 (fun _ h9 => h9) ev1 dX7_removeCoast_1 ?_
  refine fs_gs (i := 9) hx hb hown hI rfl (hB _ m_1230) (fun _ h9 => h9) dX7_removeCoast_4 ?_
  refine lv_iload_n hx hb dX7_removeCoast_7 rfl (lv_at hl 1 rfl) ?_
  refine lv_iconst (v := (0 : Int32)) hx hb dX7_removeCoast_8 (by decide) ?_
  refine lv_iconst (v := (0 : Int32)) hx hb dX7_removeCoast_9 (by decide) ?_
  refine lv_iconst (v := (0 : Int32)) hx hb dX7_removeCoast_10 (by decide) ?_
  obtain ⟨v2, ev2, hq⟩ := b_s hq
  refine gw_v (g_runV (As := [.ref (V 10), .int a1, .int (0 : Int32), .int (0 : Int32), .int (0 : Int32)]) (rest := []) (ci := 6) hC (c_X3_set l V g D cT f n v1 (V 10) a1 (0 : Int32) (0 : Int32) (0 : Int32) v2 ev2) k_X3_set m_893 rfl rfl ⟨Nat.le_of_ble_eq_true rfl, Nat.le_of_ble_eq_true rfl⟩ hI rfl rfl (h_me_eq ev2).1 rfl hl.1 rfl (Nat.le_of_ble_eq_true rfl) dX7_removeCoast_11 ⟨by decide, by decide⟩) hI (fun H locs hI => ?_)
  refine lv_aload_n hx hb dX7_removeCoast_14 rfl (lv_at hl 0 rfl) ?_
  rcases x_b_eq hq with ⟨v3, ev3, hq⟩ | ⟨v3, ev3, hq⟩
  · exact gt_WW hlocks ht0 (g_runVX (As := []) (rest := []) (ci := 9) hC (c_X7_change l hl0 V g D cT v2 n a0 (.inl v3) ev3) k_X7_change m_897 rfl rfl ⟨Nat.le_of_ble_eq_true rfl, Nat.le_of_ble_eq_true rfl⟩ hI rfl rfl (h_me_eq ev3).1 rfl hl.1 rfl (Nat.le_of_ble_eq_true rfl) dX7_removeCoast_15 ⟨by decide, by decide⟩) noy_i hI hq (by decide) (by decide)
  · refine gy_i (g_runVX (As := []) (rest := []) (ci := 9) hC (c_X7_change l hl0 V g D cT v2 n a0 (.inr v3) ev3) k_X7_change m_897 rfl rfl ⟨Nat.le_of_ble_eq_true rfl, Nat.le_of_ble_eq_true rfl⟩ hI rfl rfl (h_me_eq ev3).1 rfl hl.1 rfl (Nat.le_of_ble_eq_true rfl) dX7_removeCoast_15 ⟨by decide, by decide⟩) hI (fun H locs hI => ?_)
    exact ge_Yi hx hb hlocks hr rfl hI hq dX7_removeCoast_18

abbrev rm_X7_fold : Room := { frames := 10, cells := 1, slots := 6, locals := 277 }
theorem k_X7_fold : g_CV yX7_fold cX7_fold 3 (some .int) 2 := ⟨⟨m_890, m_1, by decide +kernel⟩, m_888, m_889⟩
set_option maxHeartbeats 4000000 in
set_option maxRecDepth 100000 in
theorem c_X7_fold (l : Launch) (hl0 : l.stackTraces = false) (V : Nat → Nat) (g : GH) (D : va_G) (cT : Nat → ClassId) (f : GH) (n : Nat) (a0 : Nat) (a1 : Int32) (a2 : Int32) (o : (Nat × GH) ⊕ (Int32 × GH)) (hq : p_X7_fold V g f a0 a1 a2 = some o) : vx_Met l yX7_fold (Cond.code yX7_fold cX7_fold 3 (some .int) :: g_B) rm_X7_fold (va_Pc [.ref a0, .int a1, .int a2] (g_I V g D cT f n)) (g_Yi V D cT o n) (g_YX V D cT o) 1 6 (g_A V) := by
  refine g_beginX (own := RX7) [.ref a0, .int a1, .int a2] [(0, .ref a0), (1, .int a1), (2, .int a2)] (g_A V) (fun _ h => h) (by decide) rfl (Nat.le_of_ble_eq_true rfl) rfl ?_
  intro p e s m args below meth c hx hb hr hlocks ht0 hC hI ls hl
  obtain ⟨hx, hb, hml, hown, hB⟩ := id hC
  obtain ⟨H, hH⟩ : ∃ H, H = s.heap := ⟨_, rfl⟩
  obtain ⟨locs, hlocs⟩ : ∃ L : List Loc, L = [] := ⟨_, rfl⟩
  rw [← hH, ← hlocs] at hI ⊢
  clear hH hlocs
  unfold p_X7_fold at hq
  replace hq := (h_me_eq hq).2
  refine lv_aload_n hx hb dX7_fold_0 rfl (lv_at hl 0 rfl) ?_
  obtain ⟨v1, ev1, hq⟩ := b_s hq
  refine fa_gr (own := RX7) (ref := "CoastlineRuler") (k := 10) hx hb hB inB_RX7 hown hI rfl (by decide) m_263 (fun _ h9 => h9) ev1 dX7_fold_1 ?_
  refine fs_gs (i := 2) hx hb hown hI rfl (hB _ m_891) (fun _ h9 => h9) dX7_fold_4 ?_
  refine lv_iload_n hx hb dX7_fold_7 rfl (lv_at hl 1 rfl) ?_
  refine lv_iconst (v := (0 : Int32)) hx hb dX7_fold_8 (by decide) ?_
  refine lv_iload_n hx hb dX7_fold_9 rfl (lv_at hl 2 rfl) ?_
  refine lv_iconst (v := (0 : Int32)) hx hb dX7_fold_10 (by decide) ?_
  obtain ⟨v2, ev2, hq⟩ := b_s hq
  refine gw_v (g_runV (As := [.ref (V 3), .int a1, .int (0 : Int32), .int a2, .int (0 : Int32)]) (rest := []) (ci := 6) hC (c_X3_set l V g D cT f n v1 (V 3) a1 (0 : Int32) a2 (0 : Int32) v2 ev2) k_X3_set m_893 rfl rfl ⟨Nat.le_of_ble_eq_true rfl, Nat.le_of_ble_eq_true rfl⟩ hI rfl rfl (h_me_eq ev2).1 rfl hl.1 rfl (Nat.le_of_ble_eq_true rfl) dX7_fold_11 ⟨by decide, by decide⟩) hI (fun H locs hI => ?_)
  refine lv_aload_n hx hb dX7_fold_14 rfl (lv_at hl 0 rfl) ?_
  rcases x_b_eq hq with ⟨v3, ev3, hq⟩ | ⟨v3, ev3, hq⟩
  · exact gt_WW hlocks ht0 (g_runVX (As := []) (rest := []) (ci := 9) hC (c_X7_change l hl0 V g D cT v2 n a0 (.inl v3) ev3) k_X7_change m_897 rfl rfl ⟨Nat.le_of_ble_eq_true rfl, Nat.le_of_ble_eq_true rfl⟩ hI rfl rfl (h_me_eq ev3).1 rfl hl.1 rfl (Nat.le_of_ble_eq_true rfl) dX7_fold_15 ⟨by decide, by decide⟩) noy_i hI hq (by decide) (by decide)
  · refine gy_i (g_runVX (As := []) (rest := []) (ci := 9) hC (c_X7_change l hl0 V g D cT v2 n a0 (.inr v3) ev3) k_X7_change m_897 rfl rfl ⟨Nat.le_of_ble_eq_true rfl, Nat.le_of_ble_eq_true rfl⟩ hI rfl rfl (h_me_eq ev3).1 rfl hl.1 rfl (Nat.le_of_ble_eq_true rfl) dX7_fold_15 ⟨by decide, by decide⟩) hI (fun H locs hI => ?_)
    exact ge_Yi hx hb hlocks hr rfl hI hq dX7_fold_18

abbrev rm_X7_unfold : Room := { frames := 10, cells := 1, slots := 6, locals := 277 }
theorem k_X7_unfold : g_CV yX7_unfold cX7_unfold 2 (some .int) 1 := ⟨⟨m_987, m_1, by decide +kernel⟩, m_985, m_986⟩
set_option maxHeartbeats 4000000 in
set_option maxRecDepth 100000 in
theorem c_X7_unfold (l : Launch) (hl0 : l.stackTraces = false) (V : Nat → Nat) (g : GH) (D : va_G) (cT : Nat → ClassId) (f : GH) (n : Nat) (a0 : Nat) (a1 : Int32) (o : (Nat × GH) ⊕ (Int32 × GH)) (hq : p_X7_unfold V g f a0 a1 = some o) : vx_Met l yX7_unfold (Cond.code yX7_unfold cX7_unfold 2 (some .int) :: g_B) rm_X7_unfold (va_Pc [.ref a0, .int a1] (g_I V g D cT f n)) (g_Yi V D cT o n) (g_YX V D cT o) 1 6 (g_A V) := by
  refine g_beginX (own := RX7) [.ref a0, .int a1] [(0, .ref a0), (1, .int a1)] (g_A V) (fun _ h => h) (by decide) rfl (Nat.le_of_ble_eq_true rfl) rfl ?_
  intro p e s m args below meth c hx hb hr hlocks ht0 hC hI ls hl
  obtain ⟨hx, hb, hml, hown, hB⟩ := id hC
  obtain ⟨H, hH⟩ : ∃ H, H = s.heap := ⟨_, rfl⟩
  obtain ⟨locs, hlocs⟩ : ∃ L : List Loc, L = [] := ⟨_, rfl⟩
  rw [← hH, ← hlocs] at hI ⊢
  clear hH hlocs
  unfold p_X7_unfold at hq
  replace hq := (h_me_eq hq).2
  refine lv_aload_n hx hb dX7_unfold_0 rfl (lv_at hl 0 rfl) ?_
  obtain ⟨v1, ev1, hq⟩ := b_s hq
  refine fa_gr (own := RX7) (ref := "CoastlineRuler") (k := 10) hx hb hB inB_RX7 hown hI rfl (by decide) m_263 (fun _ h9 => h9) ev1 dX7_unfold_1 ?_
  refine fs_gs (i := 3) hx hb hown hI rfl (hB _ m_988) (fun _ h9 => h9) dX7_unfold_4 ?_
  refine lv_iload_n hx hb dX7_unfold_7 rfl (lv_at hl 1 rfl) ?_
  refine lv_iconst (v := (0 : Int32)) hx hb dX7_unfold_8 (by decide) ?_
  refine lv_iconst (v := (0 : Int32)) hx hb dX7_unfold_9 (by decide) ?_
  refine lv_iconst (v := (0 : Int32)) hx hb dX7_unfold_10 (by decide) ?_
  obtain ⟨v2, ev2, hq⟩ := b_s hq
  refine gw_v (g_runV (As := [.ref (V 4), .int a1, .int (0 : Int32), .int (0 : Int32), .int (0 : Int32)]) (rest := []) (ci := 6) hC (c_X3_set l V g D cT f n v1 (V 4) a1 (0 : Int32) (0 : Int32) (0 : Int32) v2 ev2) k_X3_set m_893 rfl rfl ⟨Nat.le_of_ble_eq_true rfl, Nat.le_of_ble_eq_true rfl⟩ hI rfl rfl (h_me_eq ev2).1 rfl hl.1 rfl (Nat.le_of_ble_eq_true rfl) dX7_unfold_11 ⟨by decide, by decide⟩) hI (fun H locs hI => ?_)
  refine lv_aload_n hx hb dX7_unfold_14 rfl (lv_at hl 0 rfl) ?_
  rcases x_b_eq hq with ⟨v3, ev3, hq⟩ | ⟨v3, ev3, hq⟩
  · exact gt_WW hlocks ht0 (g_runVX (As := []) (rest := []) (ci := 9) hC (c_X7_change l hl0 V g D cT v2 n a0 (.inl v3) ev3) k_X7_change m_897 rfl rfl ⟨Nat.le_of_ble_eq_true rfl, Nat.le_of_ble_eq_true rfl⟩ hI rfl rfl (h_me_eq ev3).1 rfl hl.1 rfl (Nat.le_of_ble_eq_true rfl) dX7_unfold_15 ⟨by decide, by decide⟩) noy_i hI hq (by decide) (by decide)
  · refine gy_i (g_runVX (As := []) (rest := []) (ci := 9) hC (c_X7_change l hl0 V g D cT v2 n a0 (.inr v3) ev3) k_X7_change m_897 rfl rfl ⟨Nat.le_of_ble_eq_true rfl, Nat.le_of_ble_eq_true rfl⟩ hI rfl rfl (h_me_eq ev3).1 rfl hl.1 rfl (Nat.le_of_ble_eq_true rfl) dX7_unfold_15 ⟨by decide, by decide⟩) hI (fun H locs hI => ?_)
    exact ge_Yi hx hb hlocks hr rfl hI hq dX7_unfold_18

abbrev rm_X7_movePoint : Room := { frames := 10, cells := 1, slots := 6, locals := 277 }
theorem k_X7_movePoint : g_CV yX7_movePoint cX7_movePoint 5 (some .int) 4 := ⟨⟨m_1198, m_1, by decide +kernel⟩, m_1196, m_1197⟩
set_option maxHeartbeats 4000000 in
set_option maxRecDepth 100000 in
theorem c_X7_movePoint (l : Launch) (hl0 : l.stackTraces = false) (V : Nat → Nat) (g : GH) (D : va_G) (cT : Nat → ClassId) (f : GH) (n : Nat) (a0 : Nat) (a1 : Int32) (a2 : Int32) (a3 : Int32) (a4 : Int32) (o : (Nat × GH) ⊕ (Int32 × GH)) (hq : p_X7_movePoint V g f a0 a1 a2 a3 a4 = some o) : vx_Met l yX7_movePoint (Cond.code yX7_movePoint cX7_movePoint 5 (some .int) :: g_B) rm_X7_movePoint (va_Pc [.ref a0, .int a1, .int a2, .int a3, .int a4] (g_I V g D cT f n)) (g_Yi V D cT o n) (g_YX V D cT o) 1 6 (g_A V) := by
  refine g_beginX (own := RX7) [.ref a0, .int a1, .int a2, .int a3, .int a4] [(0, .ref a0), (1, .int a1), (2, .int a2), (3, .int a3), (4, .int a4)] (g_A V) (fun _ h => h) (by decide) rfl (Nat.le_of_ble_eq_true rfl) rfl ?_
  intro p e s m args below meth c hx hb hr hlocks ht0 hC hI ls hl
  obtain ⟨hx, hb, hml, hown, hB⟩ := id hC
  obtain ⟨H, hH⟩ : ∃ H, H = s.heap := ⟨_, rfl⟩
  obtain ⟨locs, hlocs⟩ : ∃ L : List Loc, L = [] := ⟨_, rfl⟩
  rw [← hH, ← hlocs] at hI ⊢
  clear hH hlocs
  unfold p_X7_movePoint at hq
  replace hq := (h_me_eq hq).2
  refine lv_aload_n hx hb dX7_movePoint_0 rfl (lv_at hl 0 rfl) ?_
  obtain ⟨v1, ev1, hq⟩ := b_s hq
  refine fa_gr (own := RX7) (ref := "CoastlineRuler") (k := 10) hx hb hB inB_RX7 hown hI rfl (by decide) m_263 (fun _ h9 => h9) ev1 dX7_movePoint_1 ?_
  refine fs_gs (i := 4) hx hb hown hI rfl (hB _ m_1199) (fun _ h9 => h9) dX7_movePoint_4 ?_
  refine lv_iload_n hx hb dX7_movePoint_7 rfl (lv_at hl 1 rfl) ?_
  refine lv_iload_n hx hb dX7_movePoint_8 rfl (lv_at hl 2 rfl) ?_
  refine lv_iload_n hx hb dX7_movePoint_9 rfl (lv_at hl 3 rfl) ?_
  refine lv_iload hx hb dX7_movePoint_10 (lv_at hl 4 rfl) ?_
  obtain ⟨v2, ev2, hq⟩ := b_s hq
  refine gw_v (g_runV (As := [.ref (V 5), .int a1, .int a2, .int a3, .int a4]) (rest := []) (ci := 6) hC (c_X3_set l V g D cT f n v1 (V 5) a1 a2 a3 a4 v2 ev2) k_X3_set m_893 rfl rfl ⟨Nat.le_of_ble_eq_true rfl, Nat.le_of_ble_eq_true rfl⟩ hI rfl rfl (h_me_eq ev2).1 rfl hl.1 rfl (Nat.le_of_ble_eq_true rfl) dX7_movePoint_12 ⟨by decide, by decide⟩) hI (fun H locs hI => ?_)
  refine lv_aload_n hx hb dX7_movePoint_15 rfl (lv_at hl 0 rfl) ?_
  rcases x_b_eq hq with ⟨v3, ev3, hq⟩ | ⟨v3, ev3, hq⟩
  · exact gt_WW hlocks ht0 (g_runVX (As := []) (rest := []) (ci := 9) hC (c_X7_change l hl0 V g D cT v2 n a0 (.inl v3) ev3) k_X7_change m_897 rfl rfl ⟨Nat.le_of_ble_eq_true rfl, Nat.le_of_ble_eq_true rfl⟩ hI rfl rfl (h_me_eq ev3).1 rfl hl.1 rfl (Nat.le_of_ble_eq_true rfl) dX7_movePoint_16 ⟨by decide, by decide⟩) noy_i hI hq (by decide) (by decide)
  · refine gy_i (g_runVX (As := []) (rest := []) (ci := 9) hC (c_X7_change l hl0 V g D cT v2 n a0 (.inr v3) ev3) k_X7_change m_897 rfl rfl ⟨Nat.le_of_ble_eq_true rfl, Nat.le_of_ble_eq_true rfl⟩ hI rfl rfl (h_me_eq ev3).1 rfl hl.1 rfl (Nat.le_of_ble_eq_true rfl) dX7_movePoint_16 ⟨by decide, by decide⟩) hI (fun H locs hI => ?_)
    exact ge_Yi hx hb hlocks hr rfl hI hq dX7_movePoint_19

abbrev rm_X7_insertPoint : Room := { frames := 10, cells := 1, slots := 6, locals := 277 }
theorem k_X7_insertPoint : g_CV yX7_insertPoint cX7_insertPoint 5 (some .int) 4 := ⟨⟨m_1205, m_1, by decide +kernel⟩, m_1203, m_1204⟩
set_option maxHeartbeats 4000000 in
set_option maxRecDepth 100000 in
theorem c_X7_insertPoint (l : Launch) (hl0 : l.stackTraces = false) (V : Nat → Nat) (g : GH) (D : va_G) (cT : Nat → ClassId) (f : GH) (n : Nat) (a0 : Nat) (a1 : Int32) (a2 : Int32) (a3 : Int32) (a4 : Int32) (o : (Nat × GH) ⊕ (Int32 × GH)) (hq : p_X7_insertPoint V g f a0 a1 a2 a3 a4 = some o) : vx_Met l yX7_insertPoint (Cond.code yX7_insertPoint cX7_insertPoint 5 (some .int) :: g_B) rm_X7_insertPoint (va_Pc [.ref a0, .int a1, .int a2, .int a3, .int a4] (g_I V g D cT f n)) (g_Yi V D cT o n) (g_YX V D cT o) 1 6 (g_A V) := by
  refine g_beginX (own := RX7) [.ref a0, .int a1, .int a2, .int a3, .int a4] [(0, .ref a0), (1, .int a1), (2, .int a2), (3, .int a3), (4, .int a4)] (g_A V) (fun _ h => h) (by decide) rfl (Nat.le_of_ble_eq_true rfl) rfl ?_
  intro p e s m args below meth c hx hb hr hlocks ht0 hC hI ls hl
  obtain ⟨hx, hb, hml, hown, hB⟩ := id hC
  obtain ⟨H, hH⟩ : ∃ H, H = s.heap := ⟨_, rfl⟩
  obtain ⟨locs, hlocs⟩ : ∃ L : List Loc, L = [] := ⟨_, rfl⟩
  rw [← hH, ← hlocs] at hI ⊢
  clear hH hlocs
  unfold p_X7_insertPoint at hq
  replace hq := (h_me_eq hq).2
  refine lv_aload_n hx hb dX7_insertPoint_0 rfl (lv_at hl 0 rfl) ?_
  obtain ⟨v1, ev1, hq⟩ := b_s hq
  refine fa_gr (own := RX7) (ref := "CoastlineRuler") (k := 10) hx hb hB inB_RX7 hown hI rfl (by decide) m_263 (fun _ h9 => h9) ev1 dX7_insertPoint_1 ?_
  refine fs_gs (i := 5) hx hb hown hI rfl (hB _ m_1206) (fun _ h9 => h9) dX7_insertPoint_4 ?_
  refine lv_iload_n hx hb dX7_insertPoint_7 rfl (lv_at hl 1 rfl) ?_
  refine lv_iload_n hx hb dX7_insertPoint_8 rfl (lv_at hl 2 rfl) ?_
  refine lv_iload_n hx hb dX7_insertPoint_9 rfl (lv_at hl 3 rfl) ?_
  refine lv_iload hx hb dX7_insertPoint_10 (lv_at hl 4 rfl) ?_
  obtain ⟨v2, ev2, hq⟩ := b_s hq
  refine gw_v (g_runV (As := [.ref (V 6), .int a1, .int a2, .int a3, .int a4]) (rest := []) (ci := 6) hC (c_X3_set l V g D cT f n v1 (V 6) a1 a2 a3 a4 v2 ev2) k_X3_set m_893 rfl rfl ⟨Nat.le_of_ble_eq_true rfl, Nat.le_of_ble_eq_true rfl⟩ hI rfl rfl (h_me_eq ev2).1 rfl hl.1 rfl (Nat.le_of_ble_eq_true rfl) dX7_insertPoint_12 ⟨by decide, by decide⟩) hI (fun H locs hI => ?_)
  refine lv_aload_n hx hb dX7_insertPoint_15 rfl (lv_at hl 0 rfl) ?_
  rcases x_b_eq hq with ⟨v3, ev3, hq⟩ | ⟨v3, ev3, hq⟩
  · exact gt_WW hlocks ht0 (g_runVX (As := []) (rest := []) (ci := 9) hC (c_X7_change l hl0 V g D cT v2 n a0 (.inl v3) ev3) k_X7_change m_897 rfl rfl ⟨Nat.le_of_ble_eq_true rfl, Nat.le_of_ble_eq_true rfl⟩ hI rfl rfl (h_me_eq ev3).1 rfl hl.1 rfl (Nat.le_of_ble_eq_true rfl) dX7_insertPoint_16 ⟨by decide, by decide⟩) noy_i hI hq (by decide) (by decide)
  · refine gy_i (g_runVX (As := []) (rest := []) (ci := 9) hC (c_X7_change l hl0 V g D cT v2 n a0 (.inr v3) ev3) k_X7_change m_897 rfl rfl ⟨Nat.le_of_ble_eq_true rfl, Nat.le_of_ble_eq_true rfl⟩ hI rfl rfl (h_me_eq ev3).1 rfl hl.1 rfl (Nat.le_of_ble_eq_true rfl) dX7_insertPoint_16 ⟨by decide, by decide⟩) hI (fun H locs hI => ?_)
    exact ge_Yi hx hb hlocks hr rfl hI hq dX7_insertPoint_19

abbrev rm_X7_removePoint : Room := { frames := 10, cells := 1, slots := 6, locals := 277 }
theorem k_X7_removePoint : g_CV yX7_removePoint cX7_removePoint 3 (some .int) 2 := ⟨⟨m_1210, m_1, by decide +kernel⟩, m_1208, m_1209⟩
set_option maxHeartbeats 4000000 in
set_option maxRecDepth 100000 in
theorem c_X7_removePoint (l : Launch) (hl0 : l.stackTraces = false) (V : Nat → Nat) (g : GH) (D : va_G) (cT : Nat → ClassId) (f : GH) (n : Nat) (a0 : Nat) (a1 : Int32) (a2 : Int32) (o : (Nat × GH) ⊕ (Int32 × GH)) (hq : p_X7_removePoint V g f a0 a1 a2 = some o) : vx_Met l yX7_removePoint (Cond.code yX7_removePoint cX7_removePoint 3 (some .int) :: g_B) rm_X7_removePoint (va_Pc [.ref a0, .int a1, .int a2] (g_I V g D cT f n)) (g_Yi V D cT o n) (g_YX V D cT o) 1 6 (g_A V) := by
  refine g_beginX (own := RX7) [.ref a0, .int a1, .int a2] [(0, .ref a0), (1, .int a1), (2, .int a2)] (g_A V) (fun _ h => h) (by decide) rfl (Nat.le_of_ble_eq_true rfl) rfl ?_
  intro p e s m args below meth c hx hb hr hlocks ht0 hC hI ls hl
  obtain ⟨hx, hb, hml, hown, hB⟩ := id hC
  obtain ⟨H, hH⟩ : ∃ H, H = s.heap := ⟨_, rfl⟩
  obtain ⟨locs, hlocs⟩ : ∃ L : List Loc, L = [] := ⟨_, rfl⟩
  rw [← hH, ← hlocs] at hI ⊢
  clear hH hlocs
  unfold p_X7_removePoint at hq
  replace hq := (h_me_eq hq).2
  refine lv_aload_n hx hb dX7_removePoint_0 rfl (lv_at hl 0 rfl) ?_
  obtain ⟨v1, ev1, hq⟩ := b_s hq
  refine fa_gr (own := RX7) (ref := "CoastlineRuler") (k := 10) hx hb hB inB_RX7 hown hI rfl (by decide) m_263 (fun _ h9 => h9) ev1 dX7_removePoint_1 ?_
  refine fs_gs (i := 6) hx hb hown hI rfl (hB _ m_1211) (fun _ h9 => h9) dX7_removePoint_4 ?_
  refine lv_iload_n hx hb dX7_removePoint_7 rfl (lv_at hl 1 rfl) ?_
  refine lv_iload_n hx hb dX7_removePoint_8 rfl (lv_at hl 2 rfl) ?_
  refine lv_iconst (v := (0 : Int32)) hx hb dX7_removePoint_9 (by decide) ?_
  refine lv_iconst (v := (0 : Int32)) hx hb dX7_removePoint_10 (by decide) ?_
  obtain ⟨v2, ev2, hq⟩ := b_s hq
  refine gw_v (g_runV (As := [.ref (V 7), .int a1, .int a2, .int (0 : Int32), .int (0 : Int32)]) (rest := []) (ci := 6) hC (c_X3_set l V g D cT f n v1 (V 7) a1 a2 (0 : Int32) (0 : Int32) v2 ev2) k_X3_set m_893 rfl rfl ⟨Nat.le_of_ble_eq_true rfl, Nat.le_of_ble_eq_true rfl⟩ hI rfl rfl (h_me_eq ev2).1 rfl hl.1 rfl (Nat.le_of_ble_eq_true rfl) dX7_removePoint_11 ⟨by decide, by decide⟩) hI (fun H locs hI => ?_)
  refine lv_aload_n hx hb dX7_removePoint_14 rfl (lv_at hl 0 rfl) ?_
  rcases x_b_eq hq with ⟨v3, ev3, hq⟩ | ⟨v3, ev3, hq⟩
  · exact gt_WW hlocks ht0 (g_runVX (As := []) (rest := []) (ci := 9) hC (c_X7_change l hl0 V g D cT v2 n a0 (.inl v3) ev3) k_X7_change m_897 rfl rfl ⟨Nat.le_of_ble_eq_true rfl, Nat.le_of_ble_eq_true rfl⟩ hI rfl rfl (h_me_eq ev3).1 rfl hl.1 rfl (Nat.le_of_ble_eq_true rfl) dX7_removePoint_15 ⟨by decide, by decide⟩) noy_i hI hq (by decide) (by decide)
  · refine gy_i (g_runVX (As := []) (rest := []) (ci := 9) hC (c_X7_change l hl0 V g D cT v2 n a0 (.inr v3) ev3) k_X7_change m_897 rfl rfl ⟨Nat.le_of_ble_eq_true rfl, Nat.le_of_ble_eq_true rfl⟩ hI rfl rfl (h_me_eq ev3).1 rfl hl.1 rfl (Nat.le_of_ble_eq_true rfl) dX7_removePoint_15 ⟨by decide, by decide⟩) hI (fun H locs hI => ?_)
    exact ge_Yi hx hb hlocks hr rfl hI hq dX7_removePoint_18

abbrev rm_X7_shift : Room := { frames := 10, cells := 1, slots := 6, locals := 277 }
theorem k_X7_shift : g_CV yX7_shift cX7_shift 4 (some .int) 3 := ⟨⟨m_1217, m_1, by decide +kernel⟩, m_1215, m_1216⟩
set_option maxHeartbeats 4000000 in
set_option maxRecDepth 100000 in
theorem c_X7_shift (l : Launch) (hl0 : l.stackTraces = false) (V : Nat → Nat) (g : GH) (D : va_G) (cT : Nat → ClassId) (f : GH) (n : Nat) (a0 : Nat) (a1 : Int32) (a2 : Int32) (a3 : Int32) (o : (Nat × GH) ⊕ (Int32 × GH)) (hq : p_X7_shift V g f a0 a1 a2 a3 = some o) : vx_Met l yX7_shift (Cond.code yX7_shift cX7_shift 4 (some .int) :: g_B) rm_X7_shift (va_Pc [.ref a0, .int a1, .int a2, .int a3] (g_I V g D cT f n)) (g_Yi V D cT o n) (g_YX V D cT o) 1 6 (g_A V) := by
  refine g_beginX (own := RX7) [.ref a0, .int a1, .int a2, .int a3] [(0, .ref a0), (1, .int a1), (2, .int a2), (3, .int a3)] (g_A V) (fun _ h => h) (by decide) rfl (Nat.le_of_ble_eq_true rfl) rfl ?_
  intro p e s m args below meth c hx hb hr hlocks ht0 hC hI ls hl
  obtain ⟨hx, hb, hml, hown, hB⟩ := id hC
  obtain ⟨H, hH⟩ : ∃ H, H = s.heap := ⟨_, rfl⟩
  obtain ⟨locs, hlocs⟩ : ∃ L : List Loc, L = [] := ⟨_, rfl⟩
  rw [← hH, ← hlocs] at hI ⊢
  clear hH hlocs
  unfold p_X7_shift at hq
  replace hq := (h_me_eq hq).2
  refine lv_aload_n hx hb dX7_shift_0 rfl (lv_at hl 0 rfl) ?_
  obtain ⟨v1, ev1, hq⟩ := b_s hq
  refine fa_gr (own := RX7) (ref := "CoastlineRuler") (k := 10) hx hb hB inB_RX7 hown hI rfl (by decide) m_263 (fun _ h9 => h9) ev1 dX7_shift_1 ?_
  refine fs_gs (i := 7) hx hb hown hI rfl (hB _ m_1218) (fun _ h9 => h9) dX7_shift_4 ?_
  refine lv_iload_n hx hb dX7_shift_7 rfl (lv_at hl 1 rfl) ?_
  refine lv_iconst (v := (0 : Int32)) hx hb dX7_shift_8 (by decide) ?_
  refine lv_iload_n hx hb dX7_shift_9 rfl (lv_at hl 2 rfl) ?_
  refine lv_iload_n hx hb dX7_shift_10 rfl (lv_at hl 3 rfl) ?_
  obtain ⟨v2, ev2, hq⟩ := b_s hq
  refine gw_v (g_runV (As := [.ref (V 8), .int a1, .int (0 : Int32), .int a2, .int a3]) (rest := []) (ci := 6) hC (c_X3_set l V g D cT f n v1 (V 8) a1 (0 : Int32) a2 a3 v2 ev2) k_X3_set m_893 rfl rfl ⟨Nat.le_of_ble_eq_true rfl, Nat.le_of_ble_eq_true rfl⟩ hI rfl rfl (h_me_eq ev2).1 rfl hl.1 rfl (Nat.le_of_ble_eq_true rfl) dX7_shift_11 ⟨by decide, by decide⟩) hI (fun H locs hI => ?_)
  refine lv_aload_n hx hb dX7_shift_14 rfl (lv_at hl 0 rfl) ?_
  rcases x_b_eq hq with ⟨v3, ev3, hq⟩ | ⟨v3, ev3, hq⟩
  · exact gt_WW hlocks ht0 (g_runVX (As := []) (rest := []) (ci := 9) hC (c_X7_change l hl0 V g D cT v2 n a0 (.inl v3) ev3) k_X7_change m_897 rfl rfl ⟨Nat.le_of_ble_eq_true rfl, Nat.le_of_ble_eq_true rfl⟩ hI rfl rfl (h_me_eq ev3).1 rfl hl.1 rfl (Nat.le_of_ble_eq_true rfl) dX7_shift_15 ⟨by decide, by decide⟩) noy_i hI hq (by decide) (by decide)
  · refine gy_i (g_runVX (As := []) (rest := []) (ci := 9) hC (c_X7_change l hl0 V g D cT v2 n a0 (.inr v3) ev3) k_X7_change m_897 rfl rfl ⟨Nat.le_of_ble_eq_true rfl, Nat.le_of_ble_eq_true rfl⟩ hI rfl rfl (h_me_eq ev3).1 rfl hl.1 rfl (Nat.le_of_ble_eq_true rfl) dX7_shift_15 ⟨by decide, by decide⟩) hI (fun H locs hI => ?_)
    exact ge_Yi hx hb hlocks hr rfl hI hq dX7_shift_18

abbrev rm_X7_reverse : Room := { frames := 10, cells := 1, slots := 6, locals := 277 }
theorem k_X7_reverse : g_CV yX7_reverse cX7_reverse 2 (some .int) 1 := ⟨⟨m_1223, m_1, by decide +kernel⟩, m_1221, m_1222⟩
set_option maxHeartbeats 4000000 in
set_option maxRecDepth 100000 in
theorem c_X7_reverse (l : Launch) (hl0 : l.stackTraces = false) (V : Nat → Nat) (g : GH) (D : va_G) (cT : Nat → ClassId) (f : GH) (n : Nat) (a0 : Nat) (a1 : Int32) (o : (Nat × GH) ⊕ (Int32 × GH)) (hq : p_X7_reverse V g f a0 a1 = some o) : vx_Met l yX7_reverse (Cond.code yX7_reverse cX7_reverse 2 (some .int) :: g_B) rm_X7_reverse (va_Pc [.ref a0, .int a1] (g_I V g D cT f n)) (g_Yi V D cT o n) (g_YX V D cT o) 1 6 (g_A V) := by
  refine g_beginX (own := RX7) [.ref a0, .int a1] [(0, .ref a0), (1, .int a1)] (g_A V) (fun _ h => h) (by decide) rfl (Nat.le_of_ble_eq_true rfl) rfl ?_
  intro p e s m args below meth c hx hb hr hlocks ht0 hC hI ls hl
  obtain ⟨hx, hb, hml, hown, hB⟩ := id hC
  obtain ⟨H, hH⟩ : ∃ H, H = s.heap := ⟨_, rfl⟩
  obtain ⟨locs, hlocs⟩ : ∃ L : List Loc, L = [] := ⟨_, rfl⟩
  rw [← hH, ← hlocs] at hI ⊢
  clear hH hlocs
  unfold p_X7_reverse at hq
  replace hq := (h_me_eq hq).2
  refine lv_aload_n hx hb dX7_reverse_0 rfl (lv_at hl 0 rfl) ?_
  obtain ⟨v1, ev1, hq⟩ := b_s hq
  refine fa_gr (own := RX7) (ref := "CoastlineRuler") (k := 10) hx hb hB inB_RX7 hown hI rfl (by decide) m_263 (fun _ h9 => h9) ev1 dX7_reverse_1 ?_
  refine fs_gs (i := 8) hx hb hown hI rfl (hB _ m_1224) (fun _ h9 => h9) dX7_reverse_4 ?_
  refine lv_iload_n hx hb dX7_reverse_7 rfl (lv_at hl 1 rfl) ?_
  refine lv_iconst (v := (0 : Int32)) hx hb dX7_reverse_8 (by decide) ?_
  refine lv_iconst (v := (0 : Int32)) hx hb dX7_reverse_9 (by decide) ?_
  refine lv_iconst (v := (0 : Int32)) hx hb dX7_reverse_10 (by decide) ?_
  obtain ⟨v2, ev2, hq⟩ := b_s hq
  refine gw_v (g_runV (As := [.ref (V 9), .int a1, .int (0 : Int32), .int (0 : Int32), .int (0 : Int32)]) (rest := []) (ci := 6) hC (c_X3_set l V g D cT f n v1 (V 9) a1 (0 : Int32) (0 : Int32) (0 : Int32) v2 ev2) k_X3_set m_893 rfl rfl ⟨Nat.le_of_ble_eq_true rfl, Nat.le_of_ble_eq_true rfl⟩ hI rfl rfl (h_me_eq ev2).1 rfl hl.1 rfl (Nat.le_of_ble_eq_true rfl) dX7_reverse_11 ⟨by decide, by decide⟩) hI (fun H locs hI => ?_)
  refine lv_aload_n hx hb dX7_reverse_14 rfl (lv_at hl 0 rfl) ?_
  rcases x_b_eq hq with ⟨v3, ev3, hq⟩ | ⟨v3, ev3, hq⟩
  · exact gt_WW hlocks ht0 (g_runVX (As := []) (rest := []) (ci := 9) hC (c_X7_change l hl0 V g D cT v2 n a0 (.inl v3) ev3) k_X7_change m_897 rfl rfl ⟨Nat.le_of_ble_eq_true rfl, Nat.le_of_ble_eq_true rfl⟩ hI rfl rfl (h_me_eq ev3).1 rfl hl.1 rfl (Nat.le_of_ble_eq_true rfl) dX7_reverse_15 ⟨by decide, by decide⟩) noy_i hI hq (by decide) (by decide)
  · refine gy_i (g_runVX (As := []) (rest := []) (ci := 9) hC (c_X7_change l hl0 V g D cT v2 n a0 (.inr v3) ev3) k_X7_change m_897 rfl rfl ⟨Nat.le_of_ble_eq_true rfl, Nat.le_of_ble_eq_true rfl⟩ hI rfl rfl (h_me_eq ev3).1 rfl hl.1 rfl (Nat.le_of_ble_eq_true rfl) dX7_reverse_15 ⟨by decide, by decide⟩) hI (fun H locs hI => ?_)
    exact ge_Yi hx hb hlocks hr rfl hI hq dX7_reverse_18

abbrev rm_X7_setKingMetric : Room := { frames := 10, cells := 1, slots := 6, locals := 277 }
theorem k_X7_setKingMetric : g_CV yX7_setKingMetric cX7_setKingMetric 2 (some .boolean) 1 := ⟨⟨m_1235, m_1, by decide +kernel⟩, m_1233, m_1234⟩
set_option maxHeartbeats 4000000 in
set_option maxRecDepth 100000 in
theorem c_X7_setKingMetric (l : Launch) (hl0 : l.stackTraces = false) (V : Nat → Nat) (g : GH) (D : va_G) (cT : Nat → ClassId) (f : GH) (n : Nat) (a0 : Nat) (a1 : Int32) (o : (Nat × GH) ⊕ (Int32 × GH)) (hq : p_X7_setKingMetric V g f a0 a1 = some o) : vx_Met l yX7_setKingMetric (Cond.code yX7_setKingMetric cX7_setKingMetric 2 (some .boolean) :: g_B) rm_X7_setKingMetric (va_Pc [.ref a0, .int a1] (g_I V g D cT f n)) (g_Yi V D cT o n) (g_YX V D cT o) 1 6 (g_A V) := by
  refine g_beginX (own := RX7) [.ref a0, .int a1] [(0, .ref a0), (1, .int a1)] (g_A V) (fun _ h => h) (by decide) rfl (Nat.le_of_ble_eq_true rfl) rfl ?_
  intro p e s m args below meth c hx hb hr hlocks ht0 hC hI ls hl
  obtain ⟨hx, hb, hml, hown, hB⟩ := id hC
  obtain ⟨H, hH⟩ : ∃ H, H = s.heap := ⟨_, rfl⟩
  obtain ⟨locs, hlocs⟩ : ∃ L : List Loc, L = [] := ⟨_, rfl⟩
  rw [← hH, ← hlocs] at hI ⊢
  clear hH hlocs
  unfold p_X7_setKingMetric at hq
  replace hq := (h_me_eq hq).2
  refine lv_aload_n hx hb dX7_setKingMetric_0 rfl (lv_at hl 0 rfl) ?_
  obtain ⟨v1, ev1, hq⟩ := b_s hq
  refine fa_gr (own := RX7) (ref := "CoastlineRuler") (k := 10) hx hb hB inB_RX7 hown hI rfl (by decide) m_263 (fun _ h9 => h9) ev1 dX7_setKingMetric_1 ?_
  refine fs_gs (i := 10) hx hb hown hI rfl (hB _ m_1236) (fun _ h9 => h9) dX7_setKingMetric_4 ?_
  refine lv_iconst (v := (0 : Int32)) hx hb dX7_setKingMetric_7 (by decide) ?_
  refine lv_iconst (v := (0 : Int32)) hx hb dX7_setKingMetric_8 (by decide) ?_
  refine lv_iconst (v := (0 : Int32)) hx hb dX7_setKingMetric_9 (by decide) ?_
  refine lv_iconst (v := (0 : Int32)) hx hb dX7_setKingMetric_10 (by decide) ?_
  obtain ⟨v2, ev2, hq⟩ := b_s hq
  refine gw_v (g_runV (As := [.ref (V 11), .int (0 : Int32), .int (0 : Int32), .int (0 : Int32), .int (0 : Int32)]) (rest := []) (ci := 6) hC (c_X3_set l V g D cT f n v1 (V 11) (0 : Int32) (0 : Int32) (0 : Int32) (0 : Int32) v2 ev2) k_X3_set m_893 rfl rfl ⟨Nat.le_of_ble_eq_true rfl, Nat.le_of_ble_eq_true rfl⟩ hI rfl rfl (h_me_eq ev2).1 rfl hl.1 rfl (Nat.le_of_ble_eq_true rfl) dX7_setKingMetric_11 ⟨by decide, by decide⟩) hI (fun H locs hI => ?_)
  refine lv_aload_n hx hb dX7_setKingMetric_14 rfl (lv_at hl 0 rfl) ?_
  obtain ⟨v3, ev3, hq⟩ := b_s hq
  refine fa_gr (own := RX7) (ref := "CoastlineRuler") (k := 10) hx hb hB inB_RX7 hown hI rfl (by decide) m_263 (fun _ h9 => h9) ev3 dX7_setKingMetric_15 ?_
  refine lv_iload_n hx hb dX7_setKingMetric_18 rfl (lv_at hl 1 rfl) ?_
  obtain ⟨_, ev4, hq⟩ := b_s hq
  obtain ⟨f5, ef5, hq⟩ := b_s hq
  refine fa_pt (own := RX7) (ref := "CoastlineRuler$Command") (k := 5) hx hb hB inB_RX3 tyX3_ok nmX3 hown hI rfl (by decide) m_176 (fun _ h9 => h9) (by decide) (h_bz_eq ev4).2.1 (h_bz_eq ev4).2.2 ef5 dX7_setKingMetric_19 (fun H locs hI => ?_)
  refine lv_aload_n hx hb dX7_setKingMetric_22 rfl (lv_at hl 0 rfl) ?_
  rcases x_b_eq hq with ⟨v6, ev6, hq⟩ | ⟨v6, ev6, hq⟩
  · exact gt_WW hlocks ht0 (g_runVX (As := []) (rest := []) (ci := 9) hC (c_X7_change l hl0 V g D cT f5 n a0 (.inl v6) ev6) k_X7_change m_897 rfl rfl ⟨Nat.le_of_ble_eq_true rfl, Nat.le_of_ble_eq_true rfl⟩ hI rfl rfl (h_me_eq ev6).1 rfl hl.1 rfl (Nat.le_of_ble_eq_true rfl) dX7_setKingMetric_23 ⟨by decide, by decide⟩) noy_i hI hq (by decide) (by decide)
  · refine gy_i (g_runVX (As := []) (rest := []) (ci := 9) hC (c_X7_change l hl0 V g D cT f5 n a0 (.inr v6) ev6) k_X7_change m_897 rfl rfl ⟨Nat.le_of_ble_eq_true rfl, Nat.le_of_ble_eq_true rfl⟩ hI rfl rfl (h_me_eq ev6).1 rfl hl.1 rfl (Nat.le_of_ble_eq_true rfl) dX7_setKingMetric_23 ⟨by decide, by decide⟩) hI (fun H locs hI => ?_)
    refine lv_iconst (v := (1 : Int32)) hx hb dX7_setKingMetric_26 (by decide) ?_
    refine lv_icmp_ne (tgt := 34) hx hb dX7_setKingMetric_27 (by decide) (fun c7 => ?_) (fun c7 => ?_)
    · replace hq := i_f c7 hq
      refine lv_iconst (v := (0 : Int32)) hx hb dX7_setKingMetric_34 (by decide) ?_
      exact ge_Yi hx hb hlocks hr (by decide +kernel) hI hq dX7_setKingMetric_35
    · replace hq := i_t c7 hq
      refine lv_iconst (v := (1 : Int32)) hx hb dX7_setKingMetric_30 (by decide) ?_
      refine lv_goto (tgt := 35) hx hb dX7_setKingMetric_31 (by decide) ?_
      exact ge_Yi hx hb hlocks hr (by decide +kernel) hI hq dX7_setKingMetric_35

abbrev rm_X7_undoableCount : Room := { frames := 2, cells := 0, slots := 0, locals := 120 }
theorem k_X7_undoableCount : g_CV yX7_undoableCount cX7_undoableCount 1 (some .int) 0 := ⟨⟨m_514, m_1, by decide +kernel⟩, m_512, m_513⟩
set_option maxHeartbeats 4000000 in
set_option maxRecDepth 100000 in
theorem c_X7_undoableCount (l : Launch) (V : Nat → Nat) (g : GH) (D : va_G) (cT : Nat → ClassId) (f : GH) (n : Nat) (a0 : Nat) (o : Int32) (hq : p_X7_undoableCount V g f a0 = some o) : Met l yX7_undoableCount (Cond.code yX7_undoableCount cX7_undoableCount 1 (some .int) :: g_B) rm_X7_undoableCount (va_Pc [.ref a0] (g_I V g D cT f n)) (g_Ri o n) 0 0 g_no := by
  refine g_begin (own := RX7) [.ref a0] [(0, .ref a0)] g_no (fun _ h => h.elim) (by decide) rfl (Nat.le_of_ble_eq_true rfl) rfl ?_
  intro p e s m args below meth c hx hb hr hlocks hin hC hI ls hl
  obtain ⟨hx, hb, hml, hown, hB⟩ := id hC
  obtain ⟨H, hH⟩ : ∃ H, H = s.heap := ⟨_, rfl⟩
  obtain ⟨locs, hlocs⟩ : ∃ L : List Loc, L = [] := ⟨_, rfl⟩
  rw [← hH, ← hlocs] at hI ⊢
  clear hH hlocs
  unfold p_X7_undoableCount at hq
  replace hq := (h_me_eq hq).2
  refine lv_aload_n hx hb dX7_undoableCount_0 rfl (lv_at hl 0 rfl) ?_
  obtain ⟨v1, ev1, hq⟩ := b_s hq
  refine fa_gi (own := RX7) (ref := "CoastlineRuler") (k := 5) hx hb hB inB_RX7 hown hI rfl (by decide) m_258 (fun _ h9 => h9) ev1 dX7_undoableCount_1 ?_
  exact ge_Ri hx hb hlocks hr rfl hI hq dX7_undoableCount_4

abbrev rm_X7_undo : Room := { frames := 8, cells := 1, slots := 6, locals := 163 }
theorem k_X7_undo : g_CV yX7_undo cX7_undo 1 (some .int) 0 := ⟨⟨m_518, m_1, by decide +kernel⟩, m_516, m_517⟩
set_option maxHeartbeats 4000000 in
set_option maxRecDepth 100000 in
theorem c_X7_undo (l : Launch) (hl0 : l.stackTraces = false) (V : Nat → Nat) (g : GH) (D : va_G) (cT : Nat → ClassId) (f : GH) (n : Nat) (a0 : Nat) (o : (Nat × GH) ⊕ (Int32 × GH)) (hq : p_X7_undo V g f a0 = some o) : vx_Met l yX7_undo (Cond.code yX7_undo cX7_undo 1 (some .int) :: g_B) rm_X7_undo (va_Pc [.ref a0] (g_I V g D cT f n)) (g_Yi V D cT o n) (g_YX V D cT o) 1 6 (g_A V) := by
  refine g_beginX (own := RX7) [.ref a0] [(0, .ref a0)] (g_A V) (fun _ h => h) (by decide) rfl (Nat.le_of_ble_eq_true rfl) rfl ?_
  intro p e s m args below meth c hx hb hr hlocks ht0 hC hI ls hl
  obtain ⟨hx, hb, hml, hown, hB⟩ := id hC
  obtain ⟨H, hH⟩ : ∃ H, H = s.heap := ⟨_, rfl⟩
  obtain ⟨locs, hlocs⟩ : ∃ L : List Loc, L = [] := ⟨_, rfl⟩
  rw [← hH, ← hlocs] at hI ⊢
  clear hH hlocs
  unfold p_X7_undo at hq
  replace hq := (h_me_eq hq).2
  refine lv_aload_n hx hb dX7_undo_0 rfl (lv_at hl 0 rfl) ?_
  obtain ⟨v1, ev1, hq⟩ := b_s hq
  refine fa_gi (own := RX7) (ref := "CoastlineRuler") (k := 5) hx hb hB inB_RX7 hown hI rfl (by decide) m_258 (fun _ h9 => h9) ev1 dX7_undo_1 ?_
  refine lv_if_ne (tgt := 18) hx hb dX7_undo_4 (by decide) (fun c2 => ?_) (fun c2 => ?_)
  · replace hq := i_f c2 hq
    refine lv_aload_n hx hb dX7_undo_18 rfl (lv_at hl 0 rfl) ?_
    refine lv_aload_n hx hb dX7_undo_19 rfl (lv_at hl 0 rfl) ?_
    obtain ⟨v3, ev3, hq⟩ := b_s hq
    refine fa_gi (own := RX7) (ref := "CoastlineRuler") (k := 6) hx hb hB inB_RX7 hown hI rfl (by decide) m_259 (fun _ h9 => h9) ev3 dX7_undo_20 ?_
    have hj37 : ∀ (x0 : Nat) (t0 : Int32) (t1 : Nat) (f : GH) (H : Heap) (locs : List Loc) (ls : Array Slot), g_at (g_A V) V g D cT f n s H locs → lv_has ls 1 [(0, .ref x0)] → p_X7_undo_j37 V g x0 t0 t1 f = some o → W p l e rm_X7_undo s m args below meth c H locs 0 0 (vx_MQ below (g_Yi V D cT o n) (g_YX V D cT o) args s 1 6 (g_A V)) (F0 m 37 ls [.int t0, .ref t1]) := by
      intro x0 t0 t1 f H locs ls hI hl hq
      unfold p_X7_undo_j37 at hq
      obtain ⟨f4, ef4, hq⟩ := b_s hq
      refine fa_pt (own := RX7) (ref := "CoastlineRuler") (k := 6) hx hb hB inB_RX7 tyX7_ok nmX7 hown hI rfl (by decide) m_259 (fun _ h9 => h9) (by decide) rfl rfl ef4 dX7_undo_37 (fun H locs hI => ?_)
      refine lv_aload_n hx hb dX7_undo_40 rfl (lv_at hl 0 rfl) ?_
      refine lv_dup hx hb dX7_undo_41 rfl ?_
      obtain ⟨v5, ev5, hq⟩ := b_s hq
      refine fa_gi (own := RX7) (ref := "CoastlineRuler") (k := 5) hx hb hB inB_RX7 hown hI rfl (by decide) m_258 (fun _ h9 => h9) ev5 dX7_undo_42 ?_
      refine lv_iconst (v := (1 : Int32)) hx hb dX7_undo_45 (by decide) ?_
      refine lv_isub hx hb dX7_undo_46 ?_
      obtain ⟨f6, ef6, hq⟩ := b_s hq
      refine fa_pt (own := RX7) (ref := "CoastlineRuler") (k := 5) hx hb hB inB_RX7 tyX7_ok nmX7 hown hI rfl (by decide) m_258 (fun _ h9 => h9) (by decide) rfl rfl ef6 dX7_undo_47 (fun H locs hI => ?_)
      refine lv_aload_n hx hb dX7_undo_50 rfl (lv_at hl 0 rfl) ?_
      obtain ⟨v7, ev7, hq⟩ := b_s hq
      refine fa_gr (own := RX7) (ref := "CoastlineRuler") (k := 0) hx hb hB inB_RX7 hown hI rfl (by decide) m_253 (fun _ h9 => h9) ev7 dX7_undo_51 ?_
      refine lv_aload_n hx hb dX7_undo_54 rfl (lv_at hl 0 rfl) ?_
      obtain ⟨v8, ev8, hq⟩ := b_s hq
      refine fa_gr (own := RX7) (ref := "CoastlineRuler") (k := 4) hx hb hB inB_RX7 hown hI rfl (by decide) m_257 (fun _ h9 => h9) ev8 dX7_undo_55 ?_
      refine lv_aload_n hx hb dX7_undo_58 rfl (lv_at hl 0 rfl) ?_
      obtain ⟨v9, ev9, hq⟩ := b_s hq
      refine fa_gi (own := RX7) (ref := "CoastlineRuler") (k := 6) hx hb hB inB_RX7 hown hI rfl (by decide) m_259 (fun _ h9 => h9) ev9 dX7_undo_59 ?_
      obtain ⟨v10, ev10, hq⟩ := b_s hq
      refine fa_lq hx hb hI (by decide) rfl ev10 dX7_undo_62 ?_
      obtain ⟨v11, ev11, hq⟩ := b_s hq
      refine gw_v (g_runV (As := [.ref v10]) (rest := []) (ci := 4) hC (c_X1_copyFrom l V g D cT f6 n v7 v10 v11 ev11) k_X1_copyFrom m_495 rfl rfl ⟨Nat.le_of_ble_eq_true rfl, Nat.le_of_ble_eq_true rfl⟩ hI rfl rfl (h_me_eq ev11).1 rfl hl.1 rfl (Nat.le_of_ble_eq_true rfl) dX7_undo_63 ⟨by decide, by decide⟩) hI (fun H locs hI => ?_)
      refine lv_aload_n hx hb dX7_undo_66 rfl (lv_at hl 0 rfl) ?_
      obtain ⟨v12, ev12, hq⟩ := b_s hq
      refine fa_gi (own := RX7) (ref := "CoastlineRuler") (k := 5) hx hb hB inB_RX7 hown hI rfl (by decide) m_258 (fun _ h9 => h9) ev12 dX7_undo_67 ?_
      refine W.widen (k := 1) (n := 6) (by decide) (by decide) ?_
      exact ge_Yi hx hb hlocks hr rfl hI hq dX7_undo_70
    refine lv_if_ne (tgt := 31) hx hb dX7_undo_23 (by decide) (fun c13 => ?_) (fun c13 => ?_)
    · replace hq := i_f c13 hq
      refine lv_aload_n hx hb dX7_undo_31 rfl (lv_at hl 0 rfl) ?_
      obtain ⟨v14, ev14, hq⟩ := b_s hq
      refine fa_gi (own := RX7) (ref := "CoastlineRuler") (k := 6) hx hb hB inB_RX7 hown hI rfl (by decide) m_259 (fun _ h9 => h9) ev14 dX7_undo_32 ?_
      refine lv_iconst (v := (1 : Int32)) hx hb dX7_undo_35 (by decide) ?_
      refine lv_isub hx hb dX7_undo_36 ?_
      exact hj37 a0 (v14 - (1 : Int32)) a0 f H locs ls hI (lv_sub hl [0] rfl) hq
    · replace hq := i_t c13 hq
      refine lv_bipush (v := (7 : Int32)) hx hb dX7_undo_26 (by decide) ?_
      refine lv_goto (tgt := 37) hx hb dX7_undo_28 (by decide) ?_
      exact hj37 a0 (7 : Int32) a0 f H locs ls hI (lv_sub hl [0] rfl) hq
  · replace hq := i_t c2 hq
    exact vx_throwSW (own := RX7) (cls := "java/lang/IllegalStateException") (names := ["java/lang/RuntimeException", "java/lang/Exception"]) hx hb hl0 hown (by decide +kernel) (by decide +kernel) (hB _ m_519) (hB _ m_25) (g_rtq hI rt_6) (g_hat hB hI xat_RX7_330) xgd_RX7_330 (g_uns hI) (g_sup hI) hI.2.2.2.2.2.2.1 (hl.1.trans hml.symm) dX7_undo_7 dX7_undo_10 dX7_undo_11 dX7_undo_14 dX7_undo_17 (fun x hx => (ht0 x hx).elim) (by decide) (by decide) (by decide) (by decide) hlocks (g_thrW hI hq) hI.2.2.2.2.2.2.1.2.2 (by decide) (by decide)

abbrev rm_X7_saveSnapshot : Room := { frames := 4, cells := 0, slots := 0, locals := 163 }
theorem k_X7_saveSnapshot : g_CV yX7_saveSnapshot cX7_saveSnapshot 1 none 0 := ⟨⟨m_538, m_1, by decide +kernel⟩, m_536, m_537⟩
set_option maxHeartbeats 4000000 in
set_option maxRecDepth 100000 in
theorem c_X7_saveSnapshot (l : Launch) (V : Nat → Nat) (g : GH) (D : va_G) (cT : Nat → ClassId) (f : GH) (n : Nat) (a0 : Nat) (o : GH) (hq : p_X7_saveSnapshot V g f a0 = some o) : Met l yX7_saveSnapshot (Cond.code yX7_saveSnapshot cX7_saveSnapshot 1 none :: g_B) rm_X7_saveSnapshot (va_Pc [.ref a0] (g_I V g D cT f n)) (g_Wv V D cT o n) 0 0 (g_A V) := by
  refine g_begin (own := RX7) [.ref a0] [(0, .ref a0)] (g_A V) (fun _ h => h) (by decide) rfl (Nat.le_of_ble_eq_true rfl) rfl ?_
  intro p e s m args below meth c hx hb hr hlocks hin hC hI ls hl
  obtain ⟨hx, hb, hml, hown, hB⟩ := id hC
  obtain ⟨H, hH⟩ : ∃ H, H = s.heap := ⟨_, rfl⟩
  obtain ⟨locs, hlocs⟩ : ∃ L : List Loc, L = [] := ⟨_, rfl⟩
  rw [← hH, ← hlocs] at hI ⊢
  clear hH hlocs
  unfold p_X7_saveSnapshot at hq
  replace hq := (h_me_eq hq).2
  refine lv_aload_n hx hb dX7_saveSnapshot_0 rfl (lv_at hl 0 rfl) ?_
  obtain ⟨v1, ev1, hq⟩ := b_s hq
  refine fa_gr (own := RX7) (ref := "CoastlineRuler") (k := 2) hx hb hB inB_RX7 hown hI rfl (by decide) m_255 (fun _ h9 => h9) ev1 dX7_saveSnapshot_1 ?_
  refine lv_aload_n hx hb dX7_saveSnapshot_4 rfl (lv_at hl 0 rfl) ?_
  obtain ⟨v2, ev2, hq⟩ := b_s hq
  refine fa_gr (own := RX7) (ref := "CoastlineRuler") (k := 0) hx hb hB inB_RX7 hown hI rfl (by decide) m_253 (fun _ h9 => h9) ev2 dX7_saveSnapshot_5 ?_
  obtain ⟨v3, ev3, hq⟩ := b_s hq
  refine gw_v (g_runV (As := [.ref v2]) (rest := []) (ci := 4) hC (c_X1_copyFrom l V g D cT f n v1 v2 v3 ev3) k_X1_copyFrom m_495 rfl rfl ⟨Nat.le_of_ble_eq_true rfl, Nat.le_of_ble_eq_true rfl⟩ hI rfl rfl (h_me_eq ev3).1 rfl hl.1 rfl (Nat.le_of_ble_eq_true rfl) dX7_saveSnapshot_8 ⟨by decide, by decide⟩) hI (fun H locs hI => ?_)
  refine lv_aload_n hx hb dX7_saveSnapshot_11 rfl (lv_at hl 0 rfl) ?_
  refine lv_iconst (v := (1 : Int32)) hx hb dX7_saveSnapshot_12 (by decide) ?_
  obtain ⟨f4, ef4, hq⟩ := b_s hq
  refine fa_pt (own := RX7) (ref := "CoastlineRuler") (k := 3) hx hb hB inB_RX7 tyX7_ok nmX7 hown hI rfl (by decide) m_256 (fun _ h9 => h9) (by decide) (by decide +kernel) (by decide +kernel) ef4 dX7_saveSnapshot_13 (fun H locs hI => ?_)
  exact ge_Wv hx hb hlocks hr hI (Option.some.inj hq) dX7_saveSnapshot_16

abbrev rm_X7_restoreSnapshot : Room := { frames := 8, cells := 1, slots := 6, locals := 163 }
theorem k_X7_restoreSnapshot : g_CV yX7_restoreSnapshot cX7_restoreSnapshot 1 (some .int) 0 := ⟨⟨m_542, m_1, by decide +kernel⟩, m_540, m_541⟩
set_option maxHeartbeats 4000000 in
set_option maxRecDepth 100000 in
theorem c_X7_restoreSnapshot (l : Launch) (hl0 : l.stackTraces = false) (V : Nat → Nat) (g : GH) (D : va_G) (cT : Nat → ClassId) (f : GH) (n : Nat) (a0 : Nat) (o : (Nat × GH) ⊕ (Int32 × GH)) (hq : p_X7_restoreSnapshot V g f a0 = some o) : vx_Met l yX7_restoreSnapshot (Cond.code yX7_restoreSnapshot cX7_restoreSnapshot 1 (some .int) :: g_B) rm_X7_restoreSnapshot (va_Pc [.ref a0] (g_I V g D cT f n)) (g_Yi V D cT o n) (g_YX V D cT o) 1 6 (g_A V) := by
  refine g_beginX (own := RX7) [.ref a0] [(0, .ref a0)] (g_A V) (fun _ h => h) (by decide) rfl (Nat.le_of_ble_eq_true rfl) rfl ?_
  intro p e s m args below meth c hx hb hr hlocks ht0 hC hI ls hl
  obtain ⟨hx, hb, hml, hown, hB⟩ := id hC
  obtain ⟨H, hH⟩ : ∃ H, H = s.heap := ⟨_, rfl⟩
  obtain ⟨locs, hlocs⟩ : ∃ L : List Loc, L = [] := ⟨_, rfl⟩
  rw [← hH, ← hlocs] at hI ⊢
  clear hH hlocs
  unfold p_X7_restoreSnapshot at hq
  replace hq := (h_me_eq hq).2
  refine lv_aload_n hx hb dX7_restoreSnapshot_0 rfl (lv_at hl 0 rfl) ?_
  obtain ⟨v1, ev1, hq⟩ := b_s hq
  refine fa_gi (own := RX7) (ref := "CoastlineRuler") (k := 3) hx hb hB inB_RX7 hown hI rfl (by decide) m_256 (fun _ h9 => h9) ev1 dX7_restoreSnapshot_1 ?_
  refine lv_if_ne (tgt := 18) hx hb dX7_restoreSnapshot_4 (by decide) (fun c2 => ?_) (fun c2 => ?_)
  · replace hq := i_f c2 hq
    refine lv_aload_n hx hb dX7_restoreSnapshot_18 rfl (lv_at hl 0 rfl) ?_
    obtain ⟨v3, ev3, hq⟩ := b_s hq
    refine fa_gr (own := RX7) (ref := "CoastlineRuler") (k := 0) hx hb hB inB_RX7 hown hI rfl (by decide) m_253 (fun _ h9 => h9) ev3 dX7_restoreSnapshot_19 ?_
    refine lv_aload_n hx hb dX7_restoreSnapshot_22 rfl (lv_at hl 0 rfl) ?_
    obtain ⟨v4, ev4, hq⟩ := b_s hq
    refine fa_gr (own := RX7) (ref := "CoastlineRuler") (k := 2) hx hb hB inB_RX7 hown hI rfl (by decide) m_255 (fun _ h9 => h9) ev4 dX7_restoreSnapshot_23 ?_
    obtain ⟨v5, ev5, hq⟩ := b_s hq
    refine gw_v (g_runV (As := [.ref v4]) (rest := []) (ci := 4) hC (c_X1_copyFrom l V g D cT f n v3 v4 v5 ev5) k_X1_copyFrom m_495 rfl rfl ⟨Nat.le_of_ble_eq_true rfl, Nat.le_of_ble_eq_true rfl⟩ hI rfl rfl (h_me_eq ev5).1 rfl hl.1 rfl (Nat.le_of_ble_eq_true rfl) dX7_restoreSnapshot_26 ⟨by decide, by decide⟩) hI (fun H locs hI => ?_)
    refine lv_aload_n hx hb dX7_restoreSnapshot_29 rfl (lv_at hl 0 rfl) ?_
    refine lv_iconst (v := (0 : Int32)) hx hb dX7_restoreSnapshot_30 (by decide) ?_
    obtain ⟨f6, ef6, hq⟩ := b_s hq
    refine fa_pt (own := RX7) (ref := "CoastlineRuler") (k := 5) hx hb hB inB_RX7 tyX7_ok nmX7 hown hI rfl (by decide) m_258 (fun _ h9 => h9) (by decide) rfl rfl ef6 dX7_restoreSnapshot_31 (fun H locs hI => ?_)
    refine lv_aload_n hx hb dX7_restoreSnapshot_34 rfl (lv_at hl 0 rfl) ?_
    obtain ⟨v7, ev7, hq⟩ := b_s hq
    refine fa_gr (own := RX7) (ref := "CoastlineRuler") (k := 0) hx hb hB inB_RX7 hown hI rfl (by decide) m_253 (fun _ h9 => h9) ev7 dX7_restoreSnapshot_35 ?_
    obtain ⟨v8, ev8, hq⟩ := b_s hq
    refine fa_gi (own := RX7) (ref := "CoastlineRuler$Chart") (k := 1) hx hb hB inB_RX1 hown hI rfl (by decide) m_77 (fun _ h9 => h9) ev8 dX7_restoreSnapshot_38 ?_
    refine W.widen (k := 1) (n := 6) (by decide) (by decide) ?_
    exact ge_Yi hx hb hlocks hr rfl hI hq dX7_restoreSnapshot_41
  · replace hq := i_t c2 hq
    exact vx_throwSW (own := RX7) (cls := "java/lang/IllegalStateException") (names := ["java/lang/RuntimeException", "java/lang/Exception"]) hx hb hl0 hown (by decide +kernel) (by decide +kernel) (hB _ m_519) (hB _ m_25) (g_rtq hI rt_7) (g_hat hB hI xat_RX7_330) xgd_RX7_330 (g_uns hI) (g_sup hI) hI.2.2.2.2.2.2.1 (hl.1.trans hml.symm) dX7_restoreSnapshot_7 dX7_restoreSnapshot_10 dX7_restoreSnapshot_11 dX7_restoreSnapshot_14 dX7_restoreSnapshot_17 (fun x hx => (ht0 x hx).elim) (by decide) (by decide) (by decide) (by decide) hlocks (g_thrW hI hq) hI.2.2.2.2.2.2.1.2.2 (by decide) (by decide)


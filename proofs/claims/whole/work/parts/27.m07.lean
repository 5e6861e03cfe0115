def p_X8_does (V : Nat → Nat) (g f : GH) (a0 : Nat) (a1 : Int32) : Option (Int32 × GH) :=
  h_me f a0 10 <|
  (h_gr f a0 10 23).bind fun v1 =>
  (h_li f v1 0 (a1 + (1 : Int32))).bind fun v2 =>
  (h_gr f a0 10 23).bind fun v3 =>
  (h_li f v3 0 (a1 + (2 : Int32))).bind fun v4 =>
  (h_gr f a0 10 23).bind fun v5 =>
  (h_li f v5 0 a1).bind fun v6 =>
  (if v6 = (0 : Int32) then
    (h_gr f a0 10 23).bind fun v8 =>
    (h_gr f a0 10 22).bind fun v9 =>
    (h_gr f a0 10 22).bind fun v10 =>
    (h_al f v10 0).bind fun v11 =>
    (h_cp f 0 v8 (a1 + (5 : Int32)) v9 (0 : Int32) v11).bind fun f12 =>
    (p_X8_doAdd V g f12 a0).bind fun v13 =>
    some (v13.1, v13.2)
  else
  (if v6 = (1 : Int32) then
    (p_X8_doFold V g f a0 v2 v4).bind fun v14 =>
    some (v14.1, v14.2)
  else
  (if v6 = (2 : Int32) then
    (p_X8_doUnfold V g f a0 v2).bind fun v15 =>
    some (v15.1, v15.2)
  else
  (if v6 = (3 : Int32) then
    (h_gr f a0 10 23).bind fun v16 =>
    (h_li f v16 0 (a1 + (3 : Int32))).bind fun v17 =>
    (h_gr f a0 10 23).bind fun v18 =>
    (h_li f v18 0 (a1 + (4 : Int32))).bind fun v19 =>
    (p_X8_doMove V g f a0 v2 v4 v17 v19).bind fun v20 =>
    some (v20.1, v20.2)
  else
  (if v6 = (4 : Int32) then
    (h_gr f a0 10 23).bind fun v21 =>
    (h_li f v21 0 (a1 + (3 : Int32))).bind fun v22 =>
    (h_gr f a0 10 23).bind fun v23 =>
    (h_li f v23 0 (a1 + (4 : Int32))).bind fun v24 =>
    (p_X8_doInsert V g f a0 v2 v4 v22 v24).bind fun v25 =>
    some (v25.1, v25.2)
  else
  (if v6 = (5 : Int32) then
    (p_X8_doCut V g f a0 v2 v4).bind fun v26 =>
    some (v26.1, v26.2)
  else
  (if v6 = (6 : Int32) then
    (h_gr f a0 10 23).bind fun v27 =>
    (h_li f v27 0 (a1 + (3 : Int32))).bind fun v28 =>
    (h_gr f a0 10 23).bind fun v29 =>
    (h_li f v29 0 (a1 + (4 : Int32))).bind fun v30 =>
    (p_X8_doShift V g f a0 v2 v28 v30).bind fun v31 =>
    some (v31.1, v31.2)
  else
  (if v6 = (7 : Int32) then
    (p_X8_doReverse V g f a0 v2).bind fun v32 =>
    some (v32.1, v32.2)
  else
  (if v6 = (8 : Int32) then
    (p_X8_doRemove V g f a0 v2).bind fun v33 =>
    some (v33.1, v33.2)
  else
    (if v2 = (1 : Int32) then
      (p_X8_setMetric V g f a0 (1 : Int32)).bind fun v36 =>
      some ((0 : Int32), v36)
    else
      (p_X8_setMetric V g f a0 (0 : Int32)).bind fun v35 =>
      some ((0 : Int32), v35)))))))))))
abbrev rm_X8_does : Room := { frames := 8, cells := 0, slots := 0, locals := 260 }
theorem k_X8_does : g_CV yX8_does cX8_does 4 (some .int) 1 := ⟨⟨m_2203, m_14, by decide +kernel⟩, m_2202, ms_101⟩
set_option maxHeartbeats 4000000 in
set_option maxRecDepth 100000 in
theorem c_X8_does (l : Launch) (V : Nat → Nat) (g : GH) (D : va_G) (cT : Nat → ClassId) (f : GH) (n : Nat) (a0 : Nat) (a1 : Int32) (o : Int32 × GH) (hq : p_X8_does V g f a0 a1 = some o) : Met l yX8_does (Cond.code yX8_does cX8_does 4 (some .int) :: g_B) rm_X8_does (va_Pc [.ref a0, .int a1] (g_I V g D cT f n)) (g_Wi V D cT o.1 o.2 n) 0 0 (g_A V) := by
  refine g_begin (own := RX8) [.ref a0, .int a1] [(0, .ref a0), (1, .int a1)] (g_A V) (fun _ h => h) (by decide) rfl (Nat.le_of_ble_eq_true rfl) rfl ?_
  intro p e s m args below meth c hx hb hr hlocks hin hC hI ls hl
  obtain ⟨hx, hb, hml, hown, hB⟩ := id hC
  obtain ⟨H, hH⟩ : ∃ H, H = s.heap := ⟨_, rfl⟩
  obtain ⟨locs, hlocs⟩ : ∃ L : List Loc, L = [] := ⟨_, rfl⟩
  rw [← hH, ← hlocs] at hI ⊢
  clear hH hlocs
  unfold p_X8_does at hq
  replace hq := (h_me_eq hq).2
  refine lv_aload_n hx hb dX8_does_0 rfl (lv_at hl 0 rfl) ?_
  obtain ⟨v1, ev1, hq⟩ := b_s hq
  refine fa_gr (own := RX8) (ref := "CoastlineRulerModel") (k := 23) hx hb hB inB_RX8 hown hI rfl (by decide) m_1554 (fun _ h9 => h9) ev1 dX8_does_1 ?_
  refine lv_iload_n hx hb dX8_does_4 rfl (lv_at hl 1 rfl) ?_
  refine lv_iconst (v := (1 : Int32)) hx hb dX8_does_5 (by decide) ?_
  refine lv_iadd hx hb dX8_does_6 ?_
  obtain ⟨v2, ev2, hq⟩ := b_s hq
  refine fa_li hx hb hI ev2 dX8_does_7 ?_
  refine lv_istore_n (lv' := [(2, .int v2), (0, .ref a0), (1, .int a1)]) hx hb dX8_does_8 rfl hl (by decide) rfl (fun ls hl => ?_)
  refine lv_aload_n hx hb dX8_does_9 rfl (lv_at hl 1 rfl) ?_
  obtain ⟨v3, ev3, hq⟩ := b_s hq
  refine fa_gr (own := RX8) (ref := "CoastlineRulerModel") (k := 23) hx hb hB inB_RX8 hown hI rfl (by decide) m_1554 (fun _ h9 => h9) ev3 dX8_does_10 ?_
  refine lv_iload_n hx hb dX8_does_13 rfl (lv_at hl 2 rfl) ?_
  refine lv_iconst (v := (2 : Int32)) hx hb dX8_does_14 (by decide) ?_
  refine lv_iadd hx hb dX8_does_15 ?_
  obtain ⟨v4, ev4, hq⟩ := b_s hq
  refine fa_li hx hb hI ev4 dX8_does_16 ?_
  refine lv_istore_n (lv' := [(3, .int v4), (2, .int v2), (0, .ref a0), (1, .int a1)]) hx hb dX8_does_17 rfl hl (by decide) rfl (fun ls hl => ?_)
  refine lv_aload_n hx hb dX8_does_18 rfl (lv_at hl 2 rfl) ?_
  obtain ⟨v5, ev5, hq⟩ := b_s hq
  refine fa_gr (own := RX8) (ref := "CoastlineRulerModel") (k := 23) hx hb hB inB_RX8 hown hI rfl (by decide) m_1554 (fun _ h9 => h9) ev5 dX8_does_19 ?_
  refine lv_iload_n hx hb dX8_does_22 rfl (lv_at hl 3 rfl) ?_
  obtain ⟨v6, ev6, hq⟩ := b_s hq
  refine fa_li hx hb hI ev6 dX8_does_23 ?_
  by_cases c7_0 : v6 = (0 : Int32)
  · replace hq := i_t c7_0 hq
    refine lv_tableIn (off := 52) (tgt := 76) hx hb dX8_does_24 (by rw [c7_0]; decide) (by rw [c7_0]; decide) (by rw [c7_0]; decide) (by decide) ?_
    refine lv_aload_n hx hb dX8_does_76 rfl (lv_at hl 2 rfl) ?_
    obtain ⟨v8, ev8, hq⟩ := b_s hq
    refine fa_gr (own := RX8) (ref := "CoastlineRulerModel") (k := 23) hx hb hB inB_RX8 hown hI rfl (by decide) m_1554 (fun _ h9 => h9) ev8 dX8_does_77 ?_
    refine lv_iload_n hx hb dX8_does_80 rfl (lv_at hl 3 rfl) ?_
    refine lv_iconst (v := (5 : Int32)) hx hb dX8_does_81 (by decide) ?_
    refine lv_iadd hx hb dX8_does_82 ?_
    refine lv_aload_n hx hb dX8_does_83 rfl (lv_at hl 2 rfl) ?_
    obtain ⟨v9, ev9, hq⟩ := b_s hq
    refine fa_gr (own := RX8) (ref := "CoastlineRulerModel") (k := 22) hx hb hB inB_RX8 hown hI rfl (by decide) m_1553 (fun _ h9 => h9) ev9 dX8_does_84 ?_
    refine lv_iconst (v := (0 : Int32)) hx hb dX8_does_87 (by decide) ?_
    refine lv_aload_n hx hb dX8_does_88 rfl (lv_at hl 2 rfl) ?_
    obtain ⟨v10, ev10, hq⟩ := b_s hq
    refine fa_gr (own := RX8) (ref := "CoastlineRulerModel") (k := 22) hx hb hB inB_RX8 hown hI rfl (by decide) m_1553 (fun _ h9 => h9) ev10 dX8_does_89 ?_
    obtain ⟨v11, ev11, hq⟩ := b_s hq
    refine fa_al hx hb hI (by decide) ev11 dX8_does_92 ?_
    obtain ⟨f12, ef12, hq⟩ := b_s hq
    refine fa_cp (own := RX8) hx hb (hml.trans hl.1.symm) hB hown m_1518 m_252 m_251 m_13 hI ef12 (by decide) (by decide) dX8_does_93 (fun H locs hI => ?_)
    refine lv_aload_n hx hb dX8_does_96 rfl (lv_at hl 2 rfl) ?_
    obtain ⟨v13, ev13, hq⟩ := b_s hq
    refine gw_i (g_runV (As := []) (rest := []) (ci := 10) hC (c_X8_doAdd l V g D cT f12 n a0 v13 ev13) k_X8_doAdd m_2180 rfl rfl ⟨Nat.le_of_ble_eq_true rfl, Nat.le_of_ble_eq_true rfl⟩ hI rfl rfl (h_me_eq ev13).1 rfl hl.1 rfl (Nat.le_of_ble_eq_true rfl) dX8_does_97 ⟨by decide, by decide⟩) hI (fun H locs hI => ?_)
    exact ge_Wi hx hb hlocks hr rfl hI (congrArg (fun z => z.1) (Option.some.inj hq)) (congrArg (fun z => z.2) (Option.some.inj hq)) dX8_does_100
  · replace hq := i_f c7_0 hq
    by_cases c7_1 : v6 = (1 : Int32)
    · replace hq := i_t c7_1 hq
      refine lv_tableIn (off := 77) (tgt := 101) hx hb dX8_does_24 (by rw [c7_1]; decide) (by rw [c7_1]; decide) (by rw [c7_1]; decide) (by decide) ?_
      refine lv_aload_n hx hb dX8_does_101 rfl (lv_at hl 2 rfl) ?_
      refine lv_iload_n hx hb dX8_does_102 rfl (lv_at hl 1 rfl) ?_
      refine lv_iload_n hx hb dX8_does_103 rfl (lv_at hl 0 rfl) ?_
      obtain ⟨v14, ev14, hq⟩ := b_s hq
      refine gw_i (g_runV (As := [.int v2, .int v4]) (rest := []) (ci := 10) hC (c_X8_doFold l V g D cT f n a0 v2 v4 v14 ev14) k_X8_doFold m_1963 rfl rfl ⟨Nat.le_of_ble_eq_true rfl, Nat.le_of_ble_eq_true rfl⟩ hI rfl rfl (h_me_eq ev14).1 rfl hl.1 rfl (Nat.le_of_ble_eq_true rfl) dX8_does_104 ⟨by decide, by decide⟩) hI (fun H locs hI => ?_)
      exact ge_Wi hx hb hlocks hr rfl hI (congrArg (fun z => z.1) (Option.some.inj hq)) (congrArg (fun z => z.2) (Option.some.inj hq)) dX8_does_107
    · replace hq := i_f c7_1 hq
      by_cases c7_2 : v6 = (2 : Int32)
      · replace hq := i_t c7_2 hq
        refine lv_tableIn (off := 84) (tgt := 108) hx hb dX8_does_24 (by rw [c7_2]; decide) (by rw [c7_2]; decide) (by rw [c7_2]; decide) (by decide) ?_
        refine lv_aload_n hx hb dX8_does_108 rfl (lv_at hl 2 rfl) ?_
        refine lv_iload_n hx hb dX8_does_109 rfl (lv_at hl 1 rfl) ?_
        obtain ⟨v15, ev15, hq⟩ := b_s hq
        refine gw_i (g_runV (As := [.int v2]) (rest := []) (ci := 10) hC (c_X8_doUnfold l V g D cT f n a0 v2 v15 ev15) k_X8_doUnfold m_1971 rfl rfl ⟨Nat.le_of_ble_eq_true rfl, Nat.le_of_ble_eq_true rfl⟩ hI rfl rfl (h_me_eq ev15).1 rfl hl.1 rfl (Nat.le_of_ble_eq_true rfl) dX8_does_110 ⟨by decide, by decide⟩) hI (fun H locs hI => ?_)
        exact ge_Wi hx hb hlocks hr rfl hI (congrArg (fun z => z.1) (Option.some.inj hq)) (congrArg (fun z => z.2) (Option.some.inj hq)) dX8_does_113
      · replace hq := i_f c7_2 hq
        by_cases c7_3 : v6 = (3 : Int32)
        · replace hq := i_t c7_3 hq
          refine lv_tableIn (off := 90) (tgt := 114) hx hb dX8_does_24 (by rw [c7_3]; decide) (by rw [c7_3]; decide) (by rw [c7_3]; decide) (by decide) ?_
          refine lv_aload_n hx hb dX8_does_114 rfl (lv_at hl 2 rfl) ?_
          refine lv_iload_n hx hb dX8_does_115 rfl (lv_at hl 1 rfl) ?_
          refine lv_iload_n hx hb dX8_does_116 rfl (lv_at hl 0 rfl) ?_
          refine lv_aload_n hx hb dX8_does_117 rfl (lv_at hl 2 rfl) ?_
          obtain ⟨v16, ev16, hq⟩ := b_s hq
          refine fa_gr (own := RX8) (ref := "CoastlineRulerModel") (k := 23) hx hb hB inB_RX8 hown hI rfl (by decide) m_1554 (fun _ h9 => h9) ev16 dX8_does_118 ?_
          refine lv_iload_n hx hb dX8_does_121 rfl (lv_at hl 3 rfl) ?_
          refine lv_iconst (v := (3 : Int32)) hx hb dX8_does_122 (by decide) ?_
          refine lv_iadd hx hb dX8_does_123 ?_
          obtain ⟨v17, ev17, hq⟩ := b_s hq
          refine fa_li hx hb hI ev17 dX8_does_124 ?_
          refine lv_aload_n hx hb dX8_does_125 rfl (lv_at hl 2 rfl) ?_
          obtain ⟨v18, ev18, hq⟩ := b_s hq
          refine fa_gr (own := RX8) (ref := "CoastlineRulerModel") (k := 23) hx hb hB inB_RX8 hown hI rfl (by decide) m_1554 (fun _ h9 => h9) ev18 dX8_does_126 ?_
          refine lv_iload_n hx hb dX8_does_129 rfl (lv_at hl 3 rfl) ?_
          refine lv_iconst (v := (4 : Int32)) hx hb dX8_does_130 (by decide) ?_
          refine lv_iadd hx hb dX8_does_131 ?_
          obtain ⟨v19, ev19, hq⟩ := b_s hq
          refine fa_li hx hb hI ev19 dX8_does_132 ?_
          obtain ⟨v20, ev20, hq⟩ := b_s hq
          refine gw_i (g_runV (As := [.int v2, .int v4, .int v17, .int v19]) (rest := []) (ci := 10) hC (c_X8_doMove l V g D cT f n a0 v2 v4 v17 v19 v20 ev20) k_X8_doMove m_1979 rfl rfl ⟨Nat.le_of_ble_eq_true rfl, Nat.le_of_ble_eq_true rfl⟩ hI rfl rfl (h_me_eq ev20).1 rfl hl.1 rfl (Nat.le_of_ble_eq_true rfl) dX8_does_133 ⟨by decide, by decide⟩) hI (fun H locs hI => ?_)
          exact ge_Wi hx hb hlocks hr rfl hI (congrArg (fun z => z.1) (Option.some.inj hq)) (congrArg (fun z => z.2) (Option.some.inj hq)) dX8_does_136
        · replace hq := i_f c7_3 hq
          by_cases c7_4 : v6 = (4 : Int32)
          · replace hq := i_t c7_4 hq
            refine lv_tableIn (off := 113) (tgt := 137) hx hb dX8_does_24 (by rw [c7_4]; decide) (by rw [c7_4]; decide) (by rw [c7_4]; decide) (by decide) ?_
            refine lv_aload_n hx hb dX8_does_137 rfl (lv_at hl 2 rfl) ?_
            refine lv_iload_n hx hb dX8_does_138 rfl (lv_at hl 1 rfl) ?_
            refine lv_iload_n hx hb dX8_does_139 rfl (lv_at hl 0 rfl) ?_
            refine lv_aload_n hx hb dX8_does_140 rfl (lv_at hl 2 rfl) ?_
            obtain ⟨v21, ev21, hq⟩ := b_s hq
            refine fa_gr (own := RX8) (ref := "CoastlineRulerModel") (k := 23) hx hb hB inB_RX8 hown hI rfl (by decide) m_1554 (fun _ h9 => h9) ev21 dX8_does_141 ?_
            refine lv_iload_n hx hb dX8_does_144 rfl (lv_at hl 3 rfl) ?_
            refine lv_iconst (v := (3 : Int32)) hx hb dX8_does_145 (by decide) ?_
            refine lv_iadd hx hb dX8_does_146 ?_
            obtain ⟨v22, ev22, hq⟩ := b_s hq
            refine fa_li hx hb hI ev22 dX8_does_147 ?_
            refine lv_aload_n hx hb dX8_does_148 rfl (lv_at hl 2 rfl) ?_
            obtain ⟨v23, ev23, hq⟩ := b_s hq
            refine fa_gr (own := RX8) (ref := "CoastlineRulerModel") (k := 23) hx hb hB inB_RX8 hown hI rfl (by decide) m_1554 (fun _ h9 => h9) ev23 dX8_does_149 ?_
            refine lv_iload_n hx hb dX8_does_152 rfl (lv_at hl 3 rfl) ?_
            refine lv_iconst (v := (4 : Int32)) hx hb dX8_does_153 (by decide) ?_
            refine lv_iadd hx hb dX8_does_154 ?_
            obtain ⟨v24, ev24, hq⟩ := b_s hq
            refine fa_li hx hb hI ev24 dX8_does_155 ?_
            obtain ⟨v25, ev25, hq⟩ := b_s hq
            refine gw_i (g_runV (As := [.int v2, .int v4, .int v22, .int v24]) (rest := []) (ci := 10) hC (c_X8_doInsert l V g D cT f n a0 v2 v4 v22 v24 v25 ev25) k_X8_doInsert m_1987 rfl rfl ⟨Nat.le_of_ble_eq_true rfl, Nat.le_of_ble_eq_true rfl⟩ hI rfl rfl (h_me_eq ev25).1 rfl hl.1 rfl (Nat.le_of_ble_eq_true rfl) dX8_does_156 ⟨by decide, by decide⟩) hI (fun H locs hI => ?_)
            exact ge_Wi hx hb hlocks hr rfl hI (congrArg (fun z => z.1) (Option.some.inj hq)) (congrArg (fun z => z.2) (Option.some.inj hq)) dX8_does_159
          · replace hq := i_f c7_4 hq
            by_cases c7_5 : v6 = (5 : Int32)
            · replace hq := i_t c7_5 hq
              refine lv_tableIn (off := 136) (tgt := 160) hx hb dX8_does_24 (by rw [c7_5]; decide) (by rw [c7_5]; decide) (by rw [c7_5]; decide) (by decide) ?_
              refine lv_aload_n hx hb dX8_does_160 rfl (lv_at hl 2 rfl) ?_
              refine lv_iload_n hx hb dX8_does_161 rfl (lv_at hl 1 rfl) ?_
              refine lv_iload_n hx hb dX8_does_162 rfl (lv_at hl 0 rfl) ?_
              obtain ⟨v26, ev26, hq⟩ := b_s hq
              refine gw_i (g_runV (As := [.int v2, .int v4]) (rest := []) (ci := 10) hC (c_X8_doCut l V g D cT f n a0 v2 v4 v26 ev26) k_X8_doCut m_1995 rfl rfl ⟨Nat.le_of_ble_eq_true rfl, Nat.le_of_ble_eq_true rfl⟩ hI rfl rfl (h_me_eq ev26).1 rfl hl.1 rfl (Nat.le_of_ble_eq_true rfl) dX8_does_163 ⟨by decide, by decide⟩) hI (fun H locs hI => ?_)
              exact ge_Wi hx hb hlocks hr rfl hI (congrArg (fun z => z.1) (Option.some.inj hq)) (congrArg (fun z => z.2) (Option.some.inj hq)) dX8_does_166
            · replace hq := i_f c7_5 hq
              by_cases c7_6 : v6 = (6 : Int32)
              · replace hq := i_t c7_6 hq
                refine lv_tableIn (off := 143) (tgt := 167) hx hb dX8_does_24 (by rw [c7_6]; decide) (by rw [c7_6]; decide) (by rw [c7_6]; decide) (by decide) ?_
                refine lv_aload_n hx hb dX8_does_167 rfl (lv_at hl 2 rfl) ?_
                refine lv_iload_n hx hb dX8_does_168 rfl (lv_at hl 1 rfl) ?_
                refine lv_aload_n hx hb dX8_does_169 rfl (lv_at hl 2 rfl) ?_
                obtain ⟨v27, ev27, hq⟩ := b_s hq
                refine fa_gr (own := RX8) (ref := "CoastlineRulerModel") (k := 23) hx hb hB inB_RX8 hown hI rfl (by decide) m_1554 (fun _ h9 => h9) ev27 dX8_does_170 ?_
                refine lv_iload_n hx hb dX8_does_173 rfl (lv_at hl 3 rfl) ?_
                refine lv_iconst (v := (3 : Int32)) hx hb dX8_does_174 (by decide) ?_
                refine lv_iadd hx hb dX8_does_175 ?_
                obtain ⟨v28, ev28, hq⟩ := b_s hq
                refine fa_li hx hb hI ev28 dX8_does_176 ?_
                refine lv_aload_n hx hb dX8_does_177 rfl (lv_at hl 2 rfl) ?_
                obtain ⟨v29, ev29, hq⟩ := b_s hq
                refine fa_gr (own := RX8) (ref := "CoastlineRulerModel") (k := 23) hx hb hB inB_RX8 hown hI rfl (by decide) m_1554 (fun _ h9 => h9) ev29 dX8_does_178 ?_
                refine lv_iload_n hx hb dX8_does_181 rfl (lv_at hl 3 rfl) ?_
                refine lv_iconst (v := (4 : Int32)) hx hb dX8_does_182 (by decide) ?_
                refine lv_iadd hx hb dX8_does_183 ?_
                obtain ⟨v30, ev30, hq⟩ := b_s hq
                refine fa_li hx hb hI ev30 dX8_does_184 ?_
                obtain ⟨v31, ev31, hq⟩ := b_s hq
                refine gw_i (g_runV (As := [.int v2, .int v28, .int v30]) (rest := []) (ci := 10) hC (c_X8_doShift l V g D cT f n a0 v2 v28 v30 v31 ev31) k_X8_doShift m_2006 rfl rfl ⟨Nat.le_of_ble_eq_true rfl, Nat.le_of_ble_eq_true rfl⟩ hI rfl rfl (h_me_eq ev31).1 rfl hl.1 rfl (Nat.le_of_ble_eq_true rfl) dX8_does_185 ⟨by decide, by decide⟩) hI (fun H locs hI => ?_)
                exact ge_Wi hx hb hlocks hr rfl hI (congrArg (fun z => z.1) (Option.some.inj hq)) (congrArg (fun z => z.2) (Option.some.inj hq)) dX8_does_188
              · replace hq := i_f c7_6 hq
                by_cases c7_7 : v6 = (7 : Int32)
                · replace hq := i_t c7_7 hq
                  refine lv_tableIn (off := 165) (tgt := 189) hx hb dX8_does_24 (by rw [c7_7]; decide) (by rw [c7_7]; decide) (by rw [c7_7]; decide) (by decide) ?_
                  refine lv_aload_n hx hb dX8_does_189 rfl (lv_at hl 2 rfl) ?_
                  refine lv_iload_n hx hb dX8_does_190 rfl (lv_at hl 1 rfl) ?_
                  obtain ⟨v32, ev32, hq⟩ := b_s hq
                  refine gw_i (g_runV (As := [.int v2]) (rest := []) (ci := 10) hC (c_X8_doReverse l V g D cT f n a0 v2 v32 ev32) k_X8_doReverse m_2014 rfl rfl ⟨Nat.le_of_ble_eq_true rfl, Nat.le_of_ble_eq_true rfl⟩ hI rfl rfl (h_me_eq ev32).1 rfl hl.1 rfl (Nat.le_of_ble_eq_true rfl) dX8_does_191 ⟨by decide, by decide⟩) hI (fun H locs hI => ?_)
                  exact ge_Wi hx hb hlocks hr rfl hI (congrArg (fun z => z.1) (Option.some.inj hq)) (congrArg (fun z => z.2) (Option.some.inj hq)) dX8_does_194
                · replace hq := i_f c7_7 hq
                  by_cases c7_8 : v6 = (8 : Int32)
                  · replace hq := i_t c7_8 hq
                    refine lv_tableIn (off := 171) (tgt := 195) hx hb dX8_does_24 (by rw [c7_8]; decide) (by rw [c7_8]; decide) (by rw [c7_8]; decide) (by decide) ?_
                    refine lv_aload_n hx hb dX8_does_195 rfl (lv_at hl 2 rfl) ?_
                    refine lv_iload_n hx hb dX8_does_196 rfl (lv_at hl 1 rfl) ?_
                    obtain ⟨v33, ev33, hq⟩ := b_s hq
                    refine gw_i (g_runV (As := [.int v2]) (rest := []) (ci := 10) hC (c_X8_doRemove l V g D cT f n a0 v2 v33 ev33) k_X8_doRemove m_1947 rfl rfl ⟨Nat.le_of_ble_eq_true rfl, Nat.le_of_ble_eq_true rfl⟩ hI rfl rfl (h_me_eq ev33).1 rfl hl.1 rfl (Nat.le_of_ble_eq_true rfl) dX8_does_197 ⟨by decide, by decide⟩) hI (fun H locs hI => ?_)
                    exact ge_Wi hx hb hlocks hr rfl hI (congrArg (fun z => z.1) (Option.some.inj hq)) (congrArg (fun z => z.2) (Option.some.inj hq)) dX8_does_200
                  · replace hq := i_f c7_8 hq
                    have nc7_0 := lv_neT (a := 0) c7_0 rfl
                    have nc7_1 := lv_neT (a := 1) c7_1 rfl
                    have nc7_2 := lv_neT (a := 2) c7_2 rfl
                    have nc7_3 := lv_neT (a := 3) c7_3 rfl
                    have nc7_4 := lv_neT (a := 4) c7_4 rfl
                    have nc7_5 := lv_neT (a := 5) c7_5 rfl
                    have nc7_6 := lv_neT (a := 6) c7_6 rfl
                    have nc7_7 := lv_neT (a := 7) c7_7 rfl
                    have nc7_8 := lv_neT (a := 8) c7_8 rfl
                    refine lv_tableOut (tgt := 201) hx hb dX8_does_24 (by omega) (by decide) ?_
                    refine lv_aload_n hx hb dX8_does_201 rfl (lv_at hl 2 rfl) ?_
                    refine lv_iload_n hx hb dX8_does_202 rfl (lv_at hl 1 rfl) ?_
                    refine lv_iconst (v := (1 : Int32)) hx hb dX8_does_203 (by decide) ?_
                    refine lv_icmp_ne (tgt := 211) hx hb dX8_does_204 (by decide) (fun c34 => ?_) (fun c34 => ?_)
                    · replace hq := i_f c34 hq
                      refine lv_iconst (v := (0 : Int32)) hx hb dX8_does_211 (by decide) ?_
                      obtain ⟨v35, ev35, hq⟩ := b_s hq
                      refine gw_v (g_runV (As := [.int (0 : Int32)]) (rest := []) (ci := 10) hC (c_X8_setMetric l V g D cT f n a0 (0 : Int32) v35 ev35) k_X8_setMetric m_2022 rfl rfl ⟨Nat.le_of_ble_eq_true rfl, Nat.le_of_ble_eq_true rfl⟩ hI rfl rfl (h_me_eq ev35).1 rfl hl.1 rfl (Nat.le_of_ble_eq_true rfl) dX8_does_212 ⟨by decide, by decide⟩) hI (fun H locs hI => ?_)
                      refine lv_iconst (v := (0 : Int32)) hx hb dX8_does_215 (by decide) ?_
                      exact ge_Wi hx hb hlocks hr rfl hI (congrArg (fun z => z.1) (Option.some.inj hq)) (congrArg (fun z => z.2) (Option.some.inj hq)) dX8_does_216
                    · replace hq := i_t c34 hq
                      refine lv_iconst (v := (1 : Int32)) hx hb dX8_does_207 (by decide) ?_
                      refine lv_goto (tgt := 212) hx hb dX8_does_208 (by decide) ?_
                      obtain ⟨v36, ev36, hq⟩ := b_s hq
                      refine gw_v (g_runV (As := [.int (1 : Int32)]) (rest := []) (ci := 10) hC (c_X8_setMetric l V g D cT f n a0 (1 : Int32) v36 ev36) k_X8_setMetric m_2022 rfl rfl ⟨Nat.le_of_ble_eq_true rfl, Nat.le_of_ble_eq_true rfl⟩ hI rfl rfl (h_me_eq ev36).1 rfl hl.1 rfl (Nat.le_of_ble_eq_true rfl) dX8_does_212 ⟨by decide, by decide⟩) hI (fun H locs hI => ?_)
                      refine lv_iconst (v := (0 : Int32)) hx hb dX8_does_215 (by decide) ?_
                      exact ge_Wi hx hb hlocks hr rfl hI (congrArg (fun z => z.1) (Option.some.inj hq)) (congrArg (fun z => z.2) (Option.some.inj hq)) dX8_does_216

abbrev rm_X8_doInsert : Room := { frames := 4, cells := 0, slots := 0, locals := 164 }
theorem k_X8_doInsert : g_CV yX8_doInsert cX8_doInsert 6 (some .int) 4 := ⟨⟨m_1990, m_14, by decide +kernel⟩, m_1989, ms_66⟩
set_option maxHeartbeats 4000000 in
set_option maxRecDepth 100000 in
theorem c_X8_doInsert (l : Launch) (V : Nat → Nat) (g : GH) (D : va_G) (cT : Nat → ClassId) (f : GH) (n : Nat) (a0 : Nat) (a1 : Int32) (a2 : Int32) (a3 : Int32) (a4 : Int32) (o : Int32 × GH) (hq : p_X8_doInsert V g f a0 a1 a2 a3 a4 = some o) : Met l yX8_doInsert (Cond.code yX8_doInsert cX8_doInsert 6 (some .int) :: g_B) rm_X8_doInsert (va_Pc [.ref a0, .int a1, .int a2, .int a3, .int a4] (g_I V g D cT f n)) (g_Wi V D cT o.1 o.2 n) 0 0 (g_A V) := by
  refine g_begin (own := RX8) [.ref a0, .int a1, .int a2, .int a3, .int a4] [(0, .ref a0), (1, .int a1), (2, .int a2), (3, .int a3), (4, .int a4)] (g_A V) (fun _ h => h) (by decide) rfl (Nat.le_of_ble_eq_true rfl) rfl ?_
  intro p e s m args below meth c hx hb hr hlocks hin hC hI ls hl
  obtain ⟨hx, hb, hml, hown, hB⟩ := id hC
  obtain ⟨H, hH⟩ : ∃ H, H = s.heap := ⟨_, rfl⟩
  obtain ⟨locs, hlocs⟩ : ∃ L : List Loc, L = [] := ⟨_, rfl⟩
  rw [← hH, ← hlocs] at hI ⊢
  clear hH hlocs
  unfold p_X8_doInsert at hq
  replace hq := (h_me_eq hq).2
  refine lv_aload_n hx hb dX8_doInsert_0 rfl (lv_at hl 0 rfl) ?_
  refine lv_iload_n hx hb dX8_doInsert_1 rfl (lv_at hl 1 rfl) ?_
  obtain ⟨v1, ev1, hq⟩ := b_s hq
  refine gr_i (g_runV (As := [.int a1]) (rest := []) (ci := 10) hC (c_X8_isCoast l V g D cT f n a0 a1 v1 ev1) k_X8_isCoast m_1630 rfl rfl ⟨Nat.le_of_ble_eq_true rfl, Nat.le_of_ble_eq_true rfl⟩ hI rfl rfl (h_me_eq ev1).1 rfl hl.1 rfl (Nat.le_of_ble_eq_true rfl) dX8_doInsert_2 ⟨by decide, by decide⟩) hI (fun H locs hI => ?_)
  refine lv_if_eq (tgt := 21) hx hb dX8_doInsert_5 (by decide) (fun c2 => ?_) (fun c2 => ?_)
  · replace hq := i_t c2 hq
    refine lv_iconst (v := (1 : Int32)) hx hb dX8_doInsert_21 (by decide) ?_
    exact ge_Wi hx hb hlocks hr rfl hI (congrArg (fun z => z.1) (Option.some.inj hq)) (congrArg (fun z => z.2) (Option.some.inj hq)) dX8_doInsert_22
  · replace hq := i_f c2 hq
    refine lv_iload_n hx hb dX8_doInsert_8 rfl (lv_at hl 2 rfl) ?_
    refine lv_iconst (v := (0 : Int32)) hx hb dX8_doInsert_9 (by decide) ?_
    refine lv_aload_n hx hb dX8_doInsert_10 rfl (lv_at hl 0 rfl) ?_
    refine lv_iload_n hx hb dX8_doInsert_11 rfl (lv_at hl 1 rfl) ?_
    obtain ⟨v3, ev3, hq⟩ := b_s hq
    refine gr_i (g_runV (As := [.int a1]) (rest := [.int (0 : Int32), .int a2]) (ci := 10) hC (c_X8_count l V g D cT f n a0 a1 v3 ev3) k_X8_count m_1527 rfl rfl ⟨Nat.le_of_ble_eq_true rfl, Nat.le_of_ble_eq_true rfl⟩ hI rfl rfl (h_me_eq ev3).1 rfl hl.1 rfl (Nat.le_of_ble_eq_true rfl) dX8_doInsert_12 ⟨by decide, by decide⟩) hI (fun H locs hI => ?_)
    obtain ⟨v4, ev4, hq⟩ := b_s hq
    refine gr_i (g_runS (As := [.int a2, .int (0 : Int32), .int v3]) (rest := []) hC (c_X8_inRange l V g D cT f n a2 (0 : Int32) v3 v4 ev4) k_X8_inRange m_1634 rfl rfl ⟨Nat.le_of_ble_eq_true rfl, Nat.le_of_ble_eq_true rfl⟩ hI rfl hl.1 rfl (Nat.le_of_ble_eq_true rfl) dX8_doInsert_15 ⟨by decide, by decide⟩) hI (fun H locs hI => ?_)
    refine lv_if_ne (tgt := 23) hx hb dX8_doInsert_18 (by decide) (fun c5 => ?_) (fun c5 => ?_)
    · replace hq := i_f c5 hq
      refine lv_aload_n hx hb dX8_doInsert_23 rfl (lv_at hl 0 rfl) ?_
      refine lv_iload_n hx hb dX8_doInsert_24 rfl (lv_at hl 1 rfl) ?_
      obtain ⟨v6, ev6, hq⟩ := b_s hq
      refine gr_i (g_runV (As := [.int a1]) (rest := []) (ci := 10) hC (c_X8_count l V g D cT f n a0 a1 v6 ev6) k_X8_count m_1527 rfl rfl ⟨Nat.le_of_ble_eq_true rfl, Nat.le_of_ble_eq_true rfl⟩ hI rfl rfl (h_me_eq ev6).1 rfl hl.1 rfl (Nat.le_of_ble_eq_true rfl) dX8_doInsert_25 ⟨by decide, by decide⟩) hI (fun H locs hI => ?_)
      refine lv_sipush (v := (129 : Int32)) hx hb dX8_doInsert_28 (by decide) ?_
      refine lv_icmp_ne (tgt := 36) hx hb dX8_doInsert_31 (by decide) (fun c7 => ?_) (fun c7 => ?_)
      · replace hq := i_f c7 hq
        refine lv_aload_n hx hb dX8_doInsert_36 rfl (lv_at hl 0 rfl) ?_
        refine lv_iload_n hx hb dX8_doInsert_37 rfl (lv_at hl 1 rfl) ?_
        obtain ⟨v8, ev8, hq⟩ := b_s hq
        refine gr_i (g_runV (As := [.int a1]) (rest := []) (ci := 10) hC (c_X8_count l V g D cT f n a0 a1 v8 ev8) k_X8_count m_1527 rfl rfl ⟨Nat.le_of_ble_eq_true rfl, Nat.le_of_ble_eq_true rfl⟩ hI rfl rfl (h_me_eq ev8).1 rfl hl.1 rfl (Nat.le_of_ble_eq_true rfl) dX8_doInsert_38 ⟨by decide, by decide⟩) hI (fun H locs hI => ?_)
        refine lv_istore (lv' := [(5, .int v8), (0, .ref a0), (1, .int a1), (2, .int a2), (3, .int a3), (4, .int a4)]) hx hb dX8_doInsert_41 hl (by decide) rfl (fun ls hl => ?_)
        have hl43 : ∀ (K80 : Nat → Int32 → Int32 → Int32 → Int32 → GH → Option (Int32 × GH)) (hK80 : ∀ (x0 : Nat) (x1 : Int32) (x2 : Int32) (x3 : Int32) (x4 : Int32) (f : GH) (H : Heap) (locs : List Loc) (ls : Array Slot), g_at (g_A V) V g D cT f n s H locs → lv_has ls 6 [(0, .ref x0), (1, .int x1), (2, .int x2), (3, .int x3), (4, .int x4)] → K80 x0 x1 x2 x3 x4 f = some o → W p l e rm_X8_doInsert s m args below meth c H locs 0 0 (MQ below (g_Wi V D cT o.1 o.2 n) args s 0 0 (g_A V)) (F0 m 80 ls [])) (N : Nat) (x0 : Nat) (x1 : Int32) (x2 : Int32) (x3 : Int32) (x4 : Int32) (x5 : Int32) (f : GH) (H : Heap) (locs : List Loc) (ls : Array Slot), g_at (g_A V) V g D cT f n s H locs → lv_has ls 6 [(0, .ref x0), (1, .int x1), (2, .int x2), (3, .int x3), (4, .int x4), (5, .int x5)] → p_X8_doInsert_l43 V g K80 N x0 x1 x2 x3 x4 x5 f = some o → W p l e rm_X8_doInsert s m args below meth c H locs 0 0 (MQ below (g_Wi V D cT o.1 o.2 n) args s 0 0 (g_A V)) (F0 m 43 ls []) := by
          intro K80 hK80 N
          induction N with
          | zero =>
            intro x0 x1 x2 x3 x4 x5 f H locs ls hI hl hq
            rw [p_X8_doInsert_l43] at hq
            cases hq
          | succ N ih =>
            intro x0 x1 x2 x3 x4 x5 f H locs ls hI hl hq
            rw [p_X8_doInsert_l43] at hq
            refine lv_iload hx hb dX8_doInsert_43 (lv_at hl 5 rfl) ?_
            refine lv_iload_n hx hb dX8_doInsert_45 rfl (lv_at hl 2 rfl) ?_
            refine lv_icmp_le (tgt := 80) hx hb dX8_doInsert_46 (by decide) (fun c9 => ?_) (fun c9 => ?_)
            · replace hq := i_t c9 hq
              exact hK80 x0 x1 x2 x3 x4 f H locs ls hI (lv_sub hl [0, 1, 2, 3, 4] rfl) hq
            · replace hq := i_f c9 hq
              refine lv_aload_n hx hb dX8_doInsert_49 rfl (lv_at hl 0 rfl) ?_
              refine lv_iload_n hx hb dX8_doInsert_50 rfl (lv_at hl 1 rfl) ?_
              refine lv_iload hx hb dX8_doInsert_51 (lv_at hl 5 rfl) ?_
              refine lv_aload_n hx hb dX8_doInsert_53 rfl (lv_at hl 0 rfl) ?_
              refine lv_iload_n hx hb dX8_doInsert_54 rfl (lv_at hl 1 rfl) ?_
              refine lv_iload hx hb dX8_doInsert_55 (lv_at hl 5 rfl) ?_
              refine lv_iconst (v := (1 : Int32)) hx hb dX8_doInsert_57 (by decide) ?_
              refine lv_isub hx hb dX8_doInsert_58 ?_
              obtain ⟨v10, ev10, hq⟩ := b_s hq
              refine gr_i (g_runV (As := [.int x1, .int (x5 - (1 : Int32))]) (rest := [.int x5, .int x1, .ref x0]) (ci := 10) hC (c_X8_x l V g D cT f n x0 x1 (x5 - (1 : Int32)) v10 ev10) k_X8_x m_1657 rfl rfl ⟨Nat.le_of_ble_eq_true rfl, Nat.le_of_ble_eq_true rfl⟩ hI rfl rfl (h_me_eq ev10).1 rfl hl.1 rfl (Nat.le_of_ble_eq_true rfl) dX8_doInsert_59 ⟨by decide, by decide⟩) hI (fun H locs hI => ?_)
              refine lv_aload_n hx hb dX8_doInsert_62 rfl (lv_at hl 0 rfl) ?_
              refine lv_iload_n hx hb dX8_doInsert_63 rfl (lv_at hl 1 rfl) ?_
              refine lv_iload hx hb dX8_doInsert_64 (lv_at hl 5 rfl) ?_
              refine lv_iconst (v := (1 : Int32)) hx hb dX8_doInsert_66 (by decide) ?_
              refine lv_isub hx hb dX8_doInsert_67 ?_
              obtain ⟨v11, ev11, hq⟩ := b_s hq
              refine gr_i (g_runV (As := [.int x1, .int (x5 - (1 : Int32))]) (rest := [.int v10, .int x5, .int x1, .ref x0]) (ci := 10) hC (c_X8_y l V g D cT f n x0 x1 (x5 - (1 : Int32)) v11 ev11) k_X8_y m_1665 rfl rfl ⟨Nat.le_of_ble_eq_true rfl, Nat.le_of_ble_eq_true rfl⟩ hI rfl rfl (h_me_eq ev11).1 rfl hl.1 rfl (Nat.le_of_ble_eq_true rfl) dX8_doInsert_68 ⟨by decide, by decide⟩) hI (fun H locs hI => ?_)
              obtain ⟨v12, ev12, hq⟩ := b_s hq
              refine gw_v (g_runV (As := [.int x1, .int x5, .int v10, .int v11]) (rest := []) (ci := 10) hC (c_X8_layPoint l V g D cT f n x0 x1 x5 v10 v11 v12 ev12) k_X8_layPoint m_1880 rfl rfl ⟨Nat.le_of_ble_eq_true rfl, Nat.le_of_ble_eq_true rfl⟩ hI rfl rfl (h_me_eq ev12).1 rfl hl.1 rfl (Nat.le_of_ble_eq_true rfl) dX8_doInsert_71 ⟨by decide, by decide⟩) hI (fun H locs hI => ?_)
              refine lv_iinc (v := x5 + (-1 : Int32)) (lv' := [(5, .int (x5 + (-1 : Int32))), (0, .ref x0), (1, .int x1), (2, .int x2), (3, .int x3), (4, .int x4)]) hx hb dX8_doInsert_74 hl (k := 5) rfl rfl (by decide) rfl (fun ls hl => ?_)
              refine lv_goto (tgt := 43) hx hb dX8_doInsert_77 (by decide) ?_
              exact ih x0 x1 x2 x3 x4 (x5 + (-1 : Int32)) v12 H locs ls hI (lv_sub hl [1, 2, 3, 4, 5, 0] rfl) hq
        refine hl43 _ ?_ FU a0 a1 a2 a3 a4 v8 f H locs ls hI (lv_sub hl [1, 2, 3, 4, 5, 0] rfl) hq
        · intro x0 x1 x2 x3 x4 f H locs ls hI hl hq
          refine lv_aload_n hx hb dX8_doInsert_80 rfl (lv_at hl 0 rfl) ?_
          refine lv_iload_n hx hb dX8_doInsert_81 rfl (lv_at hl 1 rfl) ?_
          refine lv_iload_n hx hb dX8_doInsert_82 rfl (lv_at hl 2 rfl) ?_
          refine lv_iload_n hx hb dX8_doInsert_83 rfl (lv_at hl 3 rfl) ?_
          refine lv_iload hx hb dX8_doInsert_84 (lv_at hl 4 rfl) ?_
          obtain ⟨v13, ev13, hq⟩ := b_s hq
          refine gw_v (g_runV (As := [.int x1, .int x2, .int x3, .int x4]) (rest := []) (ci := 10) hC (c_X8_layPoint l V g D cT f n x0 x1 x2 x3 x4 v13 ev13) k_X8_layPoint m_1880 rfl rfl ⟨Nat.le_of_ble_eq_true rfl, Nat.le_of_ble_eq_true rfl⟩ hI rfl rfl (h_me_eq ev13).1 rfl hl.1 rfl (Nat.le_of_ble_eq_true rfl) dX8_doInsert_86 ⟨by decide, by decide⟩) hI (fun H locs hI => ?_)
          refine lv_aload_n hx hb dX8_doInsert_89 rfl (lv_at hl 0 rfl) ?_
          obtain ⟨v14, ev14, hq⟩ := b_s hq
          refine fa_gr (own := RX8) (ref := "CoastlineRulerModel") (k := 5) hx hb hB inB_RX8 hown hI rfl (by decide) m_1536 (fun _ h9 => h9) ev14 dX8_doInsert_90 ?_
          refine lv_iload_n hx hb dX8_doInsert_93 rfl (lv_at hl 1 rfl) ?_
          obtain ⟨v15, ev15, hq⟩ := b_s hq
          refine gr_i (g_runS (As := [.int x1]) (rest := [.ref v14]) hC (c_X8_at l V g D cT v13 n x1 v15 ev15) k_X8_at m_1515 rfl rfl ⟨Nat.le_of_ble_eq_true rfl, Nat.le_of_ble_eq_true rfl⟩ hI rfl hl.1 rfl (Nat.le_of_ble_eq_true rfl) dX8_doInsert_94 ⟨by decide, by decide⟩) hI (fun H locs hI => ?_)
          refine lv_iconst (v := (1 : Int32)) hx hb dX8_doInsert_97 (by decide) ?_
          refine lv_iadd hx hb dX8_doInsert_98 ?_
          refine lv_dup2_11 hx hb dX8_doInsert_99 rfl rfl ?_
          obtain ⟨v16, ev16, hq⟩ := b_s hq
          refine fa_li hx hb hI ev16 dX8_doInsert_100 ?_
          refine lv_iconst (v := (1 : Int32)) hx hb dX8_doInsert_101 (by decide) ?_
          refine lv_iadd hx hb dX8_doInsert_102 ?_
          obtain ⟨f17, ef17, hq⟩ := b_s hq
          refine fa_si hx hb hI ef17 dX8_doInsert_103 (fun H locs hI => ?_)
          refine lv_aload_n hx hb dX8_doInsert_104 rfl (lv_at hl 0 rfl) ?_
          obtain ⟨v18, ev18, hq⟩ := b_s hq
          refine fa_gr (own := RX8) (ref := "CoastlineRulerModel") (k := 5) hx hb hB inB_RX8 hown hI rfl (by decide) m_1536 (fun _ h9 => h9) ev18 dX8_doInsert_105 ?_
          refine lv_iconst (v := (3 : Int32)) hx hb dX8_doInsert_108 (by decide) ?_
          refine lv_dup2_11 hx hb dX8_doInsert_109 rfl rfl ?_
          obtain ⟨v19, ev19, hq⟩ := b_s hq
          refine fa_li hx hb hI ev19 dX8_doInsert_110 ?_
          refine lv_iconst (v := (1 : Int32)) hx hb dX8_doInsert_111 (by decide) ?_
          refine lv_iadd hx hb dX8_doInsert_112 ?_
          obtain ⟨f20, ef20, hq⟩ := b_s hq
          refine fa_si hx hb hI ef20 dX8_doInsert_113 (fun H locs hI => ?_)
          refine lv_iconst (v := (0 : Int32)) hx hb dX8_doInsert_114 (by decide) ?_
          exact ge_Wi hx hb hlocks hr rfl hI (congrArg (fun z => z.1) (Option.some.inj hq)) (congrArg (fun z => z.2) (Option.some.inj hq)) dX8_doInsert_115
      · replace hq := i_t c7 hq
        refine lv_iconst (v := (3 : Int32)) hx hb dX8_doInsert_34 (by decide) ?_
        exact ge_Wi hx hb hlocks hr rfl hI (congrArg (fun z => z.1) (Option.some.inj hq)) (congrArg (fun z => z.2) (Option.some.inj hq)) dX8_doInsert_35
    · replace hq := i_t c5 hq
      refine lv_iconst (v := (1 : Int32)) hx hb dX8_doInsert_21 (by decide) ?_
      exact ge_Wi hx hb hlocks hr rfl hI (congrArg (fun z => z.1) (Option.some.inj hq)) (congrArg (fun z => z.2) (Option.some.inj hq)) dX8_doInsert_22

abbrev rm_X8_doCut : Room := { frames := 5, cells := 0, slots := 0, locals := 185 }
theorem k_X8_doCut : g_CV yX8_doCut cX8_doCut 3 (some .int) 2 := ⟨⟨m_1998, m_14, by decide +kernel⟩, m_1997, ms_67⟩
set_option maxHeartbeats 4000000 in
set_option maxRecDepth 100000 in
theorem c_X8_doCut (l : Launch) (V : Nat → Nat) (g : GH) (D : va_G) (cT : Nat → ClassId) (f : GH) (n : Nat) (a0 : Nat) (a1 : Int32) (a2 : Int32) (o : Int32 × GH) (hq : p_X8_doCut V g f a0 a1 a2 = some o) : Met l yX8_doCut (Cond.code yX8_doCut cX8_doCut 3 (some .int) :: g_B) rm_X8_doCut (va_Pc [.ref a0, .int a1, .int a2] (g_I V g D cT f n)) (g_Wi V D cT o.1 o.2 n) 0 0 (g_A V) := by
  refine g_begin (own := RX8) [.ref a0, .int a1, .int a2] [(0, .ref a0), (1, .int a1), (2, .int a2)] (g_A V) (fun _ h => h) (by decide) rfl (Nat.le_of_ble_eq_true rfl) rfl ?_
  intro p e s m args below meth c hx hb hr hlocks hin hC hI ls hl
  obtain ⟨hx, hb, hml, hown, hB⟩ := id hC
  obtain ⟨H, hH⟩ : ∃ H, H = s.heap := ⟨_, rfl⟩
  obtain ⟨locs, hlocs⟩ : ∃ L : List Loc, L = [] := ⟨_, rfl⟩
  rw [← hH, ← hlocs] at hI ⊢
  clear hH hlocs
  unfold p_X8_doCut at hq
  replace hq := (h_me_eq hq).2
  refine lv_aload_n hx hb dX8_doCut_0 rfl (lv_at hl 0 rfl) ?_
  refine lv_iload_n hx hb dX8_doCut_1 rfl (lv_at hl 1 rfl) ?_
  refine lv_iload_n hx hb dX8_doCut_2 rfl (lv_at hl 2 rfl) ?_
  obtain ⟨v1, ev1, hq⟩ := b_s hq
  refine gr_i (g_runV (As := [.int a1, .int a2]) (rest := []) (ci := 10) hC (c_X8_isPoint l V g D cT f n a0 a1 a2 v1 ev1) k_X8_isPoint m_1653 rfl rfl ⟨Nat.le_of_ble_eq_true rfl, Nat.le_of_ble_eq_true rfl⟩ hI rfl rfl (h_me_eq ev1).1 rfl hl.1 rfl (Nat.le_of_ble_eq_true rfl) dX8_doCut_3 ⟨by decide, by decide⟩) hI (fun H locs hI => ?_)
  refine lv_if_ne (tgt := 11) hx hb dX8_doCut_6 (by decide) (fun c2 => ?_) (fun c2 => ?_)
  · replace hq := i_f c2 hq
    refine lv_aload_n hx hb dX8_doCut_11 rfl (lv_at hl 0 rfl) ?_
    refine lv_iload_n hx hb dX8_doCut_12 rfl (lv_at hl 1 rfl) ?_
    obtain ⟨v3, ev3, hq⟩ := b_s hq
    refine gr_i (g_runV (As := [.int a1]) (rest := []) (ci := 10) hC (c_X8_count l V g D cT f n a0 a1 v3 ev3) k_X8_count m_1527 rfl rfl ⟨Nat.le_of_ble_eq_true rfl, Nat.le_of_ble_eq_true rfl⟩ hI rfl rfl (h_me_eq ev3).1 rfl hl.1 rfl (Nat.le_of_ble_eq_true rfl) dX8_doCut_13 ⟨by decide, by decide⟩) hI (fun H locs hI => ?_)
    refine lv_aload_n hx hb dX8_doCut_16 rfl (lv_at hl 0 rfl) ?_
    refine lv_iload_n hx hb dX8_doCut_17 rfl (lv_at hl 1 rfl) ?_
    obtain ⟨v4, ev4, hq⟩ := b_s hq
    refine gr_i (g_runV (As := [.int a1]) (rest := [.int v3]) (ci := 10) hC (c_X8_fewest l V g D cT f n a0 a1 v4 ev4) k_X8_fewest m_1900 rfl rfl ⟨Nat.le_of_ble_eq_true rfl, Nat.le_of_ble_eq_true rfl⟩ hI rfl rfl (h_me_eq ev4).1 rfl hl.1 rfl (Nat.le_of_ble_eq_true rfl) dX8_doCut_18 ⟨by decide, by decide⟩) hI (fun H locs hI => ?_)
    refine lv_icmp_ne (tgt := 26) hx hb dX8_doCut_21 (by decide) (fun c5 => ?_) (fun c5 => ?_)
    · replace hq := i_f c5 hq
      refine lv_aload_n hx hb dX8_doCut_26 rfl (lv_at hl 0 rfl) ?_
      refine lv_iload_n hx hb dX8_doCut_27 rfl (lv_at hl 1 rfl) ?_
      refine lv_iload_n hx hb dX8_doCut_28 rfl (lv_at hl 2 rfl) ?_
      obtain ⟨v6, ev6, hq⟩ := b_s hq
      refine gw_v (g_runV (As := [.int a1, .int a2]) (rest := []) (ci := 10) hC (c_X8_cut l V g D cT f n a0 a1 a2 v6 ev6) k_X8_cut m_1908 rfl rfl ⟨Nat.le_of_ble_eq_true rfl, Nat.le_of_ble_eq_true rfl⟩ hI rfl rfl (h_me_eq ev6).1 rfl hl.1 rfl (Nat.le_of_ble_eq_true rfl) dX8_doCut_29 ⟨by decide, by decide⟩) hI (fun H locs hI => ?_)
      refine lv_aload_n hx hb dX8_doCut_32 rfl (lv_at hl 0 rfl) ?_
      obtain ⟨v7, ev7, hq⟩ := b_s hq
      refine fa_gr (own := RX8) (ref := "CoastlineRulerModel") (k := 5) hx hb hB inB_RX8 hown hI rfl (by decide) m_1536 (fun _ h9 => h9) ev7 dX8_doCut_33 ?_
      refine lv_iconst (v := (4 : Int32)) hx hb dX8_doCut_36 (by decide) ?_
      refine lv_dup2_11 hx hb dX8_doCut_37 rfl rfl ?_
      obtain ⟨v8, ev8, hq⟩ := b_s hq
      refine fa_li hx hb hI ev8 dX8_doCut_38 ?_
      refine lv_iconst (v := (1 : Int32)) hx hb dX8_doCut_39 (by decide) ?_
      refine lv_iadd hx hb dX8_doCut_40 ?_
      obtain ⟨f9, ef9, hq⟩ := b_s hq
      refine fa_si hx hb hI ef9 dX8_doCut_41 (fun H locs hI => ?_)
      refine lv_iconst (v := (0 : Int32)) hx hb dX8_doCut_42 (by decide) ?_
      exact ge_Wi hx hb hlocks hr rfl hI (congrArg (fun z => z.1) (Option.some.inj hq)) (congrArg (fun z => z.2) (Option.some.inj hq)) dX8_doCut_43
    · replace hq := i_t c5 hq
      refine lv_iconst (v := (2 : Int32)) hx hb dX8_doCut_24 (by decide) ?_
      exact ge_Wi hx hb hlocks hr rfl hI (congrArg (fun z => z.1) (Option.some.inj hq)) (congrArg (fun z => z.2) (Option.some.inj hq)) dX8_doCut_25
  · replace hq := i_t c2 hq
    refine lv_iconst (v := (1 : Int32)) hx hb dX8_doCut_9 (by decide) ?_
    exact ge_Wi hx hb hlocks hr rfl hI (congrArg (fun z => z.1) (Option.some.inj hq)) (congrArg (fun z => z.2) (Option.some.inj hq)) dX8_doCut_10

abbrev rm_X8_doShift : Room := { frames := 5, cells := 0, slots := 0, locals := 183 }
theorem k_X8_doShift : g_CV yX8_doShift cX8_doShift 5 (some .int) 3 := ⟨⟨m_2009, m_14, by decide +kernel⟩, m_2008, ms_68⟩
set_option maxHeartbeats 4000000 in
set_option maxRecDepth 100000 in
theorem c_X8_doShift (l : Launch) (V : Nat → Nat) (g : GH) (D : va_G) (cT : Nat → ClassId) (f : GH) (n : Nat) (a0 : Nat) (a1 : Int32) (a2 : Int32) (a3 : Int32) (o : Int32 × GH) (hq : p_X8_doShift V g f a0 a1 a2 a3 = some o) : Met l yX8_doShift (Cond.code yX8_doShift cX8_doShift 5 (some .int) :: g_B) rm_X8_doShift (va_Pc [.ref a0, .int a1, .int a2, .int a3] (g_I V g D cT f n)) (g_Wi V D cT o.1 o.2 n) 0 0 (g_A V) := by
  refine g_begin (own := RX8) [.ref a0, .int a1, .int a2, .int a3] [(0, .ref a0), (1, .int a1), (2, .int a2), (3, .int a3)] (g_A V) (fun _ h => h) (by decide) rfl (Nat.le_of_ble_eq_true rfl) rfl ?_
  intro p e s m args below meth c hx hb hr hlocks hin hC hI ls hl
  obtain ⟨hx, hb, hml, hown, hB⟩ := id hC
  obtain ⟨H, hH⟩ : ∃ H, H = s.heap := ⟨_, rfl⟩
  obtain ⟨locs, hlocs⟩ : ∃ L : List Loc, L = [] := ⟨_, rfl⟩
  rw [← hH, ← hlocs] at hI ⊢
  clear hH hlocs
  unfold p_X8_doShift at hq
  replace hq := (h_me_eq hq).2
  refine lv_aload_n hx hb dX8_doShift_0 rfl (lv_at hl 0 rfl) ?_
  refine lv_iload_n hx hb dX8_doShift_1 rfl (lv_at hl 1 rfl) ?_
  obtain ⟨v1, ev1, hq⟩ := b_s hq
  refine gr_i (g_runV (As := [.int a1]) (rest := []) (ci := 10) hC (c_X8_isCoast l V g D cT f n a0 a1 v1 ev1) k_X8_isCoast m_1630 rfl rfl ⟨Nat.le_of_ble_eq_true rfl, Nat.le_of_ble_eq_true rfl⟩ hI rfl rfl (h_me_eq ev1).1 rfl hl.1 rfl (Nat.le_of_ble_eq_true rfl) dX8_doShift_2 ⟨by decide, by decide⟩) hI (fun H locs hI => ?_)
  refine lv_if_ne (tgt := 10) hx hb dX8_doShift_5 (by decide) (fun c2 => ?_) (fun c2 => ?_)
  · replace hq := i_f c2 hq
    refine lv_iconst (v := (0 : Int32)) hx hb dX8_doShift_10 (by decide) ?_
    refine lv_istore (lv' := [(4, .int (0 : Int32)), (0, .ref a0), (1, .int a1), (2, .int a2), (3, .int a3)]) hx hb dX8_doShift_11 hl (by decide) rfl (fun ls hl => ?_)
    have hl13 : ∀ (K47 : GH → Option (Int32 × GH)) (hK47 : ∀ (f : GH) (H : Heap) (locs : List Loc) (ls : Array Slot), g_at (g_A V) V g D cT f n s H locs → lv_has ls 5 [] → K47 f = some o → W p l e rm_X8_doShift s m args below meth c H locs 0 0 (MQ below (g_Wi V D cT o.1 o.2 n) args s 0 0 (g_A V)) (F0 m 47 ls [])) (K55 : Nat → Int32 → Int32 → Int32 → GH → Option (Int32 × GH)) (hK55 : ∀ (x0 : Nat) (x1 : Int32) (x2 : Int32) (x3 : Int32) (f : GH) (H : Heap) (locs : List Loc) (ls : Array Slot), g_at (g_A V) V g D cT f n s H locs → lv_has ls 5 [(0, .ref x0), (1, .int x1), (2, .int x2), (3, .int x3)] → K55 x0 x1 x2 x3 f = some o → W p l e rm_X8_doShift s m args below meth c H locs 0 0 (MQ below (g_Wi V D cT o.1 o.2 n) args s 0 0 (g_A V)) (F0 m 55 ls [])) (N : Nat) (x0 : Nat) (x1 : Int32) (x2 : Int32) (x3 : Int32) (x4 : Int32) (f : GH) (H : Heap) (locs : List Loc) (ls : Array Slot), g_at (g_A V) V g D cT f n s H locs → lv_has ls 5 [(0, .ref x0), (1, .int x1), (2, .int x2), (3, .int x3), (4, .int x4)] → p_X8_doShift_l13 V g K47 K55 N x0 x1 x2 x3 x4 f = some o → W p l e rm_X8_doShift s m args below meth c H locs 0 0 (MQ below (g_Wi V D cT o.1 o.2 n) args s 0 0 (g_A V)) (F0 m 13 ls []) := by
      intro K47 hK47 K55 hK55 N
      induction N with
      | zero =>
        intro x0 x1 x2 x3 x4 f H locs ls hI hl hq
        rw [p_X8_doShift_l13] at hq
        cases hq
      | succ N ih =>
        intro x0 x1 x2 x3 x4 f H locs ls hI hl hq
        rw [p_X8_doShift_l13] at hq
        refine lv_iload hx hb dX8_doShift_13 (lv_at hl 4 rfl) ?_
        refine lv_aload_n hx hb dX8_doShift_15 rfl (lv_at hl 0 rfl) ?_
        refine lv_iload_n hx hb dX8_doShift_16 rfl (lv_at hl 1 rfl) ?_
        obtain ⟨v3, ev3, hq⟩ := b_s hq
        refine gr_i (g_runV (As := [.int x1]) (rest := [.int x4]) (ci := 10) hC (c_X8_count l V g D cT f n x0 x1 v3 ev3) k_X8_count m_1527 rfl rfl ⟨Nat.le_of_ble_eq_true rfl, Nat.le_of_ble_eq_true rfl⟩ hI rfl rfl (h_me_eq ev3).1 rfl hl.1 rfl (Nat.le_of_ble_eq_true rfl) dX8_doShift_17 ⟨by decide, by decide⟩) hI (fun H locs hI => ?_)
        refine lv_icmp_ge (tgt := 55) hx hb dX8_doShift_20 (by decide) (fun c4 => ?_) (fun c4 => ?_)
        · replace hq := i_t c4 hq
          exact hK55 x0 x1 x2 x3 f H locs ls hI (lv_sub hl [0, 1, 2, 3] rfl) hq
        · replace hq := i_f c4 hq
          refine lv_aload_n hx hb dX8_doShift_23 rfl (lv_at hl 0 rfl) ?_
          refine lv_iload_n hx hb dX8_doShift_24 rfl (lv_at hl 1 rfl) ?_
          refine lv_iload hx hb dX8_doShift_25 (lv_at hl 4 rfl) ?_
          obtain ⟨v5, ev5, hq⟩ := b_s hq
          refine gr_i (g_runV (As := [.int x1, .int x4]) (rest := []) (ci := 10) hC (c_X8_x l V g D cT f n x0 x1 x4 v5 ev5) k_X8_x m_1657 rfl rfl ⟨Nat.le_of_ble_eq_true rfl, Nat.le_of_ble_eq_true rfl⟩ hI rfl rfl (h_me_eq ev5).1 rfl hl.1 rfl (Nat.le_of_ble_eq_true rfl) dX8_doShift_27 ⟨by decide, by decide⟩) hI (fun H locs hI => ?_)
          refine lv_iload_n hx hb dX8_doShift_30 rfl (lv_at hl 2 rfl) ?_
          refine lv_iadd hx hb dX8_doShift_31 ?_
          refine lv_aload_n hx hb dX8_doShift_32 rfl (lv_at hl 0 rfl) ?_
          refine lv_iload_n hx hb dX8_doShift_33 rfl (lv_at hl 1 rfl) ?_
          refine lv_iload hx hb dX8_doShift_34 (lv_at hl 4 rfl) ?_
          obtain ⟨v6, ev6, hq⟩ := b_s hq
          refine gr_i (g_runV (As := [.int x1, .int x4]) (rest := [.int (v5 + x2)]) (ci := 10) hC (c_X8_y l V g D cT f n x0 x1 x4 v6 ev6) k_X8_y m_1665 rfl rfl ⟨Nat.le_of_ble_eq_true rfl, Nat.le_of_ble_eq_true rfl⟩ hI rfl rfl (h_me_eq ev6).1 rfl hl.1 rfl (Nat.le_of_ble_eq_true rfl) dX8_doShift_36 ⟨by decide, by decide⟩) hI (fun H locs hI => ?_)
          refine lv_iload_n hx hb dX8_doShift_39 rfl (lv_at hl 3 rfl) ?_
          refine lv_iadd hx hb dX8_doShift_40 ?_
          obtain ⟨v7, ev7, hq⟩ := b_s hq
          refine gr_i (g_runS (As := [.int (v5 + x2), .int (v6 + x3)]) (rest := []) hC (c_X8_isPosition l V g D cT f n (v5 + x2) (v6 + x3) v7 ev7) k_X8_isPosition m_1687 rfl rfl ⟨Nat.le_of_ble_eq_true rfl, Nat.le_of_ble_eq_true rfl⟩ hI rfl hl.1 rfl (Nat.le_of_ble_eq_true rfl) dX8_doShift_41 ⟨by decide, by decide⟩) hI (fun H locs hI => ?_)
          refine lv_if_ne (tgt := 49) hx hb dX8_doShift_44 (by decide) (fun c8 => ?_) (fun c8 => ?_)
          · replace hq := i_f c8 hq
            refine lv_iinc (v := x4 + (1 : Int32)) (lv' := [(4, .int (x4 + (1 : Int32))), (0, .ref x0), (1, .int x1), (2, .int x2), (3, .int x3)]) hx hb dX8_doShift_49 hl (k := 4) rfl rfl (by decide) rfl (fun ls hl => ?_)
            refine lv_goto (tgt := 13) hx hb dX8_doShift_52 (by decide) ?_
            exact ih x0 x1 x2 x3 (x4 + (1 : Int32)) f H locs ls hI (lv_sub hl [1, 2, 3, 4, 0] rfl) hq
          · replace hq := i_t c8 hq
            exact hK47 f H locs ls hI (lv_sub hl [] rfl) hq
    refine hl13 _ ?_ _ ?_ FU a0 a1 a2 a3 (0 : Int32) f H locs ls hI (lv_sub hl [1, 2, 3, 4, 0] rfl) hq
    · intro f H locs ls hI hl hq
      refine lv_iconst (v := (3 : Int32)) hx hb dX8_doShift_47 (by decide) ?_
      exact ge_Wi hx hb hlocks hr rfl hI (congrArg (fun z => z.1) (Option.some.inj hq)) (congrArg (fun z => z.2) (Option.some.inj hq)) dX8_doShift_48
    · intro x0 x1 x2 x3 f H locs ls hI hl hq
      refine lv_iconst (v := (0 : Int32)) hx hb dX8_doShift_55 (by decide) ?_
      refine lv_istore (lv' := [(4, .int (0 : Int32)), (0, .ref x0), (1, .int x1), (2, .int x2), (3, .int x3)]) hx hb dX8_doShift_56 hl (by decide) rfl (fun ls hl => ?_)
      have hl58 : ∀ (K99 : GH → Option (Int32 × GH)) (hK99 : ∀ (f : GH) (H : Heap) (locs : List Loc) (ls : Array Slot), g_at (g_A V) V g D cT f n s H locs → lv_has ls 5 [] → K99 f = some o → W p l e rm_X8_doShift s m args below meth c H locs 0 0 (MQ below (g_Wi V D cT o.1 o.2 n) args s 0 0 (g_A V)) (F0 m 99 ls [])) (N : Nat) (x0 : Nat) (x1 : Int32) (x2 : Int32) (x3 : Int32) (x4 : Int32) (f : GH) (H : Heap) (locs : List Loc) (ls : Array Slot), g_at (g_A V) V g D cT f n s H locs → lv_has ls 5 [(0, .ref x0), (1, .int x1), (2, .int x2), (3, .int x3), (4, .int x4)] → p_X8_doShift_l58 V g K99 N x0 x1 x2 x3 x4 f = some o → W p l e rm_X8_doShift s m args below meth c H locs 0 0 (MQ below (g_Wi V D cT o.1 o.2 n) args s 0 0 (g_A V)) (F0 m 58 ls []) := by
        intro K99 hK99 N
        induction N with
        | zero =>
          intro x0 x1 x2 x3 x4 f H locs ls hI hl hq
          rw [p_X8_doShift_l58] at hq
          cases hq
        | succ N ih =>
          intro x0 x1 x2 x3 x4 f H locs ls hI hl hq
          rw [p_X8_doShift_l58] at hq
          refine lv_iload hx hb dX8_doShift_58 (lv_at hl 4 rfl) ?_
          refine lv_aload_n hx hb dX8_doShift_60 rfl (lv_at hl 0 rfl) ?_
          refine lv_iload_n hx hb dX8_doShift_61 rfl (lv_at hl 1 rfl) ?_
          obtain ⟨v9, ev9, hq⟩ := b_s hq
          refine gr_i (g_runV (As := [.int x1]) (rest := [.int x4]) (ci := 10) hC (c_X8_count l V g D cT f n x0 x1 v9 ev9) k_X8_count m_1527 rfl rfl ⟨Nat.le_of_ble_eq_true rfl, Nat.le_of_ble_eq_true rfl⟩ hI rfl rfl (h_me_eq ev9).1 rfl hl.1 rfl (Nat.le_of_ble_eq_true rfl) dX8_doShift_62 ⟨by decide, by decide⟩) hI (fun H locs hI => ?_)
          refine lv_icmp_ge (tgt := 99) hx hb dX8_doShift_65 (by decide) (fun c10 => ?_) (fun c10 => ?_)
          · replace hq := i_t c10 hq
            exact hK99 f H locs ls hI (lv_sub hl [] rfl) hq
          · replace hq := i_f c10 hq
            refine lv_aload_n hx hb dX8_doShift_68 rfl (lv_at hl 0 rfl) ?_
            refine lv_iload_n hx hb dX8_doShift_69 rfl (lv_at hl 1 rfl) ?_
            refine lv_iload hx hb dX8_doShift_70 (lv_at hl 4 rfl) ?_
            refine lv_aload_n hx hb dX8_doShift_72 rfl (lv_at hl 0 rfl) ?_
            refine lv_iload_n hx hb dX8_doShift_73 rfl (lv_at hl 1 rfl) ?_
            refine lv_iload hx hb dX8_doShift_74 (lv_at hl 4 rfl) ?_
            obtain ⟨v11, ev11, hq⟩ := b_s hq
            refine gr_i (g_runV (As := [.int x1, .int x4]) (rest := [.int x4, .int x1, .ref x0]) (ci := 10) hC (c_X8_x l V g D cT f n x0 x1 x4 v11 ev11) k_X8_x m_1657 rfl rfl ⟨Nat.le_of_ble_eq_true rfl, Nat.le_of_ble_eq_true rfl⟩ hI rfl rfl (h_me_eq ev11).1 rfl hl.1 rfl (Nat.le_of_ble_eq_true rfl) dX8_doShift_76 ⟨by decide, by decide⟩) hI (fun H locs hI => ?_)
            refine lv_iload_n hx hb dX8_doShift_79 rfl (lv_at hl 2 rfl) ?_
            refine lv_iadd hx hb dX8_doShift_80 ?_
            refine lv_aload_n hx hb dX8_doShift_81 rfl (lv_at hl 0 rfl) ?_
            refine lv_iload_n hx hb dX8_doShift_82 rfl (lv_at hl 1 rfl) ?_
            refine lv_iload hx hb dX8_doShift_83 (lv_at hl 4 rfl) ?_
            obtain ⟨v12, ev12, hq⟩ := b_s hq
            refine gr_i (g_runV (As := [.int x1, .int x4]) (rest := [.int (v11 + x2), .int x4, .int x1, .ref x0]) (ci := 10) hC (c_X8_y l V g D cT f n x0 x1 x4 v12 ev12) k_X8_y m_1665 rfl rfl ⟨Nat.le_of_ble_eq_true rfl, Nat.le_of_ble_eq_true rfl⟩ hI rfl rfl (h_me_eq ev12).1 rfl hl.1 rfl (Nat.le_of_ble_eq_true rfl) dX8_doShift_85 ⟨by decide, by decide⟩) hI (fun H locs hI => ?_)
            refine lv_iload_n hx hb dX8_doShift_88 rfl (lv_at hl 3 rfl) ?_
            refine lv_iadd hx hb dX8_doShift_89 ?_
            obtain ⟨v13, ev13, hq⟩ := b_s hq
            refine gw_v (g_runV (As := [.int x1, .int x4, .int (v11 + x2), .int (v12 + x3)]) (rest := []) (ci := 10) hC (c_X8_layPoint l V g D cT f n x0 x1 x4 (v11 + x2) (v12 + x3) v13 ev13) k_X8_layPoint m_1880 rfl rfl ⟨Nat.le_of_ble_eq_true rfl, Nat.le_of_ble_eq_true rfl⟩ hI rfl rfl (h_me_eq ev13).1 rfl hl.1 rfl (Nat.le_of_ble_eq_true rfl) dX8_doShift_90 ⟨by decide, by decide⟩) hI (fun H locs hI => ?_)
            refine lv_iinc (v := x4 + (1 : Int32)) (lv' := [(4, .int (x4 + (1 : Int32))), (0, .ref x0), (1, .int x1), (2, .int x2), (3, .int x3)]) hx hb dX8_doShift_93 hl (k := 4) rfl rfl (by decide) rfl (fun ls hl => ?_)
            refine lv_goto (tgt := 58) hx hb dX8_doShift_96 (by decide) ?_
            exact ih x0 x1 x2 x3 (x4 + (1 : Int32)) v13 H locs ls hI (lv_sub hl [1, 2, 3, 4, 0] rfl) hq
      refine hl58 _ ?_ FU x0 x1 x2 x3 (0 : Int32) f H locs ls hI (lv_sub hl [1, 2, 3, 4, 0] rfl) hq
      · intro f H locs ls hI hl hq
        refine lv_iconst (v := (0 : Int32)) hx hb dX8_doShift_99 (by decide) ?_
        exact ge_Wi hx hb hlocks hr rfl hI (congrArg (fun z => z.1) (Option.some.inj hq)) (congrArg (fun z => z.2) (Option.some.inj hq)) dX8_doShift_100
  · replace hq := i_t c2 hq
    refine lv_iconst (v := (1 : Int32)) hx hb dX8_doShift_8 (by decide) ?_
    exact ge_Wi hx hb hlocks hr rfl hI (congrArg (fun z => z.1) (Option.some.inj hq)) (congrArg (fun z => z.2) (Option.some.inj hq)) dX8_doShift_9

abbrev rm_X8_doReverse : Room := { frames := 4, cells := 0, slots := 0, locals := 164 }
theorem k_X8_doReverse : g_CV yX8_doReverse cX8_doReverse 4 (some .int) 1 := ⟨⟨m_2017, m_14, by decide +kernel⟩, m_2016, ms_69⟩
set_option maxHeartbeats 4000000 in
set_option maxRecDepth 100000 in
theorem c_X8_doReverse (l : Launch) (V : Nat → Nat) (g : GH) (D : va_G) (cT : Nat → ClassId) (f : GH) (n : Nat) (a0 : Nat) (a1 : Int32) (o : Int32 × GH) (hq : p_X8_doReverse V g f a0 a1 = some o) : Met l yX8_doReverse (Cond.code yX8_doReverse cX8_doReverse 4 (some .int) :: g_B) rm_X8_doReverse (va_Pc [.ref a0, .int a1] (g_I V g D cT f n)) (g_Wi V D cT o.1 o.2 n) 0 0 (g_A V) := by
  refine g_begin (own := RX8) [.ref a0, .int a1] [(0, .ref a0), (1, .int a1)] (g_A V) (fun _ h => h) (by decide) rfl (Nat.le_of_ble_eq_true rfl) rfl ?_
  intro p e s m args below meth c hx hb hr hlocks hin hC hI ls hl
  obtain ⟨hx, hb, hml, hown, hB⟩ := id hC
  obtain ⟨H, hH⟩ : ∃ H, H = s.heap := ⟨_, rfl⟩
  obtain ⟨locs, hlocs⟩ : ∃ L : List Loc, L = [] := ⟨_, rfl⟩
  rw [← hH, ← hlocs] at hI ⊢
  clear hH hlocs
  unfold p_X8_doReverse at hq
  replace hq := (h_me_eq hq).2
  refine lv_aload_n hx hb dX8_doReverse_0 rfl (lv_at hl 0 rfl) ?_
  refine lv_iload_n hx hb dX8_doReverse_1 rfl (lv_at hl 1 rfl) ?_
  obtain ⟨v1, ev1, hq⟩ := b_s hq
  refine gr_i (g_runV (As := [.int a1]) (rest := []) (ci := 10) hC (c_X8_isCoast l V g D cT f n a0 a1 v1 ev1) k_X8_isCoast m_1630 rfl rfl ⟨Nat.le_of_ble_eq_true rfl, Nat.le_of_ble_eq_true rfl⟩ hI rfl rfl (h_me_eq ev1).1 rfl hl.1 rfl (Nat.le_of_ble_eq_true rfl) dX8_doReverse_2 ⟨by decide, by decide⟩) hI (fun H locs hI => ?_)
  refine lv_if_ne (tgt := 10) hx hb dX8_doReverse_5 (by decide) (fun c2 => ?_) (fun c2 => ?_)
  · replace hq := i_f c2 hq
    refine lv_aload_n hx hb dX8_doReverse_10 rfl (lv_at hl 0 rfl) ?_
    refine lv_iload_n hx hb dX8_doReverse_11 rfl (lv_at hl 1 rfl) ?_
    refine lv_bipush (v := (6 : Int32)) hx hb dX8_doReverse_12 (by decide) ?_
    obtain ⟨v3, ev3, hq⟩ := b_s hq
    refine gw_v (g_runV (As := [.int a1, .int (6 : Int32)]) (rest := []) (ci := 10) hC (c_X8_copyCoast l V g D cT f n a0 a1 (6 : Int32) v3 ev3) k_X8_copyCoast m_1904 rfl rfl ⟨Nat.le_of_ble_eq_true rfl, Nat.le_of_ble_eq_true rfl⟩ hI rfl rfl (h_me_eq ev3).1 rfl hl.1 rfl (Nat.le_of_ble_eq_true rfl) dX8_doReverse_14 ⟨by decide, by decide⟩) hI (fun H locs hI => ?_)
    refine lv_iconst (v := (0 : Int32)) hx hb dX8_doReverse_17 (by decide) ?_
    refine lv_istore_n (lv' := [(2, .int (0 : Int32)), (0, .ref a0), (1, .int a1)]) hx hb dX8_doReverse_18 rfl hl (by decide) rfl (fun ls hl => ?_)
    have hl19 : ∀ (K64 : GH → Option (Int32 × GH)) (hK64 : ∀ (f : GH) (H : Heap) (locs : List Loc) (ls : Array Slot), g_at (g_A V) V g D cT f n s H locs → lv_has ls 4 [] → K64 f = some o → W p l e rm_X8_doReverse s m args below meth c H locs 0 0 (MQ below (g_Wi V D cT o.1 o.2 n) args s 0 0 (g_A V)) (F0 m 64 ls [])) (N : Nat) (x0 : Nat) (x1 : Int32) (x2 : Int32) (f : GH) (H : Heap) (locs : List Loc) (ls : Array Slot), g_at (g_A V) V g D cT f n s H locs → lv_has ls 4 [(0, .ref x0), (1, .int x1), (2, .int x2)] → p_X8_doReverse_l19 V g K64 N x0 x1 x2 f = some o → W p l e rm_X8_doReverse s m args below meth c H locs 0 0 (MQ below (g_Wi V D cT o.1 o.2 n) args s 0 0 (g_A V)) (F0 m 19 ls []) := by
      intro K64 hK64 N
      induction N with
      | zero =>
        intro x0 x1 x2 f H locs ls hI hl hq
        rw [p_X8_doReverse_l19] at hq
        cases hq
      | succ N ih =>
        intro x0 x1 x2 f H locs ls hI hl hq
        rw [p_X8_doReverse_l19] at hq
        refine lv_iload_n hx hb dX8_doReverse_19 rfl (lv_at hl 2 rfl) ?_
        refine lv_aload_n hx hb dX8_doReverse_20 rfl (lv_at hl 0 rfl) ?_
        refine lv_iload_n hx hb dX8_doReverse_21 rfl (lv_at hl 1 rfl) ?_
        obtain ⟨v4, ev4, hq⟩ := b_s hq
        refine gr_i (g_runV (As := [.int x1]) (rest := [.int x2]) (ci := 10) hC (c_X8_count l V g D cT f n x0 x1 v4 ev4) k_X8_count m_1527 rfl rfl ⟨Nat.le_of_ble_eq_true rfl, Nat.le_of_ble_eq_true rfl⟩ hI rfl rfl (h_me_eq ev4).1 rfl hl.1 rfl (Nat.le_of_ble_eq_true rfl) dX8_doReverse_22 ⟨by decide, by decide⟩) hI (fun H locs hI => ?_)
        refine lv_icmp_ge (tgt := 64) hx hb dX8_doReverse_25 (by decide) (fun c5 => ?_) (fun c5 => ?_)
        · replace hq := i_t c5 hq
          exact hK64 f H locs ls hI (lv_sub hl [] rfl) hq
        · replace hq := i_f c5 hq
          refine lv_aload_n hx hb dX8_doReverse_28 rfl (lv_at hl 0 rfl) ?_
          refine lv_iload_n hx hb dX8_doReverse_29 rfl (lv_at hl 1 rfl) ?_
          obtain ⟨v6, ev6, hq⟩ := b_s hq
          refine gr_i (g_runV (As := [.int x1]) (rest := []) (ci := 10) hC (c_X8_count l V g D cT f n x0 x1 v6 ev6) k_X8_count m_1527 rfl rfl ⟨Nat.le_of_ble_eq_true rfl, Nat.le_of_ble_eq_true rfl⟩ hI rfl rfl (h_me_eq ev6).1 rfl hl.1 rfl (Nat.le_of_ble_eq_true rfl) dX8_doReverse_30 ⟨by decide, by decide⟩) hI (fun H locs hI => ?_)
          refine lv_iconst (v := (1 : Int32)) hx hb dX8_doReverse_33 (by decide) ?_
          refine lv_isub hx hb dX8_doReverse_34 ?_
          refine lv_iload_n hx hb dX8_doReverse_35 rfl (lv_at hl 2 rfl) ?_
          refine lv_isub hx hb dX8_doReverse_36 ?_
          refine lv_istore_n (lv' := [(3, .int ((v6 - (1 : Int32)) - x2)), (0, .ref x0), (1, .int x1), (2, .int x2)]) hx hb dX8_doReverse_37 rfl hl (by decide) rfl (fun ls hl => ?_)
          refine lv_aload_n hx hb dX8_doReverse_38 rfl (lv_at hl 1 rfl) ?_
          refine lv_iload_n hx hb dX8_doReverse_39 rfl (lv_at hl 2 rfl) ?_
          refine lv_iload_n hx hb dX8_doReverse_40 rfl (lv_at hl 3 rfl) ?_
          refine lv_aload_n hx hb dX8_doReverse_41 rfl (lv_at hl 1 rfl) ?_
          refine lv_bipush (v := (6 : Int32)) hx hb dX8_doReverse_42 (by decide) ?_
          refine lv_iload_n hx hb dX8_doReverse_44 rfl (lv_at hl 0 rfl) ?_
          obtain ⟨v7, ev7, hq⟩ := b_s hq
          refine gr_i (g_runV (As := [.int (6 : Int32), .int ((v6 - (1 : Int32)) - x2)]) (rest := [.int x2, .int x1, .ref x0]) (ci := 10) hC (c_X8_x l V g D cT f n x0 (6 : Int32) ((v6 - (1 : Int32)) - x2) v7 ev7) k_X8_x m_1657 rfl rfl ⟨Nat.le_of_ble_eq_true rfl, Nat.le_of_ble_eq_true rfl⟩ hI rfl rfl (h_me_eq ev7).1 rfl hl.1 rfl (Nat.le_of_ble_eq_true rfl) dX8_doReverse_45 ⟨by decide, by decide⟩) hI (fun H locs hI => ?_)
          refine lv_aload_n hx hb dX8_doReverse_48 rfl (lv_at hl 1 rfl) ?_
          refine lv_bipush (v := (6 : Int32)) hx hb dX8_doReverse_49 (by decide) ?_
          refine lv_iload_n hx hb dX8_doReverse_51 rfl (lv_at hl 0 rfl) ?_
          obtain ⟨v8, ev8, hq⟩ := b_s hq
          refine gr_i (g_runV (As := [.int (6 : Int32), .int ((v6 - (1 : Int32)) - x2)]) (rest := [.int v7, .int x2, .int x1, .ref x0]) (ci := 10) hC (c_X8_y l V g D cT f n x0 (6 : Int32) ((v6 - (1 : Int32)) - x2) v8 ev8) k_X8_y m_1665 rfl rfl ⟨Nat.le_of_ble_eq_true rfl, Nat.le_of_ble_eq_true rfl⟩ hI rfl rfl (h_me_eq ev8).1 rfl hl.1 rfl (Nat.le_of_ble_eq_true rfl) dX8_doReverse_52 ⟨by decide, by decide⟩) hI (fun H locs hI => ?_)
          obtain ⟨v9, ev9, hq⟩ := b_s hq
          refine gw_v (g_runV (As := [.int x1, .int x2, .int v7, .int v8]) (rest := []) (ci := 10) hC (c_X8_layPoint l V g D cT f n x0 x1 x2 v7 v8 v9 ev9) k_X8_layPoint m_1880 rfl rfl ⟨Nat.le_of_ble_eq_true rfl, Nat.le_of_ble_eq_true rfl⟩ hI rfl rfl (h_me_eq ev9).1 rfl hl.1 rfl (Nat.le_of_ble_eq_true rfl) dX8_doReverse_55 ⟨by decide, by decide⟩) hI (fun H locs hI => ?_)
          refine lv_iinc (v := x2 + (1 : Int32)) (lv' := [(2, .int (x2 + (1 : Int32))), (3, .int ((v6 - (1 : Int32)) - x2)), (0, .ref x0), (1, .int x1)]) hx hb dX8_doReverse_58 hl (k := 3) rfl rfl (by decide) rfl (fun ls hl => ?_)
          refine lv_goto (tgt := 19) hx hb dX8_doReverse_61 (by decide) ?_
          exact ih x0 x1 (x2 + (1 : Int32)) v9 H locs ls hI (lv_sub hl [2, 3, 0] rfl) hq
    refine hl19 _ ?_ FU a0 a1 (0 : Int32) v3 H locs ls hI (lv_sub hl [1, 2, 0] rfl) hq
    · intro f H locs ls hI hl hq
      refine lv_iconst (v := (0 : Int32)) hx hb dX8_doReverse_64 (by decide) ?_
      exact ge_Wi hx hb hlocks hr rfl hI (congrArg (fun z => z.1) (Option.some.inj hq)) (congrArg (fun z => z.2) (Option.some.inj hq)) dX8_doReverse_65
  · replace hq := i_t c2 hq
    refine lv_iconst (v := (1 : Int32)) hx hb dX8_doReverse_8 (by decide) ?_
    exact ge_Wi hx hb hlocks hr rfl hI (congrArg (fun z => z.1) (Option.some.inj hq)) (congrArg (fun z => z.2) (Option.some.inj hq)) dX8_doReverse_9

abbrev rm_X8_copy : Room := { frames := 2, cells := 0, slots := 0, locals := 120 }
theorem k_X8_copy : g_CS yX8_copy cX8_copy 4 none 4 := ⟨⟨m_1946, m_14, by decide +kernel⟩, m_1945⟩
set_option maxHeartbeats 4000000 in
set_option maxRecDepth 100000 in
theorem c_X8_copy (l : Launch) (V : Nat → Nat) (g : GH) (D : va_G) (cT : Nat → ClassId) (f : GH) (n : Nat) (a0 : Nat) (a1 : Int32) (a2 : Nat) (a3 : Int32) (o : GH) (hq : p_X8_copy V g f a0 a1 a2 a3 = some o) : Met l yX8_copy (Cond.code yX8_copy cX8_copy 4 none :: g_B) rm_X8_copy (va_Pc [.ref a0, .int a1, .ref a2, .int a3] (g_I V g D cT f n)) (g_Wv V D cT o n) 0 0 (g_A V) := by
  refine g_begin (own := RX8) [.ref a0, .int a1, .ref a2, .int a3] [(0, .ref a0), (1, .int a1), (2, .ref a2), (3, .int a3)] (g_A V) (fun _ h => h) (by decide) rfl (Nat.le_of_ble_eq_true rfl) rfl ?_
  intro p e s m args below meth c hx hb hr hlocks hin hC hI ls hl
  obtain ⟨hx, hb, hml, hown, hB⟩ := id hC
  obtain ⟨H, hH⟩ : ∃ H, H = s.heap := ⟨_, rfl⟩
  obtain ⟨locs, hlocs⟩ : ∃ L : List Loc, L = [] := ⟨_, rfl⟩
  rw [← hH, ← hlocs] at hI ⊢
  clear hH hlocs
  unfold p_X8_copy at hq
  refine lv_aload_n hx hb dX8_copy_0 rfl (lv_at hl 0 rfl) ?_
  refine lv_sipush (v := (1825 : Int32)) hx hb dX8_copy_1 (by decide) ?_
  refine lv_iload_n hx hb dX8_copy_4 rfl (lv_at hl 1 rfl) ?_
  refine lv_imul hx hb dX8_copy_5 ?_
  refine lv_aload_n hx hb dX8_copy_6 rfl (lv_at hl 2 rfl) ?_
  refine lv_sipush (v := (1825 : Int32)) hx hb dX8_copy_7 (by decide) ?_
  refine lv_iload_n hx hb dX8_copy_10 rfl (lv_at hl 3 rfl) ?_
  refine lv_imul hx hb dX8_copy_11 ?_
  refine lv_sipush (v := (1825 : Int32)) hx hb dX8_copy_12 (by decide) ?_
  obtain ⟨f1, ef1, hq⟩ := b_s hq
  refine fa_cp (own := RX8) hx hb (hml.trans hl.1.symm) hB hown m_1518 m_252 m_251 m_13 hI ef1 (by decide) (by decide) dX8_copy_15 (fun H locs hI => ?_)
  exact ge_Wv hx hb hlocks hr hI (Option.some.inj hq) dX8_copy_18

abbrev rm_X8_keep : Room := { frames := 3, cells := 0, slots := 0, locals := 143 }
theorem k_X8_keep : g_CV yX8_keep cX8_keep 1 none 0 := ⟨⟨m_1943, m_14, by decide +kernel⟩, m_1942, ms_59⟩
set_option maxHeartbeats 4000000 in
set_option maxRecDepth 100000 in
theorem c_X8_keep (l : Launch) (V : Nat → Nat) (g : GH) (D : va_G) (cT : Nat → ClassId) (f : GH) (n : Nat) (a0 : Nat) (o : GH) (hq : p_X8_keep V g f a0 = some o) : Met l yX8_keep (Cond.code yX8_keep cX8_keep 1 none :: g_B) rm_X8_keep (va_Pc [.ref a0] (g_I V g D cT f n)) (g_Wv V D cT o n) 0 0 (g_A V) := by
  refine g_begin (own := RX8) [.ref a0] [(0, .ref a0)] (g_A V) (fun _ h => h) (by decide) rfl (Nat.le_of_ble_eq_true rfl) rfl ?_
  intro p e s m args below meth c hx hb hr hlocks hin hC hI ls hl
  obtain ⟨hx, hb, hml, hown, hB⟩ := id hC
  obtain ⟨H, hH⟩ : ∃ H, H = s.heap := ⟨_, rfl⟩
  obtain ⟨locs, hlocs⟩ : ∃ L : List Loc, L = [] := ⟨_, rfl⟩
  rw [← hH, ← hlocs] at hI ⊢
  clear hH hlocs
  unfold p_X8_keep at hq
  replace hq := (h_me_eq hq).2
  refine lv_aload_n hx hb dX8_keep_0 rfl (lv_at hl 0 rfl) ?_
  obtain ⟨v1, ev1, hq⟩ := b_s hq
  refine fa_gr (own := RX8) (ref := "CoastlineRulerModel") (k := 0) hx hb hB inB_RX8 hown hI rfl (by decide) m_1531 (fun _ h9 => h9) ev1 dX8_keep_1 ?_
  refine lv_iconst (v := (0 : Int32)) hx hb dX8_keep_4 (by decide) ?_
  refine lv_aload_n hx hb dX8_keep_5 rfl (lv_at hl 0 rfl) ?_
  obtain ⟨v2, ev2, hq⟩ := b_s hq
  refine fa_gr (own := RX8) (ref := "CoastlineRulerModel") (k := 2) hx hb hB inB_RX8 hown hI rfl (by decide) m_1533 (fun _ h9 => h9) ev2 dX8_keep_6 ?_
  refine lv_iconst (v := (0 : Int32)) hx hb dX8_keep_9 (by decide) ?_
  obtain ⟨v3, ev3, hq⟩ := b_s hq
  refine gw_v (g_runS (As := [.ref v1, .int (0 : Int32), .ref v2, .int (0 : Int32)]) (rest := []) hC (c_X8_copy l V g D cT f n v1 (0 : Int32) v2 (0 : Int32) v3 ev3) k_X8_copy m_1944 rfl rfl ⟨Nat.le_of_ble_eq_true rfl, Nat.le_of_ble_eq_true rfl⟩ hI rfl hl.1 rfl (Nat.le_of_ble_eq_true rfl) dX8_keep_10 ⟨by decide, by decide⟩) hI (fun H locs hI => ?_)
  exact ge_Wv hx hb hlocks hr hI (Option.some.inj hq) dX8_keep_13

abbrev rm_X8_record : Room := { frames := 3, cells := 0, slots := 0, locals := 143 }
theorem k_X8_record : g_CV yX8_record cX8_record 2 none 0 := ⟨⟨m_1958, m_14, by decide +kernel⟩, m_1957, ms_62⟩
set_option maxHeartbeats 4000000 in
set_option maxRecDepth 100000 in
theorem c_X8_record (l : Launch) (V : Nat → Nat) (g : GH) (D : va_G) (cT : Nat → ClassId) (f : GH) (n : Nat) (a0 : Nat) (o : GH) (hq : p_X8_record V g f a0 = some o) : Met l yX8_record (Cond.code yX8_record cX8_record 2 none :: g_B) rm_X8_record (va_Pc [.ref a0] (g_I V g D cT f n)) (g_Wv V D cT o n) 0 0 (g_A V) := by
  refine g_begin (own := RX8) [.ref a0] [(0, .ref a0)] (g_A V) (fun _ h => h) (by decide) rfl (Nat.le_of_ble_eq_true rfl) rfl ?_
  intro p e s m args below meth c hx hb hr hlocks hin hC hI ls hl
  obtain ⟨hx, hb, hml, hown, hB⟩ := id hC
  obtain ⟨H, hH⟩ : ∃ H, H = s.heap := ⟨_, rfl⟩
  obtain ⟨locs, hlocs⟩ : ∃ L : List Loc, L = [] := ⟨_, rfl⟩
  rw [← hH, ← hlocs] at hI ⊢
  clear hH hlocs
  unfold p_X8_record at hq
  replace hq := (h_me_eq hq).2
  refine lv_aload_n hx hb dX8_record_0 rfl (lv_at hl 0 rfl) ?_
  obtain ⟨v1, ev1, hq⟩ := b_s hq
  refine fa_gi (own := RX8) (ref := "CoastlineRulerModel") (k := 6) hx hb hB inB_RX8 hown hI rfl (by decide) m_1537 (fun _ h9 => h9) ev1 dX8_record_1 ?_
  refine lv_bipush (v := (8 : Int32)) hx hb dX8_record_4 (by decide) ?_
  have hj48 : ∀ (x0 : Nat) (f : GH) (H : Heap) (locs : List Loc) (ls : Array Slot), g_at (g_A V) V g D cT f n s H locs → lv_has ls 2 [(0, .ref x0)] → p_X8_record_j48 V g x0 f = some o → W p l e rm_X8_record s m args below meth c H locs 0 0 (MQ below (g_Wv V D cT o n) args s 0 0 (g_A V)) (F0 m 48 ls []) := by
    intro x0 f H locs ls hI hl hq
    unfold p_X8_record_j48 at hq
    refine lv_aload_n hx hb dX8_record_48 rfl (lv_at hl 0 rfl) ?_
    obtain ⟨v2, ev2, hq⟩ := b_s hq
    refine fa_gr (own := RX8) (ref := "CoastlineRulerModel") (k := 2) hx hb hB inB_RX8 hown hI rfl (by decide) m_1533 (fun _ h9 => h9) ev2 dX8_record_49 ?_
    refine lv_iconst (v := (0 : Int32)) hx hb dX8_record_52 (by decide) ?_
    refine lv_aload_n hx hb dX8_record_53 rfl (lv_at hl 0 rfl) ?_
    obtain ⟨v3, ev3, hq⟩ := b_s hq
    refine fa_gr (own := RX8) (ref := "CoastlineRulerModel") (k := 4) hx hb hB inB_RX8 hown hI rfl (by decide) m_1535 (fun _ h9 => h9) ev3 dX8_record_54 ?_
    refine lv_aload_n hx hb dX8_record_57 rfl (lv_at hl 0 rfl) ?_
    obtain ⟨v4, ev4, hq⟩ := b_s hq
    refine fa_gi (own := RX8) (ref := "CoastlineRulerModel") (k := 6) hx hb hB inB_RX8 hown hI rfl (by decide) m_1537 (fun _ h9 => h9) ev4 dX8_record_58 ?_
    obtain ⟨v5, ev5, hq⟩ := b_s hq
    refine gw_v (g_runS (As := [.ref v2, .int (0 : Int32), .ref v3, .int v4]) (rest := []) hC (c_X8_copy l V g D cT f n v2 (0 : Int32) v3 v4 v5 ev5) k_X8_copy m_1944 rfl rfl ⟨Nat.le_of_ble_eq_true rfl, Nat.le_of_ble_eq_true rfl⟩ hI rfl hl.1 rfl (Nat.le_of_ble_eq_true rfl) dX8_record_61 ⟨by decide, by decide⟩) hI (fun H locs hI => ?_)
    refine lv_aload_n hx hb dX8_record_64 rfl (lv_at hl 0 rfl) ?_
    refine lv_dup hx hb dX8_record_65 rfl ?_
    obtain ⟨v6, ev6, hq⟩ := b_s hq
    refine fa_gi (own := RX8) (ref := "CoastlineRulerModel") (k := 6) hx hb hB inB_RX8 hown hI rfl (by decide) m_1537 (fun _ h9 => h9) ev6 dX8_record_66 ?_
    refine lv_iconst (v := (1 : Int32)) hx hb dX8_record_69 (by decide) ?_
    refine lv_iadd hx hb dX8_record_70 ?_
    obtain ⟨f7, ef7, hq⟩ := b_s hq
    refine fa_pt (own := RX8) (ref := "CoastlineRulerModel") (k := 6) hx hb hB inB_RX8 tyX8_ok nmX8 hown hI rfl (by decide) m_1537 (fun _ h9 => h9) (by decide) rfl rfl ef7 dX8_record_71 (fun H locs hI => ?_)
    exact ge_Wv hx hb hlocks hr hI (Option.some.inj hq) dX8_record_74
  refine lv_icmp_ne (tgt := 48) hx hb dX8_record_6 (by decide) (fun c8 => ?_) (fun c8 => ?_)
  · replace hq := i_f c8 hq
    exact hj48 a0 f H locs ls hI (lv_sub hl [0] rfl) hq
  · replace hq := i_t c8 hq
    refine lv_iconst (v := (1 : Int32)) hx hb dX8_record_9 (by decide) ?_
    refine lv_istore_n (lv' := [(1, .int (1 : Int32)), (0, .ref a0)]) hx hb dX8_record_10 rfl hl (by decide) rfl (fun ls hl => ?_)
    have hl11 : ∀ (K38 : Nat → GH → Option GH) (hK38 : ∀ (x0 : Nat) (f : GH) (H : Heap) (locs : List Loc) (ls : Array Slot), g_at (g_A V) V g D cT f n s H locs → lv_has ls 2 [(0, .ref x0)] → K38 x0 f = some o → W p l e rm_X8_record s m args below meth c H locs 0 0 (MQ below (g_Wv V D cT o n) args s 0 0 (g_A V)) (F0 m 38 ls [])) (N : Nat) (x0 : Nat) (x1 : Int32) (f : GH) (H : Heap) (locs : List Loc) (ls : Array Slot), g_at (g_A V) V g D cT f n s H locs → lv_has ls 2 [(0, .ref x0), (1, .int x1)] → p_X8_record_l11 V g K38 N x0 x1 f = some o → W p l e rm_X8_record s m args below meth c H locs 0 0 (MQ below (g_Wv V D cT o n) args s 0 0 (g_A V)) (F0 m 11 ls []) := by
      intro K38 hK38 N
      induction N with
      | zero =>
        intro x0 x1 f H locs ls hI hl hq
        rw [p_X8_record_l11] at hq
        cases hq
      | succ N ih =>
        intro x0 x1 f H locs ls hI hl hq
        rw [p_X8_record_l11] at hq
        refine lv_iload_n hx hb dX8_record_11 rfl (lv_at hl 1 rfl) ?_
        refine lv_bipush (v := (8 : Int32)) hx hb dX8_record_12 (by decide) ?_
        refine lv_icmp_ge (tgt := 38) hx hb dX8_record_14 (by decide) (fun c9 => ?_) (fun c9 => ?_)
        · replace hq := i_t c9 hq
          exact hK38 x0 f H locs ls hI (lv_sub hl [0] rfl) hq
        · replace hq := i_f c9 hq
          refine lv_aload_n hx hb dX8_record_17 rfl (lv_at hl 0 rfl) ?_
          obtain ⟨v10, ev10, hq⟩ := b_s hq
          refine fa_gr (own := RX8) (ref := "CoastlineRulerModel") (k := 4) hx hb hB inB_RX8 hown hI rfl (by decide) m_1535 (fun _ h9 => h9) ev10 dX8_record_18 ?_
          refine lv_iload_n hx hb dX8_record_21 rfl (lv_at hl 1 rfl) ?_
          refine lv_aload_n hx hb dX8_record_22 rfl (lv_at hl 0 rfl) ?_
          obtain ⟨v11, ev11, hq⟩ := b_s hq
          refine fa_gr (own := RX8) (ref := "CoastlineRulerModel") (k := 4) hx hb hB inB_RX8 hown hI rfl (by decide) m_1535 (fun _ h9 => h9) ev11 dX8_record_23 ?_
          refine lv_iload_n hx hb dX8_record_26 rfl (lv_at hl 1 rfl) ?_
          refine lv_iconst (v := (1 : Int32)) hx hb dX8_record_27 (by decide) ?_
          refine lv_isub hx hb dX8_record_28 ?_
          obtain ⟨v12, ev12, hq⟩ := b_s hq
          refine gw_v (g_runS (As := [.ref v10, .int x1, .ref v11, .int (x1 - (1 : Int32))]) (rest := []) hC (c_X8_copy l V g D cT f n v10 x1 v11 (x1 - (1 : Int32)) v12 ev12) k_X8_copy m_1944 rfl rfl ⟨Nat.le_of_ble_eq_true rfl, Nat.le_of_ble_eq_true rfl⟩ hI rfl hl.1 rfl (Nat.le_of_ble_eq_true rfl) dX8_record_29 ⟨by decide, by decide⟩) hI (fun H locs hI => ?_)
          refine lv_iinc (v := x1 + (1 : Int32)) (lv' := [(1, .int (x1 + (1 : Int32))), (0, .ref x0)]) hx hb dX8_record_32 hl (k := 1) rfl rfl (by decide) rfl (fun ls hl => ?_)
          refine lv_goto (tgt := 11) hx hb dX8_record_35 (by decide) ?_
          exact ih x0 (x1 + (1 : Int32)) v12 H locs ls hI (lv_sub hl [1, 0] rfl) hq
    refine hl11 _ ?_ FU a0 (1 : Int32) f H locs ls hI (lv_sub hl [1, 0] rfl) hq
    · intro x0 f H locs ls hI hl hq
      refine lv_aload_n hx hb dX8_record_38 rfl (lv_at hl 0 rfl) ?_
      refine lv_dup hx hb dX8_record_39 rfl ?_
      obtain ⟨v13, ev13, hq⟩ := b_s hq
      refine fa_gi (own := RX8) (ref := "CoastlineRulerModel") (k := 6) hx hb hB inB_RX8 hown hI rfl (by decide) m_1537 (fun _ h9 => h9) ev13 dX8_record_40 ?_
      refine lv_iconst (v := (1 : Int32)) hx hb dX8_record_43 (by decide) ?_
      refine lv_isub hx hb dX8_record_44 ?_
      obtain ⟨f14, ef14, hq⟩ := b_s hq
      refine fa_pt (own := RX8) (ref := "CoastlineRulerModel") (k := 6) hx hb hB inB_RX8 tyX8_ok nmX8 hown hI rfl (by decide) m_1537 (fun _ h9 => h9) (by decide) rfl rfl ef14 dX8_record_45 (fun H locs hI => ?_)
      exact hj48 x0 f14 H locs ls hI (lv_sub hl [0] rfl) hq

abbrev rm_X8_fails : Room := { frames := 4, cells := 0, slots := 0, locals := 164 }
theorem k_X8_fails : g_CV yX8_fails cX8_fails 2 (some .boolean) 1 := ⟨⟨m_1954, m_14, by decide +kernel⟩, m_1953, ms_61⟩
set_option maxHeartbeats 4000000 in
set_option maxRecDepth 100000 in
theorem c_X8_fails (l : Launch) (V : Nat → Nat) (g : GH) (D : va_G) (cT : Nat → ClassId) (f : GH) (n : Nat) (a0 : Nat) (a1 : Int32) (o : Int32 × GH) (hq : p_X8_fails V g f a0 a1 = some o) : Met l yX8_fails (Cond.code yX8_fails cX8_fails 2 (some .boolean) :: g_B) rm_X8_fails (va_Pc [.ref a0, .int a1] (g_I V g D cT f n)) (g_Wi V D cT o.1 o.2 n) 0 0 (g_A V) := by
  refine g_begin (own := RX8) [.ref a0, .int a1] [(0, .ref a0), (1, .int a1)] (g_A V) (fun _ h => h) (by decide) rfl (Nat.le_of_ble_eq_true rfl) rfl ?_
  intro p e s m args below meth c hx hb hr hlocks hin hC hI ls hl
  obtain ⟨hx, hb, hml, hown, hB⟩ := id hC
  obtain ⟨H, hH⟩ : ∃ H, H = s.heap := ⟨_, rfl⟩
  obtain ⟨locs, hlocs⟩ : ∃ L : List Loc, L = [] := ⟨_, rfl⟩
  rw [← hH, ← hlocs] at hI ⊢
  clear hH hlocs
  unfold p_X8_fails at hq
  replace hq := (h_me_eq hq).2
  refine lv_aload_n hx hb dX8_fails_0 rfl (lv_at hl 0 rfl) ?_
  refine lv_iload_n hx hb dX8_fails_1 rfl (lv_at hl 1 rfl) ?_
  obtain ⟨f1, ef1, hq⟩ := b_s hq
  refine fa_pt (own := RX8) (ref := "CoastlineRulerModel") (k := 7) hx hb hB inB_RX8 tyX8_ok nmX8 hown hI rfl (by decide) m_1538 (fun _ h9 => h9) (by decide) rfl rfl ef1 dX8_fails_2 (fun H locs hI => ?_)
  refine lv_iload_n hx hb dX8_fails_5 rfl (lv_at hl 1 rfl) ?_
  refine lv_if_ne (tgt := 13) hx hb dX8_fails_6 (by decide) (fun c2 => ?_) (fun c2 => ?_)
  · replace hq := i_f c2 hq
    refine lv_iload_n hx hb dX8_fails_13 rfl (lv_at hl 1 rfl) ?_
    refine lv_if_eq (tgt := 21) hx hb dX8_fails_14 (by decide) (fun c3 => ?_) (fun c3 => ?_)
    · replace hq := i_t c3 hq
      refine lv_iconst (v := (0 : Int32)) hx hb dX8_fails_21 (by decide) ?_
      exact ge_Wi hx hb hlocks hr (by decide +kernel) hI (congrArg (fun z => z.1) (Option.some.inj hq)) (congrArg (fun z => z.2) (Option.some.inj hq)) dX8_fails_22
    · replace hq := i_f c3 hq
      refine lv_iconst (v := (1 : Int32)) hx hb dX8_fails_17 (by decide) ?_
      refine lv_goto (tgt := 22) hx hb dX8_fails_18 (by decide) ?_
      exact ge_Wi hx hb hlocks hr (by decide +kernel) hI (congrArg (fun z => z.1) (Option.some.inj hq)) (congrArg (fun z => z.2) (Option.some.inj hq)) dX8_fails_22
  · replace hq := i_t c2 hq
    refine lv_aload_n hx hb dX8_fails_9 rfl (lv_at hl 0 rfl) ?_
    obtain ⟨v4, ev4, hq⟩ := b_s hq
    refine gw_v (g_runV (As := []) (rest := []) (ci := 10) hC (c_X8_record l V g D cT f1 n a0 v4 ev4) k_X8_record m_1955 rfl rfl ⟨Nat.le_of_ble_eq_true rfl, Nat.le_of_ble_eq_true rfl⟩ hI rfl rfl (h_me_eq ev4).1 rfl hl.1 rfl (Nat.le_of_ble_eq_true rfl) dX8_fails_10 ⟨by decide, by decide⟩) hI (fun H locs hI => ?_)
    refine lv_iload_n hx hb dX8_fails_13 rfl (lv_at hl 1 rfl) ?_
    refine lv_if_eq (tgt := 21) hx hb dX8_fails_14 (by decide) (fun c5 => ?_) (fun c5 => ?_)
    · replace hq := i_t c5 hq
      refine lv_iconst (v := (0 : Int32)) hx hb dX8_fails_21 (by decide) ?_
      exact ge_Wi hx hb hlocks hr (by decide +kernel) hI (congrArg (fun z => z.1) (Option.some.inj hq)) (congrArg (fun z => z.2) (Option.some.inj hq)) dX8_fails_22
    · replace hq := i_f c5 hq
      refine lv_iconst (v := (1 : Int32)) hx hb dX8_fails_17 (by decide) ?_
      refine lv_goto (tgt := 22) hx hb dX8_fails_18 (by decide) ?_
      exact ge_Wi hx hb hlocks hr (by decide +kernel) hI (congrArg (fun z => z.1) (Option.some.inj hq)) (congrArg (fun z => z.2) (Option.some.inj hq)) dX8_fails_22

abbrev rm_X8_removeCoast : Room := { frames := 5, cells := 0, slots := 0, locals := 185 }
theorem k_X8_removeCoast : g_CV yX8_removeCoast cX8_removeCoast 3 (some .int) 1 := ⟨⟨m_1939, m_14, by decide +kernel⟩, m_1937, m_1938⟩
set_option maxHeartbeats 4000000 in
set_option maxRecDepth 100000 in
theorem c_X8_removeCoast (l : Launch) (V : Nat → Nat) (g : GH) (D : va_G) (cT : Nat → ClassId) (f : GH) (n : Nat) (a0 : Nat) (a1 : Int32) (o : Int32 × GH) (hq : p_X8_removeCoast V g f a0 a1 = some o) : Met l yX8_removeCoast (Cond.code yX8_removeCoast cX8_removeCoast 3 (some .int) :: g_B) rm_X8_removeCoast (va_Pc [.ref a0, .int a1] (g_I V g D cT f n)) (g_Wi V D cT o.1 o.2 n) 0 0 (g_A V) := by
  refine g_begin (own := RX8) [.ref a0, .int a1] [(0, .ref a0), (1, .int a1)] (g_A V) (fun _ h => h) (by decide) rfl (Nat.le_of_ble_eq_true rfl) rfl ?_
  intro p e s m args below meth c hx hb hr hlocks hin hC hI ls hl
  obtain ⟨hx, hb, hml, hown, hB⟩ := id hC
  obtain ⟨H, hH⟩ : ∃ H, H = s.heap := ⟨_, rfl⟩
  obtain ⟨locs, hlocs⟩ : ∃ L : List Loc, L = [] := ⟨_, rfl⟩
  rw [← hH, ← hlocs] at hI ⊢
  clear hH hlocs
  unfold p_X8_removeCoast at hq
  replace hq := (h_me_eq hq).2
  refine lv_aload_n hx hb dX8_removeCoast_0 rfl (lv_at hl 0 rfl) ?_
  obtain ⟨v1, ev1, hq⟩ := b_s hq
  refine gw_v (g_runV (As := []) (rest := []) (ci := 10) hC (c_X8_keep l V g D cT f n a0 v1 ev1) k_X8_keep m_1940 rfl rfl ⟨Nat.le_of_ble_eq_true rfl, Nat.le_of_ble_eq_true rfl⟩ hI rfl rfl (h_me_eq ev1).1 rfl hl.1 rfl (Nat.le_of_ble_eq_true rfl) dX8_removeCoast_1 ⟨by decide, by decide⟩) hI (fun H locs hI => ?_)
  refine lv_aload_n hx hb dX8_removeCoast_4 rfl (lv_at hl 0 rfl) ?_
  refine lv_iload_n hx hb dX8_removeCoast_5 rfl (lv_at hl 1 rfl) ?_
  obtain ⟨v2, ev2, hq⟩ := b_s hq
  refine gr_i (g_runV (As := [.int a1]) (rest := []) (ci := 10) hC (c_X8_isCoast l V g D cT v1 n a0 a1 v2 ev2) k_X8_isCoast m_1630 rfl rfl ⟨Nat.le_of_ble_eq_true rfl, Nat.le_of_ble_eq_true rfl⟩ hI rfl rfl (h_me_eq ev2).1 rfl hl.1 rfl (Nat.le_of_ble_eq_true rfl) dX8_removeCoast_6 ⟨by decide, by decide⟩) hI (fun H locs hI => ?_)
  have hj21 : ∀ (x0 : Nat) (x1 : Int32) (t0 : Int32) (f : GH) (H : Heap) (locs : List Loc) (ls : Array Slot), g_at (g_A V) V g D cT f n s H locs → lv_has ls 3 [(0, .ref x0), (1, .int x1)] → p_X8_removeCoast_j21 V g x0 x1 t0 f = some o → W p l e rm_X8_removeCoast s m args below meth c H locs 0 0 (MQ below (g_Wi V D cT o.1 o.2 n) args s 0 0 (g_A V)) (F0 m 21 ls [.int t0]) := by
    intro x0 x1 t0 f H locs ls hI hl hq
    unfold p_X8_removeCoast_j21 at hq
    refine lv_istore_n (lv' := [(2, .int t0), (0, .ref x0), (1, .int x1)]) hx hb dX8_removeCoast_21 rfl hl (by decide) rfl (fun ls hl => ?_)
    refine lv_aload_n hx hb dX8_removeCoast_22 rfl (lv_at hl 1 rfl) ?_
    refine lv_aload_n hx hb dX8_removeCoast_23 rfl (lv_at hl 1 rfl) ?_
    refine lv_iload_n hx hb dX8_removeCoast_24 rfl (lv_at hl 2 rfl) ?_
    obtain ⟨v3, ev3, hq⟩ := b_s hq
    refine gw_i (g_runV (As := [.int x1]) (rest := [.ref x0]) (ci := 10) hC (c_X8_doRemove l V g D cT f n x0 x1 v3 ev3) k_X8_doRemove m_1947 rfl rfl ⟨Nat.le_of_ble_eq_true rfl, Nat.le_of_ble_eq_true rfl⟩ hI rfl rfl (h_me_eq ev3).1 rfl hl.1 rfl (Nat.le_of_ble_eq_true rfl) dX8_removeCoast_25 ⟨by decide, by decide⟩) hI (fun H locs hI => ?_)
    obtain ⟨v4, ev4, hq⟩ := b_s hq
    refine gw_i (g_runV (As := [.int v3.1]) (rest := []) (ci := 10) hC (c_X8_fails l V g D cT v3.2 n x0 v3.1 v4 ev4) k_X8_fails m_1951 rfl rfl ⟨Nat.le_of_ble_eq_true rfl, Nat.le_of_ble_eq_true rfl⟩ hI rfl rfl (h_me_eq ev4).1 rfl hl.1 rfl (Nat.le_of_ble_eq_true rfl) dX8_removeCoast_28 ⟨by decide, by decide⟩) hI (fun H locs hI => ?_)
    refine lv_if_eq (tgt := 38) hx hb dX8_removeCoast_31 (by decide) (fun c5 => ?_) (fun c5 => ?_)
    · replace hq := i_t c5 hq
      refine lv_iload_n hx hb dX8_removeCoast_38 rfl (lv_at hl 0 rfl) ?_
      exact ge_Wi hx hb hlocks hr rfl hI (congrArg (fun z => z.1) (Option.some.inj hq)) (congrArg (fun z => z.2) (Option.some.inj hq)) dX8_removeCoast_39
    · replace hq := i_f c5 hq
      refine lv_iconst (v := (0 : Int32)) hx hb dX8_removeCoast_34 (by decide) ?_
      refine lv_goto (tgt := 39) hx hb dX8_removeCoast_35 (by decide) ?_
      exact ge_Wi hx hb hlocks hr rfl hI (congrArg (fun z => z.1) (Option.some.inj hq)) (congrArg (fun z => z.2) (Option.some.inj hq)) dX8_removeCoast_39
  refine lv_if_eq (tgt := 20) hx hb dX8_removeCoast_9 (by decide) (fun c6 => ?_) (fun c6 => ?_)
  · replace hq := i_t c6 hq
    refine lv_iconst (v := (0 : Int32)) hx hb dX8_removeCoast_20 (by decide) ?_
    exact hj21 a0 a1 (0 : Int32) v1 H locs ls hI (lv_sub hl [0, 1] rfl) hq
  · replace hq := i_f c6 hq
    refine lv_aload_n hx hb dX8_removeCoast_12 rfl (lv_at hl 0 rfl) ?_
    refine lv_iload_n hx hb dX8_removeCoast_13 rfl (lv_at hl 1 rfl) ?_
    obtain ⟨v7, ev7, hq⟩ := b_s hq
    refine gr_i (g_runV (As := [.int a1]) (rest := []) (ci := 10) hC (c_X8_count l V g D cT v1 n a0 a1 v7 ev7) k_X8_count m_1527 rfl rfl ⟨Nat.le_of_ble_eq_true rfl, Nat.le_of_ble_eq_true rfl⟩ hI rfl rfl (h_me_eq ev7).1 rfl hl.1 rfl (Nat.le_of_ble_eq_true rfl) dX8_removeCoast_14 ⟨by decide, by decide⟩) hI (fun H locs hI => ?_)
    refine lv_goto (tgt := 21) hx hb dX8_removeCoast_17 (by decide) ?_
    exact hj21 a0 a1 v7 v1 H locs ls hI (lv_sub hl [0, 1] rfl) hq

abbrev rm_X8_fold : Room := { frames := 8, cells := 0, slots := 0, locals := 260 }
theorem k_X8_fold : g_CV yX8_fold cX8_fold 3 (some .int) 2 := ⟨⟨m_1962, m_14, by decide +kernel⟩, m_1960, m_1961⟩
set_option maxHeartbeats 4000000 in
set_option maxRecDepth 100000 in
theorem c_X8_fold (l : Launch) (V : Nat → Nat) (g : GH) (D : va_G) (cT : Nat → ClassId) (f : GH) (n : Nat) (a0 : Nat) (a1 : Int32) (a2 : Int32) (o : Int32 × GH) (hq : p_X8_fold V g f a0 a1 a2 = some o) : Met l yX8_fold (Cond.code yX8_fold cX8_fold 3 (some .int) :: g_B) rm_X8_fold (va_Pc [.ref a0, .int a1, .int a2] (g_I V g D cT f n)) (g_Wi V D cT o.1 o.2 n) 0 0 (g_A V) := by
  refine g_begin (own := RX8) [.ref a0, .int a1, .int a2] [(0, .ref a0), (1, .int a1), (2, .int a2)] (g_A V) (fun _ h => h) (by decide) rfl (Nat.le_of_ble_eq_true rfl) rfl ?_
  intro p e s m args below meth c hx hb hr hlocks hin hC hI ls hl
  obtain ⟨hx, hb, hml, hown, hB⟩ := id hC
  obtain ⟨H, hH⟩ : ∃ H, H = s.heap := ⟨_, rfl⟩
  obtain ⟨locs, hlocs⟩ : ∃ L : List Loc, L = [] := ⟨_, rfl⟩
  rw [← hH, ← hlocs] at hI ⊢
  clear hH hlocs
  unfold p_X8_fold at hq
  replace hq := (h_me_eq hq).2
  refine lv_aload_n hx hb dX8_fold_0 rfl (lv_at hl 0 rfl) ?_
  refine lv_aload_n hx hb dX8_fold_1 rfl (lv_at hl 0 rfl) ?_
  refine lv_iload_n hx hb dX8_fold_2 rfl (lv_at hl 1 rfl) ?_
  obtain ⟨v1, ev1, hq⟩ := b_s hq
  refine gr_i (g_runV (As := [.int a1]) (rest := [.ref a0]) (ci := 10) hC (c_X8_isCoast l V g D cT f n a0 a1 v1 ev1) k_X8_isCoast m_1630 rfl rfl ⟨Nat.le_of_ble_eq_true rfl, Nat.le_of_ble_eq_true rfl⟩ hI rfl rfl (h_me_eq ev1).1 rfl hl.1 rfl (Nat.le_of_ble_eq_true rfl) dX8_fold_3 ⟨by decide, by decide⟩) hI (fun H locs hI => ?_)
  refine lv_iload_n hx hb dX8_fold_6 rfl (lv_at hl 2 rfl) ?_
  obtain ⟨v2, ev2, hq⟩ := b_s hq
  refine gr_i (g_runS (As := [.int a2]) (rest := [.int v1, .ref a0]) hC (c_X8_isHeight l V g D cT f n a2 v2 ev2) k_X8_isHeight m_1869 rfl rfl ⟨Nat.le_of_ble_eq_true rfl, Nat.le_of_ble_eq_true rfl⟩ hI rfl hl.1 rfl (Nat.le_of_ble_eq_true rfl) dX8_fold_7 ⟨by decide, by decide⟩) hI (fun H locs hI => ?_)
  obtain ⟨v3, ev3, hq⟩ := b_s hq
  refine gw_i (g_runV (As := [.int v1, .int v2]) (rest := []) (ci := 10) hC (c_X8_lacksBoth l V g D cT f n a0 v1 v2 v3 ev3) k_X8_lacksBoth m_1693 rfl rfl ⟨Nat.le_of_ble_eq_true rfl, Nat.le_of_ble_eq_true rfl⟩ hI rfl rfl (h_me_eq ev3).1 rfl hl.1 rfl (Nat.le_of_ble_eq_true rfl) dX8_fold_10 ⟨by decide, by decide⟩) hI (fun H locs hI => ?_)
  refine lv_if_eq (tgt := 18) hx hb dX8_fold_13 (by decide) (fun c4 => ?_) (fun c4 => ?_)
  · replace hq := i_t c4 hq
    refine lv_aload_n hx hb dX8_fold_18 rfl (lv_at hl 0 rfl) ?_
    obtain ⟨v5, ev5, hq⟩ := b_s hq
    refine gw_v (g_runV (As := []) (rest := []) (ci := 10) hC (c_X8_keep l V g D cT v3.2 n a0 v5 ev5) k_X8_keep m_1940 rfl rfl ⟨Nat.le_of_ble_eq_true rfl, Nat.le_of_ble_eq_true rfl⟩ hI rfl rfl (h_me_eq ev5).1 rfl hl.1 rfl (Nat.le_of_ble_eq_true rfl) dX8_fold_19 ⟨by decide, by decide⟩) hI (fun H locs hI => ?_)
    refine lv_aload_n hx hb dX8_fold_22 rfl (lv_at hl 0 rfl) ?_
    refine lv_aload_n hx hb dX8_fold_23 rfl (lv_at hl 0 rfl) ?_
    refine lv_iload_n hx hb dX8_fold_24 rfl (lv_at hl 1 rfl) ?_
    refine lv_iload_n hx hb dX8_fold_25 rfl (lv_at hl 2 rfl) ?_
    obtain ⟨v6, ev6, hq⟩ := b_s hq
    refine gw_i (g_runV (As := [.int a1, .int a2]) (rest := [.ref a0]) (ci := 10) hC (c_X8_doFold l V g D cT v5 n a0 a1 a2 v6 ev6) k_X8_doFold m_1963 rfl rfl ⟨Nat.le_of_ble_eq_true rfl, Nat.le_of_ble_eq_true rfl⟩ hI rfl rfl (h_me_eq ev6).1 rfl hl.1 rfl (Nat.le_of_ble_eq_true rfl) dX8_fold_26 ⟨by decide, by decide⟩) hI (fun H locs hI => ?_)
    obtain ⟨v7, ev7, hq⟩ := b_s hq
    refine gw_i (g_runV (As := [.int v6.1]) (rest := []) (ci := 10) hC (c_X8_fails l V g D cT v6.2 n a0 v6.1 v7 ev7) k_X8_fails m_1951 rfl rfl ⟨Nat.le_of_ble_eq_true rfl, Nat.le_of_ble_eq_true rfl⟩ hI rfl rfl (h_me_eq ev7).1 rfl hl.1 rfl (Nat.le_of_ble_eq_true rfl) dX8_fold_29 ⟨by decide, by decide⟩) hI (fun H locs hI => ?_)
    refine lv_if_eq (tgt := 39) hx hb dX8_fold_32 (by decide) (fun c8 => ?_) (fun c8 => ?_)
    · replace hq := i_t c8 hq
      refine lv_aload_n hx hb dX8_fold_39 rfl (lv_at hl 0 rfl) ?_
      refine lv_iload_n hx hb dX8_fold_40 rfl (lv_at hl 1 rfl) ?_
      obtain ⟨v9, ev9, hq⟩ := b_s hq
      refine gr_i (g_runV (As := [.int a1]) (rest := []) (ci := 10) hC (c_X8_count l V g D cT v7.2 n a0 a1 v9 ev9) k_X8_count m_1527 rfl rfl ⟨Nat.le_of_ble_eq_true rfl, Nat.le_of_ble_eq_true rfl⟩ hI rfl rfl (h_me_eq ev9).1 rfl hl.1 rfl (Nat.le_of_ble_eq_true rfl) dX8_fold_41 ⟨by decide, by decide⟩) hI (fun H locs hI => ?_)
      exact ge_Wi hx hb hlocks hr rfl hI (congrArg (fun z => z.1) (Option.some.inj hq)) (congrArg (fun z => z.2) (Option.some.inj hq)) dX8_fold_44
    · replace hq := i_f c8 hq
      refine lv_iconst (v := (0 : Int32)) hx hb dX8_fold_35 (by decide) ?_
      refine lv_goto (tgt := 44) hx hb dX8_fold_36 (by decide) ?_
      exact ge_Wi hx hb hlocks hr rfl hI (congrArg (fun z => z.1) (Option.some.inj hq)) (congrArg (fun z => z.2) (Option.some.inj hq)) dX8_fold_44
  · replace hq := i_f c4 hq
    refine lv_iconst (v := (0 : Int32)) hx hb dX8_fold_16 (by decide) ?_
    exact ge_Wi hx hb hlocks hr rfl hI (congrArg (fun z => z.1) (Option.some.inj hq)) (congrArg (fun z => z.2) (Option.some.inj hq)) dX8_fold_17

abbrev rm_X8_unfold : Room := { frames := 6, cells := 0, slots := 0, locals := 205 }
theorem k_X8_unfold : g_CV yX8_unfold cX8_unfold 2 (some .int) 1 := ⟨⟨m_1970, m_14, by decide +kernel⟩, m_1968, m_1969⟩
set_option maxHeartbeats 4000000 in
set_option maxRecDepth 100000 in
theorem c_X8_unfold (l : Launch) (V : Nat → Nat) (g : GH) (D : va_G) (cT : Nat → ClassId) (f : GH) (n : Nat) (a0 : Nat) (a1 : Int32) (o : Int32 × GH) (hq : p_X8_unfold V g f a0 a1 = some o) : Met l yX8_unfold (Cond.code yX8_unfold cX8_unfold 2 (some .int) :: g_B) rm_X8_unfold (va_Pc [.ref a0, .int a1] (g_I V g D cT f n)) (g_Wi V D cT o.1 o.2 n) 0 0 (g_A V) := by
  refine g_begin (own := RX8) [.ref a0, .int a1] [(0, .ref a0), (1, .int a1)] (g_A V) (fun _ h => h) (by decide) rfl (Nat.le_of_ble_eq_true rfl) rfl ?_
  intro p e s m args below meth c hx hb hr hlocks hin hC hI ls hl
  obtain ⟨hx, hb, hml, hown, hB⟩ := id hC
  obtain ⟨H, hH⟩ : ∃ H, H = s.heap := ⟨_, rfl⟩
  obtain ⟨locs, hlocs⟩ : ∃ L : List Loc, L = [] := ⟨_, rfl⟩
  rw [← hH, ← hlocs] at hI ⊢
  clear hH hlocs
  unfold p_X8_unfold at hq
  replace hq := (h_me_eq hq).2
  refine lv_aload_n hx hb dX8_unfold_0 rfl (lv_at hl 0 rfl) ?_
  obtain ⟨v1, ev1, hq⟩ := b_s hq
  refine gw_v (g_runV (As := []) (rest := []) (ci := 10) hC (c_X8_keep l V g D cT f n a0 v1 ev1) k_X8_keep m_1940 rfl rfl ⟨Nat.le_of_ble_eq_true rfl, Nat.le_of_ble_eq_true rfl⟩ hI rfl rfl (h_me_eq ev1).1 rfl hl.1 rfl (Nat.le_of_ble_eq_true rfl) dX8_unfold_1 ⟨by decide, by decide⟩) hI (fun H locs hI => ?_)
  refine lv_aload_n hx hb dX8_unfold_4 rfl (lv_at hl 0 rfl) ?_
  refine lv_aload_n hx hb dX8_unfold_5 rfl (lv_at hl 0 rfl) ?_
  refine lv_iload_n hx hb dX8_unfold_6 rfl (lv_at hl 1 rfl) ?_
  obtain ⟨v2, ev2, hq⟩ := b_s hq
  refine gw_i (g_runV (As := [.int a1]) (rest := [.ref a0]) (ci := 10) hC (c_X8_doUnfold l V g D cT v1 n a0 a1 v2 ev2) k_X8_doUnfold m_1971 rfl rfl ⟨Nat.le_of_ble_eq_true rfl, Nat.le_of_ble_eq_true rfl⟩ hI rfl rfl (h_me_eq ev2).1 rfl hl.1 rfl (Nat.le_of_ble_eq_true rfl) dX8_unfold_7 ⟨by decide, by decide⟩) hI (fun H locs hI => ?_)
  obtain ⟨v3, ev3, hq⟩ := b_s hq
  refine gw_i (g_runV (As := [.int v2.1]) (rest := []) (ci := 10) hC (c_X8_fails l V g D cT v2.2 n a0 v2.1 v3 ev3) k_X8_fails m_1951 rfl rfl ⟨Nat.le_of_ble_eq_true rfl, Nat.le_of_ble_eq_true rfl⟩ hI rfl rfl (h_me_eq ev3).1 rfl hl.1 rfl (Nat.le_of_ble_eq_true rfl) dX8_unfold_10 ⟨by decide, by decide⟩) hI (fun H locs hI => ?_)
  refine lv_if_eq (tgt := 20) hx hb dX8_unfold_13 (by decide) (fun c4 => ?_) (fun c4 => ?_)
  · replace hq := i_t c4 hq
    refine lv_aload_n hx hb dX8_unfold_20 rfl (lv_at hl 0 rfl) ?_
    refine lv_iload_n hx hb dX8_unfold_21 rfl (lv_at hl 1 rfl) ?_
    obtain ⟨v5, ev5, hq⟩ := b_s hq
    refine gr_i (g_runV (As := [.int a1]) (rest := []) (ci := 10) hC (c_X8_count l V g D cT v3.2 n a0 a1 v5 ev5) k_X8_count m_1527 rfl rfl ⟨Nat.le_of_ble_eq_true rfl, Nat.le_of_ble_eq_true rfl⟩ hI rfl rfl (h_me_eq ev5).1 rfl hl.1 rfl (Nat.le_of_ble_eq_true rfl) dX8_unfold_22 ⟨by decide, by decide⟩) hI (fun H locs hI => ?_)
    exact ge_Wi hx hb hlocks hr rfl hI (congrArg (fun z => z.1) (Option.some.inj hq)) (congrArg (fun z => z.2) (Option.some.inj hq)) dX8_unfold_25
  · replace hq := i_f c4 hq
    refine lv_iconst (v := (0 : Int32)) hx hb dX8_unfold_16 (by decide) ?_
    refine lv_goto (tgt := 25) hx hb dX8_unfold_17 (by decide) ?_
    exact ge_Wi hx hb hlocks hr rfl hI (congrArg (fun z => z.1) (Option.some.inj hq)) (congrArg (fun z => z.2) (Option.some.inj hq)) dX8_unfold_25

abbrev rm_X8_movePoint : Room := { frames := 6, cells := 0, slots := 0, locals := 209 }
theorem k_X8_movePoint : g_CV yX8_movePoint cX8_movePoint 6 (some .int) 4 := ⟨⟨m_1978, m_14, by decide +kernel⟩, m_1976, m_1977⟩
set_option maxHeartbeats 4000000 in
set_option maxRecDepth 100000 in
theorem c_X8_movePoint (l : Launch) (V : Nat → Nat) (g : GH) (D : va_G) (cT : Nat → ClassId) (f : GH) (n : Nat) (a0 : Nat) (a1 : Int32) (a2 : Int32) (a3 : Int32) (a4 : Int32) (o : Int32 × GH) (hq : p_X8_movePoint V g f a0 a1 a2 a3 a4 = some o) : Met l yX8_movePoint (Cond.code yX8_movePoint cX8_movePoint 6 (some .int) :: g_B) rm_X8_movePoint (va_Pc [.ref a0, .int a1, .int a2, .int a3, .int a4] (g_I V g D cT f n)) (g_Wi V D cT o.1 o.2 n) 0 0 (g_A V) := by
  refine g_begin (own := RX8) [.ref a0, .int a1, .int a2, .int a3, .int a4] [(0, .ref a0), (1, .int a1), (2, .int a2), (3, .int a3), (4, .int a4)] (g_A V) (fun _ h => h) (by decide) rfl (Nat.le_of_ble_eq_true rfl) rfl ?_
  intro p e s m args below meth c hx hb hr hlocks hin hC hI ls hl
  obtain ⟨hx, hb, hml, hown, hB⟩ := id hC
  obtain ⟨H, hH⟩ : ∃ H, H = s.heap := ⟨_, rfl⟩
  obtain ⟨locs, hlocs⟩ : ∃ L : List Loc, L = [] := ⟨_, rfl⟩
  rw [← hH, ← hlocs] at hI ⊢
  clear hH hlocs
  unfold p_X8_movePoint at hq
  replace hq := (h_me_eq hq).2
  refine lv_aload_n hx hb dX8_movePoint_0 rfl (lv_at hl 0 rfl) ?_
  refine lv_aload_n hx hb dX8_movePoint_1 rfl (lv_at hl 0 rfl) ?_
  refine lv_iload_n hx hb dX8_movePoint_2 rfl (lv_at hl 1 rfl) ?_
  refine lv_iload_n hx hb dX8_movePoint_3 rfl (lv_at hl 2 rfl) ?_
  obtain ⟨v1, ev1, hq⟩ := b_s hq
  refine gr_i (g_runV (As := [.int a1, .int a2]) (rest := [.ref a0]) (ci := 10) hC (c_X8_isPoint l V g D cT f n a0 a1 a2 v1 ev1) k_X8_isPoint m_1653 rfl rfl ⟨Nat.le_of_ble_eq_true rfl, Nat.le_of_ble_eq_true rfl⟩ hI rfl rfl (h_me_eq ev1).1 rfl hl.1 rfl (Nat.le_of_ble_eq_true rfl) dX8_movePoint_4 ⟨by decide, by decide⟩) hI (fun H locs hI => ?_)
  refine lv_iload_n hx hb dX8_movePoint_7 rfl (lv_at hl 3 rfl) ?_
  refine lv_iload hx hb dX8_movePoint_8 (lv_at hl 4 rfl) ?_
  obtain ⟨v2, ev2, hq⟩ := b_s hq
  refine gr_i (g_runS (As := [.int a3, .int a4]) (rest := [.int v1, .ref a0]) hC (c_X8_isPosition l V g D cT f n a3 a4 v2 ev2) k_X8_isPosition m_1687 rfl rfl ⟨Nat.le_of_ble_eq_true rfl, Nat.le_of_ble_eq_true rfl⟩ hI rfl hl.1 rfl (Nat.le_of_ble_eq_true rfl) dX8_movePoint_10 ⟨by decide, by decide⟩) hI (fun H locs hI => ?_)
  obtain ⟨v3, ev3, hq⟩ := b_s hq
  refine gw_i (g_runV (As := [.int v1, .int v2]) (rest := []) (ci := 10) hC (c_X8_lacksBoth l V g D cT f n a0 v1 v2 v3 ev3) k_X8_lacksBoth m_1693 rfl rfl ⟨Nat.le_of_ble_eq_true rfl, Nat.le_of_ble_eq_true rfl⟩ hI rfl rfl (h_me_eq ev3).1 rfl hl.1 rfl (Nat.le_of_ble_eq_true rfl) dX8_movePoint_13 ⟨by decide, by decide⟩) hI (fun H locs hI => ?_)
  refine lv_if_eq (tgt := 21) hx hb dX8_movePoint_16 (by decide) (fun c4 => ?_) (fun c4 => ?_)
  · replace hq := i_t c4 hq
    refine lv_aload_n hx hb dX8_movePoint_21 rfl (lv_at hl 0 rfl) ?_
    obtain ⟨v5, ev5, hq⟩ := b_s hq
    refine gw_v (g_runV (As := []) (rest := []) (ci := 10) hC (c_X8_keep l V g D cT v3.2 n a0 v5 ev5) k_X8_keep m_1940 rfl rfl ⟨Nat.le_of_ble_eq_true rfl, Nat.le_of_ble_eq_true rfl⟩ hI rfl rfl (h_me_eq ev5).1 rfl hl.1 rfl (Nat.le_of_ble_eq_true rfl) dX8_movePoint_22 ⟨by decide, by decide⟩) hI (fun H locs hI => ?_)
    refine lv_aload_n hx hb dX8_movePoint_25 rfl (lv_at hl 0 rfl) ?_
    refine lv_iload_n hx hb dX8_movePoint_26 rfl (lv_at hl 1 rfl) ?_
    refine lv_iload_n hx hb dX8_movePoint_27 rfl (lv_at hl 2 rfl) ?_
    obtain ⟨v6, ev6, hq⟩ := b_s hq
    refine gr_i (g_runV (As := [.int a1, .int a2]) (rest := []) (ci := 10) hC (c_X8_x l V g D cT v5 n a0 a1 a2 v6 ev6) k_X8_x m_1657 rfl rfl ⟨Nat.le_of_ble_eq_true rfl, Nat.le_of_ble_eq_true rfl⟩ hI rfl rfl (h_me_eq ev6).1 rfl hl.1 rfl (Nat.le_of_ble_eq_true rfl) dX8_movePoint_28 ⟨by decide, by decide⟩) hI (fun H locs hI => ?_)
    refine lv_iload_n hx hb dX8_movePoint_31 rfl (lv_at hl 3 rfl) ?_
    refine lv_isub hx hb dX8_movePoint_32 ?_
    refine lv_aload_n hx hb dX8_movePoint_33 rfl (lv_at hl 0 rfl) ?_
    refine lv_iload_n hx hb dX8_movePoint_34 rfl (lv_at hl 1 rfl) ?_
    refine lv_iload_n hx hb dX8_movePoint_35 rfl (lv_at hl 2 rfl) ?_
    obtain ⟨v7, ev7, hq⟩ := b_s hq
    refine gr_i (g_runV (As := [.int a1, .int a2]) (rest := [.int (v6 - a3)]) (ci := 10) hC (c_X8_y l V g D cT v5 n a0 a1 a2 v7 ev7) k_X8_y m_1665 rfl rfl ⟨Nat.le_of_ble_eq_true rfl, Nat.le_of_ble_eq_true rfl⟩ hI rfl rfl (h_me_eq ev7).1 rfl hl.1 rfl (Nat.le_of_ble_eq_true rfl) dX8_movePoint_36 ⟨by decide, by decide⟩) hI (fun H locs hI => ?_)
    refine lv_iload hx hb dX8_movePoint_39 (lv_at hl 4 rfl) ?_
    refine lv_isub hx hb dX8_movePoint_41 ?_
    refine lv_aload_n hx hb dX8_movePoint_42 rfl (lv_at hl 0 rfl) ?_
    obtain ⟨v8, ev8, hq⟩ := b_s hq
    refine gr_i (g_runV (As := []) (rest := [.int (v7 - a4), .int (v6 - a3)]) (ci := 10) hC (c_X8_isKing l V g D cT v5 n a0 v8 ev8) k_X8_isKing m_1622 rfl rfl ⟨Nat.le_of_ble_eq_true rfl, Nat.le_of_ble_eq_true rfl⟩ hI rfl rfl (h_me_eq ev8).1 rfl hl.1 rfl (Nat.le_of_ble_eq_true rfl) dX8_movePoint_43 ⟨by decide, by decide⟩) hI (fun H locs hI => ?_)
    obtain ⟨v9, ev9, hq⟩ := b_s hq
    refine gr_i (g_runS (As := [.int (v6 - a3), .int (v7 - a4), .int v8]) (rest := []) hC (c_X8_measure l V g D cT v5 n (v6 - a3) (v7 - a4) v8 v9 ev9) k_X8_measure m_1677 rfl rfl ⟨Nat.le_of_ble_eq_true rfl, Nat.le_of_ble_eq_true rfl⟩ hI rfl hl.1 rfl (Nat.le_of_ble_eq_true rfl) dX8_movePoint_46 ⟨by decide, by decide⟩) hI (fun H locs hI => ?_)
    refine lv_istore (lv' := [(5, .int v9), (0, .ref a0), (1, .int a1), (2, .int a2), (3, .int a3), (4, .int a4)]) hx hb dX8_movePoint_49 hl (by decide) rfl (fun ls hl => ?_)
    refine lv_aload_n hx hb dX8_movePoint_51 rfl (lv_at hl 1 rfl) ?_
    refine lv_aload_n hx hb dX8_movePoint_52 rfl (lv_at hl 1 rfl) ?_
    refine lv_iload_n hx hb dX8_movePoint_53 rfl (lv_at hl 2 rfl) ?_
    refine lv_iload_n hx hb dX8_movePoint_54 rfl (lv_at hl 3 rfl) ?_
    refine lv_iload_n hx hb dX8_movePoint_55 rfl (lv_at hl 4 rfl) ?_
    refine lv_iload hx hb dX8_movePoint_56 (lv_at hl 5 rfl) ?_
    obtain ⟨v10, ev10, hq⟩ := b_s hq
    refine gw_i (g_runV (As := [.int a1, .int a2, .int a3, .int a4]) (rest := [.ref a0]) (ci := 10) hC (c_X8_doMove l V g D cT v5 n a0 a1 a2 a3 a4 v10 ev10) k_X8_doMove m_1979 rfl rfl ⟨Nat.le_of_ble_eq_true rfl, Nat.le_of_ble_eq_true rfl⟩ hI rfl rfl (h_me_eq ev10).1 rfl hl.1 rfl (Nat.le_of_ble_eq_true rfl) dX8_movePoint_58 ⟨by decide, by decide⟩) hI (fun H locs hI => ?_)
    obtain ⟨v11, ev11, hq⟩ := b_s hq
    refine gw_i (g_runV (As := [.int v10.1]) (rest := []) (ci := 10) hC (c_X8_fails l V g D cT v10.2 n a0 v10.1 v11 ev11) k_X8_fails m_1951 rfl rfl ⟨Nat.le_of_ble_eq_true rfl, Nat.le_of_ble_eq_true rfl⟩ hI rfl rfl (h_me_eq ev11).1 rfl hl.1 rfl (Nat.le_of_ble_eq_true rfl) dX8_movePoint_61 ⟨by decide, by decide⟩) hI (fun H locs hI => ?_)
    refine lv_if_eq (tgt := 71) hx hb dX8_movePoint_64 (by decide) (fun c12 => ?_) (fun c12 => ?_)
    · replace hq := i_t c12 hq
      refine lv_iload hx hb dX8_movePoint_71 (lv_at hl 0 rfl) ?_
      exact ge_Wi hx hb hlocks hr rfl hI (congrArg (fun z => z.1) (Option.some.inj hq)) (congrArg (fun z => z.2) (Option.some.inj hq)) dX8_movePoint_73
    · replace hq := i_f c12 hq
      refine lv_iconst (v := (0 : Int32)) hx hb dX8_movePoint_67 (by decide) ?_
      refine lv_goto (tgt := 73) hx hb dX8_movePoint_68 (by decide) ?_
      exact ge_Wi hx hb hlocks hr rfl hI (congrArg (fun z => z.1) (Option.some.inj hq)) (congrArg (fun z => z.2) (Option.some.inj hq)) dX8_movePoint_73
  · replace hq := i_f c4 hq
    refine lv_iconst (v := (0 : Int32)) hx hb dX8_movePoint_19 (by decide) ?_
    exact ge_Wi hx hb hlocks hr rfl hI (congrArg (fun z => z.1) (Option.some.inj hq)) (congrArg (fun z => z.2) (Option.some.inj hq)) dX8_movePoint_20

abbrev rm_X8_insertPoint : Room := { frames := 5, cells := 0, slots := 0, locals := 189 }
theorem k_X8_insertPoint : g_CV yX8_insertPoint cX8_insertPoint 5 (some .int) 4 := ⟨⟨m_1986, m_14, by decide +kernel⟩, m_1984, m_1985⟩
set_option maxHeartbeats 4000000 in
set_option maxRecDepth 100000 in
theorem c_X8_insertPoint (l : Launch) (V : Nat → Nat) (g : GH) (D : va_G) (cT : Nat → ClassId) (f : GH) (n : Nat) (a0 : Nat) (a1 : Int32) (a2 : Int32) (a3 : Int32) (a4 : Int32) (o : Int32 × GH) (hq : p_X8_insertPoint V g f a0 a1 a2 a3 a4 = some o) : Met l yX8_insertPoint (Cond.code yX8_insertPoint cX8_insertPoint 5 (some .int) :: g_B) rm_X8_insertPoint (va_Pc [.ref a0, .int a1, .int a2, .int a3, .int a4] (g_I V g D cT f n)) (g_Wi V D cT o.1 o.2 n) 0 0 (g_A V) := by
  refine g_begin (own := RX8) [.ref a0, .int a1, .int a2, .int a3, .int a4] [(0, .ref a0), (1, .int a1), (2, .int a2), (3, .int a3), (4, .int a4)] (g_A V) (fun _ h => h) (by decide) rfl (Nat.le_of_ble_eq_true rfl) rfl ?_
  intro p e s m args below meth c hx hb hr hlocks hin hC hI ls hl
  obtain ⟨hx, hb, hml, hown, hB⟩ := id hC
  obtain ⟨H, hH⟩ : ∃ H, H = s.heap := ⟨_, rfl⟩
  obtain ⟨locs, hlocs⟩ : ∃ L : List Loc, L = [] := ⟨_, rfl⟩
  rw [← hH, ← hlocs] at hI ⊢
  clear hH hlocs
  unfold p_X8_insertPoint at hq
  replace hq := (h_me_eq hq).2
  refine lv_aload_n hx hb dX8_insertPoint_0 rfl (lv_at hl 0 rfl) ?_
  refine lv_aload_n hx hb dX8_insertPoint_1 rfl (lv_at hl 0 rfl) ?_
  refine lv_iload_n hx hb dX8_insertPoint_2 rfl (lv_at hl 1 rfl) ?_
  obtain ⟨v1, ev1, hq⟩ := b_s hq
  refine gr_i (g_runV (As := [.int a1]) (rest := [.ref a0]) (ci := 10) hC (c_X8_isCoast l V g D cT f n a0 a1 v1 ev1) k_X8_isCoast m_1630 rfl rfl ⟨Nat.le_of_ble_eq_true rfl, Nat.le_of_ble_eq_true rfl⟩ hI rfl rfl (h_me_eq ev1).1 rfl hl.1 rfl (Nat.le_of_ble_eq_true rfl) dX8_insertPoint_3 ⟨by decide, by decide⟩) hI (fun H locs hI => ?_)
  have hj27 : ∀ (x0 : Nat) (x1 : Int32) (x2 : Int32) (x3 : Int32) (x4 : Int32) (t0 : Int32) (t1 : Nat) (f : GH) (H : Heap) (locs : List Loc) (ls : Array Slot), g_at (g_A V) V g D cT f n s H locs → lv_has ls 5 [(0, .ref x0), (1, .int x1), (2, .int x2), (3, .int x3), (4, .int x4)] → p_X8_insertPoint_j27 V g x0 x1 x2 x3 x4 t0 t1 f = some o → W p l e rm_X8_insertPoint s m args below meth c H locs 0 0 (MQ below (g_Wi V D cT o.1 o.2 n) args s 0 0 (g_A V)) (F0 m 27 ls [.int t0, .ref t1]) := by
    intro x0 x1 x2 x3 x4 t0 t1 f H locs ls hI hl hq
    unfold p_X8_insertPoint_j27 at hq
    refine lv_iload_n hx hb dX8_insertPoint_27 rfl (lv_at hl 3 rfl) ?_
    refine lv_iload hx hb dX8_insertPoint_28 (lv_at hl 4 rfl) ?_
    obtain ⟨v2, ev2, hq⟩ := b_s hq
    refine gr_i (g_runS (As := [.int x3, .int x4]) (rest := [.int t0, .ref t1]) hC (c_X8_isPosition l V g D cT f n x3 x4 v2 ev2) k_X8_isPosition m_1687 rfl rfl ⟨Nat.le_of_ble_eq_true rfl, Nat.le_of_ble_eq_true rfl⟩ hI rfl hl.1 rfl (Nat.le_of_ble_eq_true rfl) dX8_insertPoint_30 ⟨by decide, by decide⟩) hI (fun H locs hI => ?_)
    obtain ⟨v3, ev3, hq⟩ := b_s hq
    refine gw_i (g_runV (As := [.int t0, .int v2]) (rest := []) (ci := 10) hC (c_X8_lacksBoth l V g D cT f n t1 t0 v2 v3 ev3) k_X8_lacksBoth m_1693 rfl rfl ⟨Nat.le_of_ble_eq_true rfl, Nat.le_of_ble_eq_true rfl⟩ hI rfl rfl (h_me_eq ev3).1 rfl hl.1 rfl (Nat.le_of_ble_eq_true rfl) dX8_insertPoint_33 ⟨by decide, by decide⟩) hI (fun H locs hI => ?_)
    refine lv_if_eq (tgt := 41) hx hb dX8_insertPoint_36 (by decide) (fun c4 => ?_) (fun c4 => ?_)
    · replace hq := i_t c4 hq
      refine lv_aload_n hx hb dX8_insertPoint_41 rfl (lv_at hl 0 rfl) ?_
      obtain ⟨v5, ev5, hq⟩ := b_s hq
      refine gw_v (g_runV (As := []) (rest := []) (ci := 10) hC (c_X8_keep l V g D cT v3.2 n x0 v5 ev5) k_X8_keep m_1940 rfl rfl ⟨Nat.le_of_ble_eq_true rfl, Nat.le_of_ble_eq_true rfl⟩ hI rfl rfl (h_me_eq ev5).1 rfl hl.1 rfl (Nat.le_of_ble_eq_true rfl) dX8_insertPoint_42 ⟨by decide, by decide⟩) hI (fun H locs hI => ?_)
      refine lv_aload_n hx hb dX8_insertPoint_45 rfl (lv_at hl 0 rfl) ?_
      refine lv_aload_n hx hb dX8_insertPoint_46 rfl (lv_at hl 0 rfl) ?_
      refine lv_iload_n hx hb dX8_insertPoint_47 rfl (lv_at hl 1 rfl) ?_
      refine lv_iload_n hx hb dX8_insertPoint_48 rfl (lv_at hl 2 rfl) ?_
      refine lv_iload_n hx hb dX8_insertPoint_49 rfl (lv_at hl 3 rfl) ?_
      refine lv_iload hx hb dX8_insertPoint_50 (lv_at hl 4 rfl) ?_
      obtain ⟨v6, ev6, hq⟩ := b_s hq
      refine gw_i (g_runV (As := [.int x1, .int x2, .int x3, .int x4]) (rest := [.ref x0]) (ci := 10) hC (c_X8_doInsert l V g D cT v5 n x0 x1 x2 x3 x4 v6 ev6) k_X8_doInsert m_1987 rfl rfl ⟨Nat.le_of_ble_eq_true rfl, Nat.le_of_ble_eq_true rfl⟩ hI rfl rfl (h_me_eq ev6).1 rfl hl.1 rfl (Nat.le_of_ble_eq_true rfl) dX8_insertPoint_52 ⟨by decide, by decide⟩) hI (fun H locs hI => ?_)
      obtain ⟨v7, ev7, hq⟩ := b_s hq
      refine gw_i (g_runV (As := [.int v6.1]) (rest := []) (ci := 10) hC (c_X8_fails l V g D cT v6.2 n x0 v6.1 v7 ev7) k_X8_fails m_1951 rfl rfl ⟨Nat.le_of_ble_eq_true rfl, Nat.le_of_ble_eq_true rfl⟩ hI rfl rfl (h_me_eq ev7).1 rfl hl.1 rfl (Nat.le_of_ble_eq_true rfl) dX8_insertPoint_55 ⟨by decide, by decide⟩) hI (fun H locs hI => ?_)
      refine lv_if_eq (tgt := 65) hx hb dX8_insertPoint_58 (by decide) (fun c8 => ?_) (fun c8 => ?_)
      · replace hq := i_t c8 hq
        refine lv_aload_n hx hb dX8_insertPoint_65 rfl (lv_at hl 0 rfl) ?_
        refine lv_iload_n hx hb dX8_insertPoint_66 rfl (lv_at hl 1 rfl) ?_
        obtain ⟨v9, ev9, hq⟩ := b_s hq
        refine gr_i (g_runV (As := [.int x1]) (rest := []) (ci := 10) hC (c_X8_count l V g D cT v7.2 n x0 x1 v9 ev9) k_X8_count m_1527 rfl rfl ⟨Nat.le_of_ble_eq_true rfl, Nat.le_of_ble_eq_true rfl⟩ hI rfl rfl (h_me_eq ev9).1 rfl hl.1 rfl (Nat.le_of_ble_eq_true rfl) dX8_insertPoint_67 ⟨by decide, by decide⟩) hI (fun H locs hI => ?_)
        exact ge_Wi hx hb hlocks hr rfl hI (congrArg (fun z => z.1) (Option.some.inj hq)) (congrArg (fun z => z.2) (Option.some.inj hq)) dX8_insertPoint_70
      · replace hq := i_f c8 hq
        refine lv_iconst (v := (0 : Int32)) hx hb dX8_insertPoint_61 (by decide) ?_
        refine lv_goto (tgt := 70) hx hb dX8_insertPoint_62 (by decide) ?_
        exact ge_Wi hx hb hlocks hr rfl hI (congrArg (fun z => z.1) (Option.some.inj hq)) (congrArg (fun z => z.2) (Option.some.inj hq)) dX8_insertPoint_70
    · replace hq := i_f c4 hq
      refine lv_iconst (v := (0 : Int32)) hx hb dX8_insertPoint_39 (by decide) ?_
      exact ge_Wi hx hb hlocks hr rfl hI (congrArg (fun z => z.1) (Option.some.inj hq)) (congrArg (fun z => z.2) (Option.some.inj hq)) dX8_insertPoint_40
  have hj26 : ∀ (x0 : Nat) (x1 : Int32) (x2 : Int32) (x3 : Int32) (x4 : Int32) (t0 : Nat) (f : GH) (H : Heap) (locs : List Loc) (ls : Array Slot), g_at (g_A V) V g D cT f n s H locs → lv_has ls 5 [(0, .ref x0), (1, .int x1), (2, .int x2), (3, .int x3), (4, .int x4)] → p_X8_insertPoint_j26 V g (p_X8_insertPoint_j27 V g) x0 x1 x2 x3 x4 t0 f = some o → W p l e rm_X8_insertPoint s m args below meth c H locs 0 0 (MQ below (g_Wi V D cT o.1 o.2 n) args s 0 0 (g_A V)) (F0 m 26 ls [.ref t0]) := by
    intro x0 x1 x2 x3 x4 t0 f H locs ls hI hl hq
    unfold p_X8_insertPoint_j26 at hq
    refine lv_iconst (v := (0 : Int32)) hx hb dX8_insertPoint_26 (by decide) ?_
    exact hj27 x0 x1 x2 x3 x4 (0 : Int32) t0 f H locs ls hI (lv_sub hl [0, 1, 2, 3, 4] rfl) hq
  refine lv_if_eq (tgt := 26) hx hb dX8_insertPoint_6 (by decide) (fun c10 => ?_) (fun c10 => ?_)
  · replace hq := i_t c10 hq
    exact hj26 a0 a1 a2 a3 a4 a0 f H locs ls hI (lv_sub hl [0, 1, 2, 3, 4] rfl) hq
  · replace hq := i_f c10 hq
    refine lv_iload_n hx hb dX8_insertPoint_9 rfl (lv_at hl 2 rfl) ?_
    refine lv_iconst (v := (0 : Int32)) hx hb dX8_insertPoint_10 (by decide) ?_
    refine lv_aload_n hx hb dX8_insertPoint_11 rfl (lv_at hl 0 rfl) ?_
    refine lv_iload_n hx hb dX8_insertPoint_12 rfl (lv_at hl 1 rfl) ?_
    obtain ⟨v11, ev11, hq⟩ := b_s hq
    refine gr_i (g_runV (As := [.int a1]) (rest := [.int (0 : Int32), .int a2, .ref a0]) (ci := 10) hC (c_X8_count l V g D cT f n a0 a1 v11 ev11) k_X8_count m_1527 rfl rfl ⟨Nat.le_of_ble_eq_true rfl, Nat.le_of_ble_eq_true rfl⟩ hI rfl rfl (h_me_eq ev11).1 rfl hl.1 rfl (Nat.le_of_ble_eq_true rfl) dX8_insertPoint_13 ⟨by decide, by decide⟩) hI (fun H locs hI => ?_)
    obtain ⟨v12, ev12, hq⟩ := b_s hq
    refine gr_i (g_runS (As := [.int a2, .int (0 : Int32), .int v11]) (rest := [.ref a0]) hC (c_X8_inRange l V g D cT f n a2 (0 : Int32) v11 v12 ev12) k_X8_inRange m_1634 rfl rfl ⟨Nat.le_of_ble_eq_true rfl, Nat.le_of_ble_eq_true rfl⟩ hI rfl hl.1 rfl (Nat.le_of_ble_eq_true rfl) dX8_insertPoint_16 ⟨by decide, by decide⟩) hI (fun H locs hI => ?_)
    refine lv_if_eq (tgt := 26) hx hb dX8_insertPoint_19 (by decide) (fun c13 => ?_) (fun c13 => ?_)
    · replace hq := i_t c13 hq
      exact hj26 a0 a1 a2 a3 a4 a0 f H locs ls hI (lv_sub hl [0, 1, 2, 3, 4] rfl) hq
    · replace hq := i_f c13 hq
      refine lv_iconst (v := (1 : Int32)) hx hb dX8_insertPoint_22 (by decide) ?_
      refine lv_goto (tgt := 27) hx hb dX8_insertPoint_23 (by decide) ?_
      exact hj27 a0 a1 a2 a3 a4 (1 : Int32) a0 f H locs ls hI (lv_sub hl [0, 1, 2, 3, 4] rfl) hq

abbrev rm_X8_removePoint : Room := { frames := 6, cells := 0, slots := 0, locals := 207 }
theorem k_X8_removePoint : g_CV yX8_removePoint cX8_removePoint 3 (some .int) 2 := ⟨⟨m_1994, m_14, by decide +kernel⟩, m_1992, m_1993⟩
set_option maxHeartbeats 4000000 in
set_option maxRecDepth 100000 in
theorem c_X8_removePoint (l : Launch) (V : Nat → Nat) (g : GH) (D : va_G) (cT : Nat → ClassId) (f : GH) (n : Nat) (a0 : Nat) (a1 : Int32) (a2 : Int32) (o : Int32 × GH) (hq : p_X8_removePoint V g f a0 a1 a2 = some o) : Met l yX8_removePoint (Cond.code yX8_removePoint cX8_removePoint 3 (some .int) :: g_B) rm_X8_removePoint (va_Pc [.ref a0, .int a1, .int a2] (g_I V g D cT f n)) (g_Wi V D cT o.1 o.2 n) 0 0 (g_A V) := by
  refine g_begin (own := RX8) [.ref a0, .int a1, .int a2] [(0, .ref a0), (1, .int a1), (2, .int a2)] (g_A V) (fun _ h => h) (by decide) rfl (Nat.le_of_ble_eq_true rfl) rfl ?_
  intro p e s m args below meth c hx hb hr hlocks hin hC hI ls hl
  obtain ⟨hx, hb, hml, hown, hB⟩ := id hC
  obtain ⟨H, hH⟩ : ∃ H, H = s.heap := ⟨_, rfl⟩
  obtain ⟨locs, hlocs⟩ : ∃ L : List Loc, L = [] := ⟨_, rfl⟩
  rw [← hH, ← hlocs] at hI ⊢
  clear hH hlocs
  unfold p_X8_removePoint at hq
  replace hq := (h_me_eq hq).2
  refine lv_aload_n hx hb dX8_removePoint_0 rfl (lv_at hl 0 rfl) ?_
  obtain ⟨v1, ev1, hq⟩ := b_s hq
  refine gw_v (g_runV (As := []) (rest := []) (ci := 10) hC (c_X8_keep l V g D cT f n a0 v1 ev1) k_X8_keep m_1940 rfl rfl ⟨Nat.le_of_ble_eq_true rfl, Nat.le_of_ble_eq_true rfl⟩ hI rfl rfl (h_me_eq ev1).1 rfl hl.1 rfl (Nat.le_of_ble_eq_true rfl) dX8_removePoint_1 ⟨by decide, by decide⟩) hI (fun H locs hI => ?_)
  refine lv_aload_n hx hb dX8_removePoint_4 rfl (lv_at hl 0 rfl) ?_
  refine lv_aload_n hx hb dX8_removePoint_5 rfl (lv_at hl 0 rfl) ?_
  refine lv_iload_n hx hb dX8_removePoint_6 rfl (lv_at hl 1 rfl) ?_
  refine lv_iload_n hx hb dX8_removePoint_7 rfl (lv_at hl 2 rfl) ?_
  obtain ⟨v2, ev2, hq⟩ := b_s hq
  refine gw_i (g_runV (As := [.int a1, .int a2]) (rest := [.ref a0]) (ci := 10) hC (c_X8_doCut l V g D cT v1 n a0 a1 a2 v2 ev2) k_X8_doCut m_1995 rfl rfl ⟨Nat.le_of_ble_eq_true rfl, Nat.le_of_ble_eq_true rfl⟩ hI rfl rfl (h_me_eq ev2).1 rfl hl.1 rfl (Nat.le_of_ble_eq_true rfl) dX8_removePoint_8 ⟨by decide, by decide⟩) hI (fun H locs hI => ?_)
  obtain ⟨v3, ev3, hq⟩ := b_s hq
  refine gw_i (g_runV (As := [.int v2.1]) (rest := []) (ci := 10) hC (c_X8_fails l V g D cT v2.2 n a0 v2.1 v3 ev3) k_X8_fails m_1951 rfl rfl ⟨Nat.le_of_ble_eq_true rfl, Nat.le_of_ble_eq_true rfl⟩ hI rfl rfl (h_me_eq ev3).1 rfl hl.1 rfl (Nat.le_of_ble_eq_true rfl) dX8_removePoint_11 ⟨by decide, by decide⟩) hI (fun H locs hI => ?_)
  refine lv_if_eq (tgt := 21) hx hb dX8_removePoint_14 (by decide) (fun c4 => ?_) (fun c4 => ?_)
  · replace hq := i_t c4 hq
    refine lv_aload_n hx hb dX8_removePoint_21 rfl (lv_at hl 0 rfl) ?_
    refine lv_iload_n hx hb dX8_removePoint_22 rfl (lv_at hl 1 rfl) ?_
    obtain ⟨v5, ev5, hq⟩ := b_s hq
    refine gr_i (g_runV (As := [.int a1]) (rest := []) (ci := 10) hC (c_X8_count l V g D cT v3.2 n a0 a1 v5 ev5) k_X8_count m_1527 rfl rfl ⟨Nat.le_of_ble_eq_true rfl, Nat.le_of_ble_eq_true rfl⟩ hI rfl rfl (h_me_eq ev5).1 rfl hl.1 rfl (Nat.le_of_ble_eq_true rfl) dX8_removePoint_23 ⟨by decide, by decide⟩) hI (fun H locs hI => ?_)
    exact ge_Wi hx hb hlocks hr rfl hI (congrArg (fun z => z.1) (Option.some.inj hq)) (congrArg (fun z => z.2) (Option.some.inj hq)) dX8_removePoint_26
  · replace hq := i_f c4 hq
    refine lv_iconst (v := (0 : Int32)) hx hb dX8_removePoint_17 (by decide) ?_
    refine lv_goto (tgt := 26) hx hb dX8_removePoint_18 (by decide) ?_
    exact ge_Wi hx hb hlocks hr rfl hI (congrArg (fun z => z.1) (Option.some.inj hq)) (congrArg (fun z => z.2) (Option.some.inj hq)) dX8_removePoint_26

abbrev rm_X8_isShift : Room := { frames := 3, cells := 0, slots := 0, locals := 142 }
theorem k_X8_isShift : g_CS yX8_isShift cX8_isShift 1 (some .boolean) 1 := ⟨⟨m_2005, m_14, by decide +kernel⟩, m_2004⟩
set_option maxHeartbeats 4000000 in
set_option maxRecDepth 100000 in
theorem c_X8_isShift (l : Launch) (V : Nat → Nat) (g : GH) (D : va_G) (cT : Nat → ClassId) (f : GH) (n : Nat) (a0 : Int32) (o : Int32) (hq : p_X8_isShift V g f a0 = some o) : Met l yX8_isShift (Cond.code yX8_isShift cX8_isShift 1 (some .boolean) :: g_B) rm_X8_isShift (va_Pc [.int a0] (g_I V g D cT f n)) (g_Ri o n) 0 0 g_no := by
  refine g_begin (own := RX8) [.int a0] [(0, .int a0)] g_no (fun _ h => h.elim) (by decide) rfl (Nat.le_of_ble_eq_true rfl) rfl ?_
  intro p e s m args below meth c hx hb hr hlocks hin hC hI ls hl
  obtain ⟨hx, hb, hml, hown, hB⟩ := id hC
  obtain ⟨H, hH⟩ : ∃ H, H = s.heap := ⟨_, rfl⟩
  obtain ⟨locs, hlocs⟩ : ∃ L : List Loc, L = [] := ⟨_, rfl⟩
  rw [← hH, ← hlocs] at hI ⊢
  clear hH hlocs
  unfold p_X8_isShift at hq
  refine lv_iload_n hx hb dX8_isShift_0 rfl (lv_at hl 0 rfl) ?_
  refine lv_sipush (v := (-2000 : Int32)) hx hb dX8_isShift_1 (by decide) ?_
  refine lv_sipush (v := (2000 : Int32)) hx hb dX8_isShift_4 (by decide) ?_
  obtain ⟨v1, ev1, hq⟩ := b_s hq
  refine gr_i (g_runS (As := [.int a0, .int (-2000 : Int32), .int (2000 : Int32)]) (rest := []) hC (c_X8_inRange l V g D cT f n a0 (-2000 : Int32) (2000 : Int32) v1 ev1) k_X8_inRange m_1634 rfl rfl ⟨Nat.le_of_ble_eq_true rfl, Nat.le_of_ble_eq_true rfl⟩ hI rfl hl.1 rfl (Nat.le_of_ble_eq_true rfl) dX8_isShift_7 ⟨by decide, by decide⟩) hI (fun H locs hI => ?_)
  obtain ⟨_, ev2, hq⟩ := b_s hq
  exact ge_Ri hx hb hlocks hr (h_bz_eq ev2).2.1 hI hq dX8_isShift_10


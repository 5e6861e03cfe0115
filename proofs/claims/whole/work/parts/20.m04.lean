abbrev rm_X8_layFolded : Room := { frames := 6, cells := 0, slots := 0, locals := 213 }
theorem k_X8_layFolded : g_CV yX8_layFolded cX8_layFolded 6 (some .int) 2 := ⟨⟨m_1875, m_14, by decide +kernel⟩, m_1874, ms_51⟩
set_option maxHeartbeats 4000000 in
set_option maxRecDepth 100000 in
theorem c_X8_layFolded (l : Launch) (V : Nat → Nat) (g : GH) (D : va_G) (cT : Nat → ClassId) (f : GH) (n : Nat) (a0 : Nat) (a1 : Int32) (a2 : Int32) (o : Int32 × GH) (hq : p_X8_layFolded V g f a0 a1 a2 = some o) : Met l yX8_layFolded (Cond.code yX8_layFolded cX8_layFolded 6 (some .int) :: g_B) rm_X8_layFolded (va_Pc [.ref a0, .int a1, .int a2] (g_I V g D cT f n)) (g_Wi V D cT o.1 o.2 n) 0 0 (g_A V) := by
  refine g_begin (own := RX8) [.ref a0, .int a1, .int a2] [(0, .ref a0), (1, .int a1), (2, .int a2)] (g_A V) (fun _ h => h) (by decide) rfl (Nat.le_of_ble_eq_true rfl) rfl ?_
  intro p e s m args below meth c hx hb hr hlocks hin hC hI ls hl
  obtain ⟨hx, hb, hml, hown, hB⟩ := id hC
  obtain ⟨H, hH⟩ : ∃ H, H = s.heap := ⟨_, rfl⟩
  obtain ⟨locs, hlocs⟩ : ∃ L : List Loc, L = [] := ⟨_, rfl⟩
  rw [← hH, ← hlocs] at hI ⊢
  clear hH hlocs
  unfold p_X8_layFolded at hq
  replace hq := (h_me_eq hq).2
  refine lv_aload_n hx hb dX8_layFolded_0 rfl (lv_at hl 0 rfl) ?_
  refine lv_iload_n hx hb dX8_layFolded_1 rfl (lv_at hl 1 rfl) ?_
  obtain ⟨v1, ev1, hq⟩ := b_s hq
  refine gr_i (g_runV (As := [.int a1]) (rest := []) (ci := 10) hC (c_X8_foldedCount l V g D cT f n a0 a1 v1 ev1) k_X8_foldedCount m_1876 rfl rfl ⟨Nat.le_of_ble_eq_true rfl, Nat.le_of_ble_eq_true rfl⟩ hI rfl rfl (h_me_eq ev1).1 rfl hl.1 rfl (Nat.le_of_ble_eq_true rfl) dX8_layFolded_2 ⟨by decide, by decide⟩) hI (fun H locs hI => ?_)
  refine lv_istore_n (lv' := [(3, .int v1), (0, .ref a0), (1, .int a1), (2, .int a2)]) hx hb dX8_layFolded_5 rfl hl (by decide) rfl (fun ls hl => ?_)
  refine lv_iload_n hx hb dX8_layFolded_6 rfl (lv_at hl 0 rfl) ?_
  refine lv_sipush (v := (129 : Int32)) hx hb dX8_layFolded_7 (by decide) ?_
  refine lv_icmp_le (tgt := 15) hx hb dX8_layFolded_10 (by decide) (fun c2 => ?_) (fun c2 => ?_)
  · replace hq := i_t c2 hq
    refine lv_aload_n hx hb dX8_layFolded_15 rfl (lv_at hl 1 rfl) ?_
    obtain ⟨v3, ev3, hq⟩ := b_s hq
    refine fa_gr (own := RX8) (ref := "CoastlineRulerModel") (k := 5) hx hb hB inB_RX8 hown hI rfl (by decide) m_1536 (fun _ h9 => h9) ev3 dX8_layFolded_16 ?_
    refine lv_bipush (v := (6 : Int32)) hx hb dX8_layFolded_19 (by decide) ?_
    obtain ⟨v4, ev4, hq⟩ := b_s hq
    refine gr_i (g_runS (As := [.int (6 : Int32)]) (rest := [.ref v3]) hC (c_X8_at l V g D cT f n (6 : Int32) v4 ev4) k_X8_at m_1515 rfl rfl ⟨Nat.le_of_ble_eq_true rfl, Nat.le_of_ble_eq_true rfl⟩ hI rfl hl.1 rfl (Nat.le_of_ble_eq_true rfl) dX8_layFolded_21 ⟨by decide, by decide⟩) hI (fun H locs hI => ?_)
    refine lv_iconst (v := (0 : Int32)) hx hb dX8_layFolded_24 (by decide) ?_
    refine lv_iadd hx hb dX8_layFolded_25 ?_
    refine lv_aload_n hx hb dX8_layFolded_26 rfl (lv_at hl 1 rfl) ?_
    obtain ⟨v5, ev5, hq⟩ := b_s hq
    refine fa_gr (own := RX8) (ref := "CoastlineRulerModel") (k := 5) hx hb hB inB_RX8 hown hI rfl (by decide) m_1536 (fun _ h9 => h9) ev5 dX8_layFolded_27 ?_
    refine lv_iload_n hx hb dX8_layFolded_30 rfl (lv_at hl 2 rfl) ?_
    obtain ⟨v6, ev6, hq⟩ := b_s hq
    refine gr_i (g_runS (As := [.int a1]) (rest := [.ref v5, .int (v4 + (0 : Int32)), .ref v3]) hC (c_X8_at l V g D cT f n a1 v6 ev6) k_X8_at m_1515 rfl rfl ⟨Nat.le_of_ble_eq_true rfl, Nat.le_of_ble_eq_true rfl⟩ hI rfl hl.1 rfl (Nat.le_of_ble_eq_true rfl) dX8_layFolded_31 ⟨by decide, by decide⟩) hI (fun H locs hI => ?_)
    refine lv_iconst (v := (0 : Int32)) hx hb dX8_layFolded_34 (by decide) ?_
    refine lv_iadd hx hb dX8_layFolded_35 ?_
    obtain ⟨v7, ev7, hq⟩ := b_s hq
    refine fa_li hx hb hI ev7 dX8_layFolded_36 ?_
    obtain ⟨f8, ef8, hq⟩ := b_s hq
    refine fa_si hx hb hI ef8 dX8_layFolded_37 (fun H locs hI => ?_)
    refine lv_aload_n hx hb dX8_layFolded_38 rfl (lv_at hl 1 rfl) ?_
    obtain ⟨v9, ev9, hq⟩ := b_s hq
    refine fa_gr (own := RX8) (ref := "CoastlineRulerModel") (k := 5) hx hb hB inB_RX8 hown hI rfl (by decide) m_1536 (fun _ h9 => h9) ev9 dX8_layFolded_39 ?_
    refine lv_bipush (v := (6 : Int32)) hx hb dX8_layFolded_42 (by decide) ?_
    obtain ⟨v10, ev10, hq⟩ := b_s hq
    refine gr_i (g_runS (As := [.int (6 : Int32)]) (rest := [.ref v9]) hC (c_X8_at l V g D cT f8 n (6 : Int32) v10 ev10) k_X8_at m_1515 rfl rfl ⟨Nat.le_of_ble_eq_true rfl, Nat.le_of_ble_eq_true rfl⟩ hI rfl hl.1 rfl (Nat.le_of_ble_eq_true rfl) dX8_layFolded_44 ⟨by decide, by decide⟩) hI (fun H locs hI => ?_)
    refine lv_iconst (v := (1 : Int32)) hx hb dX8_layFolded_47 (by decide) ?_
    refine lv_iadd hx hb dX8_layFolded_48 ?_
    refine lv_iload_n hx hb dX8_layFolded_49 rfl (lv_at hl 0 rfl) ?_
    obtain ⟨f11, ef11, hq⟩ := b_s hq
    refine fa_si hx hb hI ef11 dX8_layFolded_50 (fun H locs hI => ?_)
    refine lv_iconst (v := (1 : Int32)) hx hb dX8_layFolded_51 (by decide) ?_
    refine lv_istore (lv' := [(4, .int (1 : Int32)), (3, .int v1), (0, .ref a0), (1, .int a1), (2, .int a2)]) hx hb dX8_layFolded_52 hl (by decide) rfl (fun ls hl => ?_)
    refine lv_iconst (v := (0 : Int32)) hx hb dX8_layFolded_54 (by decide) ?_
    refine lv_istore (lv' := [(5, .int (0 : Int32)), (4, .int (1 : Int32)), (3, .int v1), (0, .ref a0), (1, .int a1), (2, .int a2)]) hx hb dX8_layFolded_55 hl (by decide) rfl (fun ls hl => ?_)
    have hl57 : ∀ (K120 : Int32 → GH → Option (Int32 × GH)) (hK120 : ∀ (x4 : Int32) (f : GH) (H : Heap) (locs : List Loc) (ls : Array Slot), g_at (g_A V) V g D cT f n s H locs → lv_has ls 6 [(4, .int x4)] → K120 x4 f = some o → W p l e rm_X8_layFolded s m args below meth c H locs 0 0 (MQ below (g_Wi V D cT o.1 o.2 n) args s 0 0 (g_A V)) (F0 m 120 ls [])) (N : Nat) (x0 : Nat) (x1 : Int32) (x2 : Int32) (x3 : Int32) (x4 : Int32) (x5 : Int32) (f : GH) (H : Heap) (locs : List Loc) (ls : Array Slot), g_at (g_A V) V g D cT f n s H locs → lv_has ls 6 [(0, .ref x0), (1, .int x1), (2, .int x2), (3, .int x3), (4, .int x4), (5, .int x5)] → p_X8_layFolded_l57 V g K120 N x0 x1 x2 x3 x4 x5 f = some o → W p l e rm_X8_layFolded s m args below meth c H locs 0 0 (MQ below (g_Wi V D cT o.1 o.2 n) args s 0 0 (g_A V)) (F0 m 57 ls []) := by
      intro K120 hK120 N
      induction N with
      | zero =>
        intro x0 x1 x2 x3 x4 x5 f H locs ls hI hl hq
        rw [p_X8_layFolded_l57] at hq
        cases hq
      | succ N ih =>
        intro x0 x1 x2 x3 x4 x5 f H locs ls hI hl hq
        rw [p_X8_layFolded_l57] at hq
        refine lv_iload hx hb dX8_layFolded_57 (lv_at hl 5 rfl) ?_
        refine lv_aload_n hx hb dX8_layFolded_59 rfl (lv_at hl 0 rfl) ?_
        refine lv_iload_n hx hb dX8_layFolded_60 rfl (lv_at hl 1 rfl) ?_
        obtain ⟨v12, ev12, hq⟩ := b_s hq
        refine gr_i (g_runV (As := [.int x1]) (rest := [.int x5]) (ci := 10) hC (c_X8_count l V g D cT f n x0 x1 v12 ev12) k_X8_count m_1527 rfl rfl ⟨Nat.le_of_ble_eq_true rfl, Nat.le_of_ble_eq_true rfl⟩ hI rfl rfl (h_me_eq ev12).1 rfl hl.1 rfl (Nat.le_of_ble_eq_true rfl) dX8_layFolded_61 ⟨by decide, by decide⟩) hI (fun H locs hI => ?_)
        refine lv_icmp_ge (tgt := 120) hx hb dX8_layFolded_64 (by decide) (fun c13 => ?_) (fun c13 => ?_)
        · replace hq := i_t c13 hq
          exact hK120 x4 f H locs ls hI (lv_sub hl [4] rfl) hq
        · replace hq := i_f c13 hq
          refine lv_aload_n hx hb dX8_layFolded_67 rfl (lv_at hl 0 rfl) ?_
          refine lv_bipush (v := (6 : Int32)) hx hb dX8_layFolded_68 (by decide) ?_
          refine lv_iconst (v := (2 : Int32)) hx hb dX8_layFolded_70 (by decide) ?_
          refine lv_iload hx hb dX8_layFolded_71 (lv_at hl 5 rfl) ?_
          refine lv_imul hx hb dX8_layFolded_73 ?_
          refine lv_aload_n hx hb dX8_layFolded_74 rfl (lv_at hl 0 rfl) ?_
          refine lv_iload_n hx hb dX8_layFolded_75 rfl (lv_at hl 1 rfl) ?_
          refine lv_iload hx hb dX8_layFolded_76 (lv_at hl 5 rfl) ?_
          obtain ⟨v14, ev14, hq⟩ := b_s hq
          refine gr_i (g_runV (As := [.int x1, .int x5]) (rest := [.int ((2 : Int32) * x5), .int (6 : Int32), .ref x0]) (ci := 10) hC (c_X8_x l V g D cT f n x0 x1 x5 v14 ev14) k_X8_x m_1657 rfl rfl ⟨Nat.le_of_ble_eq_true rfl, Nat.le_of_ble_eq_true rfl⟩ hI rfl rfl (h_me_eq ev14).1 rfl hl.1 rfl (Nat.le_of_ble_eq_true rfl) dX8_layFolded_78 ⟨by decide, by decide⟩) hI (fun H locs hI => ?_)
          refine lv_aload_n hx hb dX8_layFolded_81 rfl (lv_at hl 0 rfl) ?_
          refine lv_iload_n hx hb dX8_layFolded_82 rfl (lv_at hl 1 rfl) ?_
          refine lv_iload hx hb dX8_layFolded_83 (lv_at hl 5 rfl) ?_
          obtain ⟨v15, ev15, hq⟩ := b_s hq
          refine gr_i (g_runV (As := [.int x1, .int x5]) (rest := [.int v14, .int ((2 : Int32) * x5), .int (6 : Int32), .ref x0]) (ci := 10) hC (c_X8_y l V g D cT f n x0 x1 x5 v15 ev15) k_X8_y m_1665 rfl rfl ⟨Nat.le_of_ble_eq_true rfl, Nat.le_of_ble_eq_true rfl⟩ hI rfl rfl (h_me_eq ev15).1 rfl hl.1 rfl (Nat.le_of_ble_eq_true rfl) dX8_layFolded_85 ⟨by decide, by decide⟩) hI (fun H locs hI => ?_)
          obtain ⟨v16, ev16, hq⟩ := b_s hq
          refine gw_v (g_runV (As := [.int (6 : Int32), .int ((2 : Int32) * x5), .int v14, .int v15]) (rest := []) (ci := 10) hC (c_X8_layPoint l V g D cT f n x0 (6 : Int32) ((2 : Int32) * x5) v14 v15 v16 ev16) k_X8_layPoint m_1880 rfl rfl ⟨Nat.le_of_ble_eq_true rfl, Nat.le_of_ble_eq_true rfl⟩ hI rfl rfl (h_me_eq ev16).1 rfl hl.1 rfl (Nat.le_of_ble_eq_true rfl) dX8_layFolded_88 ⟨by decide, by decide⟩) hI (fun H locs hI => ?_)
          refine lv_iconst (v := (2 : Int32)) hx hb dX8_layFolded_91 (by decide) ?_
          refine lv_iload hx hb dX8_layFolded_92 (lv_at hl 5 rfl) ?_
          refine lv_imul hx hb dX8_layFolded_94 ?_
          refine lv_iconst (v := (1 : Int32)) hx hb dX8_layFolded_95 (by decide) ?_
          refine lv_iadd hx hb dX8_layFolded_96 ?_
          refine lv_iload_n hx hb dX8_layFolded_97 rfl (lv_at hl 3 rfl) ?_
          refine lv_icmp_ge (tgt := 114) hx hb dX8_layFolded_98 (by decide) (fun c17 => ?_) (fun c17 => ?_)
          · replace hq := i_t c17 hq
            refine lv_iinc (v := x5 + (1 : Int32)) (lv' := [(5, .int (x5 + (1 : Int32))), (0, .ref x0), (1, .int x1), (2, .int x2), (3, .int x3), (4, .int x4)]) hx hb dX8_layFolded_114 hl (k := 5) rfl rfl (by decide) rfl (fun ls hl => ?_)
            refine lv_goto (tgt := 57) hx hb dX8_layFolded_117 (by decide) ?_
            exact ih x0 x1 x2 x3 x4 (x5 + (1 : Int32)) v16 H locs ls hI (lv_sub hl [1, 2, 3, 4, 5, 0] rfl) hq
          · replace hq := i_f c17 hq
            refine lv_iload hx hb dX8_layFolded_101 (lv_at hl 4 rfl) ?_
            refine lv_aload_n hx hb dX8_layFolded_103 rfl (lv_at hl 0 rfl) ?_
            refine lv_iload_n hx hb dX8_layFolded_104 rfl (lv_at hl 1 rfl) ?_
            refine lv_iload hx hb dX8_layFolded_105 (lv_at hl 5 rfl) ?_
            refine lv_iload_n hx hb dX8_layFolded_107 rfl (lv_at hl 2 rfl) ?_
            obtain ⟨v18, ev18, hq⟩ := b_s hq
            refine gw_i (g_runV (As := [.int x1, .int x5, .int x2]) (rest := [.int x4]) (ci := 10) hC (c_X8_layMiddle l V g D cT v16 n x0 x1 x5 x2 v18 ev18) k_X8_layMiddle m_1884 rfl rfl ⟨Nat.le_of_ble_eq_true rfl, Nat.le_of_ble_eq_true rfl⟩ hI rfl rfl (h_me_eq ev18).1 rfl hl.1 rfl (Nat.le_of_ble_eq_true rfl) dX8_layFolded_108 ⟨by decide, by decide⟩) hI (fun H locs hI => ?_)
            refine lv_iand hx hb dX8_layFolded_111 ?_
            refine lv_istore (lv' := [(4, .int (x4 &&& v18.1)), (0, .ref x0), (1, .int x1), (2, .int x2), (3, .int x3), (5, .int x5)]) hx hb dX8_layFolded_112 hl (by decide) rfl (fun ls hl => ?_)
            refine lv_iinc (v := x5 + (1 : Int32)) (lv' := [(5, .int (x5 + (1 : Int32))), (4, .int (x4 &&& v18.1)), (0, .ref x0), (1, .int x1), (2, .int x2), (3, .int x3)]) hx hb dX8_layFolded_114 hl (k := 5) rfl rfl (by decide) rfl (fun ls hl => ?_)
            refine lv_goto (tgt := 57) hx hb dX8_layFolded_117 (by decide) ?_
            exact ih x0 x1 x2 x3 (x4 &&& v18.1) (x5 + (1 : Int32)) v18.2 H locs ls hI (lv_sub hl [2, 3, 4, 5, 1, 0] rfl) hq
    refine hl57 _ ?_ FU a0 a1 a2 v1 (1 : Int32) (0 : Int32) f11 H locs ls hI (lv_sub hl [3, 4, 5, 2, 1, 0] rfl) hq
    · intro x4 f H locs ls hI hl hq
      refine lv_iload hx hb dX8_layFolded_120 (lv_at hl 0 rfl) ?_
      refine lv_if_eq (tgt := 129) hx hb dX8_layFolded_122 (by decide) (fun c19 => ?_) (fun c19 => ?_)
      · replace hq := i_t c19 hq
        refine lv_iconst (v := (2 : Int32)) hx hb dX8_layFolded_129 (by decide) ?_
        exact ge_Wi hx hb hlocks hr rfl hI (congrArg (fun z => z.1) (Option.some.inj hq)) (congrArg (fun z => z.2) (Option.some.inj hq)) dX8_layFolded_130
      · replace hq := i_f c19 hq
        refine lv_iconst (v := (0 : Int32)) hx hb dX8_layFolded_125 (by decide) ?_
        refine lv_goto (tgt := 130) hx hb dX8_layFolded_126 (by decide) ?_
        exact ge_Wi hx hb hlocks hr rfl hI (congrArg (fun z => z.1) (Option.some.inj hq)) (congrArg (fun z => z.2) (Option.some.inj hq)) dX8_layFolded_130
  · replace hq := i_f c2 hq
    refine lv_iconst (v := (1 : Int32)) hx hb dX8_layFolded_13 (by decide) ?_
    exact ge_Wi hx hb hlocks hr rfl hI (congrArg (fun z => z.1) (Option.some.inj hq)) (congrArg (fun z => z.2) (Option.some.inj hq)) dX8_layFolded_14

abbrev rm_X8_foldObstacle : Room := { frames := 7, cells := 0, slots := 0, locals := 238 }
theorem k_X8_foldObstacle : g_CV yX8_foldObstacle cX8_foldObstacle 3 (some .int) 2 := ⟨⟨m_1868, m_14, by decide +kernel⟩, m_1866, m_1867⟩
set_option maxHeartbeats 4000000 in
set_option maxRecDepth 100000 in
theorem c_X8_foldObstacle (l : Launch) (V : Nat → Nat) (g : GH) (D : va_G) (cT : Nat → ClassId) (f : GH) (n : Nat) (a0 : Nat) (a1 : Int32) (a2 : Int32) (o : Int32 × GH) (hq : p_X8_foldObstacle V g f a0 a1 a2 = some o) : Met l yX8_foldObstacle (Cond.code yX8_foldObstacle cX8_foldObstacle 3 (some .int) :: g_B) rm_X8_foldObstacle (va_Pc [.ref a0, .int a1, .int a2] (g_I V g D cT f n)) (g_Wi V D cT o.1 o.2 n) 0 0 (g_A V) := by
  refine g_begin (own := RX8) [.ref a0, .int a1, .int a2] [(0, .ref a0), (1, .int a1), (2, .int a2)] (g_A V) (fun _ h => h) (by decide) rfl (Nat.le_of_ble_eq_true rfl) rfl ?_
  intro p e s m args below meth c hx hb hr hlocks hin hC hI ls hl
  obtain ⟨hx, hb, hml, hown, hB⟩ := id hC
  obtain ⟨H, hH⟩ : ∃ H, H = s.heap := ⟨_, rfl⟩
  obtain ⟨locs, hlocs⟩ : ∃ L : List Loc, L = [] := ⟨_, rfl⟩
  rw [← hH, ← hlocs] at hI ⊢
  clear hH hlocs
  unfold p_X8_foldObstacle at hq
  replace hq := (h_me_eq hq).2
  refine lv_aload_n hx hb dX8_foldObstacle_0 rfl (lv_at hl 0 rfl) ?_
  refine lv_aload_n hx hb dX8_foldObstacle_1 rfl (lv_at hl 0 rfl) ?_
  refine lv_iload_n hx hb dX8_foldObstacle_2 rfl (lv_at hl 1 rfl) ?_
  obtain ⟨v1, ev1, hq⟩ := b_s hq
  refine gr_i (g_runV (As := [.int a1]) (rest := [.ref a0]) (ci := 10) hC (c_X8_isCoast l V g D cT f n a0 a1 v1 ev1) k_X8_isCoast m_1630 rfl rfl ⟨Nat.le_of_ble_eq_true rfl, Nat.le_of_ble_eq_true rfl⟩ hI rfl rfl (h_me_eq ev1).1 rfl hl.1 rfl (Nat.le_of_ble_eq_true rfl) dX8_foldObstacle_3 ⟨by decide, by decide⟩) hI (fun H locs hI => ?_)
  refine lv_iload_n hx hb dX8_foldObstacle_6 rfl (lv_at hl 2 rfl) ?_
  obtain ⟨v2, ev2, hq⟩ := b_s hq
  refine gr_i (g_runS (As := [.int a2]) (rest := [.int v1, .ref a0]) hC (c_X8_isHeight l V g D cT f n a2 v2 ev2) k_X8_isHeight m_1869 rfl rfl ⟨Nat.le_of_ble_eq_true rfl, Nat.le_of_ble_eq_true rfl⟩ hI rfl hl.1 rfl (Nat.le_of_ble_eq_true rfl) dX8_foldObstacle_7 ⟨by decide, by decide⟩) hI (fun H locs hI => ?_)
  obtain ⟨v3, ev3, hq⟩ := b_s hq
  refine gw_i (g_runV (As := [.int v1, .int v2]) (rest := []) (ci := 10) hC (c_X8_lacksBoth l V g D cT f n a0 v1 v2 v3 ev3) k_X8_lacksBoth m_1693 rfl rfl ⟨Nat.le_of_ble_eq_true rfl, Nat.le_of_ble_eq_true rfl⟩ hI rfl rfl (h_me_eq ev3).1 rfl hl.1 rfl (Nat.le_of_ble_eq_true rfl) dX8_foldObstacle_10 ⟨by decide, by decide⟩) hI (fun H locs hI => ?_)
  refine lv_if_eq (tgt := 20) hx hb dX8_foldObstacle_13 (by decide) (fun c4 => ?_) (fun c4 => ?_)
  · replace hq := i_t c4 hq
    refine lv_aload_n hx hb dX8_foldObstacle_20 rfl (lv_at hl 0 rfl) ?_
    refine lv_iload_n hx hb dX8_foldObstacle_21 rfl (lv_at hl 1 rfl) ?_
    refine lv_iload_n hx hb dX8_foldObstacle_22 rfl (lv_at hl 2 rfl) ?_
    obtain ⟨v5, ev5, hq⟩ := b_s hq
    refine gw_i (g_runV (As := [.int a1, .int a2]) (rest := []) (ci := 10) hC (c_X8_layFolded l V g D cT v3.2 n a0 a1 a2 v5 ev5) k_X8_layFolded m_1872 rfl rfl ⟨Nat.le_of_ble_eq_true rfl, Nat.le_of_ble_eq_true rfl⟩ hI rfl rfl (h_me_eq ev5).1 rfl hl.1 rfl (Nat.le_of_ble_eq_true rfl) dX8_foldObstacle_23 ⟨by decide, by decide⟩) hI (fun H locs hI => ?_)
    exact ge_Wi hx hb hlocks hr rfl hI (congrArg (fun z => z.1) (Option.some.inj hq)) (congrArg (fun z => z.2) (Option.some.inj hq)) dX8_foldObstacle_26
  · replace hq := i_f c4 hq
    refine lv_iconst (v := (0 : Int32)) hx hb dX8_foldObstacle_16 (by decide) ?_
    refine lv_goto (tgt := 26) hx hb dX8_foldObstacle_17 (by decide) ?_
    exact ge_Wi hx hb hlocks hr rfl hI (congrArg (fun z => z.1) (Option.some.inj hq)) (congrArg (fun z => z.2) (Option.some.inj hq)) dX8_foldObstacle_26

abbrev rm_X8_lengthAfterFold : Room := { frames := 8, cells := 0, slots := 0, locals := 259 }
theorem k_X8_lengthAfterFold : g_CV yX8_lengthAfterFold cX8_lengthAfterFold 4 (some .int) 3 := ⟨⟨m_1891, m_14, by decide +kernel⟩, m_1889, m_1890⟩
set_option maxHeartbeats 4000000 in
set_option maxRecDepth 100000 in
theorem c_X8_lengthAfterFold (l : Launch) (V : Nat → Nat) (g : GH) (D : va_G) (cT : Nat → ClassId) (f : GH) (n : Nat) (a0 : Nat) (a1 : Int32) (a2 : Int32) (a3 : Int32) (o : Int32 × GH) (hq : p_X8_lengthAfterFold V g f a0 a1 a2 a3 = some o) : Met l yX8_lengthAfterFold (Cond.code yX8_lengthAfterFold cX8_lengthAfterFold 4 (some .int) :: g_B) rm_X8_lengthAfterFold (va_Pc [.ref a0, .int a1, .int a2, .int a3] (g_I V g D cT f n)) (g_Wi V D cT o.1 o.2 n) 0 0 (g_A V) := by
  refine g_begin (own := RX8) [.ref a0, .int a1, .int a2, .int a3] [(0, .ref a0), (1, .int a1), (2, .int a2), (3, .int a3)] (g_A V) (fun _ h => h) (by decide) rfl (Nat.le_of_ble_eq_true rfl) rfl ?_
  intro p e s m args below meth c hx hb hr hlocks hin hC hI ls hl
  obtain ⟨hx, hb, hml, hown, hB⟩ := id hC
  obtain ⟨H, hH⟩ : ∃ H, H = s.heap := ⟨_, rfl⟩
  obtain ⟨locs, hlocs⟩ : ∃ L : List Loc, L = [] := ⟨_, rfl⟩
  rw [← hH, ← hlocs] at hI ⊢
  clear hH hlocs
  unfold p_X8_lengthAfterFold at hq
  replace hq := (h_me_eq hq).2
  refine lv_aload_n hx hb dX8_lengthAfterFold_0 rfl (lv_at hl 0 rfl) ?_
  refine lv_aload_n hx hb dX8_lengthAfterFold_1 rfl (lv_at hl 0 rfl) ?_
  refine lv_iload_n hx hb dX8_lengthAfterFold_2 rfl (lv_at hl 1 rfl) ?_
  obtain ⟨v1, ev1, hq⟩ := b_s hq
  refine gr_i (g_runV (As := [.int a1]) (rest := [.ref a0]) (ci := 10) hC (c_X8_isCoast l V g D cT f n a0 a1 v1 ev1) k_X8_isCoast m_1630 rfl rfl ⟨Nat.le_of_ble_eq_true rfl, Nat.le_of_ble_eq_true rfl⟩ hI rfl rfl (h_me_eq ev1).1 rfl hl.1 rfl (Nat.le_of_ble_eq_true rfl) dX8_lengthAfterFold_3 ⟨by decide, by decide⟩) hI (fun H locs hI => ?_)
  refine lv_iload_n hx hb dX8_lengthAfterFold_6 rfl (lv_at hl 2 rfl) ?_
  obtain ⟨v2, ev2, hq⟩ := b_s hq
  refine gr_i (g_runS (As := [.int a2]) (rest := [.int v1, .ref a0]) hC (c_X8_isHeight l V g D cT f n a2 v2 ev2) k_X8_isHeight m_1869 rfl rfl ⟨Nat.le_of_ble_eq_true rfl, Nat.le_of_ble_eq_true rfl⟩ hI rfl hl.1 rfl (Nat.le_of_ble_eq_true rfl) dX8_lengthAfterFold_7 ⟨by decide, by decide⟩) hI (fun H locs hI => ?_)
  have hj25 : ∀ (x0 : Nat) (x1 : Int32) (x2 : Int32) (x3 : Int32) (t0 : Int32) (t1 : Int32) (t2 : Nat) (f : GH) (H : Heap) (locs : List Loc) (ls : Array Slot), g_at (g_A V) V g D cT f n s H locs → lv_has ls 4 [(0, .ref x0), (1, .int x1), (2, .int x2), (3, .int x3)] → p_X8_lengthAfterFold_j25 V g x0 x1 x2 x3 t0 t1 t2 f = some o → W p l e rm_X8_lengthAfterFold s m args below meth c H locs 0 0 (MQ below (g_Wi V D cT o.1 o.2 n) args s 0 0 (g_A V)) (F0 m 25 ls [.int t0, .int t1, .ref t2]) := by
    intro x0 x1 x2 x3 t0 t1 t2 f H locs ls hI hl hq
    unfold p_X8_lengthAfterFold_j25 at hq
    obtain ⟨v3, ev3, hq⟩ := b_s hq
    refine gw_i (g_runV (As := [.int t1, .int t0]) (rest := []) (ci := 10) hC (c_X8_lacksBoth l V g D cT f n t2 t1 t0 v3 ev3) k_X8_lacksBoth m_1693 rfl rfl ⟨Nat.le_of_ble_eq_true rfl, Nat.le_of_ble_eq_true rfl⟩ hI rfl rfl (h_me_eq ev3).1 rfl hl.1 rfl (Nat.le_of_ble_eq_true rfl) dX8_lengthAfterFold_25 ⟨by decide, by decide⟩) hI (fun H locs hI => ?_)
    refine lv_if_eq (tgt := 33) hx hb dX8_lengthAfterFold_28 (by decide) (fun c4 => ?_) (fun c4 => ?_)
    · replace hq := i_t c4 hq
      refine lv_aload_n hx hb dX8_lengthAfterFold_33 rfl (lv_at hl 0 rfl) ?_
      refine lv_iload_n hx hb dX8_lengthAfterFold_34 rfl (lv_at hl 1 rfl) ?_
      refine lv_iload_n hx hb dX8_lengthAfterFold_35 rfl (lv_at hl 2 rfl) ?_
      obtain ⟨v5, ev5, hq⟩ := b_s hq
      refine gw_i (g_runV (As := [.int x1, .int x2]) (rest := []) (ci := 10) hC (c_X8_layFolded l V g D cT v3.2 n x0 x1 x2 v5 ev5) k_X8_layFolded m_1872 rfl rfl ⟨Nat.le_of_ble_eq_true rfl, Nat.le_of_ble_eq_true rfl⟩ hI rfl rfl (h_me_eq ev5).1 rfl hl.1 rfl (Nat.le_of_ble_eq_true rfl) dX8_lengthAfterFold_36 ⟨by decide, by decide⟩) hI (fun H locs hI => ?_)
      refine lv_if_ne (tgt := 52) hx hb dX8_lengthAfterFold_39 (by decide) (fun c6 => ?_) (fun c6 => ?_)
      · replace hq := i_f c6 hq
        refine lv_iconst (v := (-1 : Int32)) hx hb dX8_lengthAfterFold_52 (by decide) ?_
        exact ge_Wi hx hb hlocks hr rfl hI (congrArg (fun z => z.1) (Option.some.inj hq)) (congrArg (fun z => z.2) (Option.some.inj hq)) dX8_lengthAfterFold_53
      · replace hq := i_t c6 hq
        refine lv_aload_n hx hb dX8_lengthAfterFold_42 rfl (lv_at hl 0 rfl) ?_
        refine lv_bipush (v := (6 : Int32)) hx hb dX8_lengthAfterFold_43 (by decide) ?_
        refine lv_iload_n hx hb dX8_lengthAfterFold_45 rfl (lv_at hl 3 rfl) ?_
        obtain ⟨v7, ev7, hq⟩ := b_s hq
        refine gr_i (g_runV (As := [.int (6 : Int32), .int x3]) (rest := []) (ci := 10) hC (c_X8_lengthNow l V g D cT v5.2 n x0 (6 : Int32) x3 v7 ev7) k_X8_lengthNow m_1708 rfl rfl ⟨Nat.le_of_ble_eq_true rfl, Nat.le_of_ble_eq_true rfl⟩ hI rfl rfl (h_me_eq ev7).1 rfl hl.1 rfl (Nat.le_of_ble_eq_true rfl) dX8_lengthAfterFold_46 ⟨by decide, by decide⟩) hI (fun H locs hI => ?_)
        refine lv_goto (tgt := 53) hx hb dX8_lengthAfterFold_49 (by decide) ?_
        exact ge_Wi hx hb hlocks hr rfl hI (congrArg (fun z => z.1) (Option.some.inj hq)) (congrArg (fun z => z.2) (Option.some.inj hq)) dX8_lengthAfterFold_53
    · replace hq := i_f c4 hq
      refine lv_iconst (v := (0 : Int32)) hx hb dX8_lengthAfterFold_31 (by decide) ?_
      exact ge_Wi hx hb hlocks hr rfl hI (congrArg (fun z => z.1) (Option.some.inj hq)) (congrArg (fun z => z.2) (Option.some.inj hq)) dX8_lengthAfterFold_32
  have hj24 : ∀ (x0 : Nat) (x1 : Int32) (x2 : Int32) (x3 : Int32) (t0 : Int32) (t1 : Nat) (f : GH) (H : Heap) (locs : List Loc) (ls : Array Slot), g_at (g_A V) V g D cT f n s H locs → lv_has ls 4 [(0, .ref x0), (1, .int x1), (2, .int x2), (3, .int x3)] → p_X8_lengthAfterFold_j24 V g (p_X8_lengthAfterFold_j25 V g) x0 x1 x2 x3 t0 t1 f = some o → W p l e rm_X8_lengthAfterFold s m args below meth c H locs 0 0 (MQ below (g_Wi V D cT o.1 o.2 n) args s 0 0 (g_A V)) (F0 m 24 ls [.int t0, .ref t1]) := by
    intro x0 x1 x2 x3 t0 t1 f H locs ls hI hl hq
    unfold p_X8_lengthAfterFold_j24 at hq
    refine lv_iconst (v := (0 : Int32)) hx hb dX8_lengthAfterFold_24 (by decide) ?_
    exact hj25 x0 x1 x2 x3 (0 : Int32) t0 t1 f H locs ls hI (lv_sub hl [0, 1, 2, 3] rfl) hq
  refine lv_if_eq (tgt := 24) hx hb dX8_lengthAfterFold_10 (by decide) (fun c8 => ?_) (fun c8 => ?_)
  · replace hq := i_t c8 hq
    exact hj24 a0 a1 a2 a3 v1 a0 f H locs ls hI (lv_sub hl [0, 1, 2, 3] rfl) hq
  · replace hq := i_f c8 hq
    refine lv_iload_n hx hb dX8_lengthAfterFold_13 rfl (lv_at hl 3 rfl) ?_
    obtain ⟨v9, ev9, hq⟩ := b_s hq
    refine gr_i (g_runS (As := [.int a3]) (rest := [.int v1, .ref a0]) hC (c_X8_isLevel l V g D cT f n a3 v9 ev9) k_X8_isLevel m_1705 rfl rfl ⟨Nat.le_of_ble_eq_true rfl, Nat.le_of_ble_eq_true rfl⟩ hI rfl hl.1 rfl (Nat.le_of_ble_eq_true rfl) dX8_lengthAfterFold_14 ⟨by decide, by decide⟩) hI (fun H locs hI => ?_)
    refine lv_if_eq (tgt := 24) hx hb dX8_lengthAfterFold_17 (by decide) (fun c10 => ?_) (fun c10 => ?_)
    · replace hq := i_t c10 hq
      exact hj24 a0 a1 a2 a3 v1 a0 f H locs ls hI (lv_sub hl [0, 1, 2, 3] rfl) hq
    · replace hq := i_f c10 hq
      refine lv_iconst (v := (1 : Int32)) hx hb dX8_lengthAfterFold_20 (by decide) ?_
      refine lv_goto (tgt := 25) hx hb dX8_lengthAfterFold_21 (by decide) ?_
      exact hj25 a0 a1 a2 a3 (1 : Int32) v1 a0 f H locs ls hI (lv_sub hl [0, 1, 2, 3] rfl) hq

abbrev rm_X8_cut : Room := { frames := 4, cells := 0, slots := 0, locals := 161 }
theorem k_X8_cut : g_CV yX8_cut cX8_cut 5 none 2 := ⟨⟨m_1911, m_14, by decide +kernel⟩, m_1910, ms_58⟩
set_option maxHeartbeats 4000000 in
set_option maxRecDepth 100000 in
theorem c_X8_cut (l : Launch) (V : Nat → Nat) (g : GH) (D : va_G) (cT : Nat → ClassId) (f : GH) (n : Nat) (a0 : Nat) (a1 : Int32) (a2 : Int32) (o : GH) (hq : p_X8_cut V g f a0 a1 a2 = some o) : Met l yX8_cut (Cond.code yX8_cut cX8_cut 5 none :: g_B) rm_X8_cut (va_Pc [.ref a0, .int a1, .int a2] (g_I V g D cT f n)) (g_Wv V D cT o n) 0 0 (g_A V) := by
  refine g_begin (own := RX8) [.ref a0, .int a1, .int a2] [(0, .ref a0), (1, .int a1), (2, .int a2)] (g_A V) (fun _ h => h) (by decide) rfl (Nat.le_of_ble_eq_true rfl) rfl ?_
  intro p e s m args below meth c hx hb hr hlocks hin hC hI ls hl
  obtain ⟨hx, hb, hml, hown, hB⟩ := id hC
  obtain ⟨H, hH⟩ : ∃ H, H = s.heap := ⟨_, rfl⟩
  obtain ⟨locs, hlocs⟩ : ∃ L : List Loc, L = [] := ⟨_, rfl⟩
  rw [← hH, ← hlocs] at hI ⊢
  clear hH hlocs
  unfold p_X8_cut at hq
  replace hq := (h_me_eq hq).2
  refine lv_iload_n hx hb dX8_cut_0 rfl (lv_at hl 1 rfl) ?_
  obtain ⟨v1, ev1, hq⟩ := b_s hq
  refine gr_i (g_runS (As := [.int a1]) (rest := []) hC (c_X8_at l V g D cT f n a1 v1 ev1) k_X8_at m_1515 rfl rfl ⟨Nat.le_of_ble_eq_true rfl, Nat.le_of_ble_eq_true rfl⟩ hI rfl hl.1 rfl (Nat.le_of_ble_eq_true rfl) dX8_cut_1 ⟨by decide, by decide⟩) hI (fun H locs hI => ?_)
  refine lv_iconst (v := (2 : Int32)) hx hb dX8_cut_4 (by decide) ?_
  refine lv_iadd hx hb dX8_cut_5 ?_
  refine lv_iconst (v := (2 : Int32)) hx hb dX8_cut_6 (by decide) ?_
  refine lv_iload_n hx hb dX8_cut_7 rfl (lv_at hl 2 rfl) ?_
  refine lv_imul hx hb dX8_cut_8 ?_
  refine lv_iadd hx hb dX8_cut_9 ?_
  refine lv_istore_n (lv' := [(3, .int ((v1 + (2 : Int32)) + ((2 : Int32) * a2))), (0, .ref a0), (1, .int a1), (2, .int a2)]) hx hb dX8_cut_10 rfl hl (by decide) rfl (fun ls hl => ?_)
  refine lv_aload_n hx hb dX8_cut_11 rfl (lv_at hl 1 rfl) ?_
  obtain ⟨v2, ev2, hq⟩ := b_s hq
  refine fa_gr (own := RX8) (ref := "CoastlineRulerModel") (k := 5) hx hb hB inB_RX8 hown hI rfl (by decide) m_1536 (fun _ h9 => h9) ev2 dX8_cut_12 ?_
  refine lv_iload_n hx hb dX8_cut_15 rfl (lv_at hl 2 rfl) ?_
  obtain ⟨v3, ev3, hq⟩ := b_s hq
  refine gr_i (g_runS (As := [.int a1]) (rest := [.ref v2]) hC (c_X8_at l V g D cT f n a1 v3 ev3) k_X8_at m_1515 rfl rfl ⟨Nat.le_of_ble_eq_true rfl, Nat.le_of_ble_eq_true rfl⟩ hI rfl hl.1 rfl (Nat.le_of_ble_eq_true rfl) dX8_cut_16 ⟨by decide, by decide⟩) hI (fun H locs hI => ?_)
  refine lv_iconst (v := (1 : Int32)) hx hb dX8_cut_19 (by decide) ?_
  refine lv_iadd hx hb dX8_cut_20 ?_
  refine lv_dup2_11 hx hb dX8_cut_21 rfl rfl ?_
  obtain ⟨v4, ev4, hq⟩ := b_s hq
  refine fa_li hx hb hI ev4 dX8_cut_22 ?_
  refine lv_iconst (v := (1 : Int32)) hx hb dX8_cut_23 (by decide) ?_
  refine lv_isub hx hb dX8_cut_24 ?_
  obtain ⟨f5, ef5, hq⟩ := b_s hq
  refine fa_si hx hb hI ef5 dX8_cut_25 (fun H locs hI => ?_)
  refine lv_iload_n hx hb dX8_cut_26 rfl (lv_at hl 0 rfl) ?_
  refine lv_istore (lv' := [(4, .int ((v1 + (2 : Int32)) + ((2 : Int32) * a2))), (3, .int ((v1 + (2 : Int32)) + ((2 : Int32) * a2))), (0, .ref a0), (1, .int a1), (2, .int a2)]) hx hb dX8_cut_27 hl (by decide) rfl (fun ls hl => ?_)
  have hl29 : ∀ (K70 : GH → Option GH) (hK70 : ∀ (f : GH) (H : Heap) (locs : List Loc) (ls : Array Slot), g_at (g_A V) V g D cT f n s H locs → lv_has ls 5 [] → K70 f = some o → W p l e rm_X8_cut s m args below meth c H locs 0 0 (MQ below (g_Wv V D cT o n) args s 0 0 (g_A V)) (F0 m 70 ls [])) (N : Nat) (x0 : Nat) (x1 : Int32) (x4 : Int32) (f : GH) (H : Heap) (locs : List Loc) (ls : Array Slot), g_at (g_A V) V g D cT f n s H locs → lv_has ls 5 [(0, .ref x0), (1, .int x1), (4, .int x4)] → p_X8_cut_l29 V g K70 N x0 x1 x4 f = some o → W p l e rm_X8_cut s m args below meth c H locs 0 0 (MQ below (g_Wv V D cT o n) args s 0 0 (g_A V)) (F0 m 29 ls []) := by
    intro K70 hK70 N
    induction N with
    | zero =>
      intro x0 x1 x4 f H locs ls hI hl hq
      rw [p_X8_cut_l29] at hq
      cases hq
    | succ N ih =>
      intro x0 x1 x4 f H locs ls hI hl hq
      rw [p_X8_cut_l29] at hq
      refine lv_iload hx hb dX8_cut_29 (lv_at hl 2 rfl) ?_
      refine lv_iload_n hx hb dX8_cut_31 rfl (lv_at hl 1 rfl) ?_
      obtain ⟨v6, ev6, hq⟩ := b_s hq
      refine gr_i (g_runS (As := [.int x1]) (rest := [.int x4]) hC (c_X8_at l V g D cT f n x1 v6 ev6) k_X8_at m_1515 rfl rfl ⟨Nat.le_of_ble_eq_true rfl, Nat.le_of_ble_eq_true rfl⟩ hI rfl hl.1 rfl (Nat.le_of_ble_eq_true rfl) dX8_cut_32 ⟨by decide, by decide⟩) hI (fun H locs hI => ?_)
      refine lv_iconst (v := (2 : Int32)) hx hb dX8_cut_35 (by decide) ?_
      refine lv_iadd hx hb dX8_cut_36 ?_
      refine lv_iconst (v := (2 : Int32)) hx hb dX8_cut_37 (by decide) ?_
      refine lv_aload_n hx hb dX8_cut_38 rfl (lv_at hl 0 rfl) ?_
      refine lv_iload_n hx hb dX8_cut_39 rfl (lv_at hl 1 rfl) ?_
      obtain ⟨v7, ev7, hq⟩ := b_s hq
      refine gr_i (g_runV (As := [.int x1]) (rest := [.int (2 : Int32), .int (v6 + (2 : Int32)), .int x4]) (ci := 10) hC (c_X8_count l V g D cT f n x0 x1 v7 ev7) k_X8_count m_1527 rfl rfl ⟨Nat.le_of_ble_eq_true rfl, Nat.le_of_ble_eq_true rfl⟩ hI rfl rfl (h_me_eq ev7).1 rfl hl.1 rfl (Nat.le_of_ble_eq_true rfl) dX8_cut_40 ⟨by decide, by decide⟩) hI (fun H locs hI => ?_)
      refine lv_imul hx hb dX8_cut_43 ?_
      refine lv_iadd hx hb dX8_cut_44 ?_
      refine lv_icmp_ge (tgt := 70) hx hb dX8_cut_45 (by decide) (fun c8 => ?_) (fun c8 => ?_)
      · replace hq := i_t c8 hq
        exact hK70 f H locs ls hI (lv_sub hl [] rfl) hq
      · replace hq := i_f c8 hq
        refine lv_aload_n hx hb dX8_cut_48 rfl (lv_at hl 0 rfl) ?_
        obtain ⟨v9, ev9, hq⟩ := b_s hq
        refine fa_gr (own := RX8) (ref := "CoastlineRulerModel") (k := 5) hx hb hB inB_RX8 hown hI rfl (by decide) m_1536 (fun _ h9 => h9) ev9 dX8_cut_49 ?_
        refine lv_iload hx hb dX8_cut_52 (lv_at hl 2 rfl) ?_
        refine lv_aload_n hx hb dX8_cut_54 rfl (lv_at hl 0 rfl) ?_
        obtain ⟨v10, ev10, hq⟩ := b_s hq
        refine fa_gr (own := RX8) (ref := "CoastlineRulerModel") (k := 5) hx hb hB inB_RX8 hown hI rfl (by decide) m_1536 (fun _ h9 => h9) ev10 dX8_cut_55 ?_
        refine lv_iload hx hb dX8_cut_58 (lv_at hl 2 rfl) ?_
        refine lv_iconst (v := (2 : Int32)) hx hb dX8_cut_60 (by decide) ?_
        refine lv_iadd hx hb dX8_cut_61 ?_
        obtain ⟨v11, ev11, hq⟩ := b_s hq
        refine fa_li hx hb hI ev11 dX8_cut_62 ?_
        obtain ⟨f12, ef12, hq⟩ := b_s hq
        refine fa_si hx hb hI ef12 dX8_cut_63 (fun H locs hI => ?_)
        refine lv_iinc (v := x4 + (1 : Int32)) (lv' := [(4, .int (x4 + (1 : Int32))), (0, .ref x0), (1, .int x1)]) hx hb dX8_cut_64 hl (k := 2) rfl rfl (by decide) rfl (fun ls hl => ?_)
        refine lv_goto (tgt := 29) hx hb dX8_cut_67 (by decide) ?_
        exact ih x0 x1 (x4 + (1 : Int32)) f12 H locs ls hI (lv_sub hl [1, 2, 0] rfl) hq
  refine hl29 _ ?_ FU a0 a1 ((v1 + (2 : Int32)) + ((2 : Int32) * a2)) f5 H locs ls hI (lv_sub hl [2, 3, 0] rfl) hq
  · intro f H locs ls hI hl hq
    exact ge_Wv hx hb hlocks hr hI (Option.some.inj hq) dX8_cut_70

abbrev rm_X8_lengthBut : Room := { frames := 8, cells := 0, slots := 0, locals := 259 }
theorem k_X8_lengthBut : g_CV yX8_lengthBut cX8_lengthBut 3 (some .int) 2 := ⟨⟨m_1899, m_14, by decide +kernel⟩, m_1898, ms_55⟩
set_option maxHeartbeats 4000000 in
set_option maxRecDepth 100000 in
theorem c_X8_lengthBut (l : Launch) (V : Nat → Nat) (g : GH) (D : va_G) (cT : Nat → ClassId) (f : GH) (n : Nat) (a0 : Nat) (a1 : Int32) (a2 : Int32) (o : Int32 × GH) (hq : p_X8_lengthBut V g f a0 a1 a2 = some o) : Met l yX8_lengthBut (Cond.code yX8_lengthBut cX8_lengthBut 3 (some .int) :: g_B) rm_X8_lengthBut (va_Pc [.ref a0, .int a1, .int a2] (g_I V g D cT f n)) (g_Wi V D cT o.1 o.2 n) 0 0 (g_A V) := by
  refine g_begin (own := RX8) [.ref a0, .int a1, .int a2] [(0, .ref a0), (1, .int a1), (2, .int a2)] (g_A V) (fun _ h => h) (by decide) rfl (Nat.le_of_ble_eq_true rfl) rfl ?_
  intro p e s m args below meth c hx hb hr hlocks hin hC hI ls hl
  obtain ⟨hx, hb, hml, hown, hB⟩ := id hC
  obtain ⟨H, hH⟩ : ∃ H, H = s.heap := ⟨_, rfl⟩
  obtain ⟨locs, hlocs⟩ : ∃ L : List Loc, L = [] := ⟨_, rfl⟩
  rw [← hH, ← hlocs] at hI ⊢
  clear hH hlocs
  unfold p_X8_lengthBut at hq
  replace hq := (h_me_eq hq).2
  refine lv_aload_n hx hb dX8_lengthBut_0 rfl (lv_at hl 0 rfl) ?_
  refine lv_iload_n hx hb dX8_lengthBut_1 rfl (lv_at hl 1 rfl) ?_
  obtain ⟨v1, ev1, hq⟩ := b_s hq
  refine gr_i (g_runV (As := [.int a1]) (rest := []) (ci := 10) hC (c_X8_count l V g D cT f n a0 a1 v1 ev1) k_X8_count m_1527 rfl rfl ⟨Nat.le_of_ble_eq_true rfl, Nat.le_of_ble_eq_true rfl⟩ hI rfl rfl (h_me_eq ev1).1 rfl hl.1 rfl (Nat.le_of_ble_eq_true rfl) dX8_lengthBut_2 ⟨by decide, by decide⟩) hI (fun H locs hI => ?_)
  refine lv_aload_n hx hb dX8_lengthBut_5 rfl (lv_at hl 0 rfl) ?_
  refine lv_iload_n hx hb dX8_lengthBut_6 rfl (lv_at hl 1 rfl) ?_
  obtain ⟨v2, ev2, hq⟩ := b_s hq
  refine gr_i (g_runV (As := [.int a1]) (rest := [.int v1]) (ci := 10) hC (c_X8_fewest l V g D cT f n a0 a1 v2 ev2) k_X8_fewest m_1900 rfl rfl ⟨Nat.le_of_ble_eq_true rfl, Nat.le_of_ble_eq_true rfl⟩ hI rfl rfl (h_me_eq ev2).1 rfl hl.1 rfl (Nat.le_of_ble_eq_true rfl) dX8_lengthBut_7 ⟨by decide, by decide⟩) hI (fun H locs hI => ?_)
  refine lv_icmp_ne (tgt := 15) hx hb dX8_lengthBut_10 (by decide) (fun c3 => ?_) (fun c3 => ?_)
  · replace hq := i_f c3 hq
    refine lv_aload_n hx hb dX8_lengthBut_15 rfl (lv_at hl 0 rfl) ?_
    refine lv_iload_n hx hb dX8_lengthBut_16 rfl (lv_at hl 1 rfl) ?_
    refine lv_bipush (v := (6 : Int32)) hx hb dX8_lengthBut_17 (by decide) ?_
    obtain ⟨v4, ev4, hq⟩ := b_s hq
    refine gw_v (g_runV (As := [.int a1, .int (6 : Int32)]) (rest := []) (ci := 10) hC (c_X8_copyCoast l V g D cT f n a0 a1 (6 : Int32) v4 ev4) k_X8_copyCoast m_1904 rfl rfl ⟨Nat.le_of_ble_eq_true rfl, Nat.le_of_ble_eq_true rfl⟩ hI rfl rfl (h_me_eq ev4).1 rfl hl.1 rfl (Nat.le_of_ble_eq_true rfl) dX8_lengthBut_19 ⟨by decide, by decide⟩) hI (fun H locs hI => ?_)
    refine lv_aload_n hx hb dX8_lengthBut_22 rfl (lv_at hl 0 rfl) ?_
    refine lv_bipush (v := (6 : Int32)) hx hb dX8_lengthBut_23 (by decide) ?_
    refine lv_iload_n hx hb dX8_lengthBut_25 rfl (lv_at hl 2 rfl) ?_
    obtain ⟨v5, ev5, hq⟩ := b_s hq
    refine gw_v (g_runV (As := [.int (6 : Int32), .int a2]) (rest := []) (ci := 10) hC (c_X8_cut l V g D cT v4 n a0 (6 : Int32) a2 v5 ev5) k_X8_cut m_1908 rfl rfl ⟨Nat.le_of_ble_eq_true rfl, Nat.le_of_ble_eq_true rfl⟩ hI rfl rfl (h_me_eq ev5).1 rfl hl.1 rfl (Nat.le_of_ble_eq_true rfl) dX8_lengthBut_26 ⟨by decide, by decide⟩) hI (fun H locs hI => ?_)
    refine lv_aload_n hx hb dX8_lengthBut_29 rfl (lv_at hl 0 rfl) ?_
    refine lv_bipush (v := (6 : Int32)) hx hb dX8_lengthBut_30 (by decide) ?_
    refine lv_iconst (v := (0 : Int32)) hx hb dX8_lengthBut_32 (by decide) ?_
    obtain ⟨v6, ev6, hq⟩ := b_s hq
    refine gr_i (g_runV (As := [.int (6 : Int32), .int (0 : Int32)]) (rest := []) (ci := 10) hC (c_X8_lengthNow l V g D cT v5 n a0 (6 : Int32) (0 : Int32) v6 ev6) k_X8_lengthNow m_1708 rfl rfl ⟨Nat.le_of_ble_eq_true rfl, Nat.le_of_ble_eq_true rfl⟩ hI rfl rfl (h_me_eq ev6).1 rfl hl.1 rfl (Nat.le_of_ble_eq_true rfl) dX8_lengthBut_33 ⟨by decide, by decide⟩) hI (fun H locs hI => ?_)
    exact ge_Wi hx hb hlocks hr rfl hI (congrArg (fun z => z.1) (Option.some.inj hq)) (congrArg (fun z => z.2) (Option.some.inj hq)) dX8_lengthBut_36
  · replace hq := i_t c3 hq
    refine lv_iconst (v := (-1 : Int32)) hx hb dX8_lengthBut_13 (by decide) ?_
    exact ge_Wi hx hb hlocks hr rfl hI (congrArg (fun z => z.1) (Option.some.inj hq)) (congrArg (fun z => z.2) (Option.some.inj hq)) dX8_lengthBut_14

abbrev rm_X8_lengthWithoutPoint : Room := { frames := 9, cells := 0, slots := 0, locals := 281 }
theorem k_X8_lengthWithoutPoint : g_CV yX8_lengthWithoutPoint cX8_lengthWithoutPoint 3 (some .int) 2 := ⟨⟨m_1895, m_14, by decide +kernel⟩, m_1893, m_1894⟩
set_option maxHeartbeats 4000000 in
set_option maxRecDepth 100000 in
theorem c_X8_lengthWithoutPoint (l : Launch) (V : Nat → Nat) (g : GH) (D : va_G) (cT : Nat → ClassId) (f : GH) (n : Nat) (a0 : Nat) (a1 : Int32) (a2 : Int32) (o : Int32 × GH) (hq : p_X8_lengthWithoutPoint V g f a0 a1 a2 = some o) : Met l yX8_lengthWithoutPoint (Cond.code yX8_lengthWithoutPoint cX8_lengthWithoutPoint 3 (some .int) :: g_B) rm_X8_lengthWithoutPoint (va_Pc [.ref a0, .int a1, .int a2] (g_I V g D cT f n)) (g_Wi V D cT o.1 o.2 n) 0 0 (g_A V) := by
  refine g_begin (own := RX8) [.ref a0, .int a1, .int a2] [(0, .ref a0), (1, .int a1), (2, .int a2)] (g_A V) (fun _ h => h) (by decide) rfl (Nat.le_of_ble_eq_true rfl) rfl ?_
  intro p e s m args below meth c hx hb hr hlocks hin hC hI ls hl
  obtain ⟨hx, hb, hml, hown, hB⟩ := id hC
  obtain ⟨H, hH⟩ : ∃ H, H = s.heap := ⟨_, rfl⟩
  obtain ⟨locs, hlocs⟩ : ∃ L : List Loc, L = [] := ⟨_, rfl⟩
  rw [← hH, ← hlocs] at hI ⊢
  clear hH hlocs
  unfold p_X8_lengthWithoutPoint at hq
  replace hq := (h_me_eq hq).2
  refine lv_aload_n hx hb dX8_lengthWithoutPoint_0 rfl (lv_at hl 0 rfl) ?_
  refine lv_aload_n hx hb dX8_lengthWithoutPoint_1 rfl (lv_at hl 0 rfl) ?_
  refine lv_iload_n hx hb dX8_lengthWithoutPoint_2 rfl (lv_at hl 1 rfl) ?_
  refine lv_iload_n hx hb dX8_lengthWithoutPoint_3 rfl (lv_at hl 2 rfl) ?_
  obtain ⟨v1, ev1, hq⟩ := b_s hq
  refine gr_i (g_runV (As := [.int a1, .int a2]) (rest := [.ref a0]) (ci := 10) hC (c_X8_isPoint l V g D cT f n a0 a1 a2 v1 ev1) k_X8_isPoint m_1653 rfl rfl ⟨Nat.le_of_ble_eq_true rfl, Nat.le_of_ble_eq_true rfl⟩ hI rfl rfl (h_me_eq ev1).1 rfl hl.1 rfl (Nat.le_of_ble_eq_true rfl) dX8_lengthWithoutPoint_4 ⟨by decide, by decide⟩) hI (fun H locs hI => ?_)
  obtain ⟨v2, ev2, hq⟩ := b_s hq
  refine gw_i (g_runV (As := [.int v1]) (rest := []) (ci := 10) hC (c_X8_lacks l V g D cT f n a0 v1 v2 ev2) k_X8_lacks m_1637 rfl rfl ⟨Nat.le_of_ble_eq_true rfl, Nat.le_of_ble_eq_true rfl⟩ hI rfl rfl (h_me_eq ev2).1 rfl hl.1 rfl (Nat.le_of_ble_eq_true rfl) dX8_lengthWithoutPoint_7 ⟨by decide, by decide⟩) hI (fun H locs hI => ?_)
  refine lv_if_eq (tgt := 17) hx hb dX8_lengthWithoutPoint_10 (by decide) (fun c3 => ?_) (fun c3 => ?_)
  · replace hq := i_t c3 hq
    refine lv_aload_n hx hb dX8_lengthWithoutPoint_17 rfl (lv_at hl 0 rfl) ?_
    refine lv_iload_n hx hb dX8_lengthWithoutPoint_18 rfl (lv_at hl 1 rfl) ?_
    refine lv_iload_n hx hb dX8_lengthWithoutPoint_19 rfl (lv_at hl 2 rfl) ?_
    obtain ⟨v4, ev4, hq⟩ := b_s hq
    refine gw_i (g_runV (As := [.int a1, .int a2]) (rest := []) (ci := 10) hC (c_X8_lengthBut l V g D cT v2.2 n a0 a1 a2 v4 ev4) k_X8_lengthBut m_1896 rfl rfl ⟨Nat.le_of_ble_eq_true rfl, Nat.le_of_ble_eq_true rfl⟩ hI rfl rfl (h_me_eq ev4).1 rfl hl.1 rfl (Nat.le_of_ble_eq_true rfl) dX8_lengthWithoutPoint_20 ⟨by decide, by decide⟩) hI (fun H locs hI => ?_)
    exact ge_Wi hx hb hlocks hr rfl hI (congrArg (fun z => z.1) (Option.some.inj hq)) (congrArg (fun z => z.2) (Option.some.inj hq)) dX8_lengthWithoutPoint_23
  · replace hq := i_f c3 hq
    refine lv_iconst (v := (0 : Int32)) hx hb dX8_lengthWithoutPoint_13 (by decide) ?_
    refine lv_goto (tgt := 23) hx hb dX8_lengthWithoutPoint_14 (by decide) ?_
    exact ge_Wi hx hb hlocks hr rfl hI (congrArg (fun z => z.1) (Option.some.inj hq)) (congrArg (fun z => z.2) (Option.some.inj hq)) dX8_lengthWithoutPoint_23

abbrev rm_X8_leastImportantPoint : Room := { frames := 9, cells := 0, slots := 0, locals := 281 }
theorem k_X8_leastImportantPoint : g_CV yX8_leastImportantPoint cX8_leastImportantPoint 6 (some .int) 1 := ⟨⟨m_1915, m_14, by decide +kernel⟩, m_1913, m_1914⟩
set_option maxHeartbeats 4000000 in
set_option maxRecDepth 100000 in
theorem c_X8_leastImportantPoint (l : Launch) (V : Nat → Nat) (g : GH) (D : va_G) (cT : Nat → ClassId) (f : GH) (n : Nat) (a0 : Nat) (a1 : Int32) (o : Int32 × GH) (hq : p_X8_leastImportantPoint V g f a0 a1 = some o) : Met l yX8_leastImportantPoint (Cond.code yX8_leastImportantPoint cX8_leastImportantPoint 6 (some .int) :: g_B) rm_X8_leastImportantPoint (va_Pc [.ref a0, .int a1] (g_I V g D cT f n)) (g_Wi V D cT o.1 o.2 n) 0 0 (g_A V) := by
  refine g_begin (own := RX8) [.ref a0, .int a1] [(0, .ref a0), (1, .int a1)] (g_A V) (fun _ h => h) (by decide) rfl (Nat.le_of_ble_eq_true rfl) rfl ?_
  intro p e s m args below meth c hx hb hr hlocks hin hC hI ls hl
  obtain ⟨hx, hb, hml, hown, hB⟩ := id hC
  obtain ⟨H, hH⟩ : ∃ H, H = s.heap := ⟨_, rfl⟩
  obtain ⟨locs, hlocs⟩ : ∃ L : List Loc, L = [] := ⟨_, rfl⟩
  rw [← hH, ← hlocs] at hI ⊢
  clear hH hlocs
  unfold p_X8_leastImportantPoint at hq
  replace hq := (h_me_eq hq).2
  refine lv_aload_n hx hb dX8_leastImportantPoint_0 rfl (lv_at hl 0 rfl) ?_
  refine lv_aload_n hx hb dX8_leastImportantPoint_1 rfl (lv_at hl 0 rfl) ?_
  refine lv_iload_n hx hb dX8_leastImportantPoint_2 rfl (lv_at hl 1 rfl) ?_
  obtain ⟨v1, ev1, hq⟩ := b_s hq
  refine gr_i (g_runV (As := [.int a1]) (rest := [.ref a0]) (ci := 10) hC (c_X8_isCoast l V g D cT f n a0 a1 v1 ev1) k_X8_isCoast m_1630 rfl rfl ⟨Nat.le_of_ble_eq_true rfl, Nat.le_of_ble_eq_true rfl⟩ hI rfl rfl (h_me_eq ev1).1 rfl hl.1 rfl (Nat.le_of_ble_eq_true rfl) dX8_leastImportantPoint_3 ⟨by decide, by decide⟩) hI (fun H locs hI => ?_)
  obtain ⟨v2, ev2, hq⟩ := b_s hq
  refine gw_i (g_runV (As := [.int v1]) (rest := []) (ci := 10) hC (c_X8_lacks l V g D cT f n a0 v1 v2 ev2) k_X8_lacks m_1637 rfl rfl ⟨Nat.le_of_ble_eq_true rfl, Nat.le_of_ble_eq_true rfl⟩ hI rfl rfl (h_me_eq ev2).1 rfl hl.1 rfl (Nat.le_of_ble_eq_true rfl) dX8_leastImportantPoint_6 ⟨by decide, by decide⟩) hI (fun H locs hI => ?_)
  refine lv_if_eq (tgt := 14) hx hb dX8_leastImportantPoint_9 (by decide) (fun c3 => ?_) (fun c3 => ?_)
  · replace hq := i_t c3 hq
    refine lv_iconst (v := (-1 : Int32)) hx hb dX8_leastImportantPoint_14 (by decide) ?_
    refine lv_istore_n (lv' := [(2, .int (-1 : Int32)), (0, .ref a0), (1, .int a1)]) hx hb dX8_leastImportantPoint_15 rfl hl (by decide) rfl (fun ls hl => ?_)
    refine lv_iconst (v := (-1 : Int32)) hx hb dX8_leastImportantPoint_16 (by decide) ?_
    refine lv_istore_n (lv' := [(3, .int (-1 : Int32)), (2, .int (-1 : Int32)), (0, .ref a0), (1, .int a1)]) hx hb dX8_leastImportantPoint_17 rfl hl (by decide) rfl (fun ls hl => ?_)
    refine lv_iconst (v := (0 : Int32)) hx hb dX8_leastImportantPoint_18 (by decide) ?_
    refine lv_istore (lv' := [(4, .int (0 : Int32)), (3, .int (-1 : Int32)), (2, .int (-1 : Int32)), (0, .ref a0), (1, .int a1)]) hx hb dX8_leastImportantPoint_19 hl (by decide) rfl (fun ls hl => ?_)
    have hl21 : ∀ (K58 : Int32 → GH → Option (Int32 × GH)) (hK58 : ∀ (x2 : Int32) (f : GH) (H : Heap) (locs : List Loc) (ls : Array Slot), g_at (g_A V) V g D cT f n s H locs → lv_has ls 6 [(2, .int x2)] → K58 x2 f = some o → W p l e rm_X8_leastImportantPoint s m args below meth c H locs 0 0 (MQ below (g_Wi V D cT o.1 o.2 n) args s 0 0 (g_A V)) (F0 m 58 ls [])) (N : Nat) (x0 : Nat) (x1 : Int32) (x2 : Int32) (x3 : Int32) (x4 : Int32) (f : GH) (H : Heap) (locs : List Loc) (ls : Array Slot), g_at (g_A V) V g D cT f n s H locs → lv_has ls 6 [(0, .ref x0), (1, .int x1), (2, .int x2), (3, .int x3), (4, .int x4)] → p_X8_leastImportantPoint_l21 V g K58 N x0 x1 x2 x3 x4 f = some o → W p l e rm_X8_leastImportantPoint s m args below meth c H locs 0 0 (MQ below (g_Wi V D cT o.1 o.2 n) args s 0 0 (g_A V)) (F0 m 21 ls []) := by
      intro K58 hK58 N
      induction N with
      | zero =>
        intro x0 x1 x2 x3 x4 f H locs ls hI hl hq
        rw [p_X8_leastImportantPoint_l21] at hq
        cases hq
      | succ N ih =>
        intro x0 x1 x2 x3 x4 f H locs ls hI hl hq
        rw [p_X8_leastImportantPoint_l21] at hq
        refine lv_iload hx hb dX8_leastImportantPoint_21 (lv_at hl 4 rfl) ?_
        refine lv_aload_n hx hb dX8_leastImportantPoint_23 rfl (lv_at hl 0 rfl) ?_
        refine lv_iload_n hx hb dX8_leastImportantPoint_24 rfl (lv_at hl 1 rfl) ?_
        obtain ⟨v4, ev4, hq⟩ := b_s hq
        refine gr_i (g_runV (As := [.int x1]) (rest := [.int x4]) (ci := 10) hC (c_X8_count l V g D cT f n x0 x1 v4 ev4) k_X8_count m_1527 rfl rfl ⟨Nat.le_of_ble_eq_true rfl, Nat.le_of_ble_eq_true rfl⟩ hI rfl rfl (h_me_eq ev4).1 rfl hl.1 rfl (Nat.le_of_ble_eq_true rfl) dX8_leastImportantPoint_25 ⟨by decide, by decide⟩) hI (fun H locs hI => ?_)
        refine lv_icmp_ge (tgt := 58) hx hb dX8_leastImportantPoint_28 (by decide) (fun c5 => ?_) (fun c5 => ?_)
        · replace hq := i_t c5 hq
          exact hK58 x2 f H locs ls hI (lv_sub hl [2] rfl) hq
        · replace hq := i_f c5 hq
          refine lv_aload_n hx hb dX8_leastImportantPoint_31 rfl (lv_at hl 0 rfl) ?_
          refine lv_iload_n hx hb dX8_leastImportantPoint_32 rfl (lv_at hl 1 rfl) ?_
          refine lv_iload hx hb dX8_leastImportantPoint_33 (lv_at hl 4 rfl) ?_
          obtain ⟨v6, ev6, hq⟩ := b_s hq
          refine gw_i (g_runV (As := [.int x1, .int x4]) (rest := []) (ci := 10) hC (c_X8_lengthBut l V g D cT f n x0 x1 x4 v6 ev6) k_X8_lengthBut m_1896 rfl rfl ⟨Nat.le_of_ble_eq_true rfl, Nat.le_of_ble_eq_true rfl⟩ hI rfl rfl (h_me_eq ev6).1 rfl hl.1 rfl (Nat.le_of_ble_eq_true rfl) dX8_leastImportantPoint_35 ⟨by decide, by decide⟩) hI (fun H locs hI => ?_)
          refine lv_istore (lv' := [(5, .int v6.1), (0, .ref x0), (1, .int x1), (2, .int x2), (3, .int x3), (4, .int x4)]) hx hb dX8_leastImportantPoint_38 hl (by decide) rfl (fun ls hl => ?_)
          refine lv_iload hx hb dX8_leastImportantPoint_40 (lv_at hl 0 rfl) ?_
          refine lv_iload_n hx hb dX8_leastImportantPoint_42 rfl (lv_at hl 4 rfl) ?_
          refine lv_icmp_le (tgt := 52) hx hb dX8_leastImportantPoint_43 (by decide) (fun c7 => ?_) (fun c7 => ?_)
          · replace hq := i_t c7 hq
            refine lv_iinc (v := x4 + (1 : Int32)) (lv' := [(4, .int (x4 + (1 : Int32))), (5, .int v6.1), (0, .ref x0), (1, .int x1), (2, .int x2), (3, .int x3)]) hx hb dX8_leastImportantPoint_52 hl (k := 5) rfl rfl (by decide) rfl (fun ls hl => ?_)
            refine lv_goto (tgt := 21) hx hb dX8_leastImportantPoint_55 (by decide) ?_
            exact ih x0 x1 x2 x3 (x4 + (1 : Int32)) v6.2 H locs ls hI (lv_sub hl [2, 3, 4, 5, 0] rfl) hq
          · replace hq := i_f c7 hq
            refine lv_iload hx hb dX8_leastImportantPoint_46 (lv_at hl 5 rfl) ?_
            refine lv_istore_n (lv' := [(2, .int x4), (5, .int v6.1), (0, .ref x0), (1, .int x1), (3, .int x3), (4, .int x4)]) hx hb dX8_leastImportantPoint_48 rfl hl (by decide) rfl (fun ls hl => ?_)
            refine lv_iload hx hb dX8_leastImportantPoint_49 (lv_at hl 1 rfl) ?_
            refine lv_istore_n (lv' := [(3, .int v6.1), (2, .int x4), (5, .int v6.1), (0, .ref x0), (1, .int x1), (4, .int x4)]) hx hb dX8_leastImportantPoint_51 rfl hl (by decide) rfl (fun ls hl => ?_)
            refine lv_iinc (v := x4 + (1 : Int32)) (lv' := [(4, .int (x4 + (1 : Int32))), (3, .int v6.1), (2, .int x4), (5, .int v6.1), (0, .ref x0), (1, .int x1)]) hx hb dX8_leastImportantPoint_52 hl (k := 5) rfl rfl (by decide) rfl (fun ls hl => ?_)
            refine lv_goto (tgt := 21) hx hb dX8_leastImportantPoint_55 (by decide) ?_
            exact ih x0 x1 x4 v6.1 (x4 + (1 : Int32)) v6.2 H locs ls hI (lv_sub hl [4, 5, 2, 1, 0] rfl) hq
    refine hl21 _ ?_ FU a0 a1 (-1 : Int32) (-1 : Int32) (0 : Int32) v2.2 H locs ls hI (lv_sub hl [3, 4, 2, 1, 0] rfl) hq
    · intro x2 f H locs ls hI hl hq
      refine lv_iload_n hx hb dX8_leastImportantPoint_58 rfl (lv_at hl 0 rfl) ?_
      exact ge_Wi hx hb hlocks hr rfl hI (congrArg (fun z => z.1) (Option.some.inj hq)) (congrArg (fun z => z.2) (Option.some.inj hq)) dX8_leastImportantPoint_59
  · replace hq := i_f c3 hq
    refine lv_iconst (v := (0 : Int32)) hx hb dX8_leastImportantPoint_12 (by decide) ?_
    exact ge_Wi hx hb hlocks hr rfl hI (congrArg (fun z => z.1) (Option.some.inj hq)) (congrArg (fun z => z.2) (Option.some.inj hq)) dX8_leastImportantPoint_13

abbrev rm_X8_lengthInOtherMetric : Room := { frames := 7, cells := 0, slots := 0, locals := 237 }
theorem k_X8_lengthInOtherMetric : g_CV yX8_lengthInOtherMetric cX8_lengthInOtherMetric 3 (some .int) 2 := ⟨⟨m_1919, m_14, by decide +kernel⟩, m_1917, m_1918⟩
set_option maxHeartbeats 4000000 in
set_option maxRecDepth 100000 in
theorem c_X8_lengthInOtherMetric (l : Launch) (V : Nat → Nat) (g : GH) (D : va_G) (cT : Nat → ClassId) (f : GH) (n : Nat) (a0 : Nat) (a1 : Int32) (a2 : Int32) (o : Int32 × GH) (hq : p_X8_lengthInOtherMetric V g f a0 a1 a2 = some o) : Met l yX8_lengthInOtherMetric (Cond.code yX8_lengthInOtherMetric cX8_lengthInOtherMetric 3 (some .int) :: g_B) rm_X8_lengthInOtherMetric (va_Pc [.ref a0, .int a1, .int a2] (g_I V g D cT f n)) (g_Wi V D cT o.1 o.2 n) 0 0 (g_A V) := by
  refine g_begin (own := RX8) [.ref a0, .int a1, .int a2] [(0, .ref a0), (1, .int a1), (2, .int a2)] (g_A V) (fun _ h => h) (by decide) rfl (Nat.le_of_ble_eq_true rfl) rfl ?_
  intro p e s m args below meth c hx hb hr hlocks hin hC hI ls hl
  obtain ⟨hx, hb, hml, hown, hB⟩ := id hC
  obtain ⟨H, hH⟩ : ∃ H, H = s.heap := ⟨_, rfl⟩
  obtain ⟨locs, hlocs⟩ : ∃ L : List Loc, L = [] := ⟨_, rfl⟩
  rw [← hH, ← hlocs] at hI ⊢
  clear hH hlocs
  unfold p_X8_lengthInOtherMetric at hq
  replace hq := (h_me_eq hq).2
  refine lv_aload_n hx hb dX8_lengthInOtherMetric_0 rfl (lv_at hl 0 rfl) ?_
  refine lv_iload_n hx hb dX8_lengthInOtherMetric_1 rfl (lv_at hl 1 rfl) ?_
  refine lv_iload_n hx hb dX8_lengthInOtherMetric_2 rfl (lv_at hl 2 rfl) ?_
  obtain ⟨v1, ev1, hq⟩ := b_s hq
  refine gw_i (g_runV (As := [.int a1, .int a2]) (rest := []) (ci := 10) hC (c_X8_lacksLevel l V g D cT f n a0 a1 a2 v1 ev1) k_X8_lacksLevel m_1701 rfl rfl ⟨Nat.le_of_ble_eq_true rfl, Nat.le_of_ble_eq_true rfl⟩ hI rfl rfl (h_me_eq ev1).1 rfl hl.1 rfl (Nat.le_of_ble_eq_true rfl) dX8_lengthInOtherMetric_3 ⟨by decide, by decide⟩) hI (fun H locs hI => ?_)
  refine lv_if_eq (tgt := 13) hx hb dX8_lengthInOtherMetric_6 (by decide) (fun c2 => ?_) (fun c2 => ?_)
  · replace hq := i_t c2 hq
    refine lv_aload_n hx hb dX8_lengthInOtherMetric_13 rfl (lv_at hl 0 rfl) ?_
    refine lv_iload_n hx hb dX8_lengthInOtherMetric_14 rfl (lv_at hl 1 rfl) ?_
    refine lv_iload_n hx hb dX8_lengthInOtherMetric_15 rfl (lv_at hl 2 rfl) ?_
    refine lv_aload_n hx hb dX8_lengthInOtherMetric_16 rfl (lv_at hl 0 rfl) ?_
    obtain ⟨v3, ev3, hq⟩ := b_s hq
    refine gr_i (g_runV (As := []) (rest := [.int a2, .int a1, .ref a0]) (ci := 10) hC (c_X8_isKing l V g D cT v1.2 n a0 v3 ev3) k_X8_isKing m_1622 rfl rfl ⟨Nat.le_of_ble_eq_true rfl, Nat.le_of_ble_eq_true rfl⟩ hI rfl rfl (h_me_eq ev3).1 rfl hl.1 rfl (Nat.le_of_ble_eq_true rfl) dX8_lengthInOtherMetric_17 ⟨by decide, by decide⟩) hI (fun H locs hI => ?_)
    refine lv_if_ne (tgt := 27) hx hb dX8_lengthInOtherMetric_20 (by decide) (fun c4 => ?_) (fun c4 => ?_)
    · replace hq := i_f c4 hq
      refine lv_iconst (v := (0 : Int32)) hx hb dX8_lengthInOtherMetric_27 (by decide) ?_
      obtain ⟨v5, ev5, hq⟩ := b_s hq
      refine gr_i (g_runV (As := [.int a1, .int a2, .int (0 : Int32)]) (rest := []) (ci := 10) hC (c_X8_length l V g D cT v1.2 n a0 a1 a2 (0 : Int32) v5 ev5) k_X8_length m_1712 rfl rfl ⟨Nat.le_of_ble_eq_true rfl, Nat.le_of_ble_eq_true rfl⟩ hI rfl rfl (h_me_eq ev5).1 rfl hl.1 rfl (Nat.le_of_ble_eq_true rfl) dX8_lengthInOtherMetric_28 ⟨by decide, by decide⟩) hI (fun H locs hI => ?_)
      exact ge_Wi hx hb hlocks hr rfl hI (congrArg (fun z => z.1) (Option.some.inj hq)) (congrArg (fun z => z.2) (Option.some.inj hq)) dX8_lengthInOtherMetric_31
    · replace hq := i_t c4 hq
      refine lv_iconst (v := (1 : Int32)) hx hb dX8_lengthInOtherMetric_23 (by decide) ?_
      refine lv_goto (tgt := 28) hx hb dX8_lengthInOtherMetric_24 (by decide) ?_
      obtain ⟨v6, ev6, hq⟩ := b_s hq
      refine gr_i (g_runV (As := [.int a1, .int a2, .int (1 : Int32)]) (rest := []) (ci := 10) hC (c_X8_length l V g D cT v1.2 n a0 a1 a2 (1 : Int32) v6 ev6) k_X8_length m_1712 rfl rfl ⟨Nat.le_of_ble_eq_true rfl, Nat.le_of_ble_eq_true rfl⟩ hI rfl rfl (h_me_eq ev6).1 rfl hl.1 rfl (Nat.le_of_ble_eq_true rfl) dX8_lengthInOtherMetric_28 ⟨by decide, by decide⟩) hI (fun H locs hI => ?_)
      exact ge_Wi hx hb hlocks hr rfl hI (congrArg (fun z => z.1) (Option.some.inj hq)) (congrArg (fun z => z.2) (Option.some.inj hq)) dX8_lengthInOtherMetric_31
  · replace hq := i_f c2 hq
    refine lv_iconst (v := (0 : Int32)) hx hb dX8_lengthInOtherMetric_9 (by decide) ?_
    refine lv_goto (tgt := 31) hx hb dX8_lengthInOtherMetric_10 (by decide) ?_
    exact ge_Wi hx hb hlocks hr rfl hI (congrArg (fun z => z.1) (Option.some.inj hq)) (congrArg (fun z => z.2) (Option.some.inj hq)) dX8_lengthInOtherMetric_31

abbrev rm_X8_loadedPoints : Room := { frames := 2, cells := 0, slots := 0, locals := 120 }
theorem k_X8_loadedPoints : g_CV yX8_loadedPoints cX8_loadedPoints 1 (some .int) 0 := ⟨⟨m_1923, m_14, by decide +kernel⟩, m_1921, m_1922⟩
set_option maxHeartbeats 4000000 in
set_option maxRecDepth 100000 in
theorem c_X8_loadedPoints (l : Launch) (V : Nat → Nat) (g : GH) (D : va_G) (cT : Nat → ClassId) (f : GH) (n : Nat) (a0 : Nat) (o : Int32 × GH) (hq : p_X8_loadedPoints V g f a0 = some o) : Met l yX8_loadedPoints (Cond.code yX8_loadedPoints cX8_loadedPoints 1 (some .int) :: g_B) rm_X8_loadedPoints (va_Pc [.ref a0] (g_I V g D cT f n)) (g_Wi V D cT o.1 o.2 n) 0 0 (g_A V) := by
  refine g_begin (own := RX8) [.ref a0] [(0, .ref a0)] (g_A V) (fun _ h => h) (by decide) rfl (Nat.le_of_ble_eq_true rfl) rfl ?_
  intro p e s m args below meth c hx hb hr hlocks hin hC hI ls hl
  obtain ⟨hx, hb, hml, hown, hB⟩ := id hC
  obtain ⟨H, hH⟩ : ∃ H, H = s.heap := ⟨_, rfl⟩
  obtain ⟨locs, hlocs⟩ : ∃ L : List Loc, L = [] := ⟨_, rfl⟩
  rw [← hH, ← hlocs] at hI ⊢
  clear hH hlocs
  unfold p_X8_loadedPoints at hq
  replace hq := (h_me_eq hq).2
  refine lv_aload_n hx hb dX8_loadedPoints_0 rfl (lv_at hl 0 rfl) ?_
  refine lv_iconst (v := (0 : Int32)) hx hb dX8_loadedPoints_1 (by decide) ?_
  obtain ⟨f1, ef1, hq⟩ := b_s hq
  refine fa_pt (own := RX8) (ref := "CoastlineRulerModel") (k := 7) hx hb hB inB_RX8 tyX8_ok nmX8 hown hI rfl (by decide) m_1538 (fun _ h9 => h9) (by decide) rfl rfl ef1 dX8_loadedPoints_2 (fun H locs hI => ?_)
  refine lv_aload_n hx hb dX8_loadedPoints_5 rfl (lv_at hl 0 rfl) ?_
  obtain ⟨v2, ev2, hq⟩ := b_s hq
  refine fa_gr (own := RX8) (ref := "CoastlineRulerModel") (k := 5) hx hb hB inB_RX8 hown hI rfl (by decide) m_1536 (fun _ h9 => h9) ev2 dX8_loadedPoints_6 ?_
  refine lv_iconst (v := (2 : Int32)) hx hb dX8_loadedPoints_9 (by decide) ?_
  obtain ⟨v3, ev3, hq⟩ := b_s hq
  refine fa_li hx hb hI ev3 dX8_loadedPoints_10 ?_
  exact ge_Wi hx hb hlocks hr rfl hI (congrArg (fun z => z.1) (Option.some.inj hq)) (congrArg (fun z => z.2) (Option.some.inj hq)) dX8_loadedPoints_11

abbrev rm_X8_addedPoints : Room := { frames := 2, cells := 0, slots := 0, locals := 120 }
theorem k_X8_addedPoints : g_CV yX8_addedPoints cX8_addedPoints 1 (some .int) 0 := ⟨⟨m_1927, m_14, by decide +kernel⟩, m_1925, m_1926⟩
set_option maxHeartbeats 4000000 in
set_option maxRecDepth 100000 in
theorem c_X8_addedPoints (l : Launch) (V : Nat → Nat) (g : GH) (D : va_G) (cT : Nat → ClassId) (f : GH) (n : Nat) (a0 : Nat) (o : Int32 × GH) (hq : p_X8_addedPoints V g f a0 = some o) : Met l yX8_addedPoints (Cond.code yX8_addedPoints cX8_addedPoints 1 (some .int) :: g_B) rm_X8_addedPoints (va_Pc [.ref a0] (g_I V g D cT f n)) (g_Wi V D cT o.1 o.2 n) 0 0 (g_A V) := by
  refine g_begin (own := RX8) [.ref a0] [(0, .ref a0)] (g_A V) (fun _ h => h) (by decide) rfl (Nat.le_of_ble_eq_true rfl) rfl ?_
  intro p e s m args below meth c hx hb hr hlocks hin hC hI ls hl
  obtain ⟨hx, hb, hml, hown, hB⟩ := id hC
  obtain ⟨H, hH⟩ : ∃ H, H = s.heap := ⟨_, rfl⟩
  obtain ⟨locs, hlocs⟩ : ∃ L : List Loc, L = [] := ⟨_, rfl⟩
  rw [← hH, ← hlocs] at hI ⊢
  clear hH hlocs
  unfold p_X8_addedPoints at hq
  replace hq := (h_me_eq hq).2
  refine lv_aload_n hx hb dX8_addedPoints_0 rfl (lv_at hl 0 rfl) ?_
  refine lv_iconst (v := (0 : Int32)) hx hb dX8_addedPoints_1 (by decide) ?_
  obtain ⟨f1, ef1, hq⟩ := b_s hq
  refine fa_pt (own := RX8) (ref := "CoastlineRulerModel") (k := 7) hx hb hB inB_RX8 tyX8_ok nmX8 hown hI rfl (by decide) m_1538 (fun _ h9 => h9) (by decide) rfl rfl ef1 dX8_addedPoints_2 (fun H locs hI => ?_)
  refine lv_aload_n hx hb dX8_addedPoints_5 rfl (lv_at hl 0 rfl) ?_
  obtain ⟨v2, ev2, hq⟩ := b_s hq
  refine fa_gr (own := RX8) (ref := "CoastlineRulerModel") (k := 5) hx hb hB inB_RX8 hown hI rfl (by decide) m_1536 (fun _ h9 => h9) ev2 dX8_addedPoints_6 ?_
  refine lv_iconst (v := (3 : Int32)) hx hb dX8_addedPoints_9 (by decide) ?_
  obtain ⟨v3, ev3, hq⟩ := b_s hq
  refine fa_li hx hb hI ev3 dX8_addedPoints_10 ?_
  exact ge_Wi hx hb hlocks hr rfl hI (congrArg (fun z => z.1) (Option.some.inj hq)) (congrArg (fun z => z.2) (Option.some.inj hq)) dX8_addedPoints_11

abbrev rm_X8_removedPoints : Room := { frames := 2, cells := 0, slots := 0, locals := 120 }
theorem k_X8_removedPoints : g_CV yX8_removedPoints cX8_removedPoints 1 (some .int) 0 := ⟨⟨m_1931, m_14, by decide +kernel⟩, m_1929, m_1930⟩
set_option maxHeartbeats 4000000 in
set_option maxRecDepth 100000 in
theorem c_X8_removedPoints (l : Launch) (V : Nat → Nat) (g : GH) (D : va_G) (cT : Nat → ClassId) (f : GH) (n : Nat) (a0 : Nat) (o : Int32 × GH) (hq : p_X8_removedPoints V g f a0 = some o) : Met l yX8_removedPoints (Cond.code yX8_removedPoints cX8_removedPoints 1 (some .int) :: g_B) rm_X8_removedPoints (va_Pc [.ref a0] (g_I V g D cT f n)) (g_Wi V D cT o.1 o.2 n) 0 0 (g_A V) := by
  refine g_begin (own := RX8) [.ref a0] [(0, .ref a0)] (g_A V) (fun _ h => h) (by decide) rfl (Nat.le_of_ble_eq_true rfl) rfl ?_
  intro p e s m args below meth c hx hb hr hlocks hin hC hI ls hl
  obtain ⟨hx, hb, hml, hown, hB⟩ := id hC
  obtain ⟨H, hH⟩ : ∃ H, H = s.heap := ⟨_, rfl⟩
  obtain ⟨locs, hlocs⟩ : ∃ L : List Loc, L = [] := ⟨_, rfl⟩
  rw [← hH, ← hlocs] at hI ⊢
  clear hH hlocs
  unfold p_X8_removedPoints at hq
  replace hq := (h_me_eq hq).2
  refine lv_aload_n hx hb dX8_removedPoints_0 rfl (lv_at hl 0 rfl) ?_
  refine lv_iconst (v := (0 : Int32)) hx hb dX8_removedPoints_1 (by decide) ?_
  obtain ⟨f1, ef1, hq⟩ := b_s hq
  refine fa_pt (own := RX8) (ref := "CoastlineRulerModel") (k := 7) hx hb hB inB_RX8 tyX8_ok nmX8 hown hI rfl (by decide) m_1538 (fun _ h9 => h9) (by decide) rfl rfl ef1 dX8_removedPoints_2 (fun H locs hI => ?_)
  refine lv_aload_n hx hb dX8_removedPoints_5 rfl (lv_at hl 0 rfl) ?_
  obtain ⟨v2, ev2, hq⟩ := b_s hq
  refine fa_gr (own := RX8) (ref := "CoastlineRulerModel") (k := 5) hx hb hB inB_RX8 hown hI rfl (by decide) m_1536 (fun _ h9 => h9) ev2 dX8_removedPoints_6 ?_
  refine lv_iconst (v := (4 : Int32)) hx hb dX8_removedPoints_9 (by decide) ?_
  obtain ⟨v3, ev3, hq⟩ := b_s hq
  refine fa_li hx hb hI ev3 dX8_removedPoints_10 ?_
  exact ge_Wi hx hb hlocks hr rfl hI (congrArg (fun z => z.1) (Option.some.inj hq)) (congrArg (fun z => z.2) (Option.some.inj hq)) dX8_removedPoints_11

abbrev rm_X8_ledgerGap : Room := { frames := 5, cells := 0, slots := 0, locals := 183 }
theorem k_X8_ledgerGap : g_CV yX8_ledgerGap cX8_ledgerGap 1 (some .int) 0 := ⟨⟨m_1935, m_14, by decide +kernel⟩, m_1933, m_1934⟩
set_option maxHeartbeats 4000000 in
set_option maxRecDepth 100000 in
theorem c_X8_ledgerGap (l : Launch) (V : Nat → Nat) (g : GH) (D : va_G) (cT : Nat → ClassId) (f : GH) (n : Nat) (a0 : Nat) (o : Int32 × GH) (hq : p_X8_ledgerGap V g f a0 = some o) : Met l yX8_ledgerGap (Cond.code yX8_ledgerGap cX8_ledgerGap 1 (some .int) :: g_B) rm_X8_ledgerGap (va_Pc [.ref a0] (g_I V g D cT f n)) (g_Wi V D cT o.1 o.2 n) 0 0 (g_A V) := by
  refine g_begin (own := RX8) [.ref a0] [(0, .ref a0)] (g_A V) (fun _ h => h) (by decide) rfl (Nat.le_of_ble_eq_true rfl) rfl ?_
  intro p e s m args below meth c hx hb hr hlocks hin hC hI ls hl
  obtain ⟨hx, hb, hml, hown, hB⟩ := id hC
  obtain ⟨H, hH⟩ : ∃ H, H = s.heap := ⟨_, rfl⟩
  obtain ⟨locs, hlocs⟩ : ∃ L : List Loc, L = [] := ⟨_, rfl⟩
  rw [← hH, ← hlocs] at hI ⊢
  clear hH hlocs
  unfold p_X8_ledgerGap at hq
  replace hq := (h_me_eq hq).2
  refine lv_aload_n hx hb dX8_ledgerGap_0 rfl (lv_at hl 0 rfl) ?_
  refine lv_iconst (v := (0 : Int32)) hx hb dX8_ledgerGap_1 (by decide) ?_
  obtain ⟨f1, ef1, hq⟩ := b_s hq
  refine fa_pt (own := RX8) (ref := "CoastlineRulerModel") (k := 7) hx hb hB inB_RX8 tyX8_ok nmX8 hown hI rfl (by decide) m_1538 (fun _ h9 => h9) (by decide) rfl rfl ef1 dX8_ledgerGap_2 (fun H locs hI => ?_)
  refine lv_aload_n hx hb dX8_ledgerGap_5 rfl (lv_at hl 0 rfl) ?_
  obtain ⟨v2, ev2, hq⟩ := b_s hq
  refine fa_gr (own := RX8) (ref := "CoastlineRulerModel") (k := 5) hx hb hB inB_RX8 hown hI rfl (by decide) m_1536 (fun _ h9 => h9) ev2 dX8_ledgerGap_6 ?_
  refine lv_iconst (v := (2 : Int32)) hx hb dX8_ledgerGap_9 (by decide) ?_
  obtain ⟨v3, ev3, hq⟩ := b_s hq
  refine fa_li hx hb hI ev3 dX8_ledgerGap_10 ?_
  refine lv_aload_n hx hb dX8_ledgerGap_11 rfl (lv_at hl 0 rfl) ?_
  obtain ⟨v4, ev4, hq⟩ := b_s hq
  refine fa_gr (own := RX8) (ref := "CoastlineRulerModel") (k := 5) hx hb hB inB_RX8 hown hI rfl (by decide) m_1536 (fun _ h9 => h9) ev4 dX8_ledgerGap_12 ?_
  refine lv_iconst (v := (3 : Int32)) hx hb dX8_ledgerGap_15 (by decide) ?_
  obtain ⟨v5, ev5, hq⟩ := b_s hq
  refine fa_li hx hb hI ev5 dX8_ledgerGap_16 ?_
  refine lv_iadd hx hb dX8_ledgerGap_17 ?_
  refine lv_aload_n hx hb dX8_ledgerGap_18 rfl (lv_at hl 0 rfl) ?_
  obtain ⟨v6, ev6, hq⟩ := b_s hq
  refine fa_gr (own := RX8) (ref := "CoastlineRulerModel") (k := 5) hx hb hB inB_RX8 hown hI rfl (by decide) m_1536 (fun _ h9 => h9) ev6 dX8_ledgerGap_19 ?_
  refine lv_iconst (v := (4 : Int32)) hx hb dX8_ledgerGap_22 (by decide) ?_
  obtain ⟨v7, ev7, hq⟩ := b_s hq
  refine fa_li hx hb hI ev7 dX8_ledgerGap_23 ?_
  refine lv_isub hx hb dX8_ledgerGap_24 ?_
  refine lv_aload_n hx hb dX8_ledgerGap_25 rfl (lv_at hl 0 rfl) ?_
  obtain ⟨v8, ev8, hq⟩ := b_s hq
  refine gr_i (g_runV (As := []) (rest := [.int ((v3 + v5) - v7)]) (ci := 10) hC (c_X8_allPoints l V g D cT f1 n a0 v8 ev8) k_X8_allPoints m_1523 rfl rfl ⟨Nat.le_of_ble_eq_true rfl, Nat.le_of_ble_eq_true rfl⟩ hI rfl rfl (h_me_eq ev8).1 rfl hl.1 rfl (Nat.le_of_ble_eq_true rfl) dX8_ledgerGap_26 ⟨by decide, by decide⟩) hI (fun H locs hI => ?_)
  refine lv_isub hx hb dX8_ledgerGap_29 ?_
  obtain ⟨v9, ev9, hq⟩ := b_s hq
  refine gr_i (g_runS (As := [.int (((v3 + v5) - v7) - v8)]) (rest := []) hC (c_X8_sizeOf l V g D cT f1 n (((v3 + v5) - v7) - v8) v9 ev9) k_X8_sizeOf m_1680 rfl rfl ⟨Nat.le_of_ble_eq_true rfl, Nat.le_of_ble_eq_true rfl⟩ hI rfl hl.1 rfl (Nat.le_of_ble_eq_true rfl) dX8_ledgerGap_30 ⟨by decide, by decide⟩) hI (fun H locs hI => ?_)
  exact ge_Wi hx hb hlocks hr rfl hI (congrArg (fun z => z.1) (Option.some.inj hq)) (congrArg (fun z => z.2) (Option.some.inj hq)) dX8_ledgerGap_33

abbrev rm_X8_doRemove : Room := { frames := 4, cells := 0, slots := 0, locals := 163 }
theorem k_X8_doRemove : g_CV yX8_doRemove cX8_doRemove 3 (some .int) 1 := ⟨⟨m_1950, m_14, by decide +kernel⟩, m_1949, ms_60⟩
set_option maxHeartbeats 4000000 in
set_option maxRecDepth 100000 in
theorem c_X8_doRemove (l : Launch) (V : Nat → Nat) (g : GH) (D : va_G) (cT : Nat → ClassId) (f : GH) (n : Nat) (a0 : Nat) (a1 : Int32) (o : Int32 × GH) (hq : p_X8_doRemove V g f a0 a1 = some o) : Met l yX8_doRemove (Cond.code yX8_doRemove cX8_doRemove 3 (some .int) :: g_B) rm_X8_doRemove (va_Pc [.ref a0, .int a1] (g_I V g D cT f n)) (g_Wi V D cT o.1 o.2 n) 0 0 (g_A V) := by
  refine g_begin (own := RX8) [.ref a0, .int a1] [(0, .ref a0), (1, .int a1)] (g_A V) (fun _ h => h) (by decide) rfl (Nat.le_of_ble_eq_true rfl) rfl ?_
  intro p e s m args below meth c hx hb hr hlocks hin hC hI ls hl
  obtain ⟨hx, hb, hml, hown, hB⟩ := id hC
  obtain ⟨H, hH⟩ : ∃ H, H = s.heap := ⟨_, rfl⟩
  obtain ⟨locs, hlocs⟩ : ∃ L : List Loc, L = [] := ⟨_, rfl⟩
  rw [← hH, ← hlocs] at hI ⊢
  clear hH hlocs
  unfold p_X8_doRemove at hq
  replace hq := (h_me_eq hq).2
  refine lv_aload_n hx hb dX8_doRemove_0 rfl (lv_at hl 0 rfl) ?_
  refine lv_iload_n hx hb dX8_doRemove_1 rfl (lv_at hl 1 rfl) ?_
  obtain ⟨v1, ev1, hq⟩ := b_s hq
  refine gr_i (g_runV (As := [.int a1]) (rest := []) (ci := 10) hC (c_X8_isCoast l V g D cT f n a0 a1 v1 ev1) k_X8_isCoast m_1630 rfl rfl ⟨Nat.le_of_ble_eq_true rfl, Nat.le_of_ble_eq_true rfl⟩ hI rfl rfl (h_me_eq ev1).1 rfl hl.1 rfl (Nat.le_of_ble_eq_true rfl) dX8_doRemove_2 ⟨by decide, by decide⟩) hI (fun H locs hI => ?_)
  refine lv_if_ne (tgt := 10) hx hb dX8_doRemove_5 (by decide) (fun c2 => ?_) (fun c2 => ?_)
  · replace hq := i_f c2 hq
    refine lv_aload_n hx hb dX8_doRemove_10 rfl (lv_at hl 0 rfl) ?_
    obtain ⟨v3, ev3, hq⟩ := b_s hq
    refine fa_gr (own := RX8) (ref := "CoastlineRulerModel") (k := 5) hx hb hB inB_RX8 hown hI rfl (by decide) m_1536 (fun _ h9 => h9) ev3 dX8_doRemove_11 ?_
    refine lv_iconst (v := (4 : Int32)) hx hb dX8_doRemove_14 (by decide) ?_
    refine lv_dup2_11 hx hb dX8_doRemove_15 rfl rfl ?_
    obtain ⟨v4, ev4, hq⟩ := b_s hq
    refine fa_li hx hb hI ev4 dX8_doRemove_16 ?_
    refine lv_aload_n hx hb dX8_doRemove_17 rfl (lv_at hl 0 rfl) ?_
    refine lv_iload_n hx hb dX8_doRemove_18 rfl (lv_at hl 1 rfl) ?_
    obtain ⟨v5, ev5, hq⟩ := b_s hq
    refine gr_i (g_runV (As := [.int a1]) (rest := [.int v4, .int (4 : Int32), .ref v3]) (ci := 10) hC (c_X8_count l V g D cT f n a0 a1 v5 ev5) k_X8_count m_1527 rfl rfl ⟨Nat.le_of_ble_eq_true rfl, Nat.le_of_ble_eq_true rfl⟩ hI rfl rfl (h_me_eq ev5).1 rfl hl.1 rfl (Nat.le_of_ble_eq_true rfl) dX8_doRemove_19 ⟨by decide, by decide⟩) hI (fun H locs hI => ?_)
    refine lv_iadd hx hb dX8_doRemove_22 ?_
    obtain ⟨f6, ef6, hq⟩ := b_s hq
    refine fa_si hx hb hI ef6 dX8_doRemove_23 (fun H locs hI => ?_)
    refine lv_iload_n hx hb dX8_doRemove_24 rfl (lv_at hl 1 rfl) ?_
    refine lv_iconst (v := (1 : Int32)) hx hb dX8_doRemove_25 (by decide) ?_
    refine lv_iadd hx hb dX8_doRemove_26 ?_
    refine lv_istore_n (lv' := [(2, .int (a1 + (1 : Int32))), (0, .ref a0), (1, .int a1)]) hx hb dX8_doRemove_27 rfl hl (by decide) rfl (fun ls hl => ?_)
    have hl28 : ∀ (K52 : Nat → GH → Option (Int32 × GH)) (hK52 : ∀ (x0 : Nat) (f : GH) (H : Heap) (locs : List Loc) (ls : Array Slot), g_at (g_A V) V g D cT f n s H locs → lv_has ls 3 [(0, .ref x0)] → K52 x0 f = some o → W p l e rm_X8_doRemove s m args below meth c H locs 0 0 (MQ below (g_Wi V D cT o.1 o.2 n) args s 0 0 (g_A V)) (F0 m 52 ls [])) (N : Nat) (x0 : Nat) (x2 : Int32) (f : GH) (H : Heap) (locs : List Loc) (ls : Array Slot), g_at (g_A V) V g D cT f n s H locs → lv_has ls 3 [(0, .ref x0), (2, .int x2)] → p_X8_doRemove_l28 V g K52 N x0 x2 f = some o → W p l e rm_X8_doRemove s m args below meth c H locs 0 0 (MQ below (g_Wi V D cT o.1 o.2 n) args s 0 0 (g_A V)) (F0 m 28 ls []) := by
      intro K52 hK52 N
      induction N with
      | zero =>
        intro x0 x2 f H locs ls hI hl hq
        rw [p_X8_doRemove_l28] at hq
        cases hq
      | succ N ih =>
        intro x0 x2 f H locs ls hI hl hq
        rw [p_X8_doRemove_l28] at hq
        refine lv_iload_n hx hb dX8_doRemove_28 rfl (lv_at hl 1 rfl) ?_
        refine lv_aload_n hx hb dX8_doRemove_29 rfl (lv_at hl 0 rfl) ?_
        obtain ⟨v7, ev7, hq⟩ := b_s hq
        refine fa_gr (own := RX8) (ref := "CoastlineRulerModel") (k := 5) hx hb hB inB_RX8 hown hI rfl (by decide) m_1536 (fun _ h9 => h9) ev7 dX8_doRemove_30 ?_
        refine lv_iconst (v := (1 : Int32)) hx hb dX8_doRemove_33 (by decide) ?_
        obtain ⟨v8, ev8, hq⟩ := b_s hq
        refine fa_li hx hb hI ev8 dX8_doRemove_34 ?_
        refine lv_icmp_ge (tgt := 52) hx hb dX8_doRemove_35 (by decide) (fun c9 => ?_) (fun c9 => ?_)
        · replace hq := i_t c9 hq
          exact hK52 x0 f H locs ls hI (lv_sub hl [0] rfl) hq
        · replace hq := i_f c9 hq
          refine lv_aload_n hx hb dX8_doRemove_38 rfl (lv_at hl 0 rfl) ?_
          refine lv_iload_n hx hb dX8_doRemove_39 rfl (lv_at hl 1 rfl) ?_
          refine lv_iload_n hx hb dX8_doRemove_40 rfl (lv_at hl 1 rfl) ?_
          refine lv_iconst (v := (1 : Int32)) hx hb dX8_doRemove_41 (by decide) ?_
          refine lv_isub hx hb dX8_doRemove_42 ?_
          obtain ⟨v10, ev10, hq⟩ := b_s hq
          refine gw_v (g_runV (As := [.int x2, .int (x2 - (1 : Int32))]) (rest := []) (ci := 10) hC (c_X8_copyCoast l V g D cT f n x0 x2 (x2 - (1 : Int32)) v10 ev10) k_X8_copyCoast m_1904 rfl rfl ⟨Nat.le_of_ble_eq_true rfl, Nat.le_of_ble_eq_true rfl⟩ hI rfl rfl (h_me_eq ev10).1 rfl hl.1 rfl (Nat.le_of_ble_eq_true rfl) dX8_doRemove_43 ⟨by decide, by decide⟩) hI (fun H locs hI => ?_)
          refine lv_iinc (v := x2 + (1 : Int32)) (lv' := [(2, .int (x2 + (1 : Int32))), (0, .ref x0)]) hx hb dX8_doRemove_46 hl (k := 1) rfl rfl (by decide) rfl (fun ls hl => ?_)
          refine lv_goto (tgt := 28) hx hb dX8_doRemove_49 (by decide) ?_
          exact ih x0 (x2 + (1 : Int32)) v10 H locs ls hI (lv_sub hl [1, 0] rfl) hq
    refine hl28 _ ?_ FU a0 (a1 + (1 : Int32)) f6 H locs ls hI (lv_sub hl [1, 0] rfl) hq
    · intro x0 f H locs ls hI hl hq
      refine lv_aload_n hx hb dX8_doRemove_52 rfl (lv_at hl 0 rfl) ?_
      obtain ⟨v11, ev11, hq⟩ := b_s hq
      refine fa_gr (own := RX8) (ref := "CoastlineRulerModel") (k := 5) hx hb hB inB_RX8 hown hI rfl (by decide) m_1536 (fun _ h9 => h9) ev11 dX8_doRemove_53 ?_
      refine lv_iconst (v := (1 : Int32)) hx hb dX8_doRemove_56 (by decide) ?_
      refine lv_dup2_11 hx hb dX8_doRemove_57 rfl rfl ?_
      obtain ⟨v12, ev12, hq⟩ := b_s hq
      refine fa_li hx hb hI ev12 dX8_doRemove_58 ?_
      refine lv_iconst (v := (1 : Int32)) hx hb dX8_doRemove_59 (by decide) ?_
      refine lv_isub hx hb dX8_doRemove_60 ?_
      obtain ⟨f13, ef13, hq⟩ := b_s hq
      refine fa_si hx hb hI ef13 dX8_doRemove_61 (fun H locs hI => ?_)
      refine lv_iconst (v := (0 : Int32)) hx hb dX8_doRemove_62 (by decide) ?_
      exact ge_Wi hx hb hlocks hr rfl hI (congrArg (fun z => z.1) (Option.some.inj hq)) (congrArg (fun z => z.2) (Option.some.inj hq)) dX8_doRemove_63
  · replace hq := i_t c2 hq
    refine lv_iconst (v := (1 : Int32)) hx hb dX8_doRemove_8 (by decide) ?_
    exact ge_Wi hx hb hlocks hr rfl hI (congrArg (fun z => z.1) (Option.some.inj hq)) (congrArg (fun z => z.2) (Option.some.inj hq)) dX8_doRemove_9

abbrev rm_X8_doFold : Room := { frames := 7, cells := 0, slots := 0, locals := 238 }
theorem k_X8_doFold : g_CV yX8_doFold cX8_doFold 3 (some .int) 2 := ⟨⟨m_1966, m_14, by decide +kernel⟩, m_1965, ms_63⟩
set_option maxHeartbeats 4000000 in
set_option maxRecDepth 100000 in
theorem c_X8_doFold (l : Launch) (V : Nat → Nat) (g : GH) (D : va_G) (cT : Nat → ClassId) (f : GH) (n : Nat) (a0 : Nat) (a1 : Int32) (a2 : Int32) (o : Int32 × GH) (hq : p_X8_doFold V g f a0 a1 a2 = some o) : Met l yX8_doFold (Cond.code yX8_doFold cX8_doFold 3 (some .int) :: g_B) rm_X8_doFold (va_Pc [.ref a0, .int a1, .int a2] (g_I V g D cT f n)) (g_Wi V D cT o.1 o.2 n) 0 0 (g_A V) := by
  refine g_begin (own := RX8) [.ref a0, .int a1, .int a2] [(0, .ref a0), (1, .int a1), (2, .int a2)] (g_A V) (fun _ h => h) (by decide) rfl (Nat.le_of_ble_eq_true rfl) rfl ?_
  intro p e s m args below meth c hx hb hr hlocks hin hC hI ls hl
  obtain ⟨hx, hb, hml, hown, hB⟩ := id hC
  obtain ⟨H, hH⟩ : ∃ H, H = s.heap := ⟨_, rfl⟩
  obtain ⟨locs, hlocs⟩ : ∃ L : List Loc, L = [] := ⟨_, rfl⟩
  rw [← hH, ← hlocs] at hI ⊢
  clear hH hlocs
  unfold p_X8_doFold at hq
  replace hq := (h_me_eq hq).2
  refine lv_aload_n hx hb dX8_doFold_0 rfl (lv_at hl 0 rfl) ?_
  refine lv_iload_n hx hb dX8_doFold_1 rfl (lv_at hl 1 rfl) ?_
  obtain ⟨v1, ev1, hq⟩ := b_s hq
  refine gr_i (g_runV (As := [.int a1]) (rest := []) (ci := 10) hC (c_X8_isCoast l V g D cT f n a0 a1 v1 ev1) k_X8_isCoast m_1630 rfl rfl ⟨Nat.le_of_ble_eq_true rfl, Nat.le_of_ble_eq_true rfl⟩ hI rfl rfl (h_me_eq ev1).1 rfl hl.1 rfl (Nat.le_of_ble_eq_true rfl) dX8_doFold_2 ⟨by decide, by decide⟩) hI (fun H locs hI => ?_)
  refine lv_if_ne (tgt := 10) hx hb dX8_doFold_5 (by decide) (fun c2 => ?_) (fun c2 => ?_)
  · replace hq := i_f c2 hq
    refine lv_aload_n hx hb dX8_doFold_10 rfl (lv_at hl 0 rfl) ?_
    refine lv_iload_n hx hb dX8_doFold_11 rfl (lv_at hl 1 rfl) ?_
    refine lv_iload_n hx hb dX8_doFold_12 rfl (lv_at hl 2 rfl) ?_
    obtain ⟨v3, ev3, hq⟩ := b_s hq
    refine gw_i (g_runV (As := [.int a1, .int a2]) (rest := []) (ci := 10) hC (c_X8_layFolded l V g D cT f n a0 a1 a2 v3 ev3) k_X8_layFolded m_1872 rfl rfl ⟨Nat.le_of_ble_eq_true rfl, Nat.le_of_ble_eq_true rfl⟩ hI rfl rfl (h_me_eq ev3).1 rfl hl.1 rfl (Nat.le_of_ble_eq_true rfl) dX8_doFold_13 ⟨by decide, by decide⟩) hI (fun H locs hI => ?_)
    refine lv_if_eq (tgt := 21) hx hb dX8_doFold_16 (by decide) (fun c4 => ?_) (fun c4 => ?_)
    · replace hq := i_t c4 hq
      refine lv_aload_n hx hb dX8_doFold_21 rfl (lv_at hl 0 rfl) ?_
      obtain ⟨v5, ev5, hq⟩ := b_s hq
      refine fa_gr (own := RX8) (ref := "CoastlineRulerModel") (k := 5) hx hb hB inB_RX8 hown hI rfl (by decide) m_1536 (fun _ h9 => h9) ev5 dX8_doFold_22 ?_
      refine lv_iconst (v := (3 : Int32)) hx hb dX8_doFold_25 (by decide) ?_
      refine lv_dup2_11 hx hb dX8_doFold_26 rfl rfl ?_
      obtain ⟨v6, ev6, hq⟩ := b_s hq
      refine fa_li hx hb hI ev6 dX8_doFold_27 ?_
      refine lv_aload_n hx hb dX8_doFold_28 rfl (lv_at hl 0 rfl) ?_
      refine lv_bipush (v := (6 : Int32)) hx hb dX8_doFold_29 (by decide) ?_
      obtain ⟨v7, ev7, hq⟩ := b_s hq
      refine gr_i (g_runV (As := [.int (6 : Int32)]) (rest := [.int v6, .int (3 : Int32), .ref v5]) (ci := 10) hC (c_X8_count l V g D cT v3.2 n a0 (6 : Int32) v7 ev7) k_X8_count m_1527 rfl rfl ⟨Nat.le_of_ble_eq_true rfl, Nat.le_of_ble_eq_true rfl⟩ hI rfl rfl (h_me_eq ev7).1 rfl hl.1 rfl (Nat.le_of_ble_eq_true rfl) dX8_doFold_31 ⟨by decide, by decide⟩) hI (fun H locs hI => ?_)
      refine lv_aload_n hx hb dX8_doFold_34 rfl (lv_at hl 0 rfl) ?_
      refine lv_iload_n hx hb dX8_doFold_35 rfl (lv_at hl 1 rfl) ?_
      obtain ⟨v8, ev8, hq⟩ := b_s hq
      refine gr_i (g_runV (As := [.int a1]) (rest := [.int v7, .int v6, .int (3 : Int32), .ref v5]) (ci := 10) hC (c_X8_count l V g D cT v3.2 n a0 a1 v8 ev8) k_X8_count m_1527 rfl rfl ⟨Nat.le_of_ble_eq_true rfl, Nat.le_of_ble_eq_true rfl⟩ hI rfl rfl (h_me_eq ev8).1 rfl hl.1 rfl (Nat.le_of_ble_eq_true rfl) dX8_doFold_36 ⟨by decide, by decide⟩) hI (fun H locs hI => ?_)
      refine lv_isub hx hb dX8_doFold_39 ?_
      refine lv_iadd hx hb dX8_doFold_40 ?_
      obtain ⟨f9, ef9, hq⟩ := b_s hq
      refine fa_si hx hb hI ef9 dX8_doFold_41 (fun H locs hI => ?_)
      refine lv_aload_n hx hb dX8_doFold_42 rfl (lv_at hl 0 rfl) ?_
      refine lv_bipush (v := (6 : Int32)) hx hb dX8_doFold_43 (by decide) ?_
      refine lv_iload_n hx hb dX8_doFold_45 rfl (lv_at hl 1 rfl) ?_
      obtain ⟨v10, ev10, hq⟩ := b_s hq
      refine gw_v (g_runV (As := [.int (6 : Int32), .int a1]) (rest := []) (ci := 10) hC (c_X8_copyCoast l V g D cT f9 n a0 (6 : Int32) a1 v10 ev10) k_X8_copyCoast m_1904 rfl rfl ⟨Nat.le_of_ble_eq_true rfl, Nat.le_of_ble_eq_true rfl⟩ hI rfl rfl (h_me_eq ev10).1 rfl hl.1 rfl (Nat.le_of_ble_eq_true rfl) dX8_doFold_46 ⟨by decide, by decide⟩) hI (fun H locs hI => ?_)
      refine lv_iconst (v := (0 : Int32)) hx hb dX8_doFold_49 (by decide) ?_
      exact ge_Wi hx hb hlocks hr rfl hI (congrArg (fun z => z.1) (Option.some.inj hq)) (congrArg (fun z => z.2) (Option.some.inj hq)) dX8_doFold_50
    · replace hq := i_f c4 hq
      refine lv_iconst (v := (3 : Int32)) hx hb dX8_doFold_19 (by decide) ?_
      exact ge_Wi hx hb hlocks hr rfl hI (congrArg (fun z => z.1) (Option.some.inj hq)) (congrArg (fun z => z.2) (Option.some.inj hq)) dX8_doFold_20
  · replace hq := i_t c2 hq
    refine lv_iconst (v := (1 : Int32)) hx hb dX8_doFold_8 (by decide) ?_
    exact ge_Wi hx hb hlocks hr rfl hI (congrArg (fun z => z.1) (Option.some.inj hq)) (congrArg (fun z => z.2) (Option.some.inj hq)) dX8_doFold_9

abbrev rm_X8_doUnfold : Room := { frames := 5, cells := 0, slots := 0, locals := 182 }
theorem k_X8_doUnfold : g_CV yX8_doUnfold cX8_doUnfold 4 (some .int) 1 := ⟨⟨m_1974, m_14, by decide +kernel⟩, m_1973, ms_64⟩
set_option maxHeartbeats 4000000 in
set_option maxRecDepth 100000 in
theorem c_X8_doUnfold (l : Launch) (V : Nat → Nat) (g : GH) (D : va_G) (cT : Nat → ClassId) (f : GH) (n : Nat) (a0 : Nat) (a1 : Int32) (o : Int32 × GH) (hq : p_X8_doUnfold V g f a0 a1 = some o) : Met l yX8_doUnfold (Cond.code yX8_doUnfold cX8_doUnfold 4 (some .int) :: g_B) rm_X8_doUnfold (va_Pc [.ref a0, .int a1] (g_I V g D cT f n)) (g_Wi V D cT o.1 o.2 n) 0 0 (g_A V) := by
  refine g_begin (own := RX8) [.ref a0, .int a1] [(0, .ref a0), (1, .int a1)] (g_A V) (fun _ h => h) (by decide) rfl (Nat.le_of_ble_eq_true rfl) rfl ?_
  intro p e s m args below meth c hx hb hr hlocks hin hC hI ls hl
  obtain ⟨hx, hb, hml, hown, hB⟩ := id hC
  obtain ⟨H, hH⟩ : ∃ H, H = s.heap := ⟨_, rfl⟩
  obtain ⟨locs, hlocs⟩ : ∃ L : List Loc, L = [] := ⟨_, rfl⟩
  rw [← hH, ← hlocs] at hI ⊢
  clear hH hlocs
  unfold p_X8_doUnfold at hq
  replace hq := (h_me_eq hq).2
  refine lv_aload_n hx hb dX8_doUnfold_0 rfl (lv_at hl 0 rfl) ?_
  refine lv_iload_n hx hb dX8_doUnfold_1 rfl (lv_at hl 1 rfl) ?_
  obtain ⟨v1, ev1, hq⟩ := b_s hq
  refine gr_i (g_runV (As := [.int a1]) (rest := []) (ci := 10) hC (c_X8_isCoast l V g D cT f n a0 a1 v1 ev1) k_X8_isCoast m_1630 rfl rfl ⟨Nat.le_of_ble_eq_true rfl, Nat.le_of_ble_eq_true rfl⟩ hI rfl rfl (h_me_eq ev1).1 rfl hl.1 rfl (Nat.le_of_ble_eq_true rfl) dX8_doUnfold_2 ⟨by decide, by decide⟩) hI (fun H locs hI => ?_)
  refine lv_if_ne (tgt := 10) hx hb dX8_doUnfold_5 (by decide) (fun c2 => ?_) (fun c2 => ?_)
  · replace hq := i_f c2 hq
    refine lv_aload_n hx hb dX8_doUnfold_10 rfl (lv_at hl 0 rfl) ?_
    refine lv_iload_n hx hb dX8_doUnfold_11 rfl (lv_at hl 1 rfl) ?_
    obtain ⟨v3, ev3, hq⟩ := b_s hq
    refine gr_i (g_runV (As := [.int a1]) (rest := []) (ci := 10) hC (c_X8_count l V g D cT f n a0 a1 v3 ev3) k_X8_count m_1527 rfl rfl ⟨Nat.le_of_ble_eq_true rfl, Nat.le_of_ble_eq_true rfl⟩ hI rfl rfl (h_me_eq ev3).1 rfl hl.1 rfl (Nat.le_of_ble_eq_true rfl) dX8_doUnfold_12 ⟨by decide, by decide⟩) hI (fun H locs hI => ?_)
    refine lv_iconst (v := (1 : Int32)) hx hb dX8_doUnfold_15 (by decide) ?_
    refine lv_iadd hx hb dX8_doUnfold_16 ?_
    refine lv_iconst (v := (2 : Int32)) hx hb dX8_doUnfold_17 (by decide) ?_
    refine lv_idiv hx hb dX8_doUnfold_18 (by decide) ?_
    refine lv_istore_n (lv' := [(2, .int ((v3 + (1 : Int32)) / (2 : Int32))), (0, .ref a0), (1, .int a1)]) hx hb dX8_doUnfold_19 rfl hl (by decide) rfl (fun ls hl => ?_)
    refine lv_iload_n hx hb dX8_doUnfold_20 rfl (lv_at hl 0 rfl) ?_
    refine lv_aload_n hx hb dX8_doUnfold_21 rfl (lv_at hl 1 rfl) ?_
    refine lv_iload_n hx hb dX8_doUnfold_22 rfl (lv_at hl 2 rfl) ?_
    obtain ⟨v4, ev4, hq⟩ := b_s hq
    refine gr_i (g_runV (As := [.int a1]) (rest := [.int ((v3 + (1 : Int32)) / (2 : Int32))]) (ci := 10) hC (c_X8_fewest l V g D cT f n a0 a1 v4 ev4) k_X8_fewest m_1900 rfl rfl ⟨Nat.le_of_ble_eq_true rfl, Nat.le_of_ble_eq_true rfl⟩ hI rfl rfl (h_me_eq ev4).1 rfl hl.1 rfl (Nat.le_of_ble_eq_true rfl) dX8_doUnfold_23 ⟨by decide, by decide⟩) hI (fun H locs hI => ?_)
    refine lv_icmp_ge (tgt := 31) hx hb dX8_doUnfold_26 (by decide) (fun c5 => ?_) (fun c5 => ?_)
    · replace hq := i_t c5 hq
      refine lv_aload_n hx hb dX8_doUnfold_31 rfl (lv_at hl 1 rfl) ?_
      obtain ⟨v6, ev6, hq⟩ := b_s hq
      refine fa_gr (own := RX8) (ref := "CoastlineRulerModel") (k := 5) hx hb hB inB_RX8 hown hI rfl (by decide) m_1536 (fun _ h9 => h9) ev6 dX8_doUnfold_32 ?_
      refine lv_iconst (v := (4 : Int32)) hx hb dX8_doUnfold_35 (by decide) ?_
      refine lv_dup2_11 hx hb dX8_doUnfold_36 rfl rfl ?_
      obtain ⟨v7, ev7, hq⟩ := b_s hq
      refine fa_li hx hb hI ev7 dX8_doUnfold_37 ?_
      refine lv_aload_n hx hb dX8_doUnfold_38 rfl (lv_at hl 1 rfl) ?_
      refine lv_iload_n hx hb dX8_doUnfold_39 rfl (lv_at hl 2 rfl) ?_
      obtain ⟨v8, ev8, hq⟩ := b_s hq
      refine gr_i (g_runV (As := [.int a1]) (rest := [.int v7, .int (4 : Int32), .ref v6]) (ci := 10) hC (c_X8_count l V g D cT f n a0 a1 v8 ev8) k_X8_count m_1527 rfl rfl ⟨Nat.le_of_ble_eq_true rfl, Nat.le_of_ble_eq_true rfl⟩ hI rfl rfl (h_me_eq ev8).1 rfl hl.1 rfl (Nat.le_of_ble_eq_true rfl) dX8_doUnfold_40 ⟨by decide, by decide⟩) hI (fun H locs hI => ?_)
      refine lv_iload_n hx hb dX8_doUnfold_43 rfl (lv_at hl 0 rfl) ?_
      refine lv_isub hx hb dX8_doUnfold_44 ?_
      refine lv_iadd hx hb dX8_doUnfold_45 ?_
      obtain ⟨f9, ef9, hq⟩ := b_s hq
      refine fa_si hx hb hI ef9 dX8_doUnfold_46 (fun H locs hI => ?_)
      refine lv_iconst (v := (0 : Int32)) hx hb dX8_doUnfold_47 (by decide) ?_
      refine lv_istore_n (lv' := [(3, .int (0 : Int32)), (2, .int ((v3 + (1 : Int32)) / (2 : Int32))), (0, .ref a0), (1, .int a1)]) hx hb dX8_doUnfold_48 rfl hl (by decide) rfl (fun ls hl => ?_)
      have hl49 : ∀ (K82 : Nat → Int32 → Int32 → GH → Option (Int32 × GH)) (hK82 : ∀ (x0 : Nat) (x1 : Int32) (x2 : Int32) (f : GH) (H : Heap) (locs : List Loc) (ls : Array Slot), g_at (g_A V) V g D cT f n s H locs → lv_has ls 4 [(0, .ref x0), (1, .int x1), (2, .int x2)] → K82 x0 x1 x2 f = some o → W p l e rm_X8_doUnfold s m args below meth c H locs 0 0 (MQ below (g_Wi V D cT o.1 o.2 n) args s 0 0 (g_A V)) (F0 m 82 ls [])) (N : Nat) (x0 : Nat) (x1 : Int32) (x2 : Int32) (x3 : Int32) (f : GH) (H : Heap) (locs : List Loc) (ls : Array Slot), g_at (g_A V) V g D cT f n s H locs → lv_has ls 4 [(0, .ref x0), (1, .int x1), (2, .int x2), (3, .int x3)] → p_X8_doUnfold_l49 V g K82 N x0 x1 x2 x3 f = some o → W p l e rm_X8_doUnfold s m args below meth c H locs 0 0 (MQ below (g_Wi V D cT o.1 o.2 n) args s 0 0 (g_A V)) (F0 m 49 ls []) := by
        intro K82 hK82 N
        induction N with
        | zero =>
          intro x0 x1 x2 x3 f H locs ls hI hl hq
          rw [p_X8_doUnfold_l49] at hq
          cases hq
        | succ N ih =>
          intro x0 x1 x2 x3 f H locs ls hI hl hq
          rw [p_X8_doUnfold_l49] at hq
          refine lv_iload_n hx hb dX8_doUnfold_49 rfl (lv_at hl 3 rfl) ?_
          refine lv_iload_n hx hb dX8_doUnfold_50 rfl (lv_at hl 2 rfl) ?_
          refine lv_icmp_ge (tgt := 82) hx hb dX8_doUnfold_51 (by decide) (fun c10 => ?_) (fun c10 => ?_)
          · replace hq := i_t c10 hq
            exact hK82 x0 x1 x2 f H locs ls hI (lv_sub hl [0, 1, 2] rfl) hq
          · replace hq := i_f c10 hq
            refine lv_aload_n hx hb dX8_doUnfold_54 rfl (lv_at hl 0 rfl) ?_
            refine lv_iload_n hx hb dX8_doUnfold_55 rfl (lv_at hl 1 rfl) ?_
            refine lv_iload_n hx hb dX8_doUnfold_56 rfl (lv_at hl 3 rfl) ?_
            refine lv_aload_n hx hb dX8_doUnfold_57 rfl (lv_at hl 0 rfl) ?_
            refine lv_iload_n hx hb dX8_doUnfold_58 rfl (lv_at hl 1 rfl) ?_
            refine lv_iconst (v := (2 : Int32)) hx hb dX8_doUnfold_59 (by decide) ?_
            refine lv_iload_n hx hb dX8_doUnfold_60 rfl (lv_at hl 3 rfl) ?_
            refine lv_imul hx hb dX8_doUnfold_61 ?_
            obtain ⟨v11, ev11, hq⟩ := b_s hq
            refine gr_i (g_runV (As := [.int x1, .int ((2 : Int32) * x3)]) (rest := [.int x3, .int x1, .ref x0]) (ci := 10) hC (c_X8_x l V g D cT f n x0 x1 ((2 : Int32) * x3) v11 ev11) k_X8_x m_1657 rfl rfl ⟨Nat.le_of_ble_eq_true rfl, Nat.le_of_ble_eq_true rfl⟩ hI rfl rfl (h_me_eq ev11).1 rfl hl.1 rfl (Nat.le_of_ble_eq_true rfl) dX8_doUnfold_62 ⟨by decide, by decide⟩) hI (fun H locs hI => ?_)
            refine lv_aload_n hx hb dX8_doUnfold_65 rfl (lv_at hl 0 rfl) ?_
            refine lv_iload_n hx hb dX8_doUnfold_66 rfl (lv_at hl 1 rfl) ?_
            refine lv_iconst (v := (2 : Int32)) hx hb dX8_doUnfold_67 (by decide) ?_
            refine lv_iload_n hx hb dX8_doUnfold_68 rfl (lv_at hl 3 rfl) ?_
            refine lv_imul hx hb dX8_doUnfold_69 ?_
            obtain ⟨v12, ev12, hq⟩ := b_s hq
            refine gr_i (g_runV (As := [.int x1, .int ((2 : Int32) * x3)]) (rest := [.int v11, .int x3, .int x1, .ref x0]) (ci := 10) hC (c_X8_y l V g D cT f n x0 x1 ((2 : Int32) * x3) v12 ev12) k_X8_y m_1665 rfl rfl ⟨Nat.le_of_ble_eq_true rfl, Nat.le_of_ble_eq_true rfl⟩ hI rfl rfl (h_me_eq ev12).1 rfl hl.1 rfl (Nat.le_of_ble_eq_true rfl) dX8_doUnfold_70 ⟨by decide, by decide⟩) hI (fun H locs hI => ?_)
            obtain ⟨v13, ev13, hq⟩ := b_s hq
            refine gw_v (g_runV (As := [.int x1, .int x3, .int v11, .int v12]) (rest := []) (ci := 10) hC (c_X8_layPoint l V g D cT f n x0 x1 x3 v11 v12 v13 ev13) k_X8_layPoint m_1880 rfl rfl ⟨Nat.le_of_ble_eq_true rfl, Nat.le_of_ble_eq_true rfl⟩ hI rfl rfl (h_me_eq ev13).1 rfl hl.1 rfl (Nat.le_of_ble_eq_true rfl) dX8_doUnfold_73 ⟨by decide, by decide⟩) hI (fun H locs hI => ?_)
            refine lv_iinc (v := x3 + (1 : Int32)) (lv' := [(3, .int (x3 + (1 : Int32))), (0, .ref x0), (1, .int x1), (2, .int x2)]) hx hb dX8_doUnfold_76 hl (k := 3) rfl rfl (by decide) rfl (fun ls hl => ?_)
            refine lv_goto (tgt := 49) hx hb dX8_doUnfold_79 (by decide) ?_
            exact ih x0 x1 x2 (x3 + (1 : Int32)) v13 H locs ls hI (lv_sub hl [1, 2, 3, 0] rfl) hq
      refine hl49 _ ?_ FU a0 a1 ((v3 + (1 : Int32)) / (2 : Int32)) (0 : Int32) f9 H locs ls hI (lv_sub hl [2, 3, 1, 0] rfl) hq
      · intro x0 x1 x2 f H locs ls hI hl hq
        refine lv_aload_n hx hb dX8_doUnfold_82 rfl (lv_at hl 0 rfl) ?_
        obtain ⟨v14, ev14, hq⟩ := b_s hq
        refine fa_gr (own := RX8) (ref := "CoastlineRulerModel") (k := 5) hx hb hB inB_RX8 hown hI rfl (by decide) m_1536 (fun _ h9 => h9) ev14 dX8_doUnfold_83 ?_
        refine lv_iload_n hx hb dX8_doUnfold_86 rfl (lv_at hl 1 rfl) ?_
        obtain ⟨v15, ev15, hq⟩ := b_s hq
        refine gr_i (g_runS (As := [.int x1]) (rest := [.ref v14]) hC (c_X8_at l V g D cT f n x1 v15 ev15) k_X8_at m_1515 rfl rfl ⟨Nat.le_of_ble_eq_true rfl, Nat.le_of_ble_eq_true rfl⟩ hI rfl hl.1 rfl (Nat.le_of_ble_eq_true rfl) dX8_doUnfold_87 ⟨by decide, by decide⟩) hI (fun H locs hI => ?_)
        refine lv_iconst (v := (1 : Int32)) hx hb dX8_doUnfold_90 (by decide) ?_
        refine lv_iadd hx hb dX8_doUnfold_91 ?_
        refine lv_iload_n hx hb dX8_doUnfold_92 rfl (lv_at hl 2 rfl) ?_
        obtain ⟨f16, ef16, hq⟩ := b_s hq
        refine fa_si hx hb hI ef16 dX8_doUnfold_93 (fun H locs hI => ?_)
        refine lv_iconst (v := (0 : Int32)) hx hb dX8_doUnfold_94 (by decide) ?_
        exact ge_Wi hx hb hlocks hr rfl hI (congrArg (fun z => z.1) (Option.some.inj hq)) (congrArg (fun z => z.2) (Option.some.inj hq)) dX8_doUnfold_95
    · replace hq := i_f c5 hq
      refine lv_iconst (v := (2 : Int32)) hx hb dX8_doUnfold_29 (by decide) ?_
      exact ge_Wi hx hb hlocks hr rfl hI (congrArg (fun z => z.1) (Option.some.inj hq)) (congrArg (fun z => z.2) (Option.some.inj hq)) dX8_doUnfold_30
  · replace hq := i_t c2 hq
    refine lv_iconst (v := (1 : Int32)) hx hb dX8_doUnfold_8 (by decide) ?_
    exact ge_Wi hx hb hlocks hr rfl hI (congrArg (fun z => z.1) (Option.some.inj hq)) (congrArg (fun z => z.2) (Option.some.inj hq)) dX8_doUnfold_9

abbrev rm_X8_doMove : Room := { frames := 5, cells := 0, slots := 0, locals := 185 }
theorem k_X8_doMove : g_CV yX8_doMove cX8_doMove 5 (some .int) 4 := ⟨⟨m_1982, m_14, by decide +kernel⟩, m_1981, ms_65⟩
set_option maxHeartbeats 4000000 in
set_option maxRecDepth 100000 in
theorem c_X8_doMove (l : Launch) (V : Nat → Nat) (g : GH) (D : va_G) (cT : Nat → ClassId) (f : GH) (n : Nat) (a0 : Nat) (a1 : Int32) (a2 : Int32) (a3 : Int32) (a4 : Int32) (o : Int32 × GH) (hq : p_X8_doMove V g f a0 a1 a2 a3 a4 = some o) : Met l yX8_doMove (Cond.code yX8_doMove cX8_doMove 5 (some .int) :: g_B) rm_X8_doMove (va_Pc [.ref a0, .int a1, .int a2, .int a3, .int a4] (g_I V g D cT f n)) (g_Wi V D cT o.1 o.2 n) 0 0 (g_A V) := by
  refine g_begin (own := RX8) [.ref a0, .int a1, .int a2, .int a3, .int a4] [(0, .ref a0), (1, .int a1), (2, .int a2), (3, .int a3), (4, .int a4)] (g_A V) (fun _ h => h) (by decide) rfl (Nat.le_of_ble_eq_true rfl) rfl ?_
  intro p e s m args below meth c hx hb hr hlocks hin hC hI ls hl
  obtain ⟨hx, hb, hml, hown, hB⟩ := id hC
  obtain ⟨H, hH⟩ : ∃ H, H = s.heap := ⟨_, rfl⟩
  obtain ⟨locs, hlocs⟩ : ∃ L : List Loc, L = [] := ⟨_, rfl⟩
  rw [← hH, ← hlocs] at hI ⊢
  clear hH hlocs
  unfold p_X8_doMove at hq
  replace hq := (h_me_eq hq).2
  refine lv_aload_n hx hb dX8_doMove_0 rfl (lv_at hl 0 rfl) ?_
  refine lv_iload_n hx hb dX8_doMove_1 rfl (lv_at hl 1 rfl) ?_
  refine lv_iload_n hx hb dX8_doMove_2 rfl (lv_at hl 2 rfl) ?_
  obtain ⟨v1, ev1, hq⟩ := b_s hq
  refine gr_i (g_runV (As := [.int a1, .int a2]) (rest := []) (ci := 10) hC (c_X8_isPoint l V g D cT f n a0 a1 a2 v1 ev1) k_X8_isPoint m_1653 rfl rfl ⟨Nat.le_of_ble_eq_true rfl, Nat.le_of_ble_eq_true rfl⟩ hI rfl rfl (h_me_eq ev1).1 rfl hl.1 rfl (Nat.le_of_ble_eq_true rfl) dX8_doMove_3 ⟨by decide, by decide⟩) hI (fun H locs hI => ?_)
  refine lv_if_ne (tgt := 11) hx hb dX8_doMove_6 (by decide) (fun c2 => ?_) (fun c2 => ?_)
  · replace hq := i_f c2 hq
    refine lv_aload_n hx hb dX8_doMove_11 rfl (lv_at hl 0 rfl) ?_
    refine lv_iload_n hx hb dX8_doMove_12 rfl (lv_at hl 1 rfl) ?_
    refine lv_iload_n hx hb dX8_doMove_13 rfl (lv_at hl 2 rfl) ?_
    refine lv_iload_n hx hb dX8_doMove_14 rfl (lv_at hl 3 rfl) ?_
    refine lv_iload hx hb dX8_doMove_15 (lv_at hl 4 rfl) ?_
    obtain ⟨v3, ev3, hq⟩ := b_s hq
    refine gw_v (g_runV (As := [.int a1, .int a2, .int a3, .int a4]) (rest := []) (ci := 10) hC (c_X8_layPoint l V g D cT f n a0 a1 a2 a3 a4 v3 ev3) k_X8_layPoint m_1880 rfl rfl ⟨Nat.le_of_ble_eq_true rfl, Nat.le_of_ble_eq_true rfl⟩ hI rfl rfl (h_me_eq ev3).1 rfl hl.1 rfl (Nat.le_of_ble_eq_true rfl) dX8_doMove_17 ⟨by decide, by decide⟩) hI (fun H locs hI => ?_)
    refine lv_iconst (v := (0 : Int32)) hx hb dX8_doMove_20 (by decide) ?_
    exact ge_Wi hx hb hlocks hr rfl hI (congrArg (fun z => z.1) (Option.some.inj hq)) (congrArg (fun z => z.2) (Option.some.inj hq)) dX8_doMove_21
  · replace hq := i_t c2 hq
    refine lv_iconst (v := (1 : Int32)) hx hb dX8_doMove_9 (by decide) ?_
    exact ge_Wi hx hb hlocks hr rfl hI (congrArg (fun z => z.1) (Option.some.inj hq)) (congrArg (fun z => z.2) (Option.some.inj hq)) dX8_doMove_10


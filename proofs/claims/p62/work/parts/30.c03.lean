abbrev rm_X2_measureWithout : Room := { frames := 7, cells := 0, slots := 0, locals := 238 }
theorem k_X2_measureWithout : g_CV yX2_measureWithout cX2_measureWithout 8 (some .int) 2 := ⟨⟨m_820, m_3, by decide +kernel⟩, m_818, m_819⟩
set_option maxHeartbeats 4000000 in
set_option maxRecDepth 100000 in
theorem c_X2_measureWithout (l : Launch) (V : Nat → Nat) (g : GH) (D : va_G) (cT : Nat → ClassId) (f : GH) (n : Nat) (a0 : Nat) (a1 : Int32) (a2 : Int32) (o : Int32) (hq : p_X2_measureWithout V g f a0 a1 a2 = some o) : Met l yX2_measureWithout (Cond.code yX2_measureWithout cX2_measureWithout 8 (some .int) :: g_B) rm_X2_measureWithout (va_Pc [.ref a0, .int a1, .int a2] (g_I V g D cT f n)) (g_Ri o n) 0 0 g_no := by
  refine g_begin (own := RX2) [.ref a0, .int a1, .int a2] [(0, .ref a0), (1, .int a1), (2, .int a2)] g_no (fun _ h => h.elim) (by decide) rfl (Nat.le_of_ble_eq_true rfl) rfl ?_
  intro p e s m args below meth c hx hb hr hlocks hin hC hI ls hl
  obtain ⟨hx, hb, hml, hown, hB⟩ := id hC
  obtain ⟨H, hH⟩ : ∃ H, H = s.heap := ⟨_, rfl⟩
  obtain ⟨locs, hlocs⟩ : ∃ L : List Loc, L = [] := ⟨_, rfl⟩
  rw [← hH, ← hlocs] at hI ⊢
  clear hH hlocs
  unfold p_X2_measureWithout at hq
  replace hq := (h_me_eq hq).2
  refine lv_aload_n hx hb dX2_measureWithout_0 rfl (lv_at hl 0 rfl) ?_
  obtain ⟨v1, ev1, hq⟩ := b_s hq
  refine fa_gi (own := RX2) (ref := "CoastlineRuler$Coast") (k := 2) hx hb hB inB_RX2 hown hI rfl (by decide) m_54 (fun _ h9 => h9) ev1 dX2_measureWithout_1 ?_
  refine lv_iconst (v := (1 : Int32)) hx hb dX2_measureWithout_4 (by decide) ?_
  refine lv_isub hx hb dX2_measureWithout_5 ?_
  refine lv_aload_n hx hb dX2_measureWithout_6 rfl (lv_at hl 0 rfl) ?_
  obtain ⟨v2, ev2, hq⟩ := b_s hq
  refine gr_i (g_runV (As := []) (rest := [.int (v1 - (1 : Int32))]) (ci := 5) hC (c_X2_neededPoints l V g D cT f n a0 v2 ev2) k_X2_neededPoints m_821 rfl rfl ⟨Nat.le_of_ble_eq_true rfl, Nat.le_of_ble_eq_true rfl⟩ hI rfl rfl (h_me_eq ev2).1 rfl hl.1 rfl (Nat.le_of_ble_eq_true rfl) dX2_measureWithout_7 ⟨by decide, by decide⟩) hI (fun H locs hI => ?_)
  refine lv_icmp_ge (tgt := 15) hx hb dX2_measureWithout_10 (by decide) (fun c3 => ?_) (fun c3 => ?_)
  · replace hq := i_t c3 hq
    refine lv_aload_n hx hb dX2_measureWithout_15 rfl (lv_at hl 0 rfl) ?_
    obtain ⟨v4, ev4, hq⟩ := b_s hq
    refine fa_gi (own := RX2) (ref := "CoastlineRuler$Coast") (k := 3) hx hb hB inB_RX2 hown hI rfl (by decide) m_58 (fun _ h9 => h9) ev4 dX2_measureWithout_16 ?_
    have hj31 : ∀ (x0 : Nat) (x1 : Int32) (x2 : Int32) (t0 : Int32) (H : Heap) (locs : List Loc) (ls : Array Slot), g_at g_no V g D cT f n s H locs → lv_has ls 8 [(0, .ref x0), (1, .int x1), (2, .int x2)] → p_X2_measureWithout_j31 V g f x0 x1 x2 t0 = some o → W p l e rm_X2_measureWithout s m args below meth c H locs 0 0 (MQ below (g_Ri o n) args s 0 0 g_no) (F0 m 31 ls [.int t0]) := by
      intro x0 x1 x2 t0 H locs ls hI hl hq
      unfold p_X2_measureWithout_j31 at hq
      refine lv_istore_n (lv' := [(3, .int t0), (0, .ref x0), (1, .int x1), (2, .int x2)]) hx hb dX2_measureWithout_31 rfl hl (by decide) rfl (fun ls hl => ?_)
      refine lv_aload_n hx hb dX2_measureWithout_32 rfl (lv_at hl 1 rfl) ?_
      obtain ⟨v5, ev5, hq⟩ := b_s hq
      refine fa_gi (own := RX2) (ref := "CoastlineRuler$Coast") (k := 3) hx hb hB inB_RX2 hown hI rfl (by decide) m_58 (fun _ h9 => h9) ev5 dX2_measureWithout_33 ?_
      have hj54 : ∀ (x0 : Nat) (x1 : Int32) (x2 : Int32) (x3 : Int32) (t0 : Int32) (H : Heap) (locs : List Loc) (ls : Array Slot), g_at g_no V g D cT f n s H locs → lv_has ls 8 [(0, .ref x0), (1, .int x1), (2, .int x2), (3, .int x3)] → p_X2_measureWithout_j54 V g f x0 x1 x2 x3 t0 = some o → W p l e rm_X2_measureWithout s m args below meth c H locs 0 0 (MQ below (g_Ri o n) args s 0 0 g_no) (F0 m 54 ls [.int t0]) := by
        intro x0 x1 x2 x3 t0 H locs ls hI hl hq
        unfold p_X2_measureWithout_j54 at hq
        refine lv_istore (lv' := [(4, .int t0), (0, .ref x0), (1, .int x1), (2, .int x2), (3, .int x3)]) hx hb dX2_measureWithout_54 hl (by decide) rfl (fun ls hl => ?_)
        refine lv_iload_n hx hb dX2_measureWithout_56 rfl (lv_at hl 2 rfl) ?_
        have hj72 : ∀ (x0 : Nat) (x1 : Int32) (x2 : Int32) (x3 : Int32) (x4 : Int32) (t0 : Int32) (H : Heap) (locs : List Loc) (ls : Array Slot), g_at g_no V g D cT f n s H locs → lv_has ls 8 [(0, .ref x0), (1, .int x1), (2, .int x2), (3, .int x3), (4, .int x4)] → p_X2_measureWithout_j72 V g f x0 x1 x2 x3 x4 t0 = some o → W p l e rm_X2_measureWithout s m args below meth c H locs 0 0 (MQ below (g_Ri o n) args s 0 0 g_no) (F0 m 72 ls [.int t0]) := by
          intro x0 x1 x2 x3 x4 t0 H locs ls hI hl hq
          unfold p_X2_measureWithout_j72 at hq
          refine lv_istore (lv' := [(5, .int t0), (0, .ref x0), (1, .int x1), (2, .int x2), (3, .int x3), (4, .int x4)]) hx hb dX2_measureWithout_72 hl (by decide) rfl (fun ls hl => ?_)
          refine lv_aload_n hx hb dX2_measureWithout_74 rfl (lv_at hl 1 rfl) ?_
          refine lv_iload_n hx hb dX2_measureWithout_75 rfl (lv_at hl 2 rfl) ?_
          obtain ⟨v6, ev6, hq⟩ := b_s hq
          refine gr_i (g_runV (As := [.int x1]) (rest := []) (ci := 5) hC (c_X2_segmentEnd l V g D cT f n x0 x1 v6 ev6) k_X2_segmentEnd m_758 rfl rfl ⟨Nat.le_of_ble_eq_true rfl, Nat.le_of_ble_eq_true rfl⟩ hI rfl rfl (h_me_eq ev6).1 rfl hl.1 rfl (Nat.le_of_ble_eq_true rfl) dX2_measureWithout_76 ⟨by decide, by decide⟩) hI (fun H locs hI => ?_)
          refine lv_istore (lv' := [(6, .int v6), (5, .int t0), (0, .ref x0), (1, .int x1), (2, .int x2), (3, .int x3), (4, .int x4)]) hx hb dX2_measureWithout_79 hl (by decide) rfl (fun ls hl => ?_)
          refine lv_aload_n hx hb dX2_measureWithout_81 rfl (lv_at hl 2 rfl) ?_
          refine lv_iconst (v := (0 : Int32)) hx hb dX2_measureWithout_82 (by decide) ?_
          refine lv_iload_n hx hb dX2_measureWithout_83 rfl (lv_at hl 4 rfl) ?_
          obtain ⟨v7, ev7, hq⟩ := b_s hq
          refine gr_i (g_runV (As := [.int (0 : Int32), .int x2]) (rest := []) (ci := 5) hC (c_X2_measure l V g D cT f n x0 (0 : Int32) x2 v7 ev7) k_X2_measure m_709 rfl rfl ⟨Nat.le_of_ble_eq_true rfl, Nat.le_of_ble_eq_true rfl⟩ hI rfl rfl (h_me_eq ev7).1 rfl hl.1 rfl (Nat.le_of_ble_eq_true rfl) dX2_measureWithout_84 ⟨by decide, by decide⟩) hI (fun H locs hI => ?_)
          refine lv_istore (lv' := [(7, .int v7), (6, .int v6), (5, .int t0), (0, .ref x0), (1, .int x1), (2, .int x2), (3, .int x3), (4, .int x4)]) hx hb dX2_measureWithout_87 hl (by decide) rfl (fun ls hl => ?_)
          refine lv_iload_n hx hb dX2_measureWithout_89 rfl (lv_at hl 6 rfl) ?_
          have hj106 : ∀ (x0 : Nat) (x1 : Int32) (x2 : Int32) (x3 : Int32) (x4 : Int32) (x5 : Int32) (x6 : Int32) (x7 : Int32) (H : Heap) (locs : List Loc) (ls : Array Slot), g_at g_no V g D cT f n s H locs → lv_has ls 8 [(0, .ref x0), (1, .int x1), (2, .int x2), (3, .int x3), (4, .int x4), (5, .int x5), (6, .int x6), (7, .int x7)] → p_X2_measureWithout_j106 V g f x0 x1 x2 x3 x4 x5 x6 x7 = some o → W p l e rm_X2_measureWithout s m args below meth c H locs 0 0 (MQ below (g_Ri o n) args s 0 0 g_no) (F0 m 106 ls []) := by
            intro x0 x1 x2 x3 x4 x5 x6 x7 H locs ls hI hl hq
            unfold p_X2_measureWithout_j106 at hq
            refine lv_iload hx hb dX2_measureWithout_106 (lv_at hl 4 rfl) ?_
            have hj124 : ∀ (x0 : Nat) (x2 : Int32) (x3 : Int32) (x4 : Int32) (x5 : Int32) (x6 : Int32) (x7 : Int32) (H : Heap) (locs : List Loc) (ls : Array Slot), g_at g_no V g D cT f n s H locs → lv_has ls 8 [(0, .ref x0), (2, .int x2), (3, .int x3), (4, .int x4), (5, .int x5), (6, .int x6), (7, .int x7)] → p_X2_measureWithout_j124 V g f x0 x2 x3 x4 x5 x6 x7 = some o → W p l e rm_X2_measureWithout s m args below meth c H locs 0 0 (MQ below (g_Ri o n) args s 0 0 g_no) (F0 m 124 ls []) := by
              intro x0 x2 x3 x4 x5 x6 x7 H locs ls hI hl hq
              unfold p_X2_measureWithout_j124 at hq
              refine lv_iload_n hx hb dX2_measureWithout_124 rfl (lv_at hl 2 rfl) ?_
              refine lv_if_ne (tgt := 133) hx hb dX2_measureWithout_125 (by decide) (fun c8 => ?_) (fun c8 => ?_)
              · replace hq := i_f c8 hq
                refine lv_iload hx hb dX2_measureWithout_133 (lv_at hl 6 rfl) ?_
                refine lv_goto (tgt := 150) hx hb dX2_measureWithout_135 (by decide) ?_
                exact ge_Ri hx hb hlocks hr rfl hI hq dX2_measureWithout_150
              · replace hq := i_t c8 hq
                refine lv_iload hx hb dX2_measureWithout_128 (lv_at hl 3 rfl) ?_
                refine lv_if_eq (tgt := 138) hx hb dX2_measureWithout_130 (by decide) (fun c9 => ?_) (fun c9 => ?_)
                · replace hq := i_t c9 hq
                  refine lv_iload hx hb dX2_measureWithout_138 (lv_at hl 6 rfl) ?_
                  refine lv_aload_n hx hb dX2_measureWithout_140 rfl (lv_at hl 0 rfl) ?_
                  refine lv_iload hx hb dX2_measureWithout_141 (lv_at hl 4 rfl) ?_
                  refine lv_iload hx hb dX2_measureWithout_143 (lv_at hl 5 rfl) ?_
                  refine lv_iload_n hx hb dX2_measureWithout_145 rfl (lv_at hl 1 rfl) ?_
                  obtain ⟨v10, ev10, hq⟩ := b_s hq
                  refine gr_i (g_runV (As := [.int x5, .int x6, .int x2]) (rest := [.int x7]) (ci := 5) hC (c_X2_distance l V g D cT f n x0 x5 x6 x2 v10 ev10) k_X2_distance m_660 rfl rfl ⟨Nat.le_of_ble_eq_true rfl, Nat.le_of_ble_eq_true rfl⟩ hI rfl rfl (h_me_eq ev10).1 rfl hl.1 rfl (Nat.le_of_ble_eq_true rfl) dX2_measureWithout_146 ⟨by decide, by decide⟩) hI (fun H locs hI => ?_)
                  refine lv_iadd hx hb dX2_measureWithout_149 ?_
                  exact ge_Ri hx hb hlocks hr rfl hI hq dX2_measureWithout_150
                · replace hq := i_f c9 hq
                  refine lv_iload hx hb dX2_measureWithout_133 (lv_at hl 6 rfl) ?_
                  refine lv_goto (tgt := 150) hx hb dX2_measureWithout_135 (by decide) ?_
                  exact ge_Ri hx hb hlocks hr rfl hI hq dX2_measureWithout_150
            refine lv_if_ne (tgt := 124) hx hb dX2_measureWithout_108 (by decide) (fun c11 => ?_) (fun c11 => ?_)
            · replace hq := i_f c11 hq
              exact hj124 x0 x2 x3 x4 x5 x6 x7 H locs ls hI (lv_sub hl [0, 2, 3, 4, 5, 6, 7] rfl) hq
            · replace hq := i_t c11 hq
              refine lv_iload hx hb dX2_measureWithout_111 (lv_at hl 7 rfl) ?_
              refine lv_aload_n hx hb dX2_measureWithout_113 rfl (lv_at hl 0 rfl) ?_
              refine lv_iload_n hx hb dX2_measureWithout_114 rfl (lv_at hl 1 rfl) ?_
              refine lv_iload hx hb dX2_measureWithout_115 (lv_at hl 6 rfl) ?_
              refine lv_iload_n hx hb dX2_measureWithout_117 rfl (lv_at hl 2 rfl) ?_
              obtain ⟨v12, ev12, hq⟩ := b_s hq
              refine gr_i (g_runV (As := [.int x1, .int x6, .int x2]) (rest := [.int x7]) (ci := 5) hC (c_X2_distance l V g D cT f n x0 x1 x6 x2 v12 ev12) k_X2_distance m_660 rfl rfl ⟨Nat.le_of_ble_eq_true rfl, Nat.le_of_ble_eq_true rfl⟩ hI rfl rfl (h_me_eq ev12).1 rfl hl.1 rfl (Nat.le_of_ble_eq_true rfl) dX2_measureWithout_118 ⟨by decide, by decide⟩) hI (fun H locs hI => ?_)
              refine lv_isub hx hb dX2_measureWithout_121 ?_
              refine lv_istore (lv' := [(7, .int (x7 - v12)), (0, .ref x0), (1, .int x1), (2, .int x2), (3, .int x3), (4, .int x4), (5, .int x5), (6, .int x6)]) hx hb dX2_measureWithout_122 hl (by decide) rfl (fun ls hl => ?_)
              exact hj124 x0 x2 x3 x4 x5 x6 (x7 - v12) H locs ls hI (lv_sub hl [1, 3, 4, 5, 6, 7, 0] rfl) hq
          refine lv_if_ne (tgt := 106) hx hb dX2_measureWithout_90 (by decide) (fun c13 => ?_) (fun c13 => ?_)
          · replace hq := i_f c13 hq
            exact hj106 x0 x1 x2 x3 x4 t0 v6 v7 H locs ls hI (lv_sub hl [3, 4, 5, 6, 7, 2, 1, 0] rfl) hq
          · replace hq := i_t c13 hq
            refine lv_iload hx hb dX2_measureWithout_93 (lv_at hl 0 rfl) ?_
            refine lv_aload_n hx hb dX2_measureWithout_95 rfl (lv_at hl 3 rfl) ?_
            refine lv_iload hx hb dX2_measureWithout_96 (lv_at hl 2 rfl) ?_
            refine lv_iload_n hx hb dX2_measureWithout_98 rfl (lv_at hl 4 rfl) ?_
            refine lv_iload_n hx hb dX2_measureWithout_99 rfl (lv_at hl 5 rfl) ?_
            obtain ⟨v14, ev14, hq⟩ := b_s hq
            refine gr_i (g_runV (As := [.int t0, .int x1, .int x2]) (rest := [.int v7]) (ci := 5) hC (c_X2_distance l V g D cT f n x0 t0 x1 x2 v14 ev14) k_X2_distance m_660 rfl rfl ⟨Nat.le_of_ble_eq_true rfl, Nat.le_of_ble_eq_true rfl⟩ hI rfl rfl (h_me_eq ev14).1 rfl hl.1 rfl (Nat.le_of_ble_eq_true rfl) dX2_measureWithout_100 ⟨by decide, by decide⟩) hI (fun H locs hI => ?_)
            refine lv_isub hx hb dX2_measureWithout_103 ?_
            refine lv_istore (lv' := [(7, .int (v7 - v14)), (6, .int v6), (5, .int t0), (0, .ref x0), (1, .int x1), (2, .int x2), (3, .int x3), (4, .int x4)]) hx hb dX2_measureWithout_104 hl (by decide) rfl (fun ls hl => ?_)
            exact hj106 x0 x1 x2 x3 x4 t0 v6 (v7 - v14) H locs ls hI (lv_sub hl [3, 4, 5, 6, 7, 2, 1, 0] rfl) hq
        refine lv_if_ne (tgt := 69) hx hb dX2_measureWithout_57 (by decide) (fun c15 => ?_) (fun c15 => ?_)
        · replace hq := i_f c15 hq
          refine lv_iload_n hx hb dX2_measureWithout_69 rfl (lv_at hl 2 rfl) ?_
          refine lv_iconst (v := (1 : Int32)) hx hb dX2_measureWithout_70 (by decide) ?_
          refine lv_isub hx hb dX2_measureWithout_71 ?_
          exact hj72 x0 x1 x2 x3 t0 (x1 - (1 : Int32)) H locs ls hI (lv_sub hl [1, 2, 3, 4, 0] rfl) hq
        · replace hq := i_t c15 hq
          refine lv_aload_n hx hb dX2_measureWithout_60 rfl (lv_at hl 1 rfl) ?_
          obtain ⟨v16, ev16, hq⟩ := b_s hq
          refine fa_gi (own := RX2) (ref := "CoastlineRuler$Coast") (k := 2) hx hb hB inB_RX2 hown hI rfl (by decide) m_54 (fun _ h9 => h9) ev16 dX2_measureWithout_61 ?_
          refine lv_iconst (v := (1 : Int32)) hx hb dX2_measureWithout_64 (by decide) ?_
          refine lv_isub hx hb dX2_measureWithout_65 ?_
          refine lv_goto (tgt := 72) hx hb dX2_measureWithout_66 (by decide) ?_
          exact hj72 x0 x1 x2 x3 t0 (v16 - (1 : Int32)) H locs ls hI (lv_sub hl [1, 2, 3, 4, 0] rfl) hq
      have hj53 : ∀ (x0 : Nat) (x1 : Int32) (x2 : Int32) (x3 : Int32) (H : Heap) (locs : List Loc) (ls : Array Slot), g_at g_no V g D cT f n s H locs → lv_has ls 8 [(0, .ref x0), (1, .int x1), (2, .int x2), (3, .int x3)] → p_X2_measureWithout_j53 V g f (p_X2_measureWithout_j54 V g f) x0 x1 x2 x3 = some o → W p l e rm_X2_measureWithout s m args below meth c H locs 0 0 (MQ below (g_Ri o n) args s 0 0 g_no) (F0 m 53 ls []) := by
        intro x0 x1 x2 x3 H locs ls hI hl hq
        unfold p_X2_measureWithout_j53 at hq
        refine lv_iconst (v := (0 : Int32)) hx hb dX2_measureWithout_53 (by decide) ?_
        exact hj54 x0 x1 x2 x3 (0 : Int32) H locs ls hI (lv_sub hl [0, 1, 2, 3] rfl) hq
      refine lv_if_ne (tgt := 53) hx hb dX2_measureWithout_36 (by decide) (fun c17 => ?_) (fun c17 => ?_)
      · replace hq := i_f c17 hq
        exact hj53 x0 x1 x2 t0 H locs ls hI (lv_sub hl [1, 2, 3, 0] rfl) hq
      · replace hq := i_t c17 hq
        refine lv_iload_n hx hb dX2_measureWithout_39 rfl (lv_at hl 2 rfl) ?_
        refine lv_aload_n hx hb dX2_measureWithout_40 rfl (lv_at hl 1 rfl) ?_
        obtain ⟨v18, ev18, hq⟩ := b_s hq
        refine fa_gi (own := RX2) (ref := "CoastlineRuler$Coast") (k := 2) hx hb hB inB_RX2 hown hI rfl (by decide) m_54 (fun _ h9 => h9) ev18 dX2_measureWithout_41 ?_
        refine lv_iconst (v := (1 : Int32)) hx hb dX2_measureWithout_44 (by decide) ?_
        refine lv_isub hx hb dX2_measureWithout_45 ?_
        refine lv_icmp_ne (tgt := 53) hx hb dX2_measureWithout_46 (by decide) (fun c19 => ?_) (fun c19 => ?_)
        · replace hq := i_f c19 hq
          exact hj53 x0 x1 x2 t0 H locs ls hI (lv_sub hl [1, 2, 3, 0] rfl) hq
        · replace hq := i_t c19 hq
          refine lv_iconst (v := (1 : Int32)) hx hb dX2_measureWithout_49 (by decide) ?_
          refine lv_goto (tgt := 54) hx hb dX2_measureWithout_50 (by decide) ?_
          exact hj54 x0 x1 x2 t0 (1 : Int32) H locs ls hI (lv_sub hl [1, 2, 3, 0] rfl) hq
    have hj30 : ∀ (x0 : Nat) (x1 : Int32) (x2 : Int32) (H : Heap) (locs : List Loc) (ls : Array Slot), g_at g_no V g D cT f n s H locs → lv_has ls 8 [(0, .ref x0), (1, .int x1), (2, .int x2)] → p_X2_measureWithout_j30 V g f (p_X2_measureWithout_j31 V g f) x0 x1 x2 = some o → W p l e rm_X2_measureWithout s m args below meth c H locs 0 0 (MQ below (g_Ri o n) args s 0 0 g_no) (F0 m 30 ls []) := by
      intro x0 x1 x2 H locs ls hI hl hq
      unfold p_X2_measureWithout_j30 at hq
      refine lv_iconst (v := (0 : Int32)) hx hb dX2_measureWithout_30 (by decide) ?_
      exact hj31 x0 x1 x2 (0 : Int32) H locs ls hI (lv_sub hl [0, 1, 2] rfl) hq
    refine lv_if_ne (tgt := 30) hx hb dX2_measureWithout_19 (by decide) (fun c20 => ?_) (fun c20 => ?_)
    · replace hq := i_f c20 hq
      exact hj30 a0 a1 a2 H locs ls hI (lv_sub hl [0, 1, 2] rfl) hq
    · replace hq := i_t c20 hq
      refine lv_iload_n hx hb dX2_measureWithout_22 rfl (lv_at hl 1 rfl) ?_
      refine lv_if_ne (tgt := 30) hx hb dX2_measureWithout_23 (by decide) (fun c21 => ?_) (fun c21 => ?_)
      · replace hq := i_f c21 hq
        exact hj30 a0 a1 a2 H locs ls hI (lv_sub hl [0, 1, 2] rfl) hq
      · replace hq := i_t c21 hq
        refine lv_iconst (v := (1 : Int32)) hx hb dX2_measureWithout_26 (by decide) ?_
        refine lv_goto (tgt := 31) hx hb dX2_measureWithout_27 (by decide) ?_
        exact hj31 a0 a1 a2 (1 : Int32) H locs ls hI (lv_sub hl [0, 1, 2] rfl) hq
  · replace hq := i_f c3 hq
    refine lv_iconst (v := (-1 : Int32)) hx hb dX2_measureWithout_13 (by decide) ?_
    exact ge_Ri hx hb hlocks hr rfl hI hq dX2_measureWithout_14

abbrev rm_X2_signedArea : Room := { frames := 3, cells := 0, slots := 0, locals := 141 }
theorem k_X2_signedArea : g_CV yX2_signedArea cX2_signedArea 4 (some .int) 0 := ⟨⟨m_776, m_3, by decide +kernel⟩, m_774, m_775⟩
set_option maxHeartbeats 4000000 in
set_option maxRecDepth 100000 in
theorem c_X2_signedArea (l : Launch) (V : Nat → Nat) (g : GH) (D : va_G) (cT : Nat → ClassId) (f : GH) (n : Nat) (a0 : Nat) (o : Int32) (hq : p_X2_signedArea V g f a0 = some o) : Met l yX2_signedArea (Cond.code yX2_signedArea cX2_signedArea 4 (some .int) :: g_B) rm_X2_signedArea (va_Pc [.ref a0] (g_I V g D cT f n)) (g_Ri o n) 0 0 g_no := by
  refine g_begin (own := RX2) [.ref a0] [(0, .ref a0)] g_no (fun _ h => h.elim) (by decide) rfl (Nat.le_of_ble_eq_true rfl) rfl ?_
  intro p e s m args below meth c hx hb hr hlocks hin hC hI ls hl
  obtain ⟨hx, hb, hml, hown, hB⟩ := id hC
  obtain ⟨H, hH⟩ : ∃ H, H = s.heap := ⟨_, rfl⟩
  obtain ⟨locs, hlocs⟩ : ∃ L : List Loc, L = [] := ⟨_, rfl⟩
  rw [← hH, ← hlocs] at hI ⊢
  clear hH hlocs
  unfold p_X2_signedArea at hq
  replace hq := (h_me_eq hq).2
  refine lv_iconst (v := (0 : Int32)) hx hb dX2_signedArea_0 (by decide) ?_
  refine lv_istore_n (lv' := [(1, .int (0 : Int32)), (0, .ref a0)]) hx hb dX2_signedArea_1 rfl hl (by decide) rfl (fun ls hl => ?_)
  refine lv_iconst (v := (0 : Int32)) hx hb dX2_signedArea_2 (by decide) ?_
  refine lv_istore_n (lv' := [(2, .int (0 : Int32)), (1, .int (0 : Int32)), (0, .ref a0)]) hx hb dX2_signedArea_3 rfl hl (by decide) rfl (fun ls hl => ?_)
  have hl4 : ∀ (K54 : Int32 → Option Int32) (hK54 : ∀ (x1 : Int32) (H : Heap) (locs : List Loc) (ls : Array Slot), g_at g_no V g D cT f n s H locs → lv_has ls 4 [(1, .int x1)] → K54 x1 = some o → W p l e rm_X2_signedArea s m args below meth c H locs 0 0 (MQ below (g_Ri o n) args s 0 0 g_no) (F0 m 54 ls [])) (N : Nat) (x0 : Nat) (x1 : Int32) (x2 : Int32) (H : Heap) (locs : List Loc) (ls : Array Slot), g_at g_no V g D cT f n s H locs → lv_has ls 4 [(0, .ref x0), (1, .int x1), (2, .int x2)] → p_X2_signedArea_l4 V g f K54 N x0 x1 x2 = some o → W p l e rm_X2_signedArea s m args below meth c H locs 0 0 (MQ below (g_Ri o n) args s 0 0 g_no) (F0 m 4 ls []) := by
    intro K54 hK54 N
    induction N with
    | zero =>
      intro x0 x1 x2 H locs ls hI hl hq
      rw [p_X2_signedArea_l4] at hq
      cases hq
    | succ N ih =>
      intro x0 x1 x2 H locs ls hI hl hq
      rw [p_X2_signedArea_l4] at hq
      refine lv_iload_n hx hb dX2_signedArea_4 rfl (lv_at hl 2 rfl) ?_
      refine lv_aload_n hx hb dX2_signedArea_5 rfl (lv_at hl 0 rfl) ?_
      obtain ⟨v1, ev1, hq⟩ := b_s hq
      refine gr_i (g_runV (As := []) (rest := [.int x2]) (ci := 5) hC (c_X2_segments l V g D cT f n x0 v1 ev1) k_X2_segments m_750 rfl rfl ⟨Nat.le_of_ble_eq_true rfl, Nat.le_of_ble_eq_true rfl⟩ hI rfl rfl (h_me_eq ev1).1 rfl hl.1 rfl (Nat.le_of_ble_eq_true rfl) dX2_signedArea_6 ⟨by decide, by decide⟩) hI (fun H locs hI => ?_)
      refine lv_icmp_ge (tgt := 54) hx hb dX2_signedArea_9 (by decide) (fun c2 => ?_) (fun c2 => ?_)
      · replace hq := i_t c2 hq
        exact hK54 x1 H locs ls hI (lv_sub hl [1] rfl) hq
      · replace hq := i_f c2 hq
        refine lv_aload_n hx hb dX2_signedArea_12 rfl (lv_at hl 0 rfl) ?_
        refine lv_iload_n hx hb dX2_signedArea_13 rfl (lv_at hl 2 rfl) ?_
        obtain ⟨v3, ev3, hq⟩ := b_s hq
        refine gr_i (g_runV (As := [.int x2]) (rest := []) (ci := 5) hC (c_X2_segmentEnd l V g D cT f n x0 x2 v3 ev3) k_X2_segmentEnd m_758 rfl rfl ⟨Nat.le_of_ble_eq_true rfl, Nat.le_of_ble_eq_true rfl⟩ hI rfl rfl (h_me_eq ev3).1 rfl hl.1 rfl (Nat.le_of_ble_eq_true rfl) dX2_signedArea_14 ⟨by decide, by decide⟩) hI (fun H locs hI => ?_)
        refine lv_istore_n (lv' := [(3, .int v3), (0, .ref x0), (1, .int x1), (2, .int x2)]) hx hb dX2_signedArea_17 rfl hl (by decide) rfl (fun ls hl => ?_)
        refine lv_iload_n hx hb dX2_signedArea_18 rfl (lv_at hl 2 rfl) ?_
        refine lv_aload_n hx hb dX2_signedArea_19 rfl (lv_at hl 1 rfl) ?_
        obtain ⟨v4, ev4, hq⟩ := b_s hq
        refine fa_gr (own := RX2) (ref := "CoastlineRuler$Coast") (k := 0) hx hb hB inB_RX2 hown hI rfl (by decide) m_48 (fun _ h9 => h9) ev4 dX2_signedArea_20 ?_
        refine lv_iload_n hx hb dX2_signedArea_23 rfl (lv_at hl 3 rfl) ?_
        obtain ⟨v5, ev5, hq⟩ := b_s hq
        refine fa_li hx hb hI ev5 dX2_signedArea_24 ?_
        refine lv_aload_n hx hb dX2_signedArea_25 rfl (lv_at hl 1 rfl) ?_
        obtain ⟨v6, ev6, hq⟩ := b_s hq
        refine fa_gr (own := RX2) (ref := "CoastlineRuler$Coast") (k := 1) hx hb hB inB_RX2 hown hI rfl (by decide) m_51 (fun _ h9 => h9) ev6 dX2_signedArea_26 ?_
        refine lv_iload_n hx hb dX2_signedArea_29 rfl (lv_at hl 0 rfl) ?_
        obtain ⟨v7, ev7, hq⟩ := b_s hq
        refine fa_li hx hb hI ev7 dX2_signedArea_30 ?_
        refine lv_imul hx hb dX2_signedArea_31 ?_
        refine lv_aload_n hx hb dX2_signedArea_32 rfl (lv_at hl 1 rfl) ?_
        obtain ⟨v8, ev8, hq⟩ := b_s hq
        refine fa_gr (own := RX2) (ref := "CoastlineRuler$Coast") (k := 0) hx hb hB inB_RX2 hown hI rfl (by decide) m_48 (fun _ h9 => h9) ev8 dX2_signedArea_33 ?_
        refine lv_iload_n hx hb dX2_signedArea_36 rfl (lv_at hl 0 rfl) ?_
        obtain ⟨v9, ev9, hq⟩ := b_s hq
        refine fa_li hx hb hI ev9 dX2_signedArea_37 ?_
        refine lv_aload_n hx hb dX2_signedArea_38 rfl (lv_at hl 1 rfl) ?_
        obtain ⟨v10, ev10, hq⟩ := b_s hq
        refine fa_gr (own := RX2) (ref := "CoastlineRuler$Coast") (k := 1) hx hb hB inB_RX2 hown hI rfl (by decide) m_51 (fun _ h9 => h9) ev10 dX2_signedArea_39 ?_
        refine lv_iload_n hx hb dX2_signedArea_42 rfl (lv_at hl 3 rfl) ?_
        obtain ⟨v11, ev11, hq⟩ := b_s hq
        refine fa_li hx hb hI ev11 dX2_signedArea_43 ?_
        refine lv_imul hx hb dX2_signedArea_44 ?_
        refine lv_isub hx hb dX2_signedArea_45 ?_
        refine lv_iadd hx hb dX2_signedArea_46 ?_
        refine lv_istore_n (lv' := [(1, .int (x1 + ((v5 * v7) - (v9 * v11)))), (3, .int v3), (0, .ref x0), (2, .int x2)]) hx hb dX2_signedArea_47 rfl hl (by decide) rfl (fun ls hl => ?_)
        refine lv_iinc (v := x2 + (1 : Int32)) (lv' := [(2, .int (x2 + (1 : Int32))), (1, .int (x1 + ((v5 * v7) - (v9 * v11)))), (3, .int v3), (0, .ref x0)]) hx hb dX2_signedArea_48 hl (k := 3) rfl rfl (by decide) rfl (fun ls hl => ?_)
        refine lv_goto (tgt := 4) hx hb dX2_signedArea_51 (by decide) ?_
        exact ih x0 (x1 + ((v5 * v7) - (v9 * v11))) (x2 + (1 : Int32)) H locs ls hI (lv_sub hl [3, 1, 0] rfl) hq
  refine hl4 _ ?_ FU a0 (0 : Int32) (0 : Int32) H locs ls hI (lv_sub hl [2, 1, 0] rfl) hq
  · intro x1 H locs ls hI hl hq
    refine lv_iload_n hx hb dX2_signedArea_54 rfl (lv_at hl 0 rfl) ?_
    exact ge_Ri hx hb hlocks hr rfl hI hq dX2_signedArea_55

abbrev rm_X3_init : Room := { frames := 3, cells := 3, slots := 404, locals := 141 }
theorem k_X3_init : g_CI yX3_init cX3_init 1 0 := ⟨⟨m_158, m_6, by decide +kernel⟩, rfl, m_157⟩
set_option maxHeartbeats 4000000 in
set_option maxRecDepth 100000 in
theorem c_X3_init (l : Launch) (V : Nat → Nat) (g : GH) (D : va_G) (cT : Nat → ClassId) (f : GH) (n : Nat) (a0 : Nat) (o : GH × Nat) (hq : p_X3_init V g f n a0 = some o) : Met l yX3_init (Cond.code yX3_init cX3_init 1 none :: g_B) rm_X3_init (va_Pc [.ref a0] (g_I V g D cT f n)) (g_Wv V D cT o.1 o.2) 3 404 (g_A V) := by
  refine g_begin (own := RX3) [.ref a0] [(0, .ref a0)] (g_A V) (fun _ h => h) (by decide) rfl (Nat.le_of_ble_eq_true rfl) rfl ?_
  intro p e s m args below meth c hx hb hr hlocks hin hC hI ls hl
  obtain ⟨hx, hb, hml, hown, hB⟩ := id hC
  obtain ⟨H, hH⟩ : ∃ H, H = s.heap := ⟨_, rfl⟩
  obtain ⟨locs, hlocs⟩ : ∃ L : List Loc, L = [] := ⟨_, rfl⟩
  rw [← hH, ← hlocs] at hI ⊢
  clear hH hlocs
  unfold p_X3_init at hq
  replace hq := (h_me_eq hq).2
  refine lv_aload_n hx hb dX3_init_0 rfl (lv_at hl 0 rfl) ?_
  refine W.objInit hx hb hown (hB _ m_159) (hB _ m_33) (hB _ m_34) rfl (by rw [hml]; exact hl.1) rfl dX3_init_1 (Nat.le_of_ble_eq_true rfl) (Nat.le_of_ble_eq_true rfl) ?_
  refine W.eq (g2 := F0 m 4 ls []) rfl ?_
  refine lv_aload_n hx hb dX3_init_4 rfl (lv_at hl 0 rfl) ?_
  refine fs_gs (i := 10) hx hb hown hI rfl (hB _ m_160) (fun _ h9 => h9) dX3_init_5 ?_
  obtain ⟨f1, ef1, hq⟩ := b_s hq
  refine fa_pt (own := RX3) (ref := "CoastlineRuler$Command") (k := 0) hx hb hB inB_RX3 tyX3_ok nmX3 hown hI rfl (by decide) m_164 (fun _ h9 => h9) (by decide) rfl rfl ef1 dX3_init_8 (fun H locs hI => ?_)
  refine lv_aload_n hx hb dX3_init_11 rfl (lv_at hl 0 rfl) ?_
  obtain ⟨f2, ef2, hq⟩ := b_s hq
  refine fa_new (own := RX3) (ci := 5) hx hb hB inB_RX2 tyX2_ok hown m_162 m_43 m_3 hI rfl (by decide +kernel) (by decide) (by decide) ef2 dX3_init_12 (fun H locs hI => ?_)
  refine lv_dup hx hb dX3_init_15 rfl ?_
  refine lv_bipush (v := (33 : Int32)) hx hb dX3_init_16 (by decide) ?_
  obtain ⟨v3, ev3, hq⟩ := b_s hq
  refine gw_v (g_runI (As := [.int (33 : Int32)]) (rest := [.ref n, .ref a0]) hC (c_X2_init l V g D cT f2 (n + 1) n (33 : Int32) v3 ev3) k_X2_init m_163 rfl rfl ⟨Nat.le_of_ble_eq_true rfl, Nat.le_of_ble_eq_true rfl⟩ hI rfl hl.1 rfl (Nat.le_of_ble_eq_true rfl) dX3_init_18 ⟨by decide, by decide⟩) hI (fun H locs hI => ?_)
  obtain ⟨f4, ef4, hq⟩ := b_s hq
  refine fa_ptF (own := RX3) (ref := "CoastlineRuler$Command") (k := 6) hx hb hB inB_RX3 tyX3_ok nmX3 hown hI rfl (by decide) m_177 (fun _ h9 => h9) (by decide) hin (by decide) rfl rfl ef4 dX3_init_21 (fun H locs hI => ?_)
  obtain rfl := Option.some.inj hq
  exact ge_Wv hx hb hlocks hr hI rfl dX3_init_24

abbrev rm_X3_set : Room := { frames := 2, cells := 0, slots := 0, locals := 120 }
theorem k_X3_set : g_CV yX3_set cX3_set 6 none 5 := ⟨⟨m_896, m_6, by decide +kernel⟩, m_894, m_895⟩
set_option maxHeartbeats 4000000 in
set_option maxRecDepth 100000 in
theorem c_X3_set (l : Launch) (V : Nat → Nat) (g : GH) (D : va_G) (cT : Nat → ClassId) (f : GH) (n : Nat) (a0 : Nat) (a1 : Nat) (a2 : Int32) (a3 : Int32) (a4 : Int32) (a5 : Int32) (o : GH) (hq : p_X3_set V g f a0 a1 a2 a3 a4 a5 = some o) : Met l yX3_set (Cond.code yX3_set cX3_set 6 none :: g_B) rm_X3_set (va_Pc [.ref a0, .ref a1, .int a2, .int a3, .int a4, .int a5] (g_I V g D cT f n)) (g_Wv V D cT o n) 0 0 (g_A V) := by
  refine g_begin (own := RX3) [.ref a0, .ref a1, .int a2, .int a3, .int a4, .int a5] [(0, .ref a0), (1, .ref a1), (2, .int a2), (3, .int a3), (4, .int a4), (5, .int a5)] (g_A V) (fun _ h => h) (by decide) rfl (Nat.le_of_ble_eq_true rfl) rfl ?_
  intro p e s m args below meth c hx hb hr hlocks hin hC hI ls hl
  obtain ⟨hx, hb, hml, hown, hB⟩ := id hC
  obtain ⟨H, hH⟩ : ∃ H, H = s.heap := ⟨_, rfl⟩
  obtain ⟨locs, hlocs⟩ : ∃ L : List Loc, L = [] := ⟨_, rfl⟩
  rw [← hH, ← hlocs] at hI ⊢
  clear hH hlocs
  unfold p_X3_set at hq
  replace hq := (h_me_eq hq).2
  refine lv_aload_n hx hb dX3_set_0 rfl (lv_at hl 0 rfl) ?_
  refine lv_aload_n hx hb dX3_set_1 rfl (lv_at hl 1 rfl) ?_
  obtain ⟨f1, ef1, hq⟩ := b_s hq
  refine fa_pt (own := RX3) (ref := "CoastlineRuler$Command") (k := 0) hx hb hB inB_RX3 tyX3_ok nmX3 hown hI rfl (by decide) m_164 (fun _ h9 => h9) (by decide) rfl rfl ef1 dX3_set_2 (fun H locs hI => ?_)
  refine lv_aload_n hx hb dX3_set_5 rfl (lv_at hl 0 rfl) ?_
  refine lv_iload_n hx hb dX3_set_6 rfl (lv_at hl 2 rfl) ?_
  obtain ⟨f2, ef2, hq⟩ := b_s hq
  refine fa_pt (own := RX3) (ref := "CoastlineRuler$Command") (k := 1) hx hb hB inB_RX3 tyX3_ok nmX3 hown hI rfl (by decide) m_167 (fun _ h9 => h9) (by decide) rfl rfl ef2 dX3_set_7 (fun H locs hI => ?_)
  refine lv_aload_n hx hb dX3_set_10 rfl (lv_at hl 0 rfl) ?_
  refine lv_iload_n hx hb dX3_set_11 rfl (lv_at hl 3 rfl) ?_
  obtain ⟨f3, ef3, hq⟩ := b_s hq
  refine fa_pt (own := RX3) (ref := "CoastlineRuler$Command") (k := 2) hx hb hB inB_RX3 tyX3_ok nmX3 hown hI rfl (by decide) m_169 (fun _ h9 => h9) (by decide) rfl rfl ef3 dX3_set_12 (fun H locs hI => ?_)
  refine lv_aload_n hx hb dX3_set_15 rfl (lv_at hl 0 rfl) ?_
  refine lv_iload hx hb dX3_set_16 (lv_at hl 4 rfl) ?_
  obtain ⟨f4, ef4, hq⟩ := b_s hq
  refine fa_pt (own := RX3) (ref := "CoastlineRuler$Command") (k := 3) hx hb hB inB_RX3 tyX3_ok nmX3 hown hI rfl (by decide) m_171 (fun _ h9 => h9) (by decide) rfl rfl ef4 dX3_set_18 (fun H locs hI => ?_)
  refine lv_aload_n hx hb dX3_set_21 rfl (lv_at hl 0 rfl) ?_
  refine lv_iload hx hb dX3_set_22 (lv_at hl 5 rfl) ?_
  obtain ⟨f5, ef5, hq⟩ := b_s hq
  refine fa_pt (own := RX3) (ref := "CoastlineRuler$Command") (k := 4) hx hb hB inB_RX3 tyX3_ok nmX3 hown hI rfl (by decide) m_173 (fun _ h9 => h9) (by decide) rfl rfl ef5 dX3_set_24 (fun H locs hI => ?_)
  exact ge_Wv hx hb hlocks hr hI (Option.some.inj hq) dX3_set_27

abbrev rm_X4_init : Room := { frames := 2, cells := 0, slots := 0, locals := 120 }
theorem k_X4_init : g_CI yX4_init cX4_init 2 1 := ⟨⟨m_134, m_5, by decide +kernel⟩, rfl, m_133⟩
set_option maxHeartbeats 4000000 in
set_option maxRecDepth 100000 in
theorem c_X4_init (l : Launch) (V : Nat → Nat) (g : GH) (D : va_G) (cT : Nat → ClassId) (f : GH) (n : Nat) (a0 : Nat) (a1 : Nat) (o : GH) (hq : p_X4_init V g f a0 a1 = some o) : Met l yX4_init (Cond.code yX4_init cX4_init 2 none :: g_B) rm_X4_init (va_Pc [.ref a0, .ref a1] (g_I V g D cT f n)) (g_Wv V D cT o n) 0 0 (g_A V) := by
  refine g_begin (own := RX4) [.ref a0, .ref a1] [(0, .ref a0), (1, .ref a1)] (g_A V) (fun _ h => h) (by decide) rfl (Nat.le_of_ble_eq_true rfl) rfl ?_
  intro p e s m args below meth c hx hb hr hlocks hin hC hI ls hl
  obtain ⟨hx, hb, hml, hown, hB⟩ := id hC
  obtain ⟨H, hH⟩ : ∃ H, H = s.heap := ⟨_, rfl⟩
  obtain ⟨locs, hlocs⟩ : ∃ L : List Loc, L = [] := ⟨_, rfl⟩
  rw [← hH, ← hlocs] at hI ⊢
  clear hH hlocs
  unfold p_X4_init at hq
  replace hq := (h_me_eq hq).2
  refine lv_aload_n hx hb dX4_init_0 rfl (lv_at hl 0 rfl) ?_
  refine W.objInit hx hb hown (hB _ m_135) (hB _ m_33) (hB _ m_34) rfl (by rw [hml]; exact hl.1) rfl dX4_init_1 (Nat.le_of_ble_eq_true rfl) (Nat.le_of_ble_eq_true rfl) ?_
  refine W.eq (g2 := F0 m 4 ls []) rfl ?_
  refine lv_aload_n hx hb dX4_init_4 rfl (lv_at hl 0 rfl) ?_
  refine lv_iconst (v := (-1 : Int32)) hx hb dX4_init_5 (by decide) ?_
  obtain ⟨f1, ef1, hq⟩ := b_s hq
  refine fa_pt (own := RX4) (ref := "CoastlineRuler$Grammar") (k := 2) hx hb hB inB_RX4 tyX4_ok nmX4 hown hI rfl (by decide) m_139 (fun _ h9 => h9) (by decide) rfl rfl ef1 dX4_init_6 (fun H locs hI => ?_)
  refine lv_aload_n hx hb dX4_init_9 rfl (lv_at hl 0 rfl) ?_
  refine lv_aload_n hx hb dX4_init_10 rfl (lv_at hl 1 rfl) ?_
  obtain ⟨f2, ef2, hq⟩ := b_s hq
  refine fa_ptF (own := RX4) (ref := "CoastlineRuler$Grammar") (k := 0) hx hb hB inB_RX4 tyX4_ok nmX4 hown hI rfl (by decide) m_136 (fun _ h9 => h9) (by decide) hin (by decide) rfl rfl ef2 dX4_init_11 (fun H locs hI => ?_)
  exact ge_Wv hx hb hlocks hr hI (Option.some.inj hq) dX4_init_14

abbrev rm_X5_endOfRun : Room := { frames := 2, cells := 0, slots := 0, locals := 120 }
theorem k_X5_endOfRun : g_CV yX5_endOfRun cX5_endOfRun 4 (some .int) 2 := ⟨⟨m_390, m_4, by decide +kernel⟩, m_388, m_389⟩
set_option maxHeartbeats 4000000 in
set_option maxRecDepth 100000 in
theorem c_X5_endOfRun (l : Launch) (V : Nat → Nat) (g : GH) (D : va_G) (cT : Nat → ClassId) (f : GH) (n : Nat) (a0 : Nat) (a1 : Int32) (a2 : Int32) (o : Int32) (hq : p_X5_endOfRun V g f a0 a1 a2 = some o) : Met l yX5_endOfRun (Cond.code yX5_endOfRun cX5_endOfRun 4 (some .int) :: g_B) rm_X5_endOfRun (va_Pc [.ref a0, .int a1, .int a2] (g_I V g D cT f n)) (g_Ri o n) 0 0 g_no := by
  refine g_begin (own := RX5) [.ref a0, .int a1, .int a2] [(0, .ref a0), (1, .int a1), (2, .int a2)] g_no (fun _ h => h.elim) (by decide) rfl (Nat.le_of_ble_eq_true rfl) rfl ?_
  intro p e s m args below meth c hx hb hr hlocks hin hC hI ls hl
  obtain ⟨hx, hb, hml, hown, hB⟩ := id hC
  obtain ⟨H, hH⟩ : ∃ H, H = s.heap := ⟨_, rfl⟩
  obtain ⟨locs, hlocs⟩ : ∃ L : List Loc, L = [] := ⟨_, rfl⟩
  rw [← hH, ← hlocs] at hI ⊢
  clear hH hlocs
  unfold p_X5_endOfRun at hq
  replace hq := (h_me_eq hq).2
  refine lv_aload_n hx hb dX5_endOfRun_0 rfl (lv_at hl 0 rfl) ?_
  obtain ⟨v1, ev1, hq⟩ := b_s hq
  refine fa_gi (own := RX5) (ref := "CoastlineRuler$Tokens") (k := 4) hx hb hB inB_RX5 hown hI rfl (by decide) m_113 (fun _ h9 => h9) ev1 dX5_endOfRun_1 ?_
  refine lv_istore_n (lv' := [(3, .int v1), (0, .ref a0), (1, .int a1), (2, .int a2)]) hx hb dX5_endOfRun_4 rfl hl (by decide) rfl (fun ls hl => ?_)
  have hl5 : ∀ (K39 : Int32 → Option Int32) (hK39 : ∀ (x3 : Int32) (H : Heap) (locs : List Loc) (ls : Array Slot), g_at g_no V g D cT f n s H locs → lv_has ls 4 [(3, .int x3)] → K39 x3 = some o → W p l e rm_X5_endOfRun s m args below meth c H locs 0 0 (MQ below (g_Ri o n) args s 0 0 g_no) (F0 m 39 ls [])) (N : Nat) (x0 : Nat) (x1 : Int32) (x2 : Int32) (x3 : Int32) (H : Heap) (locs : List Loc) (ls : Array Slot), g_at g_no V g D cT f n s H locs → lv_has ls 4 [(0, .ref x0), (1, .int x1), (2, .int x2), (3, .int x3)] → p_X5_endOfRun_l5 V g f K39 N x0 x1 x2 x3 = some o → W p l e rm_X5_endOfRun s m args below meth c H locs 0 0 (MQ below (g_Ri o n) args s 0 0 g_no) (F0 m 5 ls []) := by
    intro K39 hK39 N
    induction N with
    | zero =>
      intro x0 x1 x2 x3 H locs ls hI hl hq
      rw [p_X5_endOfRun_l5] at hq
      cases hq
    | succ N ih =>
      intro x0 x1 x2 x3 H locs ls hI hl hq
      rw [p_X5_endOfRun_l5] at hq
      refine lv_iload_n hx hb dX5_endOfRun_5 rfl (lv_at hl 3 rfl) ?_
      refine lv_aload_n hx hb dX5_endOfRun_6 rfl (lv_at hl 0 rfl) ?_
      obtain ⟨v2, ev2, hq⟩ := b_s hq
      refine fa_gi (own := RX5) (ref := "CoastlineRuler$Tokens") (k := 2) hx hb hB inB_RX5 hown hI rfl (by decide) m_110 (fun _ h9 => h9) ev2 dX5_endOfRun_7 ?_
      refine lv_icmp_ge (tgt := 39) hx hb dX5_endOfRun_10 (by decide) (fun c3 => ?_) (fun c3 => ?_)
      · replace hq := i_t c3 hq
        exact hK39 x3 H locs ls hI (lv_sub hl [3] rfl) hq
      · replace hq := i_f c3 hq
        refine lv_aload_n hx hb dX5_endOfRun_13 rfl (lv_at hl 0 rfl) ?_
        obtain ⟨v4, ev4, hq⟩ := b_s hq
        refine fa_gr (own := RX5) (ref := "CoastlineRuler$Tokens") (k := 0) hx hb hB inB_RX5 hown hI rfl (by decide) m_107 (fun _ h9 => h9) ev4 dX5_endOfRun_14 ?_
        refine lv_iload_n hx hb dX5_endOfRun_17 rfl (lv_at hl 3 rfl) ?_
        obtain ⟨v5, ev5, hq⟩ := b_s hq
        refine fa_lb hx hb hI ev5 dX5_endOfRun_18 ?_
        refine lv_iload_n hx hb dX5_endOfRun_19 rfl (lv_at hl 1 rfl) ?_
        refine lv_icmp_lt (tgt := 39) hx hb dX5_endOfRun_20 (by decide) (fun c6 => ?_) (fun c6 => ?_)
        · replace hq := i_t c6 hq
          exact hK39 x3 H locs ls hI (lv_sub hl [3] rfl) hq
        · replace hq := i_f c6 hq
          refine lv_aload_n hx hb dX5_endOfRun_23 rfl (lv_at hl 0 rfl) ?_
          obtain ⟨v7, ev7, hq⟩ := b_s hq
          refine fa_gr (own := RX5) (ref := "CoastlineRuler$Tokens") (k := 0) hx hb hB inB_RX5 hown hI rfl (by decide) m_107 (fun _ h9 => h9) ev7 dX5_endOfRun_24 ?_
          refine lv_iload_n hx hb dX5_endOfRun_27 rfl (lv_at hl 3 rfl) ?_
          obtain ⟨v8, ev8, hq⟩ := b_s hq
          refine fa_lb hx hb hI ev8 dX5_endOfRun_28 ?_
          refine lv_iload_n hx hb dX5_endOfRun_29 rfl (lv_at hl 2 rfl) ?_
          refine lv_icmp_gt (tgt := 39) hx hb dX5_endOfRun_30 (by decide) (fun c9 => ?_) (fun c9 => ?_)
          · replace hq := i_t c9 hq
            exact hK39 x3 H locs ls hI (lv_sub hl [3] rfl) hq
          · replace hq := i_f c9 hq
            refine lv_iinc (v := x3 + (1 : Int32)) (lv' := [(3, .int (x3 + (1 : Int32))), (0, .ref x0), (1, .int x1), (2, .int x2)]) hx hb dX5_endOfRun_33 hl (k := 3) rfl rfl (by decide) rfl (fun ls hl => ?_)
            refine lv_goto (tgt := 5) hx hb dX5_endOfRun_36 (by decide) ?_
            exact ih x0 x1 x2 (x3 + (1 : Int32)) H locs ls hI (lv_sub hl [1, 2, 3, 0] rfl) hq
  refine hl5 _ ?_ FU a0 a1 a2 v1 H locs ls hI (lv_sub hl [1, 2, 3, 0] rfl) hq
  · intro x3 H locs ls hI hl hq
    refine lv_iload_n hx hb dX5_endOfRun_39 rfl (lv_at hl 0 rfl) ?_
    exact ge_Ri hx hb hlocks hr rfl hI hq dX5_endOfRun_40

abbrev rm_X5_kindOfSign : Room := { frames := 2, cells := 0, slots := 0, locals := 120 }
theorem k_X5_kindOfSign : g_CS yX5_kindOfSign cX5_kindOfSign 1 (some .int) 1 := ⟨⟨m_393, m_4, by decide +kernel⟩, m_392⟩
set_option maxHeartbeats 4000000 in
set_option maxRecDepth 100000 in
theorem c_X5_kindOfSign (l : Launch) (V : Nat → Nat) (g : GH) (D : va_G) (cT : Nat → ClassId) (f : GH) (n : Nat) (a0 : Int32) (o : Int32) (hq : p_X5_kindOfSign V g f a0 = some o) : Met l yX5_kindOfSign (Cond.code yX5_kindOfSign cX5_kindOfSign 1 (some .int) :: g_B) rm_X5_kindOfSign (va_Pc [.int a0] (g_I V g D cT f n)) (g_Ri o n) 0 0 g_no := by
  refine g_begin (own := RX5) [.int a0] [(0, .int a0)] g_no (fun _ h => h.elim) (by decide) rfl (Nat.le_of_ble_eq_true rfl) rfl ?_
  intro p e s m args below meth c hx hb hr hlocks hin hC hI ls hl
  obtain ⟨hx, hb, hml, hown, hB⟩ := id hC
  obtain ⟨H, hH⟩ : ∃ H, H = s.heap := ⟨_, rfl⟩
  obtain ⟨locs, hlocs⟩ : ∃ L : List Loc, L = [] := ⟨_, rfl⟩
  rw [← hH, ← hlocs] at hI ⊢
  clear hH hlocs
  unfold p_X5_kindOfSign at hq
  refine lv_iload_n hx hb dX5_kindOfSign_0 rfl (lv_at hl 0 rfl) ?_
  refine lv_bipush (v := (59 : Int32)) hx hb dX5_kindOfSign_1 (by decide) ?_
  refine lv_icmp_ne (tgt := 8) hx hb dX5_kindOfSign_3 (by decide) (fun c1 => ?_) (fun c1 => ?_)
  · replace hq := i_f c1 hq
    refine lv_iload_n hx hb dX5_kindOfSign_8 rfl (lv_at hl 0 rfl) ?_
    refine lv_bipush (v := (44 : Int32)) hx hb dX5_kindOfSign_9 (by decide) ?_
    refine lv_icmp_ne (tgt := 16) hx hb dX5_kindOfSign_11 (by decide) (fun c2 => ?_) (fun c2 => ?_)
    · replace hq := i_f c2 hq
      refine lv_iload_n hx hb dX5_kindOfSign_16 rfl (lv_at hl 0 rfl) ?_
      refine lv_bipush (v := (45 : Int32)) hx hb dX5_kindOfSign_17 (by decide) ?_
      refine lv_icmp_ne (tgt := 26) hx hb dX5_kindOfSign_19 (by decide) (fun c3 => ?_) (fun c3 => ?_)
      · replace hq := i_f c3 hq
        refine lv_bipush (v := (6 : Int32)) hx hb dX5_kindOfSign_26 (by decide) ?_
        exact ge_Ri hx hb hlocks hr rfl hI hq dX5_kindOfSign_28
      · replace hq := i_t c3 hq
        refine lv_iconst (v := (5 : Int32)) hx hb dX5_kindOfSign_22 (by decide) ?_
        refine lv_goto (tgt := 28) hx hb dX5_kindOfSign_23 (by decide) ?_
        exact ge_Ri hx hb hlocks hr rfl hI hq dX5_kindOfSign_28
    · replace hq := i_t c2 hq
      refine lv_iconst (v := (4 : Int32)) hx hb dX5_kindOfSign_14 (by decide) ?_
      exact ge_Ri hx hb hlocks hr rfl hI hq dX5_kindOfSign_15
  · replace hq := i_t c1 hq
    refine lv_iconst (v := (3 : Int32)) hx hb dX5_kindOfSign_6 (by decide) ?_
    exact ge_Ri hx hb hlocks hr rfl hI hq dX5_kindOfSign_7

abbrev rm_X5_advance : Room := { frames := 3, cells := 0, slots := 0, locals := 143 }
theorem k_X5_advance : g_CV yX5_advance cX5_advance 1 none 0 := ⟨⟨m_386, m_4, by decide +kernel⟩, m_384, m_385⟩
set_option maxHeartbeats 4000000 in
set_option maxRecDepth 100000 in
theorem c_X5_advance (l : Launch) (V : Nat → Nat) (g : GH) (D : va_G) (cT : Nat → ClassId) (f : GH) (n : Nat) (a0 : Nat) (o : GH) (hq : p_X5_advance V g f a0 = some o) : Met l yX5_advance (Cond.code yX5_advance cX5_advance 1 none :: g_B) rm_X5_advance (va_Pc [.ref a0] (g_I V g D cT f n)) (g_Wv V D cT o n) 0 0 (g_A V) := by
  refine g_begin (own := RX5) [.ref a0] [(0, .ref a0)] (g_A V) (fun _ h => h) (by decide) rfl (Nat.le_of_ble_eq_true rfl) rfl ?_
  intro p e s m args below meth c hx hb hr hlocks hin hC hI ls hl
  obtain ⟨hx, hb, hml, hown, hB⟩ := id hC
  obtain ⟨H, hH⟩ : ∃ H, H = s.heap := ⟨_, rfl⟩
  obtain ⟨locs, hlocs⟩ : ∃ L : List Loc, L = [] := ⟨_, rfl⟩
  rw [← hH, ← hlocs] at hI ⊢
  clear hH hlocs
  unfold p_X5_advance at hq
  replace hq := (h_me_eq hq).2
  have hl0 : ∀ (K52 : Nat → GH → Option GH) (hK52 : ∀ (x0 : Nat) (f : GH) (H : Heap) (locs : List Loc) (ls : Array Slot), g_at (g_A V) V g D cT f n s H locs → lv_has ls 1 [(0, .ref x0)] → K52 x0 f = some o → W p l e rm_X5_advance s m args below meth c H locs 0 0 (MQ below (g_Wv V D cT o n) args s 0 0 (g_A V)) (F0 m 52 ls [])) (N : Nat) (x0 : Nat) (f : GH) (H : Heap) (locs : List Loc) (ls : Array Slot), g_at (g_A V) V g D cT f n s H locs → lv_has ls 1 [(0, .ref x0)] → p_X5_advance_l0 V g K52 N x0 f = some o → W p l e rm_X5_advance s m args below meth c H locs 0 0 (MQ below (g_Wv V D cT o n) args s 0 0 (g_A V)) (F0 m 0 ls []) := by
    intro K52 hK52 N
    induction N with
    | zero =>
      intro x0 f H locs ls hI hl hq
      rw [p_X5_advance_l0] at hq
      cases hq
    | succ N ih =>
      intro x0 f H locs ls hI hl hq
      rw [p_X5_advance_l0] at hq
      refine lv_aload_n hx hb dX5_advance_0 rfl (lv_at hl 0 rfl) ?_
      obtain ⟨v1, ev1, hq⟩ := b_s hq
      refine fa_gi (own := RX5) (ref := "CoastlineRuler$Tokens") (k := 5) hx hb hB inB_RX5 hown hI rfl (by decide) m_115 (fun _ h9 => h9) ev1 dX5_advance_1 ?_
      refine lv_aload_n hx hb dX5_advance_4 rfl (lv_at hl 0 rfl) ?_
      obtain ⟨v2, ev2, hq⟩ := b_s hq
      refine fa_gi (own := RX5) (ref := "CoastlineRuler$Tokens") (k := 2) hx hb hB inB_RX5 hown hI rfl (by decide) m_110 (fun _ h9 => h9) ev2 dX5_advance_5 ?_
      refine lv_icmp_ge (tgt := 52) hx hb dX5_advance_8 (by decide) (fun c3 => ?_) (fun c3 => ?_)
      · replace hq := i_t c3 hq
        exact hK52 x0 f H locs ls hI (lv_sub hl [0] rfl) hq
      · replace hq := i_f c3 hq
        refine lv_aload_n hx hb dX5_advance_11 rfl (lv_at hl 0 rfl) ?_
        obtain ⟨v4, ev4, hq⟩ := b_s hq
        refine fa_gr (own := RX5) (ref := "CoastlineRuler$Tokens") (k := 0) hx hb hB inB_RX5 hown hI rfl (by decide) m_107 (fun _ h9 => h9) ev4 dX5_advance_12 ?_
        refine lv_aload_n hx hb dX5_advance_15 rfl (lv_at hl 0 rfl) ?_
        obtain ⟨v5, ev5, hq⟩ := b_s hq
        refine fa_gi (own := RX5) (ref := "CoastlineRuler$Tokens") (k := 5) hx hb hB inB_RX5 hown hI rfl (by decide) m_115 (fun _ h9 => h9) ev5 dX5_advance_16 ?_
        obtain ⟨v6, ev6, hq⟩ := b_s hq
        refine fa_lb hx hb hI ev6 dX5_advance_19 ?_
        refine lv_bipush (v := (32 : Int32)) hx hb dX5_advance_20 (by decide) ?_
        refine lv_icmp_eq (tgt := 39) hx hb dX5_advance_22 (by decide) (fun c7 => ?_) (fun c7 => ?_)
        · replace hq := i_t c7 hq
          refine lv_aload_n hx hb dX5_advance_39 rfl (lv_at hl 0 rfl) ?_
          refine lv_dup hx hb dX5_advance_40 rfl ?_
          obtain ⟨v8, ev8, hq⟩ := b_s hq
          refine fa_gi (own := RX5) (ref := "CoastlineRuler$Tokens") (k := 5) hx hb hB inB_RX5 hown hI rfl (by decide) m_115 (fun _ h9 => h9) ev8 dX5_advance_41 ?_
          refine lv_iconst (v := (1 : Int32)) hx hb dX5_advance_44 (by decide) ?_
          refine lv_iadd hx hb dX5_advance_45 ?_
          obtain ⟨f9, ef9, hq⟩ := b_s hq
          refine fa_pt (own := RX5) (ref := "CoastlineRuler$Tokens") (k := 5) hx hb hB inB_RX5 tyX5_ok nmX5 hown hI rfl (by decide) m_115 (fun _ h9 => h9) (by decide) rfl rfl ef9 dX5_advance_46 (fun H locs hI => ?_)
          refine lv_goto (tgt := 0) hx hb dX5_advance_49 (by decide) ?_
          exact ih x0 f9 H locs ls hI (lv_sub hl [0] rfl) hq
        · replace hq := i_f c7 hq
          refine lv_aload_n hx hb dX5_advance_25 rfl (lv_at hl 0 rfl) ?_
          obtain ⟨v10, ev10, hq⟩ := b_s hq
          refine fa_gr (own := RX5) (ref := "CoastlineRuler$Tokens") (k := 0) hx hb hB inB_RX5 hown hI rfl (by decide) m_107 (fun _ h9 => h9) ev10 dX5_advance_26 ?_
          refine lv_aload_n hx hb dX5_advance_29 rfl (lv_at hl 0 rfl) ?_
          obtain ⟨v11, ev11, hq⟩ := b_s hq
          refine fa_gi (own := RX5) (ref := "CoastlineRuler$Tokens") (k := 5) hx hb hB inB_RX5 hown hI rfl (by decide) m_115 (fun _ h9 => h9) ev11 dX5_advance_30 ?_
          obtain ⟨v12, ev12, hq⟩ := b_s hq
          refine fa_lb hx hb hI ev12 dX5_advance_33 ?_
          refine lv_bipush (v := (10 : Int32)) hx hb dX5_advance_34 (by decide) ?_
          refine lv_icmp_ne (tgt := 52) hx hb dX5_advance_36 (by decide) (fun c13 => ?_) (fun c13 => ?_)
          · replace hq := i_f c13 hq
            exact hK52 x0 f H locs ls hI (lv_sub hl [0] rfl) hq
          · replace hq := i_t c13 hq
            refine lv_aload_n hx hb dX5_advance_39 rfl (lv_at hl 0 rfl) ?_
            refine lv_dup hx hb dX5_advance_40 rfl ?_
            obtain ⟨v14, ev14, hq⟩ := b_s hq
            refine fa_gi (own := RX5) (ref := "CoastlineRuler$Tokens") (k := 5) hx hb hB inB_RX5 hown hI rfl (by decide) m_115 (fun _ h9 => h9) ev14 dX5_advance_41 ?_
            refine lv_iconst (v := (1 : Int32)) hx hb dX5_advance_44 (by decide) ?_
            refine lv_iadd hx hb dX5_advance_45 ?_
            obtain ⟨f15, ef15, hq⟩ := b_s hq
            refine fa_pt (own := RX5) (ref := "CoastlineRuler$Tokens") (k := 5) hx hb hB inB_RX5 tyX5_ok nmX5 hown hI rfl (by decide) m_115 (fun _ h9 => h9) (by decide) rfl rfl ef15 dX5_advance_46 (fun H locs hI => ?_)
            refine lv_goto (tgt := 0) hx hb dX5_advance_49 (by decide) ?_
            exact ih x0 f15 H locs ls hI (lv_sub hl [0] rfl) hq
  refine hl0 _ ?_ FU a0 f H locs ls hI (lv_sub hl [0] rfl) hq
  · intro x0 f H locs ls hI hl hq
    refine lv_aload_n hx hb dX5_advance_52 rfl (lv_at hl 0 rfl) ?_
    refine lv_aload_n hx hb dX5_advance_53 rfl (lv_at hl 0 rfl) ?_
    obtain ⟨v16, ev16, hq⟩ := b_s hq
    refine fa_gi (own := RX5) (ref := "CoastlineRuler$Tokens") (k := 5) hx hb hB inB_RX5 hown hI rfl (by decide) m_115 (fun _ h9 => h9) ev16 dX5_advance_54 ?_
    obtain ⟨f17, ef17, hq⟩ := b_s hq
    refine fa_pt (own := RX5) (ref := "CoastlineRuler$Tokens") (k := 4) hx hb hB inB_RX5 tyX5_ok nmX5 hown hI rfl (by decide) m_113 (fun _ h9 => h9) (by decide) rfl rfl ef17 dX5_advance_57 (fun H locs hI => ?_)
    refine lv_aload_n hx hb dX5_advance_60 rfl (lv_at hl 0 rfl) ?_
    obtain ⟨v18, ev18, hq⟩ := b_s hq
    refine fa_gi (own := RX5) (ref := "CoastlineRuler$Tokens") (k := 5) hx hb hB inB_RX5 hown hI rfl (by decide) m_115 (fun _ h9 => h9) ev18 dX5_advance_61 ?_
    refine lv_aload_n hx hb dX5_advance_64 rfl (lv_at hl 0 rfl) ?_
    obtain ⟨v19, ev19, hq⟩ := b_s hq
    refine fa_gi (own := RX5) (ref := "CoastlineRuler$Tokens") (k := 2) hx hb hB inB_RX5 hown hI rfl (by decide) m_110 (fun _ h9 => h9) ev19 dX5_advance_65 ?_
    refine lv_icmp_lt (tgt := 79) hx hb dX5_advance_68 (by decide) (fun c20 => ?_) (fun c20 => ?_)
    · replace hq := i_t c20 hq
      refine lv_aload_n hx hb dX5_advance_79 rfl (lv_at hl 0 rfl) ?_
      obtain ⟨v21, ev21, hq⟩ := b_s hq
      refine fa_gr (own := RX5) (ref := "CoastlineRuler$Tokens") (k := 0) hx hb hB inB_RX5 hown hI rfl (by decide) m_107 (fun _ h9 => h9) ev21 dX5_advance_80 ?_
      refine lv_aload_n hx hb dX5_advance_83 rfl (lv_at hl 0 rfl) ?_
      obtain ⟨v22, ev22, hq⟩ := b_s hq
      refine fa_gi (own := RX5) (ref := "CoastlineRuler$Tokens") (k := 5) hx hb hB inB_RX5 hown hI rfl (by decide) m_115 (fun _ h9 => h9) ev22 dX5_advance_84 ?_
      obtain ⟨v23, ev23, hq⟩ := b_s hq
      refine fa_lb hx hb hI ev23 dX5_advance_87 ?_
      refine lv_bipush (v := (97 : Int32)) hx hb dX5_advance_88 (by decide) ?_
      have hj127 : ∀ (x0 : Nat) (f : GH) (H : Heap) (locs : List Loc) (ls : Array Slot), g_at (g_A V) V g D cT f n s H locs → lv_has ls 1 [(0, .ref x0)] → p_X5_advance_j127 V g x0 f = some o → W p l e rm_X5_advance s m args below meth c H locs 0 0 (MQ below (g_Wv V D cT o n) args s 0 0 (g_A V)) (F0 m 127 ls []) := by
        intro x0 f H locs ls hI hl hq
        unfold p_X5_advance_j127 at hq
        refine lv_aload_n hx hb dX5_advance_127 rfl (lv_at hl 0 rfl) ?_
        obtain ⟨v24, ev24, hq⟩ := b_s hq
        refine fa_gr (own := RX5) (ref := "CoastlineRuler$Tokens") (k := 0) hx hb hB inB_RX5 hown hI rfl (by decide) m_107 (fun _ h9 => h9) ev24 dX5_advance_128 ?_
        refine lv_aload_n hx hb dX5_advance_131 rfl (lv_at hl 0 rfl) ?_
        obtain ⟨v25, ev25, hq⟩ := b_s hq
        refine fa_gi (own := RX5) (ref := "CoastlineRuler$Tokens") (k := 5) hx hb hB inB_RX5 hown hI rfl (by decide) m_115 (fun _ h9 => h9) ev25 dX5_advance_132 ?_
        obtain ⟨v26, ev26, hq⟩ := b_s hq
        refine fa_lb hx hb hI ev26 dX5_advance_135 ?_
        refine lv_bipush (v := (48 : Int32)) hx hb dX5_advance_136 (by decide) ?_
        have hj175 : ∀ (x0 : Nat) (f : GH) (H : Heap) (locs : List Loc) (ls : Array Slot), g_at (g_A V) V g D cT f n s H locs → lv_has ls 1 [(0, .ref x0)] → p_X5_advance_j175 V g x0 f = some o → W p l e rm_X5_advance s m args below meth c H locs 0 0 (MQ below (g_Wv V D cT o n) args s 0 0 (g_A V)) (F0 m 175 ls []) := by
          intro x0 f H locs ls hI hl hq
          unfold p_X5_advance_j175 at hq
          refine lv_aload_n hx hb dX5_advance_175 rfl (lv_at hl 0 rfl) ?_
          refine lv_aload_n hx hb dX5_advance_176 rfl (lv_at hl 0 rfl) ?_
          obtain ⟨v27, ev27, hq⟩ := b_s hq
          refine fa_gr (own := RX5) (ref := "CoastlineRuler$Tokens") (k := 0) hx hb hB inB_RX5 hown hI rfl (by decide) m_107 (fun _ h9 => h9) ev27 dX5_advance_177 ?_
          refine lv_aload_n hx hb dX5_advance_180 rfl (lv_at hl 0 rfl) ?_
          obtain ⟨v28, ev28, hq⟩ := b_s hq
          refine fa_gi (own := RX5) (ref := "CoastlineRuler$Tokens") (k := 5) hx hb hB inB_RX5 hown hI rfl (by decide) m_115 (fun _ h9 => h9) ev28 dX5_advance_181 ?_
          obtain ⟨v29, ev29, hq⟩ := b_s hq
          refine fa_lb hx hb hI ev29 dX5_advance_184 ?_
          obtain ⟨v30, ev30, hq⟩ := b_s hq
          refine gr_i (g_runS (As := [.int v29]) (rest := [.ref x0]) hC (c_X5_kindOfSign l V g D cT f n v29 v30 ev30) k_X5_kindOfSign m_391 rfl rfl ⟨Nat.le_of_ble_eq_true rfl, Nat.le_of_ble_eq_true rfl⟩ hI rfl hl.1 rfl (Nat.le_of_ble_eq_true rfl) dX5_advance_185 ⟨by decide, by decide⟩) hI (fun H locs hI => ?_)
          obtain ⟨f31, ef31, hq⟩ := b_s hq
          refine fa_pt (own := RX5) (ref := "CoastlineRuler$Tokens") (k := 3) hx hb hB inB_RX5 tyX5_ok nmX5 hown hI rfl (by decide) m_112 (fun _ h9 => h9) (by decide) rfl rfl ef31 dX5_advance_188 (fun H locs hI => ?_)
          refine lv_aload_n hx hb dX5_advance_191 rfl (lv_at hl 0 rfl) ?_
          refine lv_dup hx hb dX5_advance_192 rfl ?_
          obtain ⟨v32, ev32, hq⟩ := b_s hq
          refine fa_gi (own := RX5) (ref := "CoastlineRuler$Tokens") (k := 5) hx hb hB inB_RX5 hown hI rfl (by decide) m_115 (fun _ h9 => h9) ev32 dX5_advance_193 ?_
          refine lv_iconst (v := (1 : Int32)) hx hb dX5_advance_196 (by decide) ?_
          refine lv_iadd hx hb dX5_advance_197 ?_
          obtain ⟨f33, ef33, hq⟩ := b_s hq
          refine fa_pt (own := RX5) (ref := "CoastlineRuler$Tokens") (k := 5) hx hb hB inB_RX5 tyX5_ok nmX5 hown hI rfl (by decide) m_115 (fun _ h9 => h9) (by decide) rfl rfl ef33 dX5_advance_198 (fun H locs hI => ?_)
          exact ge_Wv hx hb hlocks hr hI (Option.some.inj hq) dX5_advance_201
        refine lv_icmp_lt (tgt := 175) hx hb dX5_advance_138 (by decide) (fun c34 => ?_) (fun c34 => ?_)
        · replace hq := i_t c34 hq
          exact hj175 x0 f H locs ls hI (lv_sub hl [0] rfl) hq
        · replace hq := i_f c34 hq
          refine lv_aload_n hx hb dX5_advance_141 rfl (lv_at hl 0 rfl) ?_
          obtain ⟨v35, ev35, hq⟩ := b_s hq
          refine fa_gr (own := RX5) (ref := "CoastlineRuler$Tokens") (k := 0) hx hb hB inB_RX5 hown hI rfl (by decide) m_107 (fun _ h9 => h9) ev35 dX5_advance_142 ?_
          refine lv_aload_n hx hb dX5_advance_145 rfl (lv_at hl 0 rfl) ?_
          obtain ⟨v36, ev36, hq⟩ := b_s hq
          refine fa_gi (own := RX5) (ref := "CoastlineRuler$Tokens") (k := 5) hx hb hB inB_RX5 hown hI rfl (by decide) m_115 (fun _ h9 => h9) ev36 dX5_advance_146 ?_
          obtain ⟨v37, ev37, hq⟩ := b_s hq
          refine fa_lb hx hb hI ev37 dX5_advance_149 ?_
          refine lv_bipush (v := (57 : Int32)) hx hb dX5_advance_150 (by decide) ?_
          refine lv_icmp_gt (tgt := 175) hx hb dX5_advance_152 (by decide) (fun c38 => ?_) (fun c38 => ?_)
          · replace hq := i_t c38 hq
            exact hj175 x0 f H locs ls hI (lv_sub hl [0] rfl) hq
          · replace hq := i_f c38 hq
            refine lv_aload_n hx hb dX5_advance_155 rfl (lv_at hl 0 rfl) ?_
            refine lv_iconst (v := (2 : Int32)) hx hb dX5_advance_156 (by decide) ?_
            obtain ⟨f39, ef39, hq⟩ := b_s hq
            refine fa_pt (own := RX5) (ref := "CoastlineRuler$Tokens") (k := 3) hx hb hB inB_RX5 tyX5_ok nmX5 hown hI rfl (by decide) m_112 (fun _ h9 => h9) (by decide) rfl rfl ef39 dX5_advance_157 (fun H locs hI => ?_)
            refine lv_aload_n hx hb dX5_advance_160 rfl (lv_at hl 0 rfl) ?_
            refine lv_aload_n hx hb dX5_advance_161 rfl (lv_at hl 0 rfl) ?_
            refine lv_bipush (v := (48 : Int32)) hx hb dX5_advance_162 (by decide) ?_
            refine lv_bipush (v := (57 : Int32)) hx hb dX5_advance_164 (by decide) ?_
            obtain ⟨v40, ev40, hq⟩ := b_s hq
            refine gr_i (g_runV (As := [.int (48 : Int32), .int (57 : Int32)]) (rest := [.ref x0]) (ci := 8) hC (c_X5_endOfRun l V g D cT f39 n x0 (48 : Int32) (57 : Int32) v40 ev40) k_X5_endOfRun m_387 rfl rfl ⟨Nat.le_of_ble_eq_true rfl, Nat.le_of_ble_eq_true rfl⟩ hI rfl rfl (h_me_eq ev40).1 rfl hl.1 rfl (Nat.le_of_ble_eq_true rfl) dX5_advance_166 ⟨by decide, by decide⟩) hI (fun H locs hI => ?_)
            obtain ⟨f41, ef41, hq⟩ := b_s hq
            refine fa_pt (own := RX5) (ref := "CoastlineRuler$Tokens") (k := 5) hx hb hB inB_RX5 tyX5_ok nmX5 hown hI rfl (by decide) m_115 (fun _ h9 => h9) (by decide) rfl rfl ef41 dX5_advance_169 (fun H locs hI => ?_)
            refine lv_goto (tgt := 201) hx hb dX5_advance_172 (by decide) ?_
            exact ge_Wv hx hb hlocks hr hI (Option.some.inj hq) dX5_advance_201
      refine lv_icmp_lt (tgt := 127) hx hb dX5_advance_90 (by decide) (fun c42 => ?_) (fun c42 => ?_)
      · replace hq := i_t c42 hq
        exact hj127 x0 f17 H locs ls hI (lv_sub hl [0] rfl) hq
      · replace hq := i_f c42 hq
        refine lv_aload_n hx hb dX5_advance_93 rfl (lv_at hl 0 rfl) ?_
        obtain ⟨v43, ev43, hq⟩ := b_s hq
        refine fa_gr (own := RX5) (ref := "CoastlineRuler$Tokens") (k := 0) hx hb hB inB_RX5 hown hI rfl (by decide) m_107 (fun _ h9 => h9) ev43 dX5_advance_94 ?_
        refine lv_aload_n hx hb dX5_advance_97 rfl (lv_at hl 0 rfl) ?_
        obtain ⟨v44, ev44, hq⟩ := b_s hq
        refine fa_gi (own := RX5) (ref := "CoastlineRuler$Tokens") (k := 5) hx hb hB inB_RX5 hown hI rfl (by decide) m_115 (fun _ h9 => h9) ev44 dX5_advance_98 ?_
        obtain ⟨v45, ev45, hq⟩ := b_s hq
        refine fa_lb hx hb hI ev45 dX5_advance_101 ?_
        refine lv_bipush (v := (122 : Int32)) hx hb dX5_advance_102 (by decide) ?_
        refine lv_icmp_gt (tgt := 127) hx hb dX5_advance_104 (by decide) (fun c46 => ?_) (fun c46 => ?_)
        · replace hq := i_t c46 hq
          exact hj127 x0 f17 H locs ls hI (lv_sub hl [0] rfl) hq
        · replace hq := i_f c46 hq
          refine lv_aload_n hx hb dX5_advance_107 rfl (lv_at hl 0 rfl) ?_
          refine lv_iconst (v := (1 : Int32)) hx hb dX5_advance_108 (by decide) ?_
          obtain ⟨f47, ef47, hq⟩ := b_s hq
          refine fa_pt (own := RX5) (ref := "CoastlineRuler$Tokens") (k := 3) hx hb hB inB_RX5 tyX5_ok nmX5 hown hI rfl (by decide) m_112 (fun _ h9 => h9) (by decide) rfl rfl ef47 dX5_advance_109 (fun H locs hI => ?_)
          refine lv_aload_n hx hb dX5_advance_112 rfl (lv_at hl 0 rfl) ?_
          refine lv_aload_n hx hb dX5_advance_113 rfl (lv_at hl 0 rfl) ?_
          refine lv_bipush (v := (97 : Int32)) hx hb dX5_advance_114 (by decide) ?_
          refine lv_bipush (v := (122 : Int32)) hx hb dX5_advance_116 (by decide) ?_
          obtain ⟨v48, ev48, hq⟩ := b_s hq
          refine gr_i (g_runV (As := [.int (97 : Int32), .int (122 : Int32)]) (rest := [.ref x0]) (ci := 8) hC (c_X5_endOfRun l V g D cT f47 n x0 (97 : Int32) (122 : Int32) v48 ev48) k_X5_endOfRun m_387 rfl rfl ⟨Nat.le_of_ble_eq_true rfl, Nat.le_of_ble_eq_true rfl⟩ hI rfl rfl (h_me_eq ev48).1 rfl hl.1 rfl (Nat.le_of_ble_eq_true rfl) dX5_advance_118 ⟨by decide, by decide⟩) hI (fun H locs hI => ?_)
          obtain ⟨f49, ef49, hq⟩ := b_s hq
          refine fa_pt (own := RX5) (ref := "CoastlineRuler$Tokens") (k := 5) hx hb hB inB_RX5 tyX5_ok nmX5 hown hI rfl (by decide) m_115 (fun _ h9 => h9) (by decide) rfl rfl ef49 dX5_advance_121 (fun H locs hI => ?_)
          refine lv_goto (tgt := 201) hx hb dX5_advance_124 (by decide) ?_
          exact ge_Wv hx hb hlocks hr hI (Option.some.inj hq) dX5_advance_201
    · replace hq := i_f c20 hq
      refine lv_aload_n hx hb dX5_advance_71 rfl (lv_at hl 0 rfl) ?_
      refine lv_iconst (v := (0 : Int32)) hx hb dX5_advance_72 (by decide) ?_
      obtain ⟨f50, ef50, hq⟩ := b_s hq
      refine fa_pt (own := RX5) (ref := "CoastlineRuler$Tokens") (k := 3) hx hb hB inB_RX5 tyX5_ok nmX5 hown hI rfl (by decide) m_112 (fun _ h9 => h9) (by decide) rfl rfl ef50 dX5_advance_73 (fun H locs hI => ?_)
      refine lv_goto (tgt := 201) hx hb dX5_advance_76 (by decide) ?_
      exact ge_Wv hx hb hlocks hr hI (Option.some.inj hq) dX5_advance_201

abbrev rm_X5_begin : Room := { frames := 4, cells := 0, slots := 0, locals := 163 }
theorem k_X5_begin : g_CV yX5_begin cX5_begin 2 none 1 := ⟨⟨m_382, m_4, by decide +kernel⟩, m_380, m_381⟩
set_option maxHeartbeats 4000000 in
set_option maxRecDepth 100000 in
theorem c_X5_begin (l : Launch) (V : Nat → Nat) (g : GH) (D : va_G) (cT : Nat → ClassId) (f : GH) (n : Nat) (a0 : Nat) (a1 : Int32) (o : GH) (hq : p_X5_begin V g f a0 a1 = some o) : Met l yX5_begin (Cond.code yX5_begin cX5_begin 2 none :: g_B) rm_X5_begin (va_Pc [.ref a0, .int a1] (g_I V g D cT f n)) (g_Wv V D cT o n) 0 0 (g_A V) := by
  refine g_begin (own := RX5) [.ref a0, .int a1] [(0, .ref a0), (1, .int a1)] (g_A V) (fun _ h => h) (by decide) rfl (Nat.le_of_ble_eq_true rfl) rfl ?_
  intro p e s m args below meth c hx hb hr hlocks hin hC hI ls hl
  obtain ⟨hx, hb, hml, hown, hB⟩ := id hC
  obtain ⟨H, hH⟩ : ∃ H, H = s.heap := ⟨_, rfl⟩
  obtain ⟨locs, hlocs⟩ : ∃ L : List Loc, L = [] := ⟨_, rfl⟩
  rw [← hH, ← hlocs] at hI ⊢
  clear hH hlocs
  unfold p_X5_begin at hq
  replace hq := (h_me_eq hq).2
  refine lv_aload_n hx hb dX5_begin_0 rfl (lv_at hl 0 rfl) ?_
  refine lv_iload_n hx hb dX5_begin_1 rfl (lv_at hl 1 rfl) ?_
  obtain ⟨f1, ef1, hq⟩ := b_s hq
  refine fa_pt (own := RX5) (ref := "CoastlineRuler$Tokens") (k := 2) hx hb hB inB_RX5 tyX5_ok nmX5 hown hI rfl (by decide) m_110 (fun _ h9 => h9) (by decide) rfl rfl ef1 dX5_begin_2 (fun H locs hI => ?_)
  refine lv_aload_n hx hb dX5_begin_5 rfl (lv_at hl 0 rfl) ?_
  refine lv_iconst (v := (0 : Int32)) hx hb dX5_begin_6 (by decide) ?_
  obtain ⟨f2, ef2, hq⟩ := b_s hq
  refine fa_pt (own := RX5) (ref := "CoastlineRuler$Tokens") (k := 5) hx hb hB inB_RX5 tyX5_ok nmX5 hown hI rfl (by decide) m_115 (fun _ h9 => h9) (by decide) rfl rfl ef2 dX5_begin_7 (fun H locs hI => ?_)
  refine lv_aload_n hx hb dX5_begin_10 rfl (lv_at hl 0 rfl) ?_
  obtain ⟨v3, ev3, hq⟩ := b_s hq
  refine gw_v (g_runV (As := []) (rest := []) (ci := 8) hC (c_X5_advance l V g D cT f2 n a0 v3 ev3) k_X5_advance m_383 rfl rfl ⟨Nat.le_of_ble_eq_true rfl, Nat.le_of_ble_eq_true rfl⟩ hI rfl rfl (h_me_eq ev3).1 rfl hl.1 rfl (Nat.le_of_ble_eq_true rfl) dX5_begin_11 ⟨by decide, by decide⟩) hI (fun H locs hI => ?_)
  exact ge_Wv hx hb hlocks hr hI (Option.some.inj hq) dX5_begin_14

abbrev rm_X4_begin : Room := { frames := 5, cells := 0, slots := 0, locals := 184 }
theorem k_X4_begin : g_CV yX4_begin cX4_begin 2 none 1 := ⟨⟨m_378, m_5, by decide +kernel⟩, m_377, ms_2⟩
set_option maxHeartbeats 4000000 in
set_option maxRecDepth 100000 in
theorem c_X4_begin (l : Launch) (V : Nat → Nat) (g : GH) (D : va_G) (cT : Nat → ClassId) (f : GH) (n : Nat) (a0 : Nat) (a1 : Int32) (o : GH) (hq : p_X4_begin V g f a0 a1 = some o) : Met l yX4_begin (Cond.code yX4_begin cX4_begin 2 none :: g_B) rm_X4_begin (va_Pc [.ref a0, .int a1] (g_I V g D cT f n)) (g_Wv V D cT o n) 0 0 (g_A V) := by
  refine g_begin (own := RX4) [.ref a0, .int a1] [(0, .ref a0), (1, .int a1)] (g_A V) (fun _ h => h) (by decide) rfl (Nat.le_of_ble_eq_true rfl) rfl ?_
  intro p e s m args below meth c hx hb hr hlocks hin hC hI ls hl
  obtain ⟨hx, hb, hml, hown, hB⟩ := id hC
  obtain ⟨H, hH⟩ : ∃ H, H = s.heap := ⟨_, rfl⟩
  obtain ⟨locs, hlocs⟩ : ∃ L : List Loc, L = [] := ⟨_, rfl⟩
  rw [← hH, ← hlocs] at hI ⊢
  clear hH hlocs
  unfold p_X4_begin at hq
  replace hq := (h_me_eq hq).2
  refine lv_aload_n hx hb dX4_begin_0 rfl (lv_at hl 0 rfl) ?_
  refine lv_iconst (v := (0 : Int32)) hx hb dX4_begin_1 (by decide) ?_
  obtain ⟨f1, ef1, hq⟩ := b_s hq
  refine fa_pt (own := RX4) (ref := "CoastlineRuler$Grammar") (k := 1) hx hb hB inB_RX4 tyX4_ok nmX4 hown hI rfl (by decide) m_138 (fun _ h9 => h9) (by decide) rfl rfl ef1 dX4_begin_2 (fun H locs hI => ?_)
  refine lv_aload_n hx hb dX4_begin_5 rfl (lv_at hl 0 rfl) ?_
  refine lv_iconst (v := (-1 : Int32)) hx hb dX4_begin_6 (by decide) ?_
  obtain ⟨f2, ef2, hq⟩ := b_s hq
  refine fa_pt (own := RX4) (ref := "CoastlineRuler$Grammar") (k := 2) hx hb hB inB_RX4 tyX4_ok nmX4 hown hI rfl (by decide) m_139 (fun _ h9 => h9) (by decide) rfl rfl ef2 dX4_begin_7 (fun H locs hI => ?_)
  refine lv_aload_n hx hb dX4_begin_10 rfl (lv_at hl 0 rfl) ?_
  obtain ⟨v3, ev3, hq⟩ := b_s hq
  refine fa_gr (own := RX4) (ref := "CoastlineRuler$Grammar") (k := 0) hx hb hB inB_RX4 hown hI rfl (by decide) m_136 (fun _ h9 => h9) ev3 dX4_begin_11 ?_
  refine lv_iload_n hx hb dX4_begin_14 rfl (lv_at hl 1 rfl) ?_
  obtain ⟨v4, ev4, hq⟩ := b_s hq
  refine gw_v (g_runV (As := [.int a1]) (rest := []) (ci := 8) hC (c_X5_begin l V g D cT f2 n v3 a1 v4 ev4) k_X5_begin m_379 rfl rfl ⟨Nat.le_of_ble_eq_true rfl, Nat.le_of_ble_eq_true rfl⟩ hI rfl rfl (h_me_eq ev4).1 rfl hl.1 rfl (Nat.le_of_ble_eq_true rfl) dX4_begin_15 ⟨by decide, by decide⟩) hI (fun H locs hI => ?_)
  exact ge_Wv hx hb hlocks hr hI (Option.some.inj hq) dX4_begin_18

abbrev rm_X4_fail : Room := { frames := 2, cells := 0, slots := 0, locals := 120 }
theorem k_X4_fail : g_CV yX4_fail cX4_fail 2 (some .boolean) 1 := ⟨⟨m_453, m_5, by decide +kernel⟩, m_452, ms_4⟩
set_option maxHeartbeats 4000000 in
set_option maxRecDepth 100000 in
theorem c_X4_fail (l : Launch) (V : Nat → Nat) (g : GH) (D : va_G) (cT : Nat → ClassId) (f : GH) (n : Nat) (a0 : Nat) (a1 : Int32) (o : Int32 × GH) (hq : p_X4_fail V g f a0 a1 = some o) : Met l yX4_fail (Cond.code yX4_fail cX4_fail 2 (some .boolean) :: g_B) rm_X4_fail (va_Pc [.ref a0, .int a1] (g_I V g D cT f n)) (g_Wi V D cT o.1 o.2 n) 0 0 (g_A V) := by
  refine g_begin (own := RX4) [.ref a0, .int a1] [(0, .ref a0), (1, .int a1)] (g_A V) (fun _ h => h) (by decide) rfl (Nat.le_of_ble_eq_true rfl) rfl ?_
  intro p e s m args below meth c hx hb hr hlocks hin hC hI ls hl
  obtain ⟨hx, hb, hml, hown, hB⟩ := id hC
  obtain ⟨H, hH⟩ : ∃ H, H = s.heap := ⟨_, rfl⟩
  obtain ⟨locs, hlocs⟩ : ∃ L : List Loc, L = [] := ⟨_, rfl⟩
  rw [← hH, ← hlocs] at hI ⊢
  clear hH hlocs
  unfold p_X4_fail at hq
  replace hq := (h_me_eq hq).2
  refine lv_aload_n hx hb dX4_fail_0 rfl (lv_at hl 0 rfl) ?_
  refine lv_iload_n hx hb dX4_fail_1 rfl (lv_at hl 1 rfl) ?_
  obtain ⟨f1, ef1, hq⟩ := b_s hq
  refine fa_pt (own := RX4) (ref := "CoastlineRuler$Grammar") (k := 1) hx hb hB inB_RX4 tyX4_ok nmX4 hown hI rfl (by decide) m_138 (fun _ h9 => h9) (by decide) rfl rfl ef1 dX4_fail_2 (fun H locs hI => ?_)
  refine lv_aload_n hx hb dX4_fail_5 rfl (lv_at hl 0 rfl) ?_
  refine lv_aload_n hx hb dX4_fail_6 rfl (lv_at hl 0 rfl) ?_
  obtain ⟨v2, ev2, hq⟩ := b_s hq
  refine fa_gr (own := RX4) (ref := "CoastlineRuler$Grammar") (k := 0) hx hb hB inB_RX4 hown hI rfl (by decide) m_136 (fun _ h9 => h9) ev2 dX4_fail_7 ?_
  obtain ⟨v3, ev3, hq⟩ := b_s hq
  refine fa_gi (own := RX4) (ref := "CoastlineRuler$Tokens") (k := 4) hx hb hB inB_RX5 hown hI rfl (by decide) m_114 (fun _ h9 => h9) ev3 dX4_fail_10 ?_
  obtain ⟨f4, ef4, hq⟩ := b_s hq
  refine fa_pt (own := RX4) (ref := "CoastlineRuler$Grammar") (k := 2) hx hb hB inB_RX4 tyX4_ok nmX4 hown hI rfl (by decide) m_139 (fun _ h9 => h9) (by decide) rfl rfl ef4 dX4_fail_13 (fun H locs hI => ?_)
  refine lv_iconst (v := (0 : Int32)) hx hb dX4_fail_16 (by decide) ?_
  exact ge_Wi hx hb hlocks hr (by decide +kernel) hI (congrArg (fun z => z.1) (Option.some.inj hq)) (congrArg (fun z => z.2) (Option.some.inj hq)) dX4_fail_17

abbrev rm_X5_value : Room := { frames := 2, cells := 0, slots := 0, locals := 120 }
theorem k_X5_value : g_CV yX5_value cX5_value 3 (some .int) 0 := ⟨⟨m_478, m_4, by decide +kernel⟩, m_476, m_477⟩
set_option maxHeartbeats 4000000 in
set_option maxRecDepth 100000 in
theorem c_X5_value (l : Launch) (V : Nat → Nat) (g : GH) (D : va_G) (cT : Nat → ClassId) (f : GH) (n : Nat) (a0 : Nat) (o : Int32) (hq : p_X5_value V g f a0 = some o) : Met l yX5_value (Cond.code yX5_value cX5_value 3 (some .int) :: g_B) rm_X5_value (va_Pc [.ref a0] (g_I V g D cT f n)) (g_Ri o n) 0 0 g_no := by
  refine g_begin (own := RX5) [.ref a0] [(0, .ref a0)] g_no (fun _ h => h.elim) (by decide) rfl (Nat.le_of_ble_eq_true rfl) rfl ?_
  intro p e s m args below meth c hx hb hr hlocks hin hC hI ls hl
  obtain ⟨hx, hb, hml, hown, hB⟩ := id hC
  obtain ⟨H, hH⟩ : ∃ H, H = s.heap := ⟨_, rfl⟩
  obtain ⟨locs, hlocs⟩ : ∃ L : List Loc, L = [] := ⟨_, rfl⟩
  rw [← hH, ← hlocs] at hI ⊢
  clear hH hlocs
  unfold p_X5_value at hq
  replace hq := (h_me_eq hq).2
  refine lv_iconst (v := (0 : Int32)) hx hb dX5_value_0 (by decide) ?_
  refine lv_istore_n (lv' := [(1, .int (0 : Int32)), (0, .ref a0)]) hx hb dX5_value_1 rfl hl (by decide) rfl (fun ls hl => ?_)
  refine lv_aload_n hx hb dX5_value_2 rfl (lv_at hl 1 rfl) ?_
  obtain ⟨v1, ev1, hq⟩ := b_s hq
  refine fa_gi (own := RX5) (ref := "CoastlineRuler$Tokens") (k := 4) hx hb hB inB_RX5 hown hI rfl (by decide) m_113 (fun _ h9 => h9) ev1 dX5_value_3 ?_
  refine lv_istore_n (lv' := [(2, .int v1), (1, .int (0 : Int32)), (0, .ref a0)]) hx hb dX5_value_6 rfl hl (by decide) rfl (fun ls hl => ?_)
  have hl7 : ∀ (K42 : Int32 → Option Int32) (hK42 : ∀ (x1 : Int32) (H : Heap) (locs : List Loc) (ls : Array Slot), g_at g_no V g D cT f n s H locs → lv_has ls 3 [(1, .int x1)] → K42 x1 = some o → W p l e rm_X5_value s m args below meth c H locs 0 0 (MQ below (g_Ri o n) args s 0 0 g_no) (F0 m 42 ls [])) (N : Nat) (x0 : Nat) (x1 : Int32) (x2 : Int32) (H : Heap) (locs : List Loc) (ls : Array Slot), g_at g_no V g D cT f n s H locs → lv_has ls 3 [(0, .ref x0), (1, .int x1), (2, .int x2)] → p_X5_value_l7 V g f K42 N x0 x1 x2 = some o → W p l e rm_X5_value s m args below meth c H locs 0 0 (MQ below (g_Ri o n) args s 0 0 g_no) (F0 m 7 ls []) := by
    intro K42 hK42 N
    induction N with
    | zero =>
      intro x0 x1 x2 H locs ls hI hl hq
      rw [p_X5_value_l7] at hq
      cases hq
    | succ N ih =>
      intro x0 x1 x2 H locs ls hI hl hq
      rw [p_X5_value_l7] at hq
      refine lv_iload_n hx hb dX5_value_7 rfl (lv_at hl 2 rfl) ?_
      refine lv_aload_n hx hb dX5_value_8 rfl (lv_at hl 0 rfl) ?_
      obtain ⟨v2, ev2, hq⟩ := b_s hq
      refine fa_gi (own := RX5) (ref := "CoastlineRuler$Tokens") (k := 5) hx hb hB inB_RX5 hown hI rfl (by decide) m_115 (fun _ h9 => h9) ev2 dX5_value_9 ?_
      refine lv_icmp_ge (tgt := 42) hx hb dX5_value_12 (by decide) (fun c3 => ?_) (fun c3 => ?_)
      · replace hq := i_t c3 hq
        exact hK42 x1 H locs ls hI (lv_sub hl [1] rfl) hq
      · replace hq := i_f c3 hq
        refine lv_iload_n hx hb dX5_value_15 rfl (lv_at hl 1 rfl) ?_
        refine lv_ldc (own := RX5) (index := 42) (v := (1000000 : Int32)) hx hb hown (hB _ m_479) dX5_value_16 ?_
        refine lv_icmp_gt (tgt := 42) hx hb dX5_value_18 (by decide) (fun c4 => ?_) (fun c4 => ?_)
        · replace hq := i_t c4 hq
          exact hK42 x1 H locs ls hI (lv_sub hl [1] rfl) hq
        · replace hq := i_f c4 hq
          refine lv_bipush (v := (10 : Int32)) hx hb dX5_value_21 (by decide) ?_
          refine lv_iload_n hx hb dX5_value_23 rfl (lv_at hl 1 rfl) ?_
          refine lv_imul hx hb dX5_value_24 ?_
          refine lv_aload_n hx hb dX5_value_25 rfl (lv_at hl 0 rfl) ?_
          obtain ⟨v5, ev5, hq⟩ := b_s hq
          refine fa_gr (own := RX5) (ref := "CoastlineRuler$Tokens") (k := 0) hx hb hB inB_RX5 hown hI rfl (by decide) m_107 (fun _ h9 => h9) ev5 dX5_value_26 ?_
          refine lv_iload_n hx hb dX5_value_29 rfl (lv_at hl 2 rfl) ?_
          obtain ⟨v6, ev6, hq⟩ := b_s hq
          refine fa_lb hx hb hI ev6 dX5_value_30 ?_
          refine lv_iadd hx hb dX5_value_31 ?_
          refine lv_bipush (v := (48 : Int32)) hx hb dX5_value_32 (by decide) ?_
          refine lv_isub hx hb dX5_value_34 ?_
          refine lv_istore_n (lv' := [(1, .int ((((10 : Int32) * x1) + v6) - (48 : Int32))), (0, .ref x0), (2, .int x2)]) hx hb dX5_value_35 rfl hl (by decide) rfl (fun ls hl => ?_)
          refine lv_iinc (v := x2 + (1 : Int32)) (lv' := [(2, .int (x2 + (1 : Int32))), (1, .int ((((10 : Int32) * x1) + v6) - (48 : Int32))), (0, .ref x0)]) hx hb dX5_value_36 hl (k := 2) rfl rfl (by decide) rfl (fun ls hl => ?_)
          refine lv_goto (tgt := 7) hx hb dX5_value_39 (by decide) ?_
          exact ih x0 ((((10 : Int32) * x1) + v6) - (48 : Int32)) (x2 + (1 : Int32)) H locs ls hI (lv_sub hl [2, 1, 0] rfl) hq
  refine hl7 _ ?_ FU a0 (0 : Int32) v1 H locs ls hI (lv_sub hl [2, 1, 0] rfl) hq
  · intro x1 H locs ls hI hl hq
    refine lv_iload_n hx hb dX5_value_42 rfl (lv_at hl 0 rfl) ?_
    exact ge_Ri hx hb hlocks hr rfl hI hq dX5_value_43

abbrev rm_X4_readInteger : Room := { frames := 4, cells := 0, slots := 0, locals := 163 }
theorem k_X4_readInteger : g_CV yX4_readInteger cX4_readInteger 4 (some .boolean) 2 := ⟨⟨m_474, m_5, by decide +kernel⟩, m_473, ms_8⟩
set_option maxHeartbeats 4000000 in
set_option maxRecDepth 100000 in
theorem c_X4_readInteger (l : Launch) (V : Nat → Nat) (g : GH) (D : va_G) (cT : Nat → ClassId) (f : GH) (n : Nat) (a0 : Nat) (a1 : Int32) (a2 : Int32) (o : Int32 × GH) (hq : p_X4_readInteger V g f a0 a1 a2 = some o) : Met l yX4_readInteger (Cond.code yX4_readInteger cX4_readInteger 4 (some .boolean) :: g_B) rm_X4_readInteger (va_Pc [.ref a0, .int a1, .int a2] (g_I V g D cT f n)) (g_Wi V D cT o.1 o.2 n) 0 0 (g_A V) := by
  refine g_begin (own := RX4) [.ref a0, .int a1, .int a2] [(0, .ref a0), (1, .int a1), (2, .int a2)] (g_A V) (fun _ h => h) (by decide) rfl (Nat.le_of_ble_eq_true rfl) rfl ?_
  intro p e s m args below meth c hx hb hr hlocks hin hC hI ls hl
  obtain ⟨hx, hb, hml, hown, hB⟩ := id hC
  obtain ⟨H, hH⟩ : ∃ H, H = s.heap := ⟨_, rfl⟩
  obtain ⟨locs, hlocs⟩ : ∃ L : List Loc, L = [] := ⟨_, rfl⟩
  rw [← hH, ← hlocs] at hI ⊢
  clear hH hlocs
  unfold p_X4_readInteger at hq
  replace hq := (h_me_eq hq).2
  refine lv_iload_n hx hb dX4_readInteger_0 rfl (lv_at hl 1 rfl) ?_
  have hj20 : ∀ (x0 : Nat) (x1 : Int32) (x2 : Int32) (t0 : Int32) (f : GH) (H : Heap) (locs : List Loc) (ls : Array Slot), g_at (g_A V) V g D cT f n s H locs → lv_has ls 4 [(0, .ref x0), (1, .int x1), (2, .int x2)] → p_X4_readInteger_j20 V g x0 x1 x2 t0 f = some o → W p l e rm_X4_readInteger s m args below meth c H locs 0 0 (MQ below (g_Wi V D cT o.1 o.2 n) args s 0 0 (g_A V)) (F0 m 20 ls [.int t0]) := by
    intro x0 x1 x2 t0 f H locs ls hI hl hq
    unfold p_X4_readInteger_j20 at hq
    refine lv_istore_n (lv' := [(3, .int t0), (0, .ref x0), (1, .int x1), (2, .int x2)]) hx hb dX4_readInteger_20 rfl hl (by decide) rfl (fun ls hl => ?_)
    refine lv_iload_n hx hb dX4_readInteger_21 rfl (lv_at hl 0 rfl) ?_
    have hj32 : ∀ (x0 : Nat) (x1 : Int32) (x2 : Int32) (x3 : Int32) (f : GH) (H : Heap) (locs : List Loc) (ls : Array Slot), g_at (g_A V) V g D cT f n s H locs → lv_has ls 4 [(0, .ref x0), (1, .int x1), (2, .int x2), (3, .int x3)] → p_X4_readInteger_j32 V g x0 x1 x2 x3 f = some o → W p l e rm_X4_readInteger s m args below meth c H locs 0 0 (MQ below (g_Wi V D cT o.1 o.2 n) args s 0 0 (g_A V)) (F0 m 32 ls []) := by
      intro x0 x1 x2 x3 f H locs ls hI hl hq
      unfold p_X4_readInteger_j32 at hq
      refine lv_aload_n hx hb dX4_readInteger_32 rfl (lv_at hl 0 rfl) ?_
      obtain ⟨v1, ev1, hq⟩ := b_s hq
      refine fa_gr (own := RX4) (ref := "CoastlineRuler$Grammar") (k := 0) hx hb hB inB_RX4 hown hI rfl (by decide) m_136 (fun _ h9 => h9) ev1 dX4_readInteger_33 ?_
      obtain ⟨v2, ev2, hq⟩ := b_s hq
      refine fa_gi (own := RX4) (ref := "CoastlineRuler$Tokens") (k := 3) hx hb hB inB_RX5 hown hI rfl (by decide) m_111 (fun _ h9 => h9) ev2 dX4_readInteger_36 ?_
      refine lv_iconst (v := (2 : Int32)) hx hb dX4_readInteger_39 (by decide) ?_
      refine lv_icmp_eq (tgt := 49) hx hb dX4_readInteger_40 (by decide) (fun c3 => ?_) (fun c3 => ?_)
      · replace hq := i_t c3 hq
        refine lv_aload_n hx hb dX4_readInteger_49 rfl (lv_at hl 0 rfl) ?_
        refine lv_iload_n hx hb dX4_readInteger_50 rfl (lv_at hl 3 rfl) ?_
        have hj72 : ∀ (x0 : Nat) (x1 : Int32) (x2 : Int32) (t0 : Int32) (t1 : Nat) (f : GH) (H : Heap) (locs : List Loc) (ls : Array Slot), g_at (g_A V) V g D cT f n s H locs → lv_has ls 4 [(0, .ref x0), (1, .int x1), (2, .int x2)] → p_X4_readInteger_j72 V g x0 x1 x2 t0 t1 f = some o → W p l e rm_X4_readInteger s m args below meth c H locs 0 0 (MQ below (g_Wi V D cT o.1 o.2 n) args s 0 0 (g_A V)) (F0 m 72 ls [.int t0, .ref t1]) := by
          intro x0 x1 x2 t0 t1 f H locs ls hI hl hq
          unfold p_X4_readInteger_j72 at hq
          obtain ⟨f4, ef4, hq⟩ := b_s hq
          refine fa_pt (own := RX4) (ref := "CoastlineRuler$Grammar") (k := 3) hx hb hB inB_RX4 tyX4_ok nmX4 hown hI rfl (by decide) m_140 (fun _ h9 => h9) (by decide) rfl rfl ef4 dX4_readInteger_72 (fun H locs hI => ?_)
          refine lv_aload_n hx hb dX4_readInteger_75 rfl (lv_at hl 0 rfl) ?_
          obtain ⟨v5, ev5, hq⟩ := b_s hq
          refine fa_gi (own := RX4) (ref := "CoastlineRuler$Grammar") (k := 3) hx hb hB inB_RX4 hown hI rfl (by decide) m_140 (fun _ h9 => h9) ev5 dX4_readInteger_76 ?_
          refine lv_iload_n hx hb dX4_readInteger_79 rfl (lv_at hl 1 rfl) ?_
          refine lv_icmp_lt (tgt := 91) hx hb dX4_readInteger_80 (by decide) (fun c6 => ?_) (fun c6 => ?_)
          · replace hq := i_t c6 hq
            refine lv_aload_n hx hb dX4_readInteger_91 rfl (lv_at hl 0 rfl) ?_
            refine lv_iconst (v := (2 : Int32)) hx hb dX4_readInteger_92 (by decide) ?_
            obtain ⟨v7, ev7, hq⟩ := b_s hq
            refine gw_i (g_runV (As := [.int (2 : Int32)]) (rest := []) (ci := 7) hC (c_X4_fail l V g D cT f4 n x0 (2 : Int32) v7 ev7) k_X4_fail m_450 rfl rfl ⟨Nat.le_of_ble_eq_true rfl, Nat.le_of_ble_eq_true rfl⟩ hI rfl rfl (h_me_eq ev7).1 rfl hl.1 rfl (Nat.le_of_ble_eq_true rfl) dX4_readInteger_93 ⟨by decide, by decide⟩) hI (fun H locs hI => ?_)
            obtain ⟨_, ev8, hq⟩ := b_s hq
            exact ge_Wi hx hb hlocks hr (h_bz_eq ev8).2.1 hI (congrArg (fun z => z.1) (Option.some.inj hq)) (congrArg (fun z => z.2) (Option.some.inj hq)) dX4_readInteger_96
          · replace hq := i_f c6 hq
            refine lv_aload_n hx hb dX4_readInteger_83 rfl (lv_at hl 0 rfl) ?_
            obtain ⟨v9, ev9, hq⟩ := b_s hq
            refine fa_gi (own := RX4) (ref := "CoastlineRuler$Grammar") (k := 3) hx hb hB inB_RX4 hown hI rfl (by decide) m_140 (fun _ h9 => h9) ev9 dX4_readInteger_84 ?_
            refine lv_iload_n hx hb dX4_readInteger_87 rfl (lv_at hl 2 rfl) ?_
            refine lv_icmp_le (tgt := 97) hx hb dX4_readInteger_88 (by decide) (fun c10 => ?_) (fun c10 => ?_)
            · replace hq := i_t c10 hq
              refine lv_aload_n hx hb dX4_readInteger_97 rfl (lv_at hl 0 rfl) ?_
              obtain ⟨v11, ev11, hq⟩ := b_s hq
              refine fa_gr (own := RX4) (ref := "CoastlineRuler$Grammar") (k := 0) hx hb hB inB_RX4 hown hI rfl (by decide) m_136 (fun _ h9 => h9) ev11 dX4_readInteger_98 ?_
              obtain ⟨v12, ev12, hq⟩ := b_s hq
              refine gw_v (g_runV (As := []) (rest := []) (ci := 8) hC (c_X5_advance l V g D cT f4 n v11 v12 ev12) k_X5_advance m_454 rfl rfl ⟨Nat.le_of_ble_eq_true rfl, Nat.le_of_ble_eq_true rfl⟩ hI rfl rfl (h_me_eq ev12).1 rfl hl.1 rfl (Nat.le_of_ble_eq_true rfl) dX4_readInteger_101 ⟨by decide, by decide⟩) hI (fun H locs hI => ?_)
              refine lv_iconst (v := (1 : Int32)) hx hb dX4_readInteger_104 (by decide) ?_
              exact ge_Wi hx hb hlocks hr (by decide +kernel) hI (congrArg (fun z => z.1) (Option.some.inj hq)) (congrArg (fun z => z.2) (Option.some.inj hq)) dX4_readInteger_105
            · replace hq := i_f c10 hq
              refine lv_aload_n hx hb dX4_readInteger_91 rfl (lv_at hl 0 rfl) ?_
              refine lv_iconst (v := (2 : Int32)) hx hb dX4_readInteger_92 (by decide) ?_
              obtain ⟨v13, ev13, hq⟩ := b_s hq
              refine gw_i (g_runV (As := [.int (2 : Int32)]) (rest := []) (ci := 7) hC (c_X4_fail l V g D cT f4 n x0 (2 : Int32) v13 ev13) k_X4_fail m_450 rfl rfl ⟨Nat.le_of_ble_eq_true rfl, Nat.le_of_ble_eq_true rfl⟩ hI rfl rfl (h_me_eq ev13).1 rfl hl.1 rfl (Nat.le_of_ble_eq_true rfl) dX4_readInteger_93 ⟨by decide, by decide⟩) hI (fun H locs hI => ?_)
              obtain ⟨_, ev14, hq⟩ := b_s hq
              exact ge_Wi hx hb hlocks hr (h_bz_eq ev14).2.1 hI (congrArg (fun z => z.1) (Option.some.inj hq)) (congrArg (fun z => z.2) (Option.some.inj hq)) dX4_readInteger_96
        refine lv_if_eq (tgt := 65) hx hb dX4_readInteger_51 (by decide) (fun c15 => ?_) (fun c15 => ?_)
        · replace hq := i_t c15 hq
          refine lv_aload_n hx hb dX4_readInteger_65 rfl (lv_at hl 0 rfl) ?_
          obtain ⟨v16, ev16, hq⟩ := b_s hq
          refine fa_gr (own := RX4) (ref := "CoastlineRuler$Grammar") (k := 0) hx hb hB inB_RX4 hown hI rfl (by decide) m_136 (fun _ h9 => h9) ev16 dX4_readInteger_66 ?_
          obtain ⟨v17, ev17, hq⟩ := b_s hq
          refine gr_i (g_runV (As := []) (rest := [.ref x0]) (ci := 8) hC (c_X5_value l V g D cT f n v16 v17 ev17) k_X5_value m_475 rfl rfl ⟨Nat.le_of_ble_eq_true rfl, Nat.le_of_ble_eq_true rfl⟩ hI rfl rfl (h_me_eq ev17).1 rfl hl.1 rfl (Nat.le_of_ble_eq_true rfl) dX4_readInteger_69 ⟨by decide, by decide⟩) hI (fun H locs hI => ?_)
          exact hj72 x0 x1 x2 v17 x0 f H locs ls hI (lv_sub hl [0, 1, 2] rfl) hq
        · replace hq := i_f c15 hq
          refine lv_aload_n hx hb dX4_readInteger_54 rfl (lv_at hl 0 rfl) ?_
          obtain ⟨v18, ev18, hq⟩ := b_s hq
          refine fa_gr (own := RX4) (ref := "CoastlineRuler$Grammar") (k := 0) hx hb hB inB_RX4 hown hI rfl (by decide) m_136 (fun _ h9 => h9) ev18 dX4_readInteger_55 ?_
          obtain ⟨v19, ev19, hq⟩ := b_s hq
          refine gr_i (g_runV (As := []) (rest := [.ref x0]) (ci := 8) hC (c_X5_value l V g D cT f n v18 v19 ev19) k_X5_value m_475 rfl rfl ⟨Nat.le_of_ble_eq_true rfl, Nat.le_of_ble_eq_true rfl⟩ hI rfl rfl (h_me_eq ev19).1 rfl hl.1 rfl (Nat.le_of_ble_eq_true rfl) dX4_readInteger_58 ⟨by decide, by decide⟩) hI (fun H locs hI => ?_)
          refine lv_ineg hx hb dX4_readInteger_61 ?_
          refine lv_goto (tgt := 72) hx hb dX4_readInteger_62 (by decide) ?_
          exact hj72 x0 x1 x2 (-v19) x0 f H locs ls hI (lv_sub hl [0, 1, 2] rfl) hq
      · replace hq := i_f c3 hq
        refine lv_aload_n hx hb dX4_readInteger_43 rfl (lv_at hl 0 rfl) ?_
        refine lv_iconst (v := (1 : Int32)) hx hb dX4_readInteger_44 (by decide) ?_
        obtain ⟨v20, ev20, hq⟩ := b_s hq
        refine gw_i (g_runV (As := [.int (1 : Int32)]) (rest := []) (ci := 7) hC (c_X4_fail l V g D cT f n x0 (1 : Int32) v20 ev20) k_X4_fail m_450 rfl rfl ⟨Nat.le_of_ble_eq_true rfl, Nat.le_of_ble_eq_true rfl⟩ hI rfl rfl (h_me_eq ev20).1 rfl hl.1 rfl (Nat.le_of_ble_eq_true rfl) dX4_readInteger_45 ⟨by decide, by decide⟩) hI (fun H locs hI => ?_)
        obtain ⟨_, ev21, hq⟩ := b_s hq
        exact ge_Wi hx hb hlocks hr (h_bz_eq ev21).2.1 hI (congrArg (fun z => z.1) (Option.some.inj hq)) (congrArg (fun z => z.2) (Option.some.inj hq)) dX4_readInteger_48
    refine lv_if_eq (tgt := 32) hx hb dX4_readInteger_22 (by decide) (fun c22 => ?_) (fun c22 => ?_)
    · replace hq := i_t c22 hq
      exact hj32 x0 x1 x2 t0 f H locs ls hI (lv_sub hl [1, 2, 3, 0] rfl) hq
    · replace hq := i_f c22 hq
      refine lv_aload_n hx hb dX4_readInteger_25 rfl (lv_at hl 1 rfl) ?_
      obtain ⟨v23, ev23, hq⟩ := b_s hq
      refine fa_gr (own := RX4) (ref := "CoastlineRuler$Grammar") (k := 0) hx hb hB inB_RX4 hown hI rfl (by decide) m_136 (fun _ h9 => h9) ev23 dX4_readInteger_26 ?_
      obtain ⟨v24, ev24, hq⟩ := b_s hq
      refine gw_v (g_runV (As := []) (rest := []) (ci := 8) hC (c_X5_advance l V g D cT f n v23 v24 ev24) k_X5_advance m_454 rfl rfl ⟨Nat.le_of_ble_eq_true rfl, Nat.le_of_ble_eq_true rfl⟩ hI rfl rfl (h_me_eq ev24).1 rfl hl.1 rfl (Nat.le_of_ble_eq_true rfl) dX4_readInteger_29 ⟨by decide, by decide⟩) hI (fun H locs hI => ?_)
      exact hj32 x0 x1 x2 t0 v24 H locs ls hI (lv_sub hl [1, 2, 3, 0] rfl) hq
  have hj19 : ∀ (x0 : Nat) (x1 : Int32) (x2 : Int32) (f : GH) (H : Heap) (locs : List Loc) (ls : Array Slot), g_at (g_A V) V g D cT f n s H locs → lv_has ls 4 [(0, .ref x0), (1, .int x1), (2, .int x2)] → p_X4_readInteger_j19 V g (p_X4_readInteger_j20 V g) x0 x1 x2 f = some o → W p l e rm_X4_readInteger s m args below meth c H locs 0 0 (MQ below (g_Wi V D cT o.1 o.2 n) args s 0 0 (g_A V)) (F0 m 19 ls []) := by
    intro x0 x1 x2 f H locs ls hI hl hq
    unfold p_X4_readInteger_j19 at hq
    refine lv_iconst (v := (0 : Int32)) hx hb dX4_readInteger_19 (by decide) ?_
    exact hj20 x0 x1 x2 (0 : Int32) f H locs ls hI (lv_sub hl [0, 1, 2] rfl) hq
  refine lv_if_ge (tgt := 19) hx hb dX4_readInteger_1 (by decide) (fun c25 => ?_) (fun c25 => ?_)
  · replace hq := i_t c25 hq
    exact hj19 a0 a1 a2 f H locs ls hI (lv_sub hl [0, 1, 2] rfl) hq
  · replace hq := i_f c25 hq
    refine lv_aload_n hx hb dX4_readInteger_4 rfl (lv_at hl 0 rfl) ?_
    obtain ⟨v26, ev26, hq⟩ := b_s hq
    refine fa_gr (own := RX4) (ref := "CoastlineRuler$Grammar") (k := 0) hx hb hB inB_RX4 hown hI rfl (by decide) m_136 (fun _ h9 => h9) ev26 dX4_readInteger_5 ?_
    obtain ⟨v27, ev27, hq⟩ := b_s hq
    refine fa_gi (own := RX4) (ref := "CoastlineRuler$Tokens") (k := 3) hx hb hB inB_RX5 hown hI rfl (by decide) m_111 (fun _ h9 => h9) ev27 dX4_readInteger_8 ?_
    refine lv_iconst (v := (5 : Int32)) hx hb dX4_readInteger_11 (by decide) ?_
    refine lv_icmp_ne (tgt := 19) hx hb dX4_readInteger_12 (by decide) (fun c28 => ?_) (fun c28 => ?_)
    · replace hq := i_f c28 hq
      exact hj19 a0 a1 a2 f H locs ls hI (lv_sub hl [0, 1, 2] rfl) hq
    · replace hq := i_t c28 hq
      refine lv_iconst (v := (1 : Int32)) hx hb dX4_readInteger_15 (by decide) ?_
      refine lv_goto (tgt := 20) hx hb dX4_readInteger_16 (by decide) ?_
      exact hj20 a0 a1 a2 (1 : Int32) f H locs ls hI (lv_sub hl [0, 1, 2] rfl) hq

abbrev rm_X4_refusePoint : Room := { frames := 3, cells := 0, slots := 0, locals := 142 }
theorem k_X4_refusePoint : g_CV yX4_refusePoint cX4_refusePoint 1 (some .boolean) 0 := ⟨⟨m_488, m_5, by decide +kernel⟩, m_487, ms_9⟩
set_option maxHeartbeats 4000000 in
set_option maxRecDepth 100000 in
theorem c_X4_refusePoint (l : Launch) (V : Nat → Nat) (g : GH) (D : va_G) (cT : Nat → ClassId) (f : GH) (n : Nat) (a0 : Nat) (o : Int32 × GH) (hq : p_X4_refusePoint V g f a0 = some o) : Met l yX4_refusePoint (Cond.code yX4_refusePoint cX4_refusePoint 1 (some .boolean) :: g_B) rm_X4_refusePoint (va_Pc [.ref a0] (g_I V g D cT f n)) (g_Wi V D cT o.1 o.2 n) 0 0 (g_A V) := by
  refine g_begin (own := RX4) [.ref a0] [(0, .ref a0)] (g_A V) (fun _ h => h) (by decide) rfl (Nat.le_of_ble_eq_true rfl) rfl ?_
  intro p e s m args below meth c hx hb hr hlocks hin hC hI ls hl
  obtain ⟨hx, hb, hml, hown, hB⟩ := id hC
  obtain ⟨H, hH⟩ : ∃ H, H = s.heap := ⟨_, rfl⟩
  obtain ⟨locs, hlocs⟩ : ∃ L : List Loc, L = [] := ⟨_, rfl⟩
  rw [← hH, ← hlocs] at hI ⊢
  clear hH hlocs
  unfold p_X4_refusePoint at hq
  replace hq := (h_me_eq hq).2
  refine lv_aload_n hx hb dX4_refusePoint_0 rfl (lv_at hl 0 rfl) ?_
  obtain ⟨v1, ev1, hq⟩ := b_s hq
  refine fa_gr (own := RX4) (ref := "CoastlineRuler$Grammar") (k := 0) hx hb hB inB_RX4 hown hI rfl (by decide) m_136 (fun _ h9 => h9) ev1 dX4_refusePoint_1 ?_
  obtain ⟨v2, ev2, hq⟩ := b_s hq
  refine fa_gi (own := RX4) (ref := "CoastlineRuler$Tokens") (k := 3) hx hb hB inB_RX5 hown hI rfl (by decide) m_111 (fun _ h9 => h9) ev2 dX4_refusePoint_4 ?_
  refine lv_iconst (v := (5 : Int32)) hx hb dX4_refusePoint_7 (by decide) ?_
  refine lv_icmp_ne (tgt := 17) hx hb dX4_refusePoint_8 (by decide) (fun c3 => ?_) (fun c3 => ?_)
  · replace hq := i_f c3 hq
    refine lv_aload_n hx hb dX4_refusePoint_17 rfl (lv_at hl 0 rfl) ?_
    obtain ⟨v4, ev4, hq⟩ := b_s hq
    refine fa_gr (own := RX4) (ref := "CoastlineRuler$Grammar") (k := 0) hx hb hB inB_RX4 hown hI rfl (by decide) m_136 (fun _ h9 => h9) ev4 dX4_refusePoint_18 ?_
    obtain ⟨v5, ev5, hq⟩ := b_s hq
    refine fa_gi (own := RX4) (ref := "CoastlineRuler$Tokens") (k := 3) hx hb hB inB_RX5 hown hI rfl (by decide) m_111 (fun _ h9 => h9) ev5 dX4_refusePoint_21 ?_
    refine lv_iconst (v := (2 : Int32)) hx hb dX4_refusePoint_24 (by decide) ?_
    refine lv_icmp_eq (tgt := 34) hx hb dX4_refusePoint_25 (by decide) (fun c6 => ?_) (fun c6 => ?_)
    · replace hq := i_t c6 hq
      refine lv_aload_n hx hb dX4_refusePoint_34 rfl (lv_at hl 0 rfl) ?_
      refine lv_aload_n hx hb dX4_refusePoint_35 rfl (lv_at hl 0 rfl) ?_
      obtain ⟨v7, ev7, hq⟩ := b_s hq
      refine fa_gr (own := RX4) (ref := "CoastlineRuler$Grammar") (k := 0) hx hb hB inB_RX4 hown hI rfl (by decide) m_136 (fun _ h9 => h9) ev7 dX4_refusePoint_36 ?_
      obtain ⟨v8, ev8, hq⟩ := b_s hq
      refine gr_i (g_runV (As := []) (rest := [.ref a0]) (ci := 8) hC (c_X5_value l V g D cT f n v7 v8 ev8) k_X5_value m_475 rfl rfl ⟨Nat.le_of_ble_eq_true rfl, Nat.le_of_ble_eq_true rfl⟩ hI rfl rfl (h_me_eq ev8).1 rfl hl.1 rfl (Nat.le_of_ble_eq_true rfl) dX4_refusePoint_39 ⟨by decide, by decide⟩) hI (fun H locs hI => ?_)
      refine lv_sipush (v := (1000 : Int32)) hx hb dX4_refusePoint_42 (by decide) ?_
      refine lv_icmp_le (tgt := 52) hx hb dX4_refusePoint_45 (by decide) (fun c9 => ?_) (fun c9 => ?_)
      · replace hq := i_t c9 hq
        refine lv_iconst (v := (3 : Int32)) hx hb dX4_refusePoint_52 (by decide) ?_
        obtain ⟨v10, ev10, hq⟩ := b_s hq
        refine gw_i (g_runV (As := [.int (3 : Int32)]) (rest := []) (ci := 7) hC (c_X4_fail l V g D cT f n a0 (3 : Int32) v10 ev10) k_X4_fail m_450 rfl rfl ⟨Nat.le_of_ble_eq_true rfl, Nat.le_of_ble_eq_true rfl⟩ hI rfl rfl (h_me_eq ev10).1 rfl hl.1 rfl (Nat.le_of_ble_eq_true rfl) dX4_refusePoint_53 ⟨by decide, by decide⟩) hI (fun H locs hI => ?_)
        obtain ⟨_, ev11, hq⟩ := b_s hq
        exact ge_Wi hx hb hlocks hr (h_bz_eq ev11).2.1 hI (congrArg (fun z => z.1) (Option.some.inj hq)) (congrArg (fun z => z.2) (Option.some.inj hq)) dX4_refusePoint_56
      · replace hq := i_f c9 hq
        refine lv_iconst (v := (2 : Int32)) hx hb dX4_refusePoint_48 (by decide) ?_
        refine lv_goto (tgt := 53) hx hb dX4_refusePoint_49 (by decide) ?_
        obtain ⟨v12, ev12, hq⟩ := b_s hq
        refine gw_i (g_runV (As := [.int (2 : Int32)]) (rest := []) (ci := 7) hC (c_X4_fail l V g D cT f n a0 (2 : Int32) v12 ev12) k_X4_fail m_450 rfl rfl ⟨Nat.le_of_ble_eq_true rfl, Nat.le_of_ble_eq_true rfl⟩ hI rfl rfl (h_me_eq ev12).1 rfl hl.1 rfl (Nat.le_of_ble_eq_true rfl) dX4_refusePoint_53 ⟨by decide, by decide⟩) hI (fun H locs hI => ?_)
        obtain ⟨_, ev13, hq⟩ := b_s hq
        exact ge_Wi hx hb hlocks hr (h_bz_eq ev13).2.1 hI (congrArg (fun z => z.1) (Option.some.inj hq)) (congrArg (fun z => z.2) (Option.some.inj hq)) dX4_refusePoint_56
    · replace hq := i_f c6 hq
      refine lv_aload_n hx hb dX4_refusePoint_28 rfl (lv_at hl 0 rfl) ?_
      refine lv_iconst (v := (1 : Int32)) hx hb dX4_refusePoint_29 (by decide) ?_
      obtain ⟨v14, ev14, hq⟩ := b_s hq
      refine gw_i (g_runV (As := [.int (1 : Int32)]) (rest := []) (ci := 7) hC (c_X4_fail l V g D cT f n a0 (1 : Int32) v14 ev14) k_X4_fail m_450 rfl rfl ⟨Nat.le_of_ble_eq_true rfl, Nat.le_of_ble_eq_true rfl⟩ hI rfl rfl (h_me_eq ev14).1 rfl hl.1 rfl (Nat.le_of_ble_eq_true rfl) dX4_refusePoint_30 ⟨by decide, by decide⟩) hI (fun H locs hI => ?_)
      obtain ⟨_, ev15, hq⟩ := b_s hq
      exact ge_Wi hx hb hlocks hr (h_bz_eq ev15).2.1 hI (congrArg (fun z => z.1) (Option.some.inj hq)) (congrArg (fun z => z.2) (Option.some.inj hq)) dX4_refusePoint_33
  · replace hq := i_t c3 hq
    refine lv_aload_n hx hb dX4_refusePoint_11 rfl (lv_at hl 0 rfl) ?_
    refine lv_iconst (v := (3 : Int32)) hx hb dX4_refusePoint_12 (by decide) ?_
    obtain ⟨v16, ev16, hq⟩ := b_s hq
    refine gw_i (g_runV (As := [.int (3 : Int32)]) (rest := []) (ci := 7) hC (c_X4_fail l V g D cT f n a0 (3 : Int32) v16 ev16) k_X4_fail m_450 rfl rfl ⟨Nat.le_of_ble_eq_true rfl, Nat.le_of_ble_eq_true rfl⟩ hI rfl rfl (h_me_eq ev16).1 rfl hl.1 rfl (Nat.le_of_ble_eq_true rfl) dX4_refusePoint_13 ⟨by decide, by decide⟩) hI (fun H locs hI => ?_)
    obtain ⟨_, ev17, hq⟩ := b_s hq
    exact ge_Wi hx hb hlocks hr (h_bz_eq ev17).2.1 hI (congrArg (fun z => z.1) (Option.some.inj hq)) (congrArg (fun z => z.2) (Option.some.inj hq)) dX4_refusePoint_16


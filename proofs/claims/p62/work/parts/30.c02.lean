abbrev rm_X2_dropOddPoints : Room := { frames := 3, cells := 0, slots := 0, locals := 140 }
theorem k_X2_dropOddPoints : g_CV yX2_dropOddPoints cX2_dropOddPoints 3 none 0 := ⟨⟨m_969, m_3, by decide +kernel⟩, m_967, m_968⟩
set_option maxHeartbeats 4000000 in
set_option maxRecDepth 100000 in
theorem c_X2_dropOddPoints (l : Launch) (V : Nat → Nat) (g : GH) (D : va_G) (cT : Nat → ClassId) (f : GH) (n : Nat) (a0 : Nat) (o : GH) (hq : p_X2_dropOddPoints V g f a0 = some o) : Met l yX2_dropOddPoints (Cond.code yX2_dropOddPoints cX2_dropOddPoints 3 none :: g_B) rm_X2_dropOddPoints (va_Pc [.ref a0] (g_I V g D cT f n)) (g_Wv V D cT o n) 0 0 (g_A V) := by
  refine g_begin (own := RX2) [.ref a0] [(0, .ref a0)] (g_A V) (fun _ h => h) (by decide) rfl (Nat.le_of_ble_eq_true rfl) rfl ?_
  intro p e s m args below meth c hx hb hr hlocks hin hC hI ls hl
  obtain ⟨hx, hb, hml, hown, hB⟩ := id hC
  obtain ⟨H, hH⟩ : ∃ H, H = s.heap := ⟨_, rfl⟩
  obtain ⟨locs, hlocs⟩ : ∃ L : List Loc, L = [] := ⟨_, rfl⟩
  rw [← hH, ← hlocs] at hI ⊢
  clear hH hlocs
  unfold p_X2_dropOddPoints at hq
  replace hq := (h_me_eq hq).2
  refine lv_aload_n hx hb dX2_dropOddPoints_0 rfl (lv_at hl 0 rfl) ?_
  obtain ⟨v1, ev1, hq⟩ := b_s hq
  refine gr_i (g_runV (As := []) (rest := []) (ci := 5) hC (c_X2_pointsAfterUnfold l V g D cT f n a0 v1 ev1) k_X2_pointsAfterUnfold m_970 rfl rfl ⟨Nat.le_of_ble_eq_true rfl, Nat.le_of_ble_eq_true rfl⟩ hI rfl rfl (h_me_eq ev1).1 rfl hl.1 rfl (Nat.le_of_ble_eq_true rfl) dX2_dropOddPoints_1 ⟨by decide, by decide⟩) hI (fun H locs hI => ?_)
  refine lv_istore_n (lv' := [(1, .int v1), (0, .ref a0)]) hx hb dX2_dropOddPoints_4 rfl hl (by decide) rfl (fun ls hl => ?_)
  refine lv_iconst (v := (0 : Int32)) hx hb dX2_dropOddPoints_5 (by decide) ?_
  refine lv_istore_n (lv' := [(2, .int (0 : Int32)), (1, .int v1), (0, .ref a0)]) hx hb dX2_dropOddPoints_6 rfl hl (by decide) rfl (fun ls hl => ?_)
  have hl7 : ∀ (K46 : Nat → Int32 → GH → Option GH) (hK46 : ∀ (x0 : Nat) (x1 : Int32) (f : GH) (H : Heap) (locs : List Loc) (ls : Array Slot), g_at (g_A V) V g D cT f n s H locs → lv_has ls 3 [(0, .ref x0), (1, .int x1)] → K46 x0 x1 f = some o → W p l e rm_X2_dropOddPoints s m args below meth c H locs 0 0 (MQ below (g_Wv V D cT o n) args s 0 0 (g_A V)) (F0 m 46 ls [])) (N : Nat) (x0 : Nat) (x1 : Int32) (x2 : Int32) (f : GH) (H : Heap) (locs : List Loc) (ls : Array Slot), g_at (g_A V) V g D cT f n s H locs → lv_has ls 3 [(0, .ref x0), (1, .int x1), (2, .int x2)] → p_X2_dropOddPoints_l7 V g K46 N x0 x1 x2 f = some o → W p l e rm_X2_dropOddPoints s m args below meth c H locs 0 0 (MQ below (g_Wv V D cT o n) args s 0 0 (g_A V)) (F0 m 7 ls []) := by
    intro K46 hK46 N
    induction N with
    | zero =>
      intro x0 x1 x2 f H locs ls hI hl hq
      rw [p_X2_dropOddPoints_l7] at hq
      cases hq
    | succ N ih =>
      intro x0 x1 x2 f H locs ls hI hl hq
      rw [p_X2_dropOddPoints_l7] at hq
      refine lv_iload_n hx hb dX2_dropOddPoints_7 rfl (lv_at hl 2 rfl) ?_
      refine lv_iload_n hx hb dX2_dropOddPoints_8 rfl (lv_at hl 1 rfl) ?_
      refine lv_icmp_ge (tgt := 46) hx hb dX2_dropOddPoints_9 (by decide) (fun c2 => ?_) (fun c2 => ?_)
      · replace hq := i_t c2 hq
        exact hK46 x0 x1 f H locs ls hI (lv_sub hl [0, 1] rfl) hq
      · replace hq := i_f c2 hq
        refine lv_aload_n hx hb dX2_dropOddPoints_12 rfl (lv_at hl 0 rfl) ?_
        obtain ⟨v3, ev3, hq⟩ := b_s hq
        refine fa_gr (own := RX2) (ref := "CoastlineRuler$Coast") (k := 0) hx hb hB inB_RX2 hown hI rfl (by decide) m_48 (fun _ h9 => h9) ev3 dX2_dropOddPoints_13 ?_
        refine lv_iload_n hx hb dX2_dropOddPoints_16 rfl (lv_at hl 2 rfl) ?_
        refine lv_aload_n hx hb dX2_dropOddPoints_17 rfl (lv_at hl 0 rfl) ?_
        obtain ⟨v4, ev4, hq⟩ := b_s hq
        refine fa_gr (own := RX2) (ref := "CoastlineRuler$Coast") (k := 0) hx hb hB inB_RX2 hown hI rfl (by decide) m_48 (fun _ h9 => h9) ev4 dX2_dropOddPoints_18 ?_
        refine lv_iconst (v := (2 : Int32)) hx hb dX2_dropOddPoints_21 (by decide) ?_
        refine lv_iload_n hx hb dX2_dropOddPoints_22 rfl (lv_at hl 2 rfl) ?_
        refine lv_imul hx hb dX2_dropOddPoints_23 ?_
        obtain ⟨v5, ev5, hq⟩ := b_s hq
        refine fa_li hx hb hI ev5 dX2_dropOddPoints_24 ?_
        obtain ⟨f6, ef6, hq⟩ := b_s hq
        refine fa_si hx hb hI ef6 dX2_dropOddPoints_25 (fun H locs hI => ?_)
        refine lv_aload_n hx hb dX2_dropOddPoints_26 rfl (lv_at hl 0 rfl) ?_
        obtain ⟨v7, ev7, hq⟩ := b_s hq
        refine fa_gr (own := RX2) (ref := "CoastlineRuler$Coast") (k := 1) hx hb hB inB_RX2 hown hI rfl (by decide) m_51 (fun _ h9 => h9) ev7 dX2_dropOddPoints_27 ?_
        refine lv_iload_n hx hb dX2_dropOddPoints_30 rfl (lv_at hl 2 rfl) ?_
        refine lv_aload_n hx hb dX2_dropOddPoints_31 rfl (lv_at hl 0 rfl) ?_
        obtain ⟨v8, ev8, hq⟩ := b_s hq
        refine fa_gr (own := RX2) (ref := "CoastlineRuler$Coast") (k := 1) hx hb hB inB_RX2 hown hI rfl (by decide) m_51 (fun _ h9 => h9) ev8 dX2_dropOddPoints_32 ?_
        refine lv_iconst (v := (2 : Int32)) hx hb dX2_dropOddPoints_35 (by decide) ?_
        refine lv_iload_n hx hb dX2_dropOddPoints_36 rfl (lv_at hl 2 rfl) ?_
        refine lv_imul hx hb dX2_dropOddPoints_37 ?_
        obtain ⟨v9, ev9, hq⟩ := b_s hq
        refine fa_li hx hb hI ev9 dX2_dropOddPoints_38 ?_
        obtain ⟨f10, ef10, hq⟩ := b_s hq
        refine fa_si hx hb hI ef10 dX2_dropOddPoints_39 (fun H locs hI => ?_)
        refine lv_iinc (v := x2 + (1 : Int32)) (lv' := [(2, .int (x2 + (1 : Int32))), (0, .ref x0), (1, .int x1)]) hx hb dX2_dropOddPoints_40 hl (k := 2) rfl rfl (by decide) rfl (fun ls hl => ?_)
        refine lv_goto (tgt := 7) hx hb dX2_dropOddPoints_43 (by decide) ?_
        exact ih x0 x1 (x2 + (1 : Int32)) f10 H locs ls hI (lv_sub hl [1, 2, 0] rfl) hq
  refine hl7 _ ?_ FU a0 v1 (0 : Int32) f H locs ls hI (lv_sub hl [2, 1, 0] rfl) hq
  · intro x0 x1 f H locs ls hI hl hq
    refine lv_aload_n hx hb dX2_dropOddPoints_46 rfl (lv_at hl 0 rfl) ?_
    refine lv_iload_n hx hb dX2_dropOddPoints_47 rfl (lv_at hl 1 rfl) ?_
    obtain ⟨f11, ef11, hq⟩ := b_s hq
    refine fa_pt (own := RX2) (ref := "CoastlineRuler$Coast") (k := 2) hx hb hB inB_RX2 tyX2_ok nmX2 hown hI rfl (by decide) m_54 (fun _ h9 => h9) (by decide) rfl rfl ef11 dX2_dropOddPoints_48 (fun H locs hI => ?_)
    exact ge_Wv hx hb hlocks hr hI (Option.some.inj hq) dX2_dropOddPoints_51

abbrev rm_X2_insertMidpoints : Room := { frames := 5, cells := 0, slots := 0, locals := 186 }
theorem k_X2_insertMidpoints : g_CV yX2_insertMidpoints cX2_insertMidpoints 6 none 1 := ⟨⟨m_886, m_3, by decide +kernel⟩, m_884, m_885⟩
set_option maxHeartbeats 4000000 in
set_option maxRecDepth 100000 in
theorem c_X2_insertMidpoints (l : Launch) (V : Nat → Nat) (g : GH) (D : va_G) (cT : Nat → ClassId) (f : GH) (n : Nat) (a0 : Nat) (a1 : Int32) (o : GH) (hq : p_X2_insertMidpoints V g f a0 a1 = some o) : Met l yX2_insertMidpoints (Cond.code yX2_insertMidpoints cX2_insertMidpoints 6 none :: g_B) rm_X2_insertMidpoints (va_Pc [.ref a0, .int a1] (g_I V g D cT f n)) (g_Wv V D cT o n) 0 0 (g_A V) := by
  refine g_begin (own := RX2) [.ref a0, .int a1] [(0, .ref a0), (1, .int a1)] (g_A V) (fun _ h => h) (by decide) rfl (Nat.le_of_ble_eq_true rfl) rfl ?_
  intro p e s m args below meth c hx hb hr hlocks hin hC hI ls hl
  obtain ⟨hx, hb, hml, hown, hB⟩ := id hC
  obtain ⟨H, hH⟩ : ∃ H, H = s.heap := ⟨_, rfl⟩
  obtain ⟨locs, hlocs⟩ : ∃ L : List Loc, L = [] := ⟨_, rfl⟩
  rw [← hH, ← hlocs] at hI ⊢
  clear hH hlocs
  unfold p_X2_insertMidpoints at hq
  replace hq := (h_me_eq hq).2
  refine lv_aload_n hx hb dX2_insertMidpoints_0 rfl (lv_at hl 0 rfl) ?_
  obtain ⟨v1, ev1, hq⟩ := b_s hq
  refine fa_gi (own := RX2) (ref := "CoastlineRuler$Coast") (k := 2) hx hb hB inB_RX2 hown hI rfl (by decide) m_54 (fun _ h9 => h9) ev1 dX2_insertMidpoints_1 ?_
  refine lv_aload_n hx hb dX2_insertMidpoints_4 rfl (lv_at hl 0 rfl) ?_
  obtain ⟨v2, ev2, hq⟩ := b_s hq
  refine gr_i (g_runV (As := []) (rest := [.int v1]) (ci := 5) hC (c_X2_segments l V g D cT f n a0 v2 ev2) k_X2_segments m_750 rfl rfl ⟨Nat.le_of_ble_eq_true rfl, Nat.le_of_ble_eq_true rfl⟩ hI rfl rfl (h_me_eq ev2).1 rfl hl.1 rfl (Nat.le_of_ble_eq_true rfl) dX2_insertMidpoints_5 ⟨by decide, by decide⟩) hI (fun H locs hI => ?_)
  refine lv_iadd hx hb dX2_insertMidpoints_8 ?_
  refine lv_istore_n (lv' := [(2, .int (v1 + v2)), (0, .ref a0), (1, .int a1)]) hx hb dX2_insertMidpoints_9 rfl hl (by decide) rfl (fun ls hl => ?_)
  refine lv_aload_n hx hb dX2_insertMidpoints_10 rfl (lv_at hl 1 rfl) ?_
  obtain ⟨v3, ev3, hq⟩ := b_s hq
  refine fa_gi (own := RX2) (ref := "CoastlineRuler$Coast") (k := 2) hx hb hB inB_RX2 hown hI rfl (by decide) m_54 (fun _ h9 => h9) ev3 dX2_insertMidpoints_11 ?_
  refine lv_iconst (v := (1 : Int32)) hx hb dX2_insertMidpoints_14 (by decide) ?_
  refine lv_isub hx hb dX2_insertMidpoints_15 ?_
  refine lv_istore_n (lv' := [(3, .int (v3 - (1 : Int32))), (2, .int (v1 + v2)), (0, .ref a0), (1, .int a1)]) hx hb dX2_insertMidpoints_16 rfl hl (by decide) rfl (fun ls hl => ?_)
  have hl17 : ∀ (K104 : Nat → Int32 → GH → Option GH) (hK104 : ∀ (x0 : Nat) (x2 : Int32) (f : GH) (H : Heap) (locs : List Loc) (ls : Array Slot), g_at (g_A V) V g D cT f n s H locs → lv_has ls 6 [(0, .ref x0), (2, .int x2)] → K104 x0 x2 f = some o → W p l e rm_X2_insertMidpoints s m args below meth c H locs 0 0 (MQ below (g_Wv V D cT o n) args s 0 0 (g_A V)) (F0 m 104 ls [])) (N : Nat) (x0 : Nat) (x1 : Int32) (x2 : Int32) (x3 : Int32) (f : GH) (H : Heap) (locs : List Loc) (ls : Array Slot), g_at (g_A V) V g D cT f n s H locs → lv_has ls 6 [(0, .ref x0), (1, .int x1), (2, .int x2), (3, .int x3)] → p_X2_insertMidpoints_l17 V g K104 N x0 x1 x2 x3 f = some o → W p l e rm_X2_insertMidpoints s m args below meth c H locs 0 0 (MQ below (g_Wv V D cT o n) args s 0 0 (g_A V)) (F0 m 17 ls []) := by
    intro K104 hK104 N
    induction N with
    | zero =>
      intro x0 x1 x2 x3 f H locs ls hI hl hq
      rw [p_X2_insertMidpoints_l17] at hq
      cases hq
    | succ N ih =>
      intro x0 x1 x2 x3 f H locs ls hI hl hq
      rw [p_X2_insertMidpoints_l17] at hq
      refine lv_iload_n hx hb dX2_insertMidpoints_17 rfl (lv_at hl 3 rfl) ?_
      refine lv_if_lt (tgt := 104) hx hb dX2_insertMidpoints_18 (by decide) (fun c4 => ?_) (fun c4 => ?_)
      · replace hq := i_t c4 hq
        exact hK104 x0 x2 f H locs ls hI (lv_sub hl [0, 2] rfl) hq
      · replace hq := i_f c4 hq
        refine lv_aload_n hx hb dX2_insertMidpoints_21 rfl (lv_at hl 0 rfl) ?_
        refine lv_iload_n hx hb dX2_insertMidpoints_22 rfl (lv_at hl 3 rfl) ?_
        refine lv_iload_n hx hb dX2_insertMidpoints_23 rfl (lv_at hl 1 rfl) ?_
        obtain ⟨v5, ev5, hq⟩ := b_s hq
        refine gr_i (g_runV (As := [.int x3, .int x1]) (rest := []) (ci := 5) hC (c_X2_midpointX l V g D cT f n x0 x3 x1 v5 ev5) k_X2_midpointX m_859 rfl rfl ⟨Nat.le_of_ble_eq_true rfl, Nat.le_of_ble_eq_true rfl⟩ hI rfl rfl (h_me_eq ev5).1 rfl hl.1 rfl (Nat.le_of_ble_eq_true rfl) dX2_insertMidpoints_24 ⟨by decide, by decide⟩) hI (fun H locs hI => ?_)
        refine lv_istore (lv' := [(4, .int v5), (0, .ref x0), (1, .int x1), (2, .int x2), (3, .int x3)]) hx hb dX2_insertMidpoints_27 hl (by decide) rfl (fun ls hl => ?_)
        refine lv_aload_n hx hb dX2_insertMidpoints_29 rfl (lv_at hl 1 rfl) ?_
        refine lv_iload_n hx hb dX2_insertMidpoints_30 rfl (lv_at hl 4 rfl) ?_
        refine lv_iload_n hx hb dX2_insertMidpoints_31 rfl (lv_at hl 2 rfl) ?_
        obtain ⟨v6, ev6, hq⟩ := b_s hq
        refine gr_i (g_runV (As := [.int x3, .int x1]) (rest := []) (ci := 5) hC (c_X2_midpointY l V g D cT f n x0 x3 x1 v6 ev6) k_X2_midpointY m_874 rfl rfl ⟨Nat.le_of_ble_eq_true rfl, Nat.le_of_ble_eq_true rfl⟩ hI rfl rfl (h_me_eq ev6).1 rfl hl.1 rfl (Nat.le_of_ble_eq_true rfl) dX2_insertMidpoints_32 ⟨by decide, by decide⟩) hI (fun H locs hI => ?_)
        refine lv_istore (lv' := [(5, .int v6), (4, .int v5), (0, .ref x0), (1, .int x1), (2, .int x2), (3, .int x3)]) hx hb dX2_insertMidpoints_35 hl (by decide) rfl (fun ls hl => ?_)
        refine lv_aload_n hx hb dX2_insertMidpoints_37 rfl (lv_at hl 2 rfl) ?_
        obtain ⟨v7, ev7, hq⟩ := b_s hq
        refine fa_gr (own := RX2) (ref := "CoastlineRuler$Coast") (k := 0) hx hb hB inB_RX2 hown hI rfl (by decide) m_48 (fun _ h9 => h9) ev7 dX2_insertMidpoints_38 ?_
        refine lv_iconst (v := (2 : Int32)) hx hb dX2_insertMidpoints_41 (by decide) ?_
        refine lv_iload_n hx hb dX2_insertMidpoints_42 rfl (lv_at hl 5 rfl) ?_
        refine lv_imul hx hb dX2_insertMidpoints_43 ?_
        refine lv_aload_n hx hb dX2_insertMidpoints_44 rfl (lv_at hl 2 rfl) ?_
        obtain ⟨v8, ev8, hq⟩ := b_s hq
        refine fa_gr (own := RX2) (ref := "CoastlineRuler$Coast") (k := 0) hx hb hB inB_RX2 hown hI rfl (by decide) m_48 (fun _ h9 => h9) ev8 dX2_insertMidpoints_45 ?_
        refine lv_iload_n hx hb dX2_insertMidpoints_48 rfl (lv_at hl 5 rfl) ?_
        obtain ⟨v9, ev9, hq⟩ := b_s hq
        refine fa_li hx hb hI ev9 dX2_insertMidpoints_49 ?_
        obtain ⟨f10, ef10, hq⟩ := b_s hq
        refine fa_si hx hb hI ef10 dX2_insertMidpoints_50 (fun H locs hI => ?_)
        refine lv_aload_n hx hb dX2_insertMidpoints_51 rfl (lv_at hl 2 rfl) ?_
        obtain ⟨v11, ev11, hq⟩ := b_s hq
        refine fa_gr (own := RX2) (ref := "CoastlineRuler$Coast") (k := 1) hx hb hB inB_RX2 hown hI rfl (by decide) m_51 (fun _ h9 => h9) ev11 dX2_insertMidpoints_52 ?_
        refine lv_iconst (v := (2 : Int32)) hx hb dX2_insertMidpoints_55 (by decide) ?_
        refine lv_iload_n hx hb dX2_insertMidpoints_56 rfl (lv_at hl 5 rfl) ?_
        refine lv_imul hx hb dX2_insertMidpoints_57 ?_
        refine lv_aload_n hx hb dX2_insertMidpoints_58 rfl (lv_at hl 2 rfl) ?_
        obtain ⟨v12, ev12, hq⟩ := b_s hq
        refine fa_gr (own := RX2) (ref := "CoastlineRuler$Coast") (k := 1) hx hb hB inB_RX2 hown hI rfl (by decide) m_51 (fun _ h9 => h9) ev12 dX2_insertMidpoints_59 ?_
        refine lv_iload_n hx hb dX2_insertMidpoints_62 rfl (lv_at hl 5 rfl) ?_
        obtain ⟨v13, ev13, hq⟩ := b_s hq
        refine fa_li hx hb hI ev13 dX2_insertMidpoints_63 ?_
        obtain ⟨f14, ef14, hq⟩ := b_s hq
        refine fa_si hx hb hI ef14 dX2_insertMidpoints_64 (fun H locs hI => ?_)
        refine lv_iconst (v := (2 : Int32)) hx hb dX2_insertMidpoints_65 (by decide) ?_
        refine lv_iload_n hx hb dX2_insertMidpoints_66 rfl (lv_at hl 5 rfl) ?_
        refine lv_imul hx hb dX2_insertMidpoints_67 ?_
        refine lv_iconst (v := (1 : Int32)) hx hb dX2_insertMidpoints_68 (by decide) ?_
        refine lv_iadd hx hb dX2_insertMidpoints_69 ?_
        refine lv_iload_n hx hb dX2_insertMidpoints_70 rfl (lv_at hl 4 rfl) ?_
        refine lv_icmp_ge (tgt := 98) hx hb dX2_insertMidpoints_71 (by decide) (fun c15 => ?_) (fun c15 => ?_)
        · replace hq := i_t c15 hq
          refine lv_iinc (v := x3 + (-1 : Int32)) (lv' := [(3, .int (x3 + (-1 : Int32))), (5, .int v6), (4, .int v5), (0, .ref x0), (1, .int x1), (2, .int x2)]) hx hb dX2_insertMidpoints_98 hl (k := 5) rfl rfl (by decide) rfl (fun ls hl => ?_)
          refine lv_goto (tgt := 17) hx hb dX2_insertMidpoints_101 (by decide) ?_
          exact ih x0 x1 x2 (x3 + (-1 : Int32)) f14 H locs ls hI (lv_sub hl [3, 4, 5, 0] rfl) hq
        · replace hq := i_f c15 hq
          refine lv_aload_n hx hb dX2_insertMidpoints_74 rfl (lv_at hl 2 rfl) ?_
          obtain ⟨v16, ev16, hq⟩ := b_s hq
          refine fa_gr (own := RX2) (ref := "CoastlineRuler$Coast") (k := 0) hx hb hB inB_RX2 hown hI rfl (by decide) m_48 (fun _ h9 => h9) ev16 dX2_insertMidpoints_75 ?_
          refine lv_iconst (v := (2 : Int32)) hx hb dX2_insertMidpoints_78 (by decide) ?_
          refine lv_iload_n hx hb dX2_insertMidpoints_79 rfl (lv_at hl 5 rfl) ?_
          refine lv_imul hx hb dX2_insertMidpoints_80 ?_
          refine lv_iconst (v := (1 : Int32)) hx hb dX2_insertMidpoints_81 (by decide) ?_
          refine lv_iadd hx hb dX2_insertMidpoints_82 ?_
          refine lv_iload hx hb dX2_insertMidpoints_83 (lv_at hl 1 rfl) ?_
          obtain ⟨f17, ef17, hq⟩ := b_s hq
          refine fa_si hx hb hI ef17 dX2_insertMidpoints_85 (fun H locs hI => ?_)
          refine lv_aload_n hx hb dX2_insertMidpoints_86 rfl (lv_at hl 2 rfl) ?_
          obtain ⟨v18, ev18, hq⟩ := b_s hq
          refine fa_gr (own := RX2) (ref := "CoastlineRuler$Coast") (k := 1) hx hb hB inB_RX2 hown hI rfl (by decide) m_51 (fun _ h9 => h9) ev18 dX2_insertMidpoints_87 ?_
          refine lv_iconst (v := (2 : Int32)) hx hb dX2_insertMidpoints_90 (by decide) ?_
          refine lv_iload_n hx hb dX2_insertMidpoints_91 rfl (lv_at hl 5 rfl) ?_
          refine lv_imul hx hb dX2_insertMidpoints_92 ?_
          refine lv_iconst (v := (1 : Int32)) hx hb dX2_insertMidpoints_93 (by decide) ?_
          refine lv_iadd hx hb dX2_insertMidpoints_94 ?_
          refine lv_iload hx hb dX2_insertMidpoints_95 (lv_at hl 0 rfl) ?_
          obtain ⟨f19, ef19, hq⟩ := b_s hq
          refine fa_si hx hb hI ef19 dX2_insertMidpoints_97 (fun H locs hI => ?_)
          refine lv_iinc (v := x3 + (-1 : Int32)) (lv' := [(3, .int (x3 + (-1 : Int32))), (5, .int v6), (4, .int v5), (0, .ref x0), (1, .int x1), (2, .int x2)]) hx hb dX2_insertMidpoints_98 hl (k := 5) rfl rfl (by decide) rfl (fun ls hl => ?_)
          refine lv_goto (tgt := 17) hx hb dX2_insertMidpoints_101 (by decide) ?_
          exact ih x0 x1 x2 (x3 + (-1 : Int32)) f19 H locs ls hI (lv_sub hl [3, 4, 5, 0] rfl) hq
  refine hl17 _ ?_ FU a0 a1 (v1 + v2) (v3 - (1 : Int32)) f H locs ls hI (lv_sub hl [2, 3, 1, 0] rfl) hq
  · intro x0 x2 f H locs ls hI hl hq
    refine lv_aload_n hx hb dX2_insertMidpoints_104 rfl (lv_at hl 0 rfl) ?_
    refine lv_iload_n hx hb dX2_insertMidpoints_105 rfl (lv_at hl 1 rfl) ?_
    obtain ⟨f20, ef20, hq⟩ := b_s hq
    refine fa_pt (own := RX2) (ref := "CoastlineRuler$Coast") (k := 2) hx hb hB inB_RX2 tyX2_ok nmX2 hown hI rfl (by decide) m_54 (fun _ h9 => h9) (by decide) rfl rfl ef20 dX2_insertMidpoints_106 (fun H locs hI => ?_)
    exact ge_Wv hx hb hlocks hr hI (Option.some.inj hq) dX2_insertMidpoints_109

abbrev rm_X2_slide : Room := { frames := 2, cells := 0, slots := 0, locals := 120 }
theorem k_X2_slide : g_CV yX2_slide cX2_slide 4 none 2 := ⟨⟨m_978, m_3, by decide +kernel⟩, m_976, m_977⟩
set_option maxHeartbeats 4000000 in
set_option maxRecDepth 100000 in
theorem c_X2_slide (l : Launch) (V : Nat → Nat) (g : GH) (D : va_G) (cT : Nat → ClassId) (f : GH) (n : Nat) (a0 : Nat) (a1 : Int32) (a2 : Int32) (o : GH) (hq : p_X2_slide V g f a0 a1 a2 = some o) : Met l yX2_slide (Cond.code yX2_slide cX2_slide 4 none :: g_B) rm_X2_slide (va_Pc [.ref a0, .int a1, .int a2] (g_I V g D cT f n)) (g_Wv V D cT o n) 0 0 (g_A V) := by
  refine g_begin (own := RX2) [.ref a0, .int a1, .int a2] [(0, .ref a0), (1, .int a1), (2, .int a2)] (g_A V) (fun _ h => h) (by decide) rfl (Nat.le_of_ble_eq_true rfl) rfl ?_
  intro p e s m args below meth c hx hb hr hlocks hin hC hI ls hl
  obtain ⟨hx, hb, hml, hown, hB⟩ := id hC
  obtain ⟨H, hH⟩ : ∃ H, H = s.heap := ⟨_, rfl⟩
  obtain ⟨locs, hlocs⟩ : ∃ L : List Loc, L = [] := ⟨_, rfl⟩
  rw [← hH, ← hlocs] at hI ⊢
  clear hH hlocs
  unfold p_X2_slide at hq
  replace hq := (h_me_eq hq).2
  refine lv_iconst (v := (0 : Int32)) hx hb dX2_slide_0 (by decide) ?_
  refine lv_istore_n (lv' := [(3, .int (0 : Int32)), (0, .ref a0), (1, .int a1), (2, .int a2)]) hx hb dX2_slide_1 rfl hl (by decide) rfl (fun ls hl => ?_)
  have hl2 : ∀ (K36 : GH → Option GH) (hK36 : ∀ (f : GH) (H : Heap) (locs : List Loc) (ls : Array Slot), g_at (g_A V) V g D cT f n s H locs → lv_has ls 4 [] → K36 f = some o → W p l e rm_X2_slide s m args below meth c H locs 0 0 (MQ below (g_Wv V D cT o n) args s 0 0 (g_A V)) (F0 m 36 ls [])) (N : Nat) (x0 : Nat) (x1 : Int32) (x2 : Int32) (x3 : Int32) (f : GH) (H : Heap) (locs : List Loc) (ls : Array Slot), g_at (g_A V) V g D cT f n s H locs → lv_has ls 4 [(0, .ref x0), (1, .int x1), (2, .int x2), (3, .int x3)] → p_X2_slide_l2 V g K36 N x0 x1 x2 x3 f = some o → W p l e rm_X2_slide s m args below meth c H locs 0 0 (MQ below (g_Wv V D cT o n) args s 0 0 (g_A V)) (F0 m 2 ls []) := by
    intro K36 hK36 N
    induction N with
    | zero =>
      intro x0 x1 x2 x3 f H locs ls hI hl hq
      rw [p_X2_slide_l2] at hq
      cases hq
    | succ N ih =>
      intro x0 x1 x2 x3 f H locs ls hI hl hq
      rw [p_X2_slide_l2] at hq
      refine lv_iload_n hx hb dX2_slide_2 rfl (lv_at hl 3 rfl) ?_
      refine lv_aload_n hx hb dX2_slide_3 rfl (lv_at hl 0 rfl) ?_
      obtain ⟨v1, ev1, hq⟩ := b_s hq
      refine fa_gi (own := RX2) (ref := "CoastlineRuler$Coast") (k := 2) hx hb hB inB_RX2 hown hI rfl (by decide) m_54 (fun _ h9 => h9) ev1 dX2_slide_4 ?_
      refine lv_icmp_ge (tgt := 36) hx hb dX2_slide_7 (by decide) (fun c2 => ?_) (fun c2 => ?_)
      · replace hq := i_t c2 hq
        exact hK36 f H locs ls hI (lv_sub hl [] rfl) hq
      · replace hq := i_f c2 hq
        refine lv_aload_n hx hb dX2_slide_10 rfl (lv_at hl 0 rfl) ?_
        obtain ⟨v3, ev3, hq⟩ := b_s hq
        refine fa_gr (own := RX2) (ref := "CoastlineRuler$Coast") (k := 0) hx hb hB inB_RX2 hown hI rfl (by decide) m_48 (fun _ h9 => h9) ev3 dX2_slide_11 ?_
        refine lv_iload_n hx hb dX2_slide_14 rfl (lv_at hl 3 rfl) ?_
        refine lv_dup2_11 hx hb dX2_slide_15 rfl rfl ?_
        obtain ⟨v4, ev4, hq⟩ := b_s hq
        refine fa_li hx hb hI ev4 dX2_slide_16 ?_
        refine lv_iload_n hx hb dX2_slide_17 rfl (lv_at hl 1 rfl) ?_
        refine lv_iadd hx hb dX2_slide_18 ?_
        obtain ⟨f5, ef5, hq⟩ := b_s hq
        refine fa_si hx hb hI ef5 dX2_slide_19 (fun H locs hI => ?_)
        refine lv_aload_n hx hb dX2_slide_20 rfl (lv_at hl 0 rfl) ?_
        obtain ⟨v6, ev6, hq⟩ := b_s hq
        refine fa_gr (own := RX2) (ref := "CoastlineRuler$Coast") (k := 1) hx hb hB inB_RX2 hown hI rfl (by decide) m_51 (fun _ h9 => h9) ev6 dX2_slide_21 ?_
        refine lv_iload_n hx hb dX2_slide_24 rfl (lv_at hl 3 rfl) ?_
        refine lv_dup2_11 hx hb dX2_slide_25 rfl rfl ?_
        obtain ⟨v7, ev7, hq⟩ := b_s hq
        refine fa_li hx hb hI ev7 dX2_slide_26 ?_
        refine lv_iload_n hx hb dX2_slide_27 rfl (lv_at hl 2 rfl) ?_
        refine lv_iadd hx hb dX2_slide_28 ?_
        obtain ⟨f8, ef8, hq⟩ := b_s hq
        refine fa_si hx hb hI ef8 dX2_slide_29 (fun H locs hI => ?_)
        refine lv_iinc (v := x3 + (1 : Int32)) (lv' := [(3, .int (x3 + (1 : Int32))), (0, .ref x0), (1, .int x1), (2, .int x2)]) hx hb dX2_slide_30 hl (k := 3) rfl rfl (by decide) rfl (fun ls hl => ?_)
        refine lv_goto (tgt := 2) hx hb dX2_slide_33 (by decide) ?_
        exact ih x0 x1 x2 (x3 + (1 : Int32)) f8 H locs ls hI (lv_sub hl [1, 2, 3, 0] rfl) hq
  refine hl2 _ ?_ FU a0 a1 a2 (0 : Int32) f H locs ls hI (lv_sub hl [1, 2, 3, 0] rfl) hq
  · intro f H locs ls hI hl hq
    exact ge_Wv hx hb hlocks hr hI (Option.some.inj hq) dX2_slide_36

abbrev rm_X2_turnAround : Room := { frames := 2, cells := 0, slots := 0, locals := 120 }
theorem k_X2_turnAround : g_CV yX2_turnAround cX2_turnAround 5 none 0 := ⟨⟨m_982, m_3, by decide +kernel⟩, m_980, m_981⟩
set_option maxHeartbeats 4000000 in
set_option maxRecDepth 100000 in
theorem c_X2_turnAround (l : Launch) (V : Nat → Nat) (g : GH) (D : va_G) (cT : Nat → ClassId) (f : GH) (n : Nat) (a0 : Nat) (o : GH) (hq : p_X2_turnAround V g f a0 = some o) : Met l yX2_turnAround (Cond.code yX2_turnAround cX2_turnAround 5 none :: g_B) rm_X2_turnAround (va_Pc [.ref a0] (g_I V g D cT f n)) (g_Wv V D cT o n) 0 0 (g_A V) := by
  refine g_begin (own := RX2) [.ref a0] [(0, .ref a0)] (g_A V) (fun _ h => h) (by decide) rfl (Nat.le_of_ble_eq_true rfl) rfl ?_
  intro p e s m args below meth c hx hb hr hlocks hin hC hI ls hl
  obtain ⟨hx, hb, hml, hown, hB⟩ := id hC
  obtain ⟨H, hH⟩ : ∃ H, H = s.heap := ⟨_, rfl⟩
  obtain ⟨locs, hlocs⟩ : ∃ L : List Loc, L = [] := ⟨_, rfl⟩
  rw [← hH, ← hlocs] at hI ⊢
  clear hH hlocs
  unfold p_X2_turnAround at hq
  replace hq := (h_me_eq hq).2
  refine lv_iconst (v := (0 : Int32)) hx hb dX2_turnAround_0 (by decide) ?_
  refine lv_istore_n (lv' := [(1, .int (0 : Int32)), (0, .ref a0)]) hx hb dX2_turnAround_1 rfl hl (by decide) rfl (fun ls hl => ?_)
  refine lv_aload_n hx hb dX2_turnAround_2 rfl (lv_at hl 1 rfl) ?_
  obtain ⟨v1, ev1, hq⟩ := b_s hq
  refine fa_gi (own := RX2) (ref := "CoastlineRuler$Coast") (k := 2) hx hb hB inB_RX2 hown hI rfl (by decide) m_54 (fun _ h9 => h9) ev1 dX2_turnAround_3 ?_
  refine lv_iconst (v := (1 : Int32)) hx hb dX2_turnAround_6 (by decide) ?_
  refine lv_isub hx hb dX2_turnAround_7 ?_
  refine lv_istore_n (lv' := [(2, .int (v1 - (1 : Int32))), (1, .int (0 : Int32)), (0, .ref a0)]) hx hb dX2_turnAround_8 rfl hl (by decide) rfl (fun ls hl => ?_)
  have hl9 : ∀ (K77 : GH → Option GH) (hK77 : ∀ (f : GH) (H : Heap) (locs : List Loc) (ls : Array Slot), g_at (g_A V) V g D cT f n s H locs → lv_has ls 5 [] → K77 f = some o → W p l e rm_X2_turnAround s m args below meth c H locs 0 0 (MQ below (g_Wv V D cT o n) args s 0 0 (g_A V)) (F0 m 77 ls [])) (N : Nat) (x0 : Nat) (x1 : Int32) (x2 : Int32) (f : GH) (H : Heap) (locs : List Loc) (ls : Array Slot), g_at (g_A V) V g D cT f n s H locs → lv_has ls 5 [(0, .ref x0), (1, .int x1), (2, .int x2)] → p_X2_turnAround_l9 V g K77 N x0 x1 x2 f = some o → W p l e rm_X2_turnAround s m args below meth c H locs 0 0 (MQ below (g_Wv V D cT o n) args s 0 0 (g_A V)) (F0 m 9 ls []) := by
    intro K77 hK77 N
    induction N with
    | zero =>
      intro x0 x1 x2 f H locs ls hI hl hq
      rw [p_X2_turnAround_l9] at hq
      cases hq
    | succ N ih =>
      intro x0 x1 x2 f H locs ls hI hl hq
      rw [p_X2_turnAround_l9] at hq
      refine lv_iload_n hx hb dX2_turnAround_9 rfl (lv_at hl 1 rfl) ?_
      refine lv_iload_n hx hb dX2_turnAround_10 rfl (lv_at hl 2 rfl) ?_
      refine lv_icmp_ge (tgt := 77) hx hb dX2_turnAround_11 (by decide) (fun c2 => ?_) (fun c2 => ?_)
      · replace hq := i_t c2 hq
        exact hK77 f H locs ls hI (lv_sub hl [] rfl) hq
      · replace hq := i_f c2 hq
        refine lv_aload_n hx hb dX2_turnAround_14 rfl (lv_at hl 0 rfl) ?_
        obtain ⟨v3, ev3, hq⟩ := b_s hq
        refine fa_gr (own := RX2) (ref := "CoastlineRuler$Coast") (k := 0) hx hb hB inB_RX2 hown hI rfl (by decide) m_48 (fun _ h9 => h9) ev3 dX2_turnAround_15 ?_
        refine lv_iload_n hx hb dX2_turnAround_18 rfl (lv_at hl 1 rfl) ?_
        obtain ⟨v4, ev4, hq⟩ := b_s hq
        refine fa_li hx hb hI ev4 dX2_turnAround_19 ?_
        refine lv_istore_n (lv' := [(3, .int v4), (0, .ref x0), (1, .int x1), (2, .int x2)]) hx hb dX2_turnAround_20 rfl hl (by decide) rfl (fun ls hl => ?_)
        refine lv_aload_n hx hb dX2_turnAround_21 rfl (lv_at hl 1 rfl) ?_
        obtain ⟨v5, ev5, hq⟩ := b_s hq
        refine fa_gr (own := RX2) (ref := "CoastlineRuler$Coast") (k := 1) hx hb hB inB_RX2 hown hI rfl (by decide) m_51 (fun _ h9 => h9) ev5 dX2_turnAround_22 ?_
        refine lv_iload_n hx hb dX2_turnAround_25 rfl (lv_at hl 2 rfl) ?_
        obtain ⟨v6, ev6, hq⟩ := b_s hq
        refine fa_li hx hb hI ev6 dX2_turnAround_26 ?_
        refine lv_istore (lv' := [(4, .int v6), (3, .int v4), (0, .ref x0), (1, .int x1), (2, .int x2)]) hx hb dX2_turnAround_27 hl (by decide) rfl (fun ls hl => ?_)
        refine lv_aload_n hx hb dX2_turnAround_29 rfl (lv_at hl 2 rfl) ?_
        obtain ⟨v7, ev7, hq⟩ := b_s hq
        refine fa_gr (own := RX2) (ref := "CoastlineRuler$Coast") (k := 0) hx hb hB inB_RX2 hown hI rfl (by decide) m_48 (fun _ h9 => h9) ev7 dX2_turnAround_30 ?_
        refine lv_iload_n hx hb dX2_turnAround_33 rfl (lv_at hl 3 rfl) ?_
        refine lv_aload_n hx hb dX2_turnAround_34 rfl (lv_at hl 2 rfl) ?_
        obtain ⟨v8, ev8, hq⟩ := b_s hq
        refine fa_gr (own := RX2) (ref := "CoastlineRuler$Coast") (k := 0) hx hb hB inB_RX2 hown hI rfl (by decide) m_48 (fun _ h9 => h9) ev8 dX2_turnAround_35 ?_
        refine lv_iload_n hx hb dX2_turnAround_38 rfl (lv_at hl 4 rfl) ?_
        obtain ⟨v9, ev9, hq⟩ := b_s hq
        refine fa_li hx hb hI ev9 dX2_turnAround_39 ?_
        obtain ⟨f10, ef10, hq⟩ := b_s hq
        refine fa_si hx hb hI ef10 dX2_turnAround_40 (fun H locs hI => ?_)
        refine lv_aload_n hx hb dX2_turnAround_41 rfl (lv_at hl 2 rfl) ?_
        obtain ⟨v11, ev11, hq⟩ := b_s hq
        refine fa_gr (own := RX2) (ref := "CoastlineRuler$Coast") (k := 1) hx hb hB inB_RX2 hown hI rfl (by decide) m_51 (fun _ h9 => h9) ev11 dX2_turnAround_42 ?_
        refine lv_iload_n hx hb dX2_turnAround_45 rfl (lv_at hl 3 rfl) ?_
        refine lv_aload_n hx hb dX2_turnAround_46 rfl (lv_at hl 2 rfl) ?_
        obtain ⟨v12, ev12, hq⟩ := b_s hq
        refine fa_gr (own := RX2) (ref := "CoastlineRuler$Coast") (k := 1) hx hb hB inB_RX2 hown hI rfl (by decide) m_51 (fun _ h9 => h9) ev12 dX2_turnAround_47 ?_
        refine lv_iload_n hx hb dX2_turnAround_50 rfl (lv_at hl 4 rfl) ?_
        obtain ⟨v13, ev13, hq⟩ := b_s hq
        refine fa_li hx hb hI ev13 dX2_turnAround_51 ?_
        obtain ⟨f14, ef14, hq⟩ := b_s hq
        refine fa_si hx hb hI ef14 dX2_turnAround_52 (fun H locs hI => ?_)
        refine lv_aload_n hx hb dX2_turnAround_53 rfl (lv_at hl 2 rfl) ?_
        obtain ⟨v15, ev15, hq⟩ := b_s hq
        refine fa_gr (own := RX2) (ref := "CoastlineRuler$Coast") (k := 0) hx hb hB inB_RX2 hown hI rfl (by decide) m_48 (fun _ h9 => h9) ev15 dX2_turnAround_54 ?_
        refine lv_iload_n hx hb dX2_turnAround_57 rfl (lv_at hl 4 rfl) ?_
        refine lv_iload_n hx hb dX2_turnAround_58 rfl (lv_at hl 1 rfl) ?_
        obtain ⟨f16, ef16, hq⟩ := b_s hq
        refine fa_si hx hb hI ef16 dX2_turnAround_59 (fun H locs hI => ?_)
        refine lv_aload_n hx hb dX2_turnAround_60 rfl (lv_at hl 2 rfl) ?_
        obtain ⟨v17, ev17, hq⟩ := b_s hq
        refine fa_gr (own := RX2) (ref := "CoastlineRuler$Coast") (k := 1) hx hb hB inB_RX2 hown hI rfl (by decide) m_51 (fun _ h9 => h9) ev17 dX2_turnAround_61 ?_
        refine lv_iload_n hx hb dX2_turnAround_64 rfl (lv_at hl 4 rfl) ?_
        refine lv_iload hx hb dX2_turnAround_65 (lv_at hl 0 rfl) ?_
        obtain ⟨f18, ef18, hq⟩ := b_s hq
        refine fa_si hx hb hI ef18 dX2_turnAround_67 (fun H locs hI => ?_)
        refine lv_iinc (v := x1 + (1 : Int32)) (lv' := [(1, .int (x1 + (1 : Int32))), (4, .int v6), (3, .int v4), (0, .ref x0), (2, .int x2)]) hx hb dX2_turnAround_68 hl (k := 3) rfl rfl (by decide) rfl (fun ls hl => ?_)
        refine lv_iinc (v := x2 + (-1 : Int32)) (lv' := [(2, .int (x2 + (-1 : Int32))), (1, .int (x1 + (1 : Int32))), (4, .int v6), (3, .int v4), (0, .ref x0)]) hx hb dX2_turnAround_71 hl (k := 4) rfl rfl (by decide) rfl (fun ls hl => ?_)
        refine lv_goto (tgt := 9) hx hb dX2_turnAround_74 (by decide) ?_
        exact ih x0 (x1 + (1 : Int32)) (x2 + (-1 : Int32)) f18 H locs ls hI (lv_sub hl [4, 1, 0] rfl) hq
  refine hl9 _ ?_ FU a0 (0 : Int32) (v1 - (1 : Int32)) f H locs ls hI (lv_sub hl [2, 1, 0] rfl) hq
  · intro f H locs ls hI hl hq
    exact ge_Wv hx hb hlocks hr hI (Option.some.inj hq) dX2_turnAround_77

abbrev rm_X1_reshape : Room := { frames := 6, cells := 0, slots := 0, locals := 211 }
theorem k_X1_reshape : g_CV yX1_reshape cX1_reshape 3 none 2 := ⟨⟨m_964, m_2, by decide +kernel⟩, m_962, m_963⟩
set_option maxHeartbeats 4000000 in
set_option maxRecDepth 100000 in
theorem c_X1_reshape (l : Launch) (V : Nat → Nat) (g : GH) (D : va_G) (cT : Nat → ClassId) (f : GH) (n : Nat) (a0 : Nat) (a1 : Nat) (a2 : Nat) (o : GH) (hq : p_X1_reshape V g f a0 a1 a2 = some o) : Met l yX1_reshape (Cond.code yX1_reshape cX1_reshape 3 none :: g_B) rm_X1_reshape (va_Pc [.ref a0, .ref a1, .ref a2] (g_I V g D cT f n)) (g_Wv V D cT o n) 0 0 (g_A V) := by
  refine g_begin (own := RX1) [.ref a0, .ref a1, .ref a2] [(0, .ref a0), (1, .ref a1), (2, .ref a2)] (g_A V) (fun _ h => h) (by decide) rfl (Nat.le_of_ble_eq_true rfl) rfl ?_
  intro p e s m args below meth c hx hb hr hlocks hin hC hI ls hl
  obtain ⟨hx, hb, hml, hown, hB⟩ := id hC
  obtain ⟨H, hH⟩ : ∃ H, H = s.heap := ⟨_, rfl⟩
  obtain ⟨locs, hlocs⟩ : ∃ L : List Loc, L = [] := ⟨_, rfl⟩
  rw [← hH, ← hlocs] at hI ⊢
  clear hH hlocs
  unfold p_X1_reshape at hq
  replace hq := (h_me_eq hq).2
  refine fs_gs (i := 12) hx hb hown hI rfl (hB _ m_917) (fun _ h9 => h9) dX1_reshape_0 ?_
  refine lv_aload_n hx hb dX1_reshape_3 rfl (lv_at hl 2 rfl) ?_
  obtain ⟨v1, ev1, hq⟩ := b_s hq
  refine fa_gr (own := RX1) (ref := "CoastlineRuler$Command") (k := 0) hx hb hB inB_RX3 hown hI rfl (by decide) m_165 (fun _ h9 => h9) ev1 dX1_reshape_4 ?_
  obtain ⟨v2, ev2, hq⟩ := b_s hq
  refine gr_i (g_runUs (As := []) (rest := [.ref (V 13)]) (ci := 50) hC (c_Jx29ce0_ordinal_8abf5 l V g D cT f n v1 v2 ev2) (⟨⟨m_924, m_7⟩, m_923, m_920, m_922, rfl, by decide, by decide, by decide +kernel⟩ : g_CU "CoastlineRuler$Verb" "java/lang/Enum" (⟨"CoastlineRuler$Verb", "ordinal", "()I"⟩ : MethodName) yJx29ce0_ordinal_8abf5 cJx29ce0_ordinal_8abf5 1 (some .int) 0) m_919 rfl rfl ⟨Nat.le_of_ble_eq_true rfl, Nat.le_of_ble_eq_true rfl⟩ hI rfl (h_me_eq ev2).1 rfl hl.1 rfl (Nat.le_of_ble_eq_true rfl) dX1_reshape_7 ⟨by decide, by decide⟩) hI (fun H locs hI => ?_)
  obtain ⟨v3, ev3, hq⟩ := b_s hq
  refine fs_li hx hb hI ev3 dX1_reshape_10 ?_
  by_cases c4_0 : v3 = (1 : Int32)
  · replace hq := i_t c4_0 hq
    refine lv_tableIn (off := 57) (tgt := 68) hx hb dX1_reshape_11 (by rw [c4_0]; decide) (by rw [c4_0]; decide) (by rw [c4_0]; decide) (by decide) ?_
    refine lv_aload_n hx hb dX1_reshape_68 rfl (lv_at hl 1 rfl) ?_
    refine lv_aload_n hx hb dX1_reshape_69 rfl (lv_at hl 2 rfl) ?_
    obtain ⟨v5, ev5, hq⟩ := b_s hq
    refine fa_gi (own := RX1) (ref := "CoastlineRuler$Command") (k := 3) hx hb hB inB_RX3 hown hI rfl (by decide) m_172 (fun _ h9 => h9) ev5 dX1_reshape_70 ?_
    obtain ⟨v6, ev6, hq⟩ := b_s hq
    refine gw_v (g_runV (As := [.int v5]) (rest := []) (ci := 5) hC (c_X2_insertMidpoints l V g D cT f n a1 v5 v6 ev6) k_X2_insertMidpoints m_965 rfl rfl ⟨Nat.le_of_ble_eq_true rfl, Nat.le_of_ble_eq_true rfl⟩ hI rfl rfl (h_me_eq ev6).1 rfl hl.1 rfl (Nat.le_of_ble_eq_true rfl) dX1_reshape_73 ⟨by decide, by decide⟩) hI (fun H locs hI => ?_)
    refine lv_goto (tgt := 138) hx hb dX1_reshape_76 (by decide) ?_
    exact ge_Wv hx hb hlocks hr hI (Option.some.inj hq) dX1_reshape_138
  · replace hq := i_f c4_0 hq
    by_cases c4_1 : v3 = (2 : Int32)
    · replace hq := i_t c4_1 hq
      refine lv_tableIn (off := 68) (tgt := 79) hx hb dX1_reshape_11 (by rw [c4_1]; decide) (by rw [c4_1]; decide) (by rw [c4_1]; decide) (by decide) ?_
      refine lv_aload_n hx hb dX1_reshape_79 rfl (lv_at hl 1 rfl) ?_
      obtain ⟨v7, ev7, hq⟩ := b_s hq
      refine gw_v (g_runV (As := []) (rest := []) (ci := 5) hC (c_X2_dropOddPoints l V g D cT f n a1 v7 ev7) k_X2_dropOddPoints m_966 rfl rfl ⟨Nat.le_of_ble_eq_true rfl, Nat.le_of_ble_eq_true rfl⟩ hI rfl rfl (h_me_eq ev7).1 rfl hl.1 rfl (Nat.le_of_ble_eq_true rfl) dX1_reshape_80 ⟨by decide, by decide⟩) hI (fun H locs hI => ?_)
      refine lv_goto (tgt := 138) hx hb dX1_reshape_83 (by decide) ?_
      exact ge_Wv hx hb hlocks hr hI (Option.some.inj hq) dX1_reshape_138
    · replace hq := i_f c4_1 hq
      by_cases c4_2 : v3 = (3 : Int32)
      · replace hq := i_t c4_2 hq
        refine lv_tableIn (off := 75) (tgt := 86) hx hb dX1_reshape_11 (by rw [c4_2]; decide) (by rw [c4_2]; decide) (by rw [c4_2]; decide) (by decide) ?_
        refine lv_aload_n hx hb dX1_reshape_86 rfl (lv_at hl 1 rfl) ?_
        refine lv_aload_n hx hb dX1_reshape_87 rfl (lv_at hl 2 rfl) ?_
        obtain ⟨v8, ev8, hq⟩ := b_s hq
        refine fa_gi (own := RX1) (ref := "CoastlineRuler$Command") (k := 2) hx hb hB inB_RX3 hown hI rfl (by decide) m_170 (fun _ h9 => h9) ev8 dX1_reshape_88 ?_
        refine lv_aload_n hx hb dX1_reshape_91 rfl (lv_at hl 2 rfl) ?_
        obtain ⟨v9, ev9, hq⟩ := b_s hq
        refine fa_gi (own := RX1) (ref := "CoastlineRuler$Command") (k := 3) hx hb hB inB_RX3 hown hI rfl (by decide) m_172 (fun _ h9 => h9) ev9 dX1_reshape_92 ?_
        refine lv_aload_n hx hb dX1_reshape_95 rfl (lv_at hl 2 rfl) ?_
        obtain ⟨v10, ev10, hq⟩ := b_s hq
        refine fa_gi (own := RX1) (ref := "CoastlineRuler$Command") (k := 4) hx hb hB inB_RX3 hown hI rfl (by decide) m_174 (fun _ h9 => h9) ev10 dX1_reshape_96 ?_
        obtain ⟨v11, ev11, hq⟩ := b_s hq
        refine gw_v (g_runV (As := [.int v8, .int v9, .int v10]) (rest := []) (ci := 5) hC (c_X2_insert l V g D cT f n a1 v8 v9 v10 v11 ev11) k_X2_insert m_234 rfl rfl ⟨Nat.le_of_ble_eq_true rfl, Nat.le_of_ble_eq_true rfl⟩ hI rfl rfl (h_me_eq ev11).1 rfl hl.1 rfl (Nat.le_of_ble_eq_true rfl) dX1_reshape_99 ⟨by decide, by decide⟩) hI (fun H locs hI => ?_)
        refine lv_goto (tgt := 138) hx hb dX1_reshape_102 (by decide) ?_
        exact ge_Wv hx hb hlocks hr hI (Option.some.inj hq) dX1_reshape_138
      · replace hq := i_f c4_2 hq
        by_cases c4_3 : v3 = (4 : Int32)
        · replace hq := i_t c4_3 hq
          refine lv_tableIn (off := 94) (tgt := 105) hx hb dX1_reshape_11 (by rw [c4_3]; decide) (by rw [c4_3]; decide) (by rw [c4_3]; decide) (by decide) ?_
          refine lv_aload_n hx hb dX1_reshape_105 rfl (lv_at hl 1 rfl) ?_
          refine lv_aload_n hx hb dX1_reshape_106 rfl (lv_at hl 2 rfl) ?_
          obtain ⟨v12, ev12, hq⟩ := b_s hq
          refine fa_gi (own := RX1) (ref := "CoastlineRuler$Command") (k := 2) hx hb hB inB_RX3 hown hI rfl (by decide) m_170 (fun _ h9 => h9) ev12 dX1_reshape_107 ?_
          obtain ⟨v13, ev13, hq⟩ := b_s hq
          refine gw_v (g_runV (As := [.int v12]) (rest := []) (ci := 5) hC (c_X2_drop l V g D cT f n a1 v12 v13 ev13) k_X2_drop m_971 rfl rfl ⟨Nat.le_of_ble_eq_true rfl, Nat.le_of_ble_eq_true rfl⟩ hI rfl rfl (h_me_eq ev13).1 rfl hl.1 rfl (Nat.le_of_ble_eq_true rfl) dX1_reshape_110 ⟨by decide, by decide⟩) hI (fun H locs hI => ?_)
          refine lv_goto (tgt := 138) hx hb dX1_reshape_113 (by decide) ?_
          exact ge_Wv hx hb hlocks hr hI (Option.some.inj hq) dX1_reshape_138
        · replace hq := i_f c4_3 hq
          by_cases c4_4 : v3 = (5 : Int32)
          · replace hq := i_t c4_4 hq
            refine lv_tableIn (off := 105) (tgt := 116) hx hb dX1_reshape_11 (by rw [c4_4]; decide) (by rw [c4_4]; decide) (by rw [c4_4]; decide) (by decide) ?_
            refine lv_aload_n hx hb dX1_reshape_116 rfl (lv_at hl 1 rfl) ?_
            refine lv_aload_n hx hb dX1_reshape_117 rfl (lv_at hl 2 rfl) ?_
            obtain ⟨v14, ev14, hq⟩ := b_s hq
            refine fa_gi (own := RX1) (ref := "CoastlineRuler$Command") (k := 3) hx hb hB inB_RX3 hown hI rfl (by decide) m_172 (fun _ h9 => h9) ev14 dX1_reshape_118 ?_
            refine lv_aload_n hx hb dX1_reshape_121 rfl (lv_at hl 2 rfl) ?_
            obtain ⟨v15, ev15, hq⟩ := b_s hq
            refine fa_gi (own := RX1) (ref := "CoastlineRuler$Command") (k := 4) hx hb hB inB_RX3 hown hI rfl (by decide) m_174 (fun _ h9 => h9) ev15 dX1_reshape_122 ?_
            obtain ⟨v16, ev16, hq⟩ := b_s hq
            refine gw_v (g_runV (As := [.int v14, .int v15]) (rest := []) (ci := 5) hC (c_X2_slide l V g D cT f n a1 v14 v15 v16 ev16) k_X2_slide m_975 rfl rfl ⟨Nat.le_of_ble_eq_true rfl, Nat.le_of_ble_eq_true rfl⟩ hI rfl rfl (h_me_eq ev16).1 rfl hl.1 rfl (Nat.le_of_ble_eq_true rfl) dX1_reshape_125 ⟨by decide, by decide⟩) hI (fun H locs hI => ?_)
            refine lv_goto (tgt := 138) hx hb dX1_reshape_128 (by decide) ?_
            exact ge_Wv hx hb hlocks hr hI (Option.some.inj hq) dX1_reshape_138
          · replace hq := i_f c4_4 hq
            by_cases c4_5 : v3 = (6 : Int32)
            · replace hq := i_t c4_5 hq
              refine lv_tableIn (off := 127) (tgt := 138) hx hb dX1_reshape_11 (by rw [c4_5]; decide) (by rw [c4_5]; decide) (by rw [c4_5]; decide) (by decide) ?_
              exact ge_Wv hx hb hlocks hr hI (Option.some.inj hq) dX1_reshape_138
            · replace hq := i_f c4_5 hq
              by_cases c4_6 : v3 = (7 : Int32)
              · replace hq := i_t c4_6 hq
                refine lv_tableIn (off := 127) (tgt := 138) hx hb dX1_reshape_11 (by rw [c4_6]; decide) (by rw [c4_6]; decide) (by rw [c4_6]; decide) (by decide) ?_
                exact ge_Wv hx hb hlocks hr hI (Option.some.inj hq) dX1_reshape_138
              · replace hq := i_f c4_6 hq
                by_cases c4_7 : v3 = (8 : Int32)
                · replace hq := i_t c4_7 hq
                  refine lv_tableIn (off := 127) (tgt := 138) hx hb dX1_reshape_11 (by rw [c4_7]; decide) (by rw [c4_7]; decide) (by rw [c4_7]; decide) (by decide) ?_
                  exact ge_Wv hx hb hlocks hr hI (Option.some.inj hq) dX1_reshape_138
                · replace hq := i_f c4_7 hq
                  by_cases c4_8 : v3 = (9 : Int32)
                  · replace hq := i_t c4_8 hq
                    refine lv_tableIn (off := 127) (tgt := 138) hx hb dX1_reshape_11 (by rw [c4_8]; decide) (by rw [c4_8]; decide) (by rw [c4_8]; decide) (by decide) ?_
                    exact ge_Wv hx hb hlocks hr hI (Option.some.inj hq) dX1_reshape_138
                  · replace hq := i_f c4_8 hq
                    by_cases c4_9 : v3 = (10 : Int32)
                    · replace hq := i_t c4_9 hq
                      refine lv_tableIn (off := 127) (tgt := 138) hx hb dX1_reshape_11 (by rw [c4_9]; decide) (by rw [c4_9]; decide) (by rw [c4_9]; decide) (by decide) ?_
                      exact ge_Wv hx hb hlocks hr hI (Option.some.inj hq) dX1_reshape_138
                    · replace hq := i_f c4_9 hq
                      by_cases c4_10 : v3 = (11 : Int32)
                      · replace hq := i_t c4_10 hq
                        refine lv_tableIn (off := 120) (tgt := 131) hx hb dX1_reshape_11 (by rw [c4_10]; decide) (by rw [c4_10]; decide) (by rw [c4_10]; decide) (by decide) ?_
                        refine lv_aload_n hx hb dX1_reshape_131 rfl (lv_at hl 1 rfl) ?_
                        obtain ⟨v17, ev17, hq⟩ := b_s hq
                        refine gw_v (g_runV (As := []) (rest := []) (ci := 5) hC (c_X2_turnAround l V g D cT f n a1 v17 ev17) k_X2_turnAround m_979 rfl rfl ⟨Nat.le_of_ble_eq_true rfl, Nat.le_of_ble_eq_true rfl⟩ hI rfl rfl (h_me_eq ev17).1 rfl hl.1 rfl (Nat.le_of_ble_eq_true rfl) dX1_reshape_132 ⟨by decide, by decide⟩) hI (fun H locs hI => ?_)
                        refine lv_goto (tgt := 138) hx hb dX1_reshape_135 (by decide) ?_
                        exact ge_Wv hx hb hlocks hr hI (Option.some.inj hq) dX1_reshape_138
                      · replace hq := i_f c4_10 hq
                        have nc4_0 := lv_neT (a := 1) c4_0 rfl
                        have nc4_1 := lv_neT (a := 2) c4_1 rfl
                        have nc4_2 := lv_neT (a := 3) c4_2 rfl
                        have nc4_3 := lv_neT (a := 4) c4_3 rfl
                        have nc4_4 := lv_neT (a := 5) c4_4 rfl
                        have nc4_5 := lv_neT (a := 6) c4_5 rfl
                        have nc4_6 := lv_neT (a := 7) c4_6 rfl
                        have nc4_7 := lv_neT (a := 8) c4_7 rfl
                        have nc4_8 := lv_neT (a := 9) c4_8 rfl
                        have nc4_9 := lv_neT (a := 10) c4_9 rfl
                        have nc4_10 := lv_neT (a := 11) c4_10 rfl
                        refine lv_tableOut (tgt := 138) hx hb dX1_reshape_11 (by omega) (by decide) ?_
                        exact ge_Wv hx hb hlocks hr hI (Option.some.inj hq) dX1_reshape_138

abbrev rm_X1_apply : Room := { frames := 7, cells := 0, slots := 0, locals := 233 }
theorem k_X1_apply : g_CV yX1_apply cX1_apply 5 (some .int) 1 := ⟨⟨m_947, m_2, by decide +kernel⟩, m_945, m_946⟩
set_option maxHeartbeats 4000000 in
set_option maxRecDepth 100000 in
theorem c_X1_apply (l : Launch) (V : Nat → Nat) (g : GH) (D : va_G) (cT : Nat → ClassId) (f : GH) (n : Nat) (a0 : Nat) (a1 : Nat) (o : Int32 × GH) (hq : p_X1_apply V g f a0 a1 = some o) : Met l yX1_apply (Cond.code yX1_apply cX1_apply 5 (some .int) :: g_B) rm_X1_apply (va_Pc [.ref a0, .ref a1] (g_I V g D cT f n)) (g_Wi V D cT o.1 o.2 n) 0 0 (g_A V) := by
  refine g_begin (own := RX1) [.ref a0, .ref a1] [(0, .ref a0), (1, .ref a1)] (g_A V) (fun _ h => h) (by decide) rfl (Nat.le_of_ble_eq_true rfl) rfl ?_
  intro p e s m args below meth c hx hb hr hlocks hin hC hI ls hl
  obtain ⟨hx, hb, hml, hown, hB⟩ := id hC
  obtain ⟨H, hH⟩ : ∃ H, H = s.heap := ⟨_, rfl⟩
  obtain ⟨locs, hlocs⟩ : ∃ L : List Loc, L = [] := ⟨_, rfl⟩
  rw [← hH, ← hlocs] at hI ⊢
  clear hH hlocs
  unfold p_X1_apply at hq
  replace hq := (h_me_eq hq).2
  refine fs_gs (i := 12) hx hb hown hI rfl (hB _ m_917) (fun _ h9 => h9) dX1_apply_0 ?_
  refine lv_aload_n hx hb dX1_apply_3 rfl (lv_at hl 1 rfl) ?_
  obtain ⟨v1, ev1, hq⟩ := b_s hq
  refine fa_gr (own := RX1) (ref := "CoastlineRuler$Command") (k := 0) hx hb hB inB_RX3 hown hI rfl (by decide) m_165 (fun _ h9 => h9) ev1 dX1_apply_4 ?_
  obtain ⟨v2, ev2, hq⟩ := b_s hq
  refine gr_i (g_runUs (As := []) (rest := [.ref (V 13)]) (ci := 50) hC (c_Jx29ce0_ordinal_8abf5 l V g D cT f n v1 v2 ev2) (⟨⟨m_924, m_7⟩, m_923, m_920, m_922, rfl, by decide, by decide, by decide +kernel⟩ : g_CU "CoastlineRuler$Verb" "java/lang/Enum" (⟨"CoastlineRuler$Verb", "ordinal", "()I"⟩ : MethodName) yJx29ce0_ordinal_8abf5 cJx29ce0_ordinal_8abf5 1 (some .int) 0) m_919 rfl rfl ⟨Nat.le_of_ble_eq_true rfl, Nat.le_of_ble_eq_true rfl⟩ hI rfl (h_me_eq ev2).1 rfl hl.1 rfl (Nat.le_of_ble_eq_true rfl) dX1_apply_7 ⟨by decide, by decide⟩) hI (fun H locs hI => ?_)
  obtain ⟨v3, ev3, hq⟩ := b_s hq
  refine fs_li hx hb hI ev3 dX1_apply_10 ?_
  by_cases c4_0 : v3 = (6 : Int32)
  · replace hq := i_t c4_0 hq
    refine lv_tableIn (off := 33) (tgt := 44) hx hb dX1_apply_11 (by rw [c4_0]; decide) (by rw [c4_0]; decide) (by rw [c4_0]; decide) (by decide) ?_
    refine lv_aload_n hx hb dX1_apply_44 rfl (lv_at hl 0 rfl) ?_
    refine lv_aload_n hx hb dX1_apply_45 rfl (lv_at hl 1 rfl) ?_
    obtain ⟨v5, ev5, hq⟩ := b_s hq
    refine fa_gr (own := RX1) (ref := "CoastlineRuler$Command") (k := 6) hx hb hB inB_RX3 hown hI rfl (by decide) m_178 (fun _ h9 => h9) ev5 dX1_apply_46 ?_
    obtain ⟨v6, ev6, hq⟩ := b_s hq
    refine gw_i (g_runV (As := [.ref v5]) (rest := []) (ci := 4) hC (c_X1_add l V g D cT f n a0 v5 v6 ev6) k_X1_add m_948 rfl rfl ⟨Nat.le_of_ble_eq_true rfl, Nat.le_of_ble_eq_true rfl⟩ hI rfl rfl (h_me_eq ev6).1 rfl hl.1 rfl (Nat.le_of_ble_eq_true rfl) dX1_apply_49 ⟨by decide, by decide⟩) hI (fun H locs hI => ?_)
    exact ge_Wi hx hb hlocks hr rfl hI (congrArg (fun z => z.1) (Option.some.inj hq)) (congrArg (fun z => z.2) (Option.some.inj hq)) dX1_apply_52
  · replace hq := i_f c4_0 hq
    by_cases c4_1 : v3 = (7 : Int32)
    · replace hq := i_t c4_1 hq
      refine lv_tableIn (off := 33) (tgt := 44) hx hb dX1_apply_11 (by rw [c4_1]; decide) (by rw [c4_1]; decide) (by rw [c4_1]; decide) (by decide) ?_
      refine lv_aload_n hx hb dX1_apply_44 rfl (lv_at hl 0 rfl) ?_
      refine lv_aload_n hx hb dX1_apply_45 rfl (lv_at hl 1 rfl) ?_
      obtain ⟨v7, ev7, hq⟩ := b_s hq
      refine fa_gr (own := RX1) (ref := "CoastlineRuler$Command") (k := 6) hx hb hB inB_RX3 hown hI rfl (by decide) m_178 (fun _ h9 => h9) ev7 dX1_apply_46 ?_
      obtain ⟨v8, ev8, hq⟩ := b_s hq
      refine gw_i (g_runV (As := [.ref v7]) (rest := []) (ci := 4) hC (c_X1_add l V g D cT f n a0 v7 v8 ev8) k_X1_add m_948 rfl rfl ⟨Nat.le_of_ble_eq_true rfl, Nat.le_of_ble_eq_true rfl⟩ hI rfl rfl (h_me_eq ev8).1 rfl hl.1 rfl (Nat.le_of_ble_eq_true rfl) dX1_apply_49 ⟨by decide, by decide⟩) hI (fun H locs hI => ?_)
      exact ge_Wi hx hb hlocks hr rfl hI (congrArg (fun z => z.1) (Option.some.inj hq)) (congrArg (fun z => z.2) (Option.some.inj hq)) dX1_apply_52
    · replace hq := i_f c4_1 hq
      by_cases c4_2 : v3 = (8 : Int32)
      · replace hq := i_t c4_2 hq
        refine lv_tableIn (off := 42) (tgt := 53) hx hb dX1_apply_11 (by rw [c4_2]; decide) (by rw [c4_2]; decide) (by rw [c4_2]; decide) (by decide) ?_
        refine lv_aload_n hx hb dX1_apply_53 rfl (lv_at hl 0 rfl) ?_
        obtain ⟨v9, ev9, hq⟩ := b_s hq
        refine fa_gi (own := RX1) (ref := "CoastlineRuler$Chart") (k := 2) hx hb hB inB_RX1 hown hI rfl (by decide) m_79 (fun _ h9 => h9) ev9 dX1_apply_54 ?_
        refine lv_if_eq (tgt := 64) hx hb dX1_apply_57 (by decide) (fun c10 => ?_) (fun c10 => ?_)
        · replace hq := i_t c10 hq
          refine lv_iconst (v := (0 : Int32)) hx hb dX1_apply_64 (by decide) ?_
          refine lv_istore_n (lv' := [(2, .int (0 : Int32)), (0, .ref a0), (1, .ref a1)]) hx hb dX1_apply_65 rfl hl (by decide) rfl (fun ls hl => ?_)
          refine lv_aload_n hx hb dX1_apply_66 rfl (lv_at hl 1 rfl) ?_
          refine lv_aload_n hx hb dX1_apply_67 rfl (lv_at hl 2 rfl) ?_
          obtain ⟨v11, ev11, hq⟩ := b_s hq
          refine fa_gi (own := RX1) (ref := "CoastlineRuler$Command") (k := 5) hx hb hB inB_RX3 hown hI rfl (by decide) m_175 (fun _ h9 => h9) ev11 dX1_apply_68 ?_
          obtain ⟨_, ev12, hq⟩ := b_s hq
          obtain ⟨f13, ef13, hq⟩ := b_s hq
          refine fa_pt (own := RX1) (ref := "CoastlineRuler$Chart") (k := 2) hx hb hB inB_RX1 tyX1_ok nmX1 hown hI rfl (by decide) m_79 (fun _ h9 => h9) (by decide) (h_bz_eq ev12).2.1 (h_bz_eq ev12).2.2 ef13 dX1_apply_71 (fun H locs hI => ?_)
          refine lv_iload_n hx hb dX1_apply_74 rfl (lv_at hl 0 rfl) ?_
          exact ge_Wi hx hb hlocks hr rfl hI (congrArg (fun z => z.1) (Option.some.inj hq)) (congrArg (fun z => z.2) (Option.some.inj hq)) dX1_apply_75
        · replace hq := i_f c10 hq
          refine lv_iconst (v := (1 : Int32)) hx hb dX1_apply_60 (by decide) ?_
          refine lv_goto (tgt := 65) hx hb dX1_apply_61 (by decide) ?_
          refine lv_istore_n (lv' := [(2, .int (1 : Int32)), (0, .ref a0), (1, .ref a1)]) hx hb dX1_apply_65 rfl hl (by decide) rfl (fun ls hl => ?_)
          refine lv_aload_n hx hb dX1_apply_66 rfl (lv_at hl 1 rfl) ?_
          refine lv_aload_n hx hb dX1_apply_67 rfl (lv_at hl 2 rfl) ?_
          obtain ⟨v14, ev14, hq⟩ := b_s hq
          refine fa_gi (own := RX1) (ref := "CoastlineRuler$Command") (k := 5) hx hb hB inB_RX3 hown hI rfl (by decide) m_175 (fun _ h9 => h9) ev14 dX1_apply_68 ?_
          obtain ⟨_, ev15, hq⟩ := b_s hq
          obtain ⟨f16, ef16, hq⟩ := b_s hq
          refine fa_pt (own := RX1) (ref := "CoastlineRuler$Chart") (k := 2) hx hb hB inB_RX1 tyX1_ok nmX1 hown hI rfl (by decide) m_79 (fun _ h9 => h9) (by decide) (h_bz_eq ev15).2.1 (h_bz_eq ev15).2.2 ef16 dX1_apply_71 (fun H locs hI => ?_)
          refine lv_iload_n hx hb dX1_apply_74 rfl (lv_at hl 0 rfl) ?_
          exact ge_Wi hx hb hlocks hr rfl hI (congrArg (fun z => z.1) (Option.some.inj hq)) (congrArg (fun z => z.2) (Option.some.inj hq)) dX1_apply_75
      · replace hq := i_f c4_2 hq
        by_cases c4_3 : v3 = (9 : Int32)
        · replace hq := i_t c4_3 hq
          refine lv_tableIn (off := 65) (tgt := 76) hx hb dX1_apply_11 (by rw [c4_3]; decide) (by rw [c4_3]; decide) (by rw [c4_3]; decide) (by decide) ?_
          refine lv_aload_n hx hb dX1_apply_76 rfl (lv_at hl 0 rfl) ?_
          refine lv_aload_n hx hb dX1_apply_77 rfl (lv_at hl 1 rfl) ?_
          obtain ⟨v17, ev17, hq⟩ := b_s hq
          refine fa_gi (own := RX1) (ref := "CoastlineRuler$Command") (k := 1) hx hb hB inB_RX3 hown hI rfl (by decide) m_168 (fun _ h9 => h9) ev17 dX1_apply_78 ?_
          obtain ⟨v18, ev18, hq⟩ := b_s hq
          refine gw_i (g_runV (As := [.int v17]) (rest := []) (ci := 4) hC (c_X1_remove l V g D cT f n a0 v17 v18 ev18) k_X1_remove m_952 rfl rfl ⟨Nat.le_of_ble_eq_true rfl, Nat.le_of_ble_eq_true rfl⟩ hI rfl rfl (h_me_eq ev18).1 rfl hl.1 rfl (Nat.le_of_ble_eq_true rfl) dX1_apply_81 ⟨by decide, by decide⟩) hI (fun H locs hI => ?_)
          exact ge_Wi hx hb hlocks hr rfl hI (congrArg (fun z => z.1) (Option.some.inj hq)) (congrArg (fun z => z.2) (Option.some.inj hq)) dX1_apply_84
        · replace hq := i_f c4_3 hq
          by_cases c4_4 : v3 = (10 : Int32)
          · replace hq := i_t c4_4 hq
            refine lv_tableIn (off := 74) (tgt := 85) hx hb dX1_apply_11 (by rw [c4_4]; decide) (by rw [c4_4]; decide) (by rw [c4_4]; decide) (by decide) ?_
            refine lv_aload_n hx hb dX1_apply_85 rfl (lv_at hl 0 rfl) ?_
            refine lv_aload_n hx hb dX1_apply_86 rfl (lv_at hl 0 rfl) ?_
            obtain ⟨v19, ev19, hq⟩ := b_s hq
            refine fa_gr (own := RX1) (ref := "CoastlineRuler$Chart") (k := 0) hx hb hB inB_RX1 hown hI rfl (by decide) m_72 (fun _ h9 => h9) ev19 dX1_apply_87 ?_
            refine lv_aload_n hx hb dX1_apply_90 rfl (lv_at hl 1 rfl) ?_
            obtain ⟨v20, ev20, hq⟩ := b_s hq
            refine fa_gi (own := RX1) (ref := "CoastlineRuler$Command") (k := 1) hx hb hB inB_RX3 hown hI rfl (by decide) m_168 (fun _ h9 => h9) ev20 dX1_apply_91 ?_
            obtain ⟨v21, ev21, hq⟩ := b_s hq
            refine fa_lq hx hb hI (by decide) rfl ev21 dX1_apply_94 ?_
            refine lv_aload_n hx hb dX1_apply_95 rfl (lv_at hl 1 rfl) ?_
            obtain ⟨v22, ev22, hq⟩ := b_s hq
            refine gw_i (g_runV (As := [.ref v21, .ref a1]) (rest := []) (ci := 4) hC (c_X1_move l V g D cT f n a0 v21 a1 v22 ev22) k_X1_move m_956 rfl rfl ⟨Nat.le_of_ble_eq_true rfl, Nat.le_of_ble_eq_true rfl⟩ hI rfl rfl (h_me_eq ev22).1 rfl hl.1 rfl (Nat.le_of_ble_eq_true rfl) dX1_apply_96 ⟨by decide, by decide⟩) hI (fun H locs hI => ?_)
            exact ge_Wi hx hb hlocks hr rfl hI (congrArg (fun z => z.1) (Option.some.inj hq)) (congrArg (fun z => z.2) (Option.some.inj hq)) dX1_apply_99
          · replace hq := i_f c4_4 hq
            have nc4_0 := lv_neT (a := 6) c4_0 rfl
            have nc4_1 := lv_neT (a := 7) c4_1 rfl
            have nc4_2 := lv_neT (a := 8) c4_2 rfl
            have nc4_3 := lv_neT (a := 9) c4_3 rfl
            have nc4_4 := lv_neT (a := 10) c4_4 rfl
            refine lv_tableOut (tgt := 100) hx hb dX1_apply_11 (by omega) (by decide) ?_
            refine lv_aload_n hx hb dX1_apply_100 rfl (lv_at hl 0 rfl) ?_
            obtain ⟨v23, ev23, hq⟩ := b_s hq
            refine fa_gr (own := RX1) (ref := "CoastlineRuler$Chart") (k := 0) hx hb hB inB_RX1 hown hI rfl (by decide) m_72 (fun _ h9 => h9) ev23 dX1_apply_101 ?_
            refine lv_aload_n hx hb dX1_apply_104 rfl (lv_at hl 1 rfl) ?_
            obtain ⟨v24, ev24, hq⟩ := b_s hq
            refine fa_gi (own := RX1) (ref := "CoastlineRuler$Command") (k := 1) hx hb hB inB_RX3 hown hI rfl (by decide) m_168 (fun _ h9 => h9) ev24 dX1_apply_105 ?_
            obtain ⟨v25, ev25, hq⟩ := b_s hq
            refine fa_lq hx hb hI (by decide) rfl ev25 dX1_apply_108 ?_
            refine lv_astore_n (lv' := [(3, .ref v25), (0, .ref a0), (1, .ref a1)]) hx hb dX1_apply_109 rfl hl (by decide) rfl (fun ls hl => ?_)
            refine lv_aload_n hx hb dX1_apply_110 rfl (lv_at hl 0 rfl) ?_
            obtain ⟨v26, ev26, hq⟩ := b_s hq
            refine fa_gi (own := RX1) (ref := "CoastlineRuler$Coast") (k := 2) hx hb hB inB_RX2 hown hI rfl (by decide) m_55 (fun _ h9 => h9) ev26 dX1_apply_111 ?_
            refine lv_istore (lv' := [(4, .int v26), (3, .ref v25), (0, .ref a0), (1, .ref a1)]) hx hb dX1_apply_114 hl (by decide) rfl (fun ls hl => ?_)
            refine lv_aload_n hx hb dX1_apply_116 rfl (lv_at hl 2 rfl) ?_
            refine lv_aload_n hx hb dX1_apply_117 rfl (lv_at hl 1 rfl) ?_
            refine lv_aload_n hx hb dX1_apply_118 rfl (lv_at hl 3 rfl) ?_
            obtain ⟨v27, ev27, hq⟩ := b_s hq
            refine gw_v (g_runV (As := [.ref v25, .ref a1]) (rest := []) (ci := 4) hC (c_X1_reshape l V g D cT f n a0 v25 a1 v27 ev27) k_X1_reshape m_961 rfl rfl ⟨Nat.le_of_ble_eq_true rfl, Nat.le_of_ble_eq_true rfl⟩ hI rfl rfl (h_me_eq ev27).1 rfl hl.1 rfl (Nat.le_of_ble_eq_true rfl) dX1_apply_119 ⟨by decide, by decide⟩) hI (fun H locs hI => ?_)
            refine lv_aload_n hx hb dX1_apply_122 rfl (lv_at hl 2 rfl) ?_
            refine lv_dup hx hb dX1_apply_123 rfl ?_
            obtain ⟨v28, ev28, hq⟩ := b_s hq
            refine fa_gi (own := RX1) (ref := "CoastlineRuler$Chart") (k := 4) hx hb hB inB_RX1 hown hI rfl (by decide) m_83 (fun _ h9 => h9) ev28 dX1_apply_124 ?_
            refine lv_iconst (v := (0 : Int32)) hx hb dX1_apply_127 (by decide) ?_
            refine lv_aload_n hx hb dX1_apply_128 rfl (lv_at hl 1 rfl) ?_
            obtain ⟨v29, ev29, hq⟩ := b_s hq
            refine fa_gi (own := RX1) (ref := "CoastlineRuler$Coast") (k := 2) hx hb hB inB_RX2 hown hI rfl (by decide) m_55 (fun _ h9 => h9) ev29 dX1_apply_129 ?_
            refine lv_iload hx hb dX1_apply_132 (lv_at hl 0 rfl) ?_
            refine lv_isub hx hb dX1_apply_134 ?_
            obtain ⟨v30, ev30, hq⟩ := b_s hq
            refine g_max hx hb (hml.trans hl.1.symm) hown (hB _ m_983) (hB _ m_672) (hB _ m_15) (hB _ m_673) (Nat.le_of_ble_eq_true rfl) (Nat.le_of_ble_eq_true rfl) (Nat.le_of_ble_eq_true rfl) (Nat.le_of_ble_eq_true rfl) ev30 dX1_apply_135 ?_
            refine lv_iadd hx hb dX1_apply_138 ?_
            obtain ⟨f31, ef31, hq⟩ := b_s hq
            refine fa_pt (own := RX1) (ref := "CoastlineRuler$Chart") (k := 4) hx hb hB inB_RX1 tyX1_ok nmX1 hown hI rfl (by decide) m_83 (fun _ h9 => h9) (by decide) rfl rfl ef31 dX1_apply_139 (fun H locs hI => ?_)
            refine lv_aload_n hx hb dX1_apply_142 rfl (lv_at hl 2 rfl) ?_
            refine lv_dup hx hb dX1_apply_143 rfl ?_
            obtain ⟨v32, ev32, hq⟩ := b_s hq
            refine fa_gi (own := RX1) (ref := "CoastlineRuler$Chart") (k := 5) hx hb hB inB_RX1 hown hI rfl (by decide) m_85 (fun _ h9 => h9) ev32 dX1_apply_144 ?_
            refine lv_iconst (v := (0 : Int32)) hx hb dX1_apply_147 (by decide) ?_
            refine lv_iload hx hb dX1_apply_148 (lv_at hl 0 rfl) ?_
            refine lv_aload_n hx hb dX1_apply_150 rfl (lv_at hl 1 rfl) ?_
            obtain ⟨v33, ev33, hq⟩ := b_s hq
            refine fa_gi (own := RX1) (ref := "CoastlineRuler$Coast") (k := 2) hx hb hB inB_RX2 hown hI rfl (by decide) m_55 (fun _ h9 => h9) ev33 dX1_apply_151 ?_
            refine lv_isub hx hb dX1_apply_154 ?_
            obtain ⟨v34, ev34, hq⟩ := b_s hq
            refine g_max hx hb (hml.trans hl.1.symm) hown (hB _ m_983) (hB _ m_672) (hB _ m_15) (hB _ m_673) (Nat.le_of_ble_eq_true rfl) (Nat.le_of_ble_eq_true rfl) (Nat.le_of_ble_eq_true rfl) (Nat.le_of_ble_eq_true rfl) ev34 dX1_apply_155 ?_
            refine lv_iadd hx hb dX1_apply_158 ?_
            obtain ⟨f35, ef35, hq⟩ := b_s hq
            refine fa_pt (own := RX1) (ref := "CoastlineRuler$Chart") (k := 5) hx hb hB inB_RX1 tyX1_ok nmX1 hown hI rfl (by decide) m_85 (fun _ h9 => h9) (by decide) rfl rfl ef35 dX1_apply_159 (fun H locs hI => ?_)
            refine lv_aload_n hx hb dX1_apply_162 rfl (lv_at hl 1 rfl) ?_
            obtain ⟨v36, ev36, hq⟩ := b_s hq
            refine fa_gi (own := RX1) (ref := "CoastlineRuler$Coast") (k := 2) hx hb hB inB_RX2 hown hI rfl (by decide) m_55 (fun _ h9 => h9) ev36 dX1_apply_163 ?_
            exact ge_Wi hx hb hlocks hr rfl hI (congrArg (fun z => z.1) (Option.some.inj hq)) (congrArg (fun z => z.2) (Option.some.inj hq)) dX1_apply_166

abbrev rm_X2_distance : Room := { frames := 4, cells := 0, slots := 0, locals := 167 }
theorem k_X2_distance : g_CV yX2_distance cX2_distance 4 (some .int) 3 := ⟨⟨m_663, m_3, by decide +kernel⟩, m_661, m_662⟩
set_option maxHeartbeats 4000000 in
set_option maxRecDepth 100000 in
theorem c_X2_distance (l : Launch) (V : Nat → Nat) (g : GH) (D : va_G) (cT : Nat → ClassId) (f : GH) (n : Nat) (a0 : Nat) (a1 : Int32) (a2 : Int32) (a3 : Int32) (o : Int32) (hq : p_X2_distance V g f a0 a1 a2 a3 = some o) : Met l yX2_distance (Cond.code yX2_distance cX2_distance 4 (some .int) :: g_B) rm_X2_distance (va_Pc [.ref a0, .int a1, .int a2, .int a3] (g_I V g D cT f n)) (g_Ri o n) 0 0 g_no := by
  refine g_begin (own := RX2) [.ref a0, .int a1, .int a2, .int a3] [(0, .ref a0), (1, .int a1), (2, .int a2), (3, .int a3)] g_no (fun _ h => h.elim) (by decide) rfl (Nat.le_of_ble_eq_true rfl) rfl ?_
  intro p e s m args below meth c hx hb hr hlocks hin hC hI ls hl
  obtain ⟨hx, hb, hml, hown, hB⟩ := id hC
  obtain ⟨H, hH⟩ : ∃ H, H = s.heap := ⟨_, rfl⟩
  obtain ⟨locs, hlocs⟩ : ∃ L : List Loc, L = [] := ⟨_, rfl⟩
  rw [← hH, ← hlocs] at hI ⊢
  clear hH hlocs
  unfold p_X2_distance at hq
  replace hq := (h_me_eq hq).2
  refine lv_aload_n hx hb dX2_distance_0 rfl (lv_at hl 0 rfl) ?_
  refine lv_iload_n hx hb dX2_distance_1 rfl (lv_at hl 1 rfl) ?_
  refine lv_aload_n hx hb dX2_distance_2 rfl (lv_at hl 0 rfl) ?_
  obtain ⟨v1, ev1, hq⟩ := b_s hq
  refine fa_gr (own := RX2) (ref := "CoastlineRuler$Coast") (k := 0) hx hb hB inB_RX2 hown hI rfl (by decide) m_48 (fun _ h9 => h9) ev1 dX2_distance_3 ?_
  refine lv_iload_n hx hb dX2_distance_6 rfl (lv_at hl 2 rfl) ?_
  obtain ⟨v2, ev2, hq⟩ := b_s hq
  refine fa_li hx hb hI ev2 dX2_distance_7 ?_
  refine lv_aload_n hx hb dX2_distance_8 rfl (lv_at hl 0 rfl) ?_
  obtain ⟨v3, ev3, hq⟩ := b_s hq
  refine fa_gr (own := RX2) (ref := "CoastlineRuler$Coast") (k := 1) hx hb hB inB_RX2 hown hI rfl (by decide) m_51 (fun _ h9 => h9) ev3 dX2_distance_9 ?_
  refine lv_iload_n hx hb dX2_distance_12 rfl (lv_at hl 2 rfl) ?_
  obtain ⟨v4, ev4, hq⟩ := b_s hq
  refine fa_li hx hb hI ev4 dX2_distance_13 ?_
  refine lv_iload_n hx hb dX2_distance_14 rfl (lv_at hl 3 rfl) ?_
  obtain ⟨v5, ev5, hq⟩ := b_s hq
  refine gr_i (g_runV (As := [.int a1, .int v2, .int v4, .int a3]) (rest := []) (ci := 5) hC (c_X2_distanceTo l V g D cT f n a0 a1 v2 v4 a3 v5 ev5) k_X2_distanceTo m_664 rfl rfl ⟨Nat.le_of_ble_eq_true rfl, Nat.le_of_ble_eq_true rfl⟩ hI rfl rfl (h_me_eq ev5).1 rfl hl.1 rfl (Nat.le_of_ble_eq_true rfl) dX2_distance_15 ⟨by decide, by decide⟩) hI (fun H locs hI => ?_)
  exact ge_Ri hx hb hlocks hr rfl hI hq dX2_distance_18

abbrev rm_X2_nearestTo : Room := { frames := 4, cells := 0, slots := 0, locals := 167 }
theorem k_X2_nearestTo : g_CV yX2_nearestTo cX2_nearestTo 6 (some .int) 3 := ⟨⟨m_829, m_3, by decide +kernel⟩, m_827, m_828⟩
set_option maxHeartbeats 4000000 in
set_option maxRecDepth 100000 in
theorem c_X2_nearestTo (l : Launch) (V : Nat → Nat) (g : GH) (D : va_G) (cT : Nat → ClassId) (f : GH) (n : Nat) (a0 : Nat) (a1 : Int32) (a2 : Int32) (a3 : Int32) (o : Int32) (hq : p_X2_nearestTo V g f a0 a1 a2 a3 = some o) : Met l yX2_nearestTo (Cond.code yX2_nearestTo cX2_nearestTo 6 (some .int) :: g_B) rm_X2_nearestTo (va_Pc [.ref a0, .int a1, .int a2, .int a3] (g_I V g D cT f n)) (g_Ri o n) 0 0 g_no := by
  refine g_begin (own := RX2) [.ref a0, .int a1, .int a2, .int a3] [(0, .ref a0), (1, .int a1), (2, .int a2), (3, .int a3)] g_no (fun _ h => h.elim) (by decide) rfl (Nat.le_of_ble_eq_true rfl) rfl ?_
  intro p e s m args below meth c hx hb hr hlocks hin hC hI ls hl
  obtain ⟨hx, hb, hml, hown, hB⟩ := id hC
  obtain ⟨H, hH⟩ : ∃ H, H = s.heap := ⟨_, rfl⟩
  obtain ⟨locs, hlocs⟩ : ∃ L : List Loc, L = [] := ⟨_, rfl⟩
  rw [← hH, ← hlocs] at hI ⊢
  clear hH hlocs
  unfold p_X2_nearestTo at hq
  replace hq := (h_me_eq hq).2
  refine lv_iconst (v := (0 : Int32)) hx hb dX2_nearestTo_0 (by decide) ?_
  refine lv_istore (lv' := [(4, .int (0 : Int32)), (0, .ref a0), (1, .int a1), (2, .int a2), (3, .int a3)]) hx hb dX2_nearestTo_1 hl (by decide) rfl (fun ls hl => ?_)
  refine lv_iconst (v := (1 : Int32)) hx hb dX2_nearestTo_3 (by decide) ?_
  refine lv_istore (lv' := [(5, .int (1 : Int32)), (4, .int (0 : Int32)), (0, .ref a0), (1, .int a1), (2, .int a2), (3, .int a3)]) hx hb dX2_nearestTo_4 hl (by decide) rfl (fun ls hl => ?_)
  have hl6 : ∀ (K46 : Int32 → Option Int32) (hK46 : ∀ (x4 : Int32) (H : Heap) (locs : List Loc) (ls : Array Slot), g_at g_no V g D cT f n s H locs → lv_has ls 6 [(4, .int x4)] → K46 x4 = some o → W p l e rm_X2_nearestTo s m args below meth c H locs 0 0 (MQ below (g_Ri o n) args s 0 0 g_no) (F0 m 46 ls [])) (N : Nat) (x0 : Nat) (x1 : Int32) (x2 : Int32) (x3 : Int32) (x4 : Int32) (x5 : Int32) (H : Heap) (locs : List Loc) (ls : Array Slot), g_at g_no V g D cT f n s H locs → lv_has ls 6 [(0, .ref x0), (1, .int x1), (2, .int x2), (3, .int x3), (4, .int x4), (5, .int x5)] → p_X2_nearestTo_l6 V g f K46 N x0 x1 x2 x3 x4 x5 = some o → W p l e rm_X2_nearestTo s m args below meth c H locs 0 0 (MQ below (g_Ri o n) args s 0 0 g_no) (F0 m 6 ls []) := by
    intro K46 hK46 N
    induction N with
    | zero =>
      intro x0 x1 x2 x3 x4 x5 H locs ls hI hl hq
      rw [p_X2_nearestTo_l6] at hq
      cases hq
    | succ N ih =>
      intro x0 x1 x2 x3 x4 x5 H locs ls hI hl hq
      rw [p_X2_nearestTo_l6] at hq
      refine lv_iload hx hb dX2_nearestTo_6 (lv_at hl 5 rfl) ?_
      refine lv_aload_n hx hb dX2_nearestTo_8 rfl (lv_at hl 0 rfl) ?_
      obtain ⟨v1, ev1, hq⟩ := b_s hq
      refine fa_gi (own := RX2) (ref := "CoastlineRuler$Coast") (k := 2) hx hb hB inB_RX2 hown hI rfl (by decide) m_54 (fun _ h9 => h9) ev1 dX2_nearestTo_9 ?_
      refine lv_icmp_ge (tgt := 46) hx hb dX2_nearestTo_12 (by decide) (fun c2 => ?_) (fun c2 => ?_)
      · replace hq := i_t c2 hq
        exact hK46 x4 H locs ls hI (lv_sub hl [4] rfl) hq
      · replace hq := i_f c2 hq
        refine lv_aload_n hx hb dX2_nearestTo_15 rfl (lv_at hl 0 rfl) ?_
        refine lv_iload hx hb dX2_nearestTo_16 (lv_at hl 5 rfl) ?_
        refine lv_iload_n hx hb dX2_nearestTo_18 rfl (lv_at hl 1 rfl) ?_
        refine lv_iload_n hx hb dX2_nearestTo_19 rfl (lv_at hl 2 rfl) ?_
        refine lv_iload_n hx hb dX2_nearestTo_20 rfl (lv_at hl 3 rfl) ?_
        obtain ⟨v3, ev3, hq⟩ := b_s hq
        refine gr_i (g_runV (As := [.int x5, .int x1, .int x2, .int x3]) (rest := []) (ci := 5) hC (c_X2_distanceTo l V g D cT f n x0 x5 x1 x2 x3 v3 ev3) k_X2_distanceTo m_664 rfl rfl ⟨Nat.le_of_ble_eq_true rfl, Nat.le_of_ble_eq_true rfl⟩ hI rfl rfl (h_me_eq ev3).1 rfl hl.1 rfl (Nat.le_of_ble_eq_true rfl) dX2_nearestTo_21 ⟨by decide, by decide⟩) hI (fun H locs hI => ?_)
        refine lv_aload_n hx hb dX2_nearestTo_24 rfl (lv_at hl 0 rfl) ?_
        refine lv_iload hx hb dX2_nearestTo_25 (lv_at hl 4 rfl) ?_
        refine lv_iload_n hx hb dX2_nearestTo_27 rfl (lv_at hl 1 rfl) ?_
        refine lv_iload_n hx hb dX2_nearestTo_28 rfl (lv_at hl 2 rfl) ?_
        refine lv_iload_n hx hb dX2_nearestTo_29 rfl (lv_at hl 3 rfl) ?_
        obtain ⟨v4, ev4, hq⟩ := b_s hq
        refine gr_i (g_runV (As := [.int x4, .int x1, .int x2, .int x3]) (rest := [.int v3]) (ci := 5) hC (c_X2_distanceTo l V g D cT f n x0 x4 x1 x2 x3 v4 ev4) k_X2_distanceTo m_664 rfl rfl ⟨Nat.le_of_ble_eq_true rfl, Nat.le_of_ble_eq_true rfl⟩ hI rfl rfl (h_me_eq ev4).1 rfl hl.1 rfl (Nat.le_of_ble_eq_true rfl) dX2_nearestTo_30 ⟨by decide, by decide⟩) hI (fun H locs hI => ?_)
        refine lv_icmp_ge (tgt := 40) hx hb dX2_nearestTo_33 (by decide) (fun c5 => ?_) (fun c5 => ?_)
        · replace hq := i_t c5 hq
          refine lv_iinc (v := x5 + (1 : Int32)) (lv' := [(5, .int (x5 + (1 : Int32))), (0, .ref x0), (1, .int x1), (2, .int x2), (3, .int x3), (4, .int x4)]) hx hb dX2_nearestTo_40 hl (k := 5) rfl rfl (by decide) rfl (fun ls hl => ?_)
          refine lv_goto (tgt := 6) hx hb dX2_nearestTo_43 (by decide) ?_
          exact ih x0 x1 x2 x3 x4 (x5 + (1 : Int32)) H locs ls hI (lv_sub hl [1, 2, 3, 4, 5, 0] rfl) hq
        · replace hq := i_f c5 hq
          refine lv_iload hx hb dX2_nearestTo_36 (lv_at hl 5 rfl) ?_
          refine lv_istore (lv' := [(4, .int x5), (0, .ref x0), (1, .int x1), (2, .int x2), (3, .int x3), (5, .int x5)]) hx hb dX2_nearestTo_38 hl (by decide) rfl (fun ls hl => ?_)
          refine lv_iinc (v := x5 + (1 : Int32)) (lv' := [(5, .int (x5 + (1 : Int32))), (4, .int x5), (0, .ref x0), (1, .int x1), (2, .int x2), (3, .int x3)]) hx hb dX2_nearestTo_40 hl (k := 5) rfl rfl (by decide) rfl (fun ls hl => ?_)
          refine lv_goto (tgt := 6) hx hb dX2_nearestTo_43 (by decide) ?_
          exact ih x0 x1 x2 x3 x5 (x5 + (1 : Int32)) H locs ls hI (lv_sub hl [2, 3, 4, 5, 1, 0] rfl) hq
  refine hl6 _ ?_ FU a0 a1 a2 a3 (0 : Int32) (1 : Int32) H locs ls hI (lv_sub hl [2, 3, 4, 5, 1, 0] rfl) hq
  · intro x4 H locs ls hI hl hq
    refine lv_iload hx hb dX2_nearestTo_46 (lv_at hl 0 rfl) ?_
    exact ge_Ri hx hb hlocks hr rfl hI hq dX2_nearestTo_48

abbrev rm_X2_sticks : Room := { frames := 2, cells := 0, slots := 0, locals := 120 }
theorem k_X2_sticks : g_CV yX2_sticks cX2_sticks 4 (some .int) 1 := ⟨⟨m_643, m_3, by decide +kernel⟩, m_641, m_642⟩
set_option maxHeartbeats 4000000 in
set_option maxRecDepth 100000 in
theorem c_X2_sticks (l : Launch) (V : Nat → Nat) (g : GH) (D : va_G) (cT : Nat → ClassId) (f : GH) (n : Nat) (a0 : Nat) (a1 : Int32) (o : Int32) (hq : p_X2_sticks V g f a0 a1 = some o) : Met l yX2_sticks (Cond.code yX2_sticks cX2_sticks 4 (some .int) :: g_B) rm_X2_sticks (va_Pc [.ref a0, .int a1] (g_I V g D cT f n)) (g_Ri o n) 0 0 g_no := by
  refine g_begin (own := RX2) [.ref a0, .int a1] [(0, .ref a0), (1, .int a1)] g_no (fun _ h => h.elim) (by decide) rfl (Nat.le_of_ble_eq_true rfl) rfl ?_
  intro p e s m args below meth c hx hb hr hlocks hin hC hI ls hl
  obtain ⟨hx, hb, hml, hown, hB⟩ := id hC
  obtain ⟨H, hH⟩ : ∃ H, H = s.heap := ⟨_, rfl⟩
  obtain ⟨locs, hlocs⟩ : ∃ L : List Loc, L = [] := ⟨_, rfl⟩
  rw [← hH, ← hlocs] at hI ⊢
  clear hH hlocs
  unfold p_X2_sticks at hq
  replace hq := (h_me_eq hq).2
  refine lv_aload_n hx hb dX2_sticks_0 rfl (lv_at hl 0 rfl) ?_
  obtain ⟨v1, ev1, hq⟩ := b_s hq
  refine fa_gi (own := RX2) (ref := "CoastlineRuler$Coast") (k := 2) hx hb hB inB_RX2 hown hI rfl (by decide) m_54 (fun _ h9 => h9) ev1 dX2_sticks_1 ?_
  refine lv_iconst (v := (1 : Int32)) hx hb dX2_sticks_4 (by decide) ?_
  refine lv_isub hx hb dX2_sticks_5 ?_
  refine lv_iload_n hx hb dX2_sticks_6 rfl (lv_at hl 1 rfl) ?_
  refine lv_ishr hx hb dX2_sticks_7 ?_
  refine lv_istore_n (lv' := [(2, .int ((v1 - (1 : Int32)) >>> (a1 &&& 31))), (0, .ref a0), (1, .int a1)]) hx hb dX2_sticks_8 rfl hl (by decide) rfl (fun ls hl => ?_)
  refine lv_aload_n hx hb dX2_sticks_9 rfl (lv_at hl 1 rfl) ?_
  obtain ⟨v2, ev2, hq⟩ := b_s hq
  refine fa_gi (own := RX2) (ref := "CoastlineRuler$Coast") (k := 3) hx hb hB inB_RX2 hown hI rfl (by decide) m_58 (fun _ h9 => h9) ev2 dX2_sticks_10 ?_
  have hj33 : ∀ (x2 : Int32) (t0 : Int32) (H : Heap) (locs : List Loc) (ls : Array Slot), g_at g_no V g D cT f n s H locs → lv_has ls 4 [(2, .int x2)] → p_X2_sticks_j33 V g f x2 t0 = some o → W p l e rm_X2_sticks s m args below meth c H locs 0 0 (MQ below (g_Ri o n) args s 0 0 g_no) (F0 m 33 ls [.int t0]) := by
    intro x2 t0 H locs ls hI hl hq
    unfold p_X2_sticks_j33 at hq
    refine lv_istore_n (lv' := [(3, .int t0), (2, .int x2)]) hx hb dX2_sticks_33 rfl hl (by decide) rfl (fun ls hl => ?_)
    refine lv_iload_n hx hb dX2_sticks_34 rfl (lv_at hl 0 rfl) ?_
    refine lv_if_eq (tgt := 42) hx hb dX2_sticks_35 (by decide) (fun c3 => ?_) (fun c3 => ?_)
    · replace hq := i_t c3 hq
      refine lv_iload_n hx hb dX2_sticks_42 rfl (lv_at hl 1 rfl) ?_
      refine lv_iconst (v := (1 : Int32)) hx hb dX2_sticks_43 (by decide) ?_
      refine lv_iadd hx hb dX2_sticks_44 ?_
      exact ge_Ri hx hb hlocks hr rfl hI hq dX2_sticks_45
    · replace hq := i_f c3 hq
      refine lv_iload_n hx hb dX2_sticks_38 rfl (lv_at hl 1 rfl) ?_
      refine lv_goto (tgt := 45) hx hb dX2_sticks_39 (by decide) ?_
      exact ge_Ri hx hb hlocks hr rfl hI hq dX2_sticks_45
  have hj32 : ∀ (x2 : Int32) (H : Heap) (locs : List Loc) (ls : Array Slot), g_at g_no V g D cT f n s H locs → lv_has ls 4 [(2, .int x2)] → p_X2_sticks_j32 V g f (p_X2_sticks_j33 V g f) x2 = some o → W p l e rm_X2_sticks s m args below meth c H locs 0 0 (MQ below (g_Ri o n) args s 0 0 g_no) (F0 m 32 ls []) := by
    intro x2 H locs ls hI hl hq
    unfold p_X2_sticks_j32 at hq
    refine lv_iconst (v := (0 : Int32)) hx hb dX2_sticks_32 (by decide) ?_
    exact hj33 x2 (0 : Int32) H locs ls hI (lv_sub hl [0] rfl) hq
  refine lv_if_ne (tgt := 32) hx hb dX2_sticks_13 (by decide) (fun c4 => ?_) (fun c4 => ?_)
  · replace hq := i_f c4 hq
    exact hj32 ((v1 - (1 : Int32)) >>> (a1 &&& 31)) H locs ls hI (lv_sub hl [0] rfl) hq
  · replace hq := i_t c4 hq
    refine lv_iload_n hx hb dX2_sticks_16 rfl (lv_at hl 0 rfl) ?_
    refine lv_iload_n hx hb dX2_sticks_17 rfl (lv_at hl 2 rfl) ?_
    refine lv_ishl hx hb dX2_sticks_18 ?_
    refine lv_aload_n hx hb dX2_sticks_19 rfl (lv_at hl 1 rfl) ?_
    obtain ⟨v5, ev5, hq⟩ := b_s hq
    refine fa_gi (own := RX2) (ref := "CoastlineRuler$Coast") (k := 2) hx hb hB inB_RX2 hown hI rfl (by decide) m_54 (fun _ h9 => h9) ev5 dX2_sticks_20 ?_
    refine lv_iconst (v := (1 : Int32)) hx hb dX2_sticks_23 (by decide) ?_
    refine lv_isub hx hb dX2_sticks_24 ?_
    refine lv_icmp_ne (tgt := 32) hx hb dX2_sticks_25 (by decide) (fun c6 => ?_) (fun c6 => ?_)
    · replace hq := i_f c6 hq
      exact hj32 ((v1 - (1 : Int32)) >>> (a1 &&& 31)) H locs ls hI (lv_sub hl [0] rfl) hq
    · replace hq := i_t c6 hq
      refine lv_iconst (v := (1 : Int32)) hx hb dX2_sticks_28 (by decide) ?_
      refine lv_goto (tgt := 33) hx hb dX2_sticks_29 (by decide) ?_
      exact hj33 ((v1 - (1 : Int32)) >>> (a1 &&& 31)) (1 : Int32) H locs ls hI (lv_sub hl [0] rfl) hq

abbrev rm_X2_stickFrom : Room := { frames := 2, cells := 0, slots := 0, locals := 120 }
theorem k_X2_stickFrom : g_CV yX2_stickFrom cX2_stickFrom 3 (some .int) 2 := ⟨⟨m_655, m_3, by decide +kernel⟩, m_653, m_654⟩
set_option maxHeartbeats 4000000 in
set_option maxRecDepth 100000 in
theorem c_X2_stickFrom (l : Launch) (V : Nat → Nat) (g : GH) (D : va_G) (cT : Nat → ClassId) (f : GH) (n : Nat) (a0 : Nat) (a1 : Int32) (a2 : Int32) (o : Int32) (hq : p_X2_stickFrom V g f a0 a1 a2 = some o) : Met l yX2_stickFrom (Cond.code yX2_stickFrom cX2_stickFrom 3 (some .int) :: g_B) rm_X2_stickFrom (va_Pc [.ref a0, .int a1, .int a2] (g_I V g D cT f n)) (g_Ri o n) 0 0 g_no := by
  refine g_begin (own := RX2) [.ref a0, .int a1, .int a2] [(0, .ref a0), (1, .int a1), (2, .int a2)] g_no (fun _ h => h.elim) (by decide) rfl (Nat.le_of_ble_eq_true rfl) rfl ?_
  intro p e s m args below meth c hx hb hr hlocks hin hC hI ls hl
  obtain ⟨hx, hb, hml, hown, hB⟩ := id hC
  obtain ⟨H, hH⟩ : ∃ H, H = s.heap := ⟨_, rfl⟩
  obtain ⟨locs, hlocs⟩ : ∃ L : List Loc, L = [] := ⟨_, rfl⟩
  rw [← hH, ← hlocs] at hI ⊢
  clear hH hlocs
  unfold p_X2_stickFrom at hq
  replace hq := (h_me_eq hq).2
  refine lv_iload_n hx hb dX2_stickFrom_0 rfl (lv_at hl 2 rfl) ?_
  refine lv_iload_n hx hb dX2_stickFrom_1 rfl (lv_at hl 1 rfl) ?_
  refine lv_ishl hx hb dX2_stickFrom_2 ?_
  exact ge_Ri hx hb hlocks hr rfl hI hq dX2_stickFrom_3

abbrev rm_X2_stickTo : Room := { frames := 2, cells := 0, slots := 0, locals := 120 }
theorem k_X2_stickTo : g_CV yX2_stickTo cX2_stickTo 4 (some .int) 2 := ⟨⟨m_659, m_3, by decide +kernel⟩, m_657, m_658⟩
set_option maxHeartbeats 4000000 in
set_option maxRecDepth 100000 in
theorem c_X2_stickTo (l : Launch) (V : Nat → Nat) (g : GH) (D : va_G) (cT : Nat → ClassId) (f : GH) (n : Nat) (a0 : Nat) (a1 : Int32) (a2 : Int32) (o : Int32) (hq : p_X2_stickTo V g f a0 a1 a2 = some o) : Met l yX2_stickTo (Cond.code yX2_stickTo cX2_stickTo 4 (some .int) :: g_B) rm_X2_stickTo (va_Pc [.ref a0, .int a1, .int a2] (g_I V g D cT f n)) (g_Ri o n) 0 0 g_no := by
  refine g_begin (own := RX2) [.ref a0, .int a1, .int a2] [(0, .ref a0), (1, .int a1), (2, .int a2)] g_no (fun _ h => h.elim) (by decide) rfl (Nat.le_of_ble_eq_true rfl) rfl ?_
  intro p e s m args below meth c hx hb hr hlocks hin hC hI ls hl
  obtain ⟨hx, hb, hml, hown, hB⟩ := id hC
  obtain ⟨H, hH⟩ : ∃ H, H = s.heap := ⟨_, rfl⟩
  obtain ⟨locs, hlocs⟩ : ∃ L : List Loc, L = [] := ⟨_, rfl⟩
  rw [← hH, ← hlocs] at hI ⊢
  clear hH hlocs
  unfold p_X2_stickTo at hq
  replace hq := (h_me_eq hq).2
  refine lv_iload_n hx hb dX2_stickTo_0 rfl (lv_at hl 2 rfl) ?_
  refine lv_iconst (v := (1 : Int32)) hx hb dX2_stickTo_1 (by decide) ?_
  refine lv_iadd hx hb dX2_stickTo_2 ?_
  refine lv_iload_n hx hb dX2_stickTo_3 rfl (lv_at hl 1 rfl) ?_
  refine lv_ishl hx hb dX2_stickTo_4 ?_
  refine lv_istore_n (lv' := [(3, .int ((a2 + (1 : Int32)) <<< (a1 &&& 31))), (0, .ref a0), (1, .int a1), (2, .int a2)]) hx hb dX2_stickTo_5 rfl hl (by decide) rfl (fun ls hl => ?_)
  refine lv_iload_n hx hb dX2_stickTo_6 rfl (lv_at hl 0 rfl) ?_
  refine lv_aload_n hx hb dX2_stickTo_7 rfl (lv_at hl 1 rfl) ?_
  obtain ⟨v1, ev1, hq⟩ := b_s hq
  refine fa_gi (own := RX2) (ref := "CoastlineRuler$Coast") (k := 2) hx hb hB inB_RX2 hown hI rfl (by decide) m_54 (fun _ h9 => h9) ev1 dX2_stickTo_8 ?_
  refine lv_icmp_ge (tgt := 16) hx hb dX2_stickTo_11 (by decide) (fun c2 => ?_) (fun c2 => ?_)
  · replace hq := i_t c2 hq
    refine lv_aload_n hx hb dX2_stickTo_16 rfl (lv_at hl 1 rfl) ?_
    obtain ⟨v3, ev3, hq⟩ := b_s hq
    refine fa_gi (own := RX2) (ref := "CoastlineRuler$Coast") (k := 3) hx hb hB inB_RX2 hown hI rfl (by decide) m_58 (fun _ h9 => h9) ev3 dX2_stickTo_17 ?_
    refine lv_if_eq (tgt := 27) hx hb dX2_stickTo_20 (by decide) (fun c4 => ?_) (fun c4 => ?_)
    · replace hq := i_t c4 hq
      refine lv_aload_n hx hb dX2_stickTo_27 rfl (lv_at hl 1 rfl) ?_
      obtain ⟨v5, ev5, hq⟩ := b_s hq
      refine fa_gi (own := RX2) (ref := "CoastlineRuler$Coast") (k := 2) hx hb hB inB_RX2 hown hI rfl (by decide) m_54 (fun _ h9 => h9) ev5 dX2_stickTo_28 ?_
      refine lv_iconst (v := (1 : Int32)) hx hb dX2_stickTo_31 (by decide) ?_
      refine lv_isub hx hb dX2_stickTo_32 ?_
      exact ge_Ri hx hb hlocks hr rfl hI hq dX2_stickTo_33
    · replace hq := i_f c4 hq
      refine lv_iconst (v := (0 : Int32)) hx hb dX2_stickTo_23 (by decide) ?_
      refine lv_goto (tgt := 33) hx hb dX2_stickTo_24 (by decide) ?_
      exact ge_Ri hx hb hlocks hr rfl hI hq dX2_stickTo_33
  · replace hq := i_f c2 hq
    refine lv_iload_n hx hb dX2_stickTo_14 rfl (lv_at hl 0 rfl) ?_
    exact ge_Ri hx hb hlocks hr rfl hI hq dX2_stickTo_15

abbrev rm_X2_stickSpan : Room := { frames := 5, cells := 0, slots := 0, locals := 190 }
theorem k_X2_stickSpan : g_CV yX2_stickSpan cX2_stickSpan 4 (some .int) 3 := ⟨⟨m_651, m_3, by decide +kernel⟩, m_649, m_650⟩
set_option maxHeartbeats 4000000 in
set_option maxRecDepth 100000 in
theorem c_X2_stickSpan (l : Launch) (V : Nat → Nat) (g : GH) (D : va_G) (cT : Nat → ClassId) (f : GH) (n : Nat) (a0 : Nat) (a1 : Int32) (a2 : Int32) (a3 : Int32) (o : Int32) (hq : p_X2_stickSpan V g f a0 a1 a2 a3 = some o) : Met l yX2_stickSpan (Cond.code yX2_stickSpan cX2_stickSpan 4 (some .int) :: g_B) rm_X2_stickSpan (va_Pc [.ref a0, .int a1, .int a2, .int a3] (g_I V g D cT f n)) (g_Ri o n) 0 0 g_no := by
  refine g_begin (own := RX2) [.ref a0, .int a1, .int a2, .int a3] [(0, .ref a0), (1, .int a1), (2, .int a2), (3, .int a3)] g_no (fun _ h => h.elim) (by decide) rfl (Nat.le_of_ble_eq_true rfl) rfl ?_
  intro p e s m args below meth c hx hb hr hlocks hin hC hI ls hl
  obtain ⟨hx, hb, hml, hown, hB⟩ := id hC
  obtain ⟨H, hH⟩ : ∃ H, H = s.heap := ⟨_, rfl⟩
  obtain ⟨locs, hlocs⟩ : ∃ L : List Loc, L = [] := ⟨_, rfl⟩
  rw [← hH, ← hlocs] at hI ⊢
  clear hH hlocs
  unfold p_X2_stickSpan at hq
  replace hq := (h_me_eq hq).2
  refine lv_aload_n hx hb dX2_stickSpan_0 rfl (lv_at hl 0 rfl) ?_
  refine lv_aload_n hx hb dX2_stickSpan_1 rfl (lv_at hl 0 rfl) ?_
  refine lv_iload_n hx hb dX2_stickSpan_2 rfl (lv_at hl 1 rfl) ?_
  refine lv_iload_n hx hb dX2_stickSpan_3 rfl (lv_at hl 2 rfl) ?_
  obtain ⟨v1, ev1, hq⟩ := b_s hq
  refine gr_i (g_runV (As := [.int a1, .int a2]) (rest := [.ref a0]) (ci := 5) hC (c_X2_stickFrom l V g D cT f n a0 a1 a2 v1 ev1) k_X2_stickFrom m_652 rfl rfl ⟨Nat.le_of_ble_eq_true rfl, Nat.le_of_ble_eq_true rfl⟩ hI rfl rfl (h_me_eq ev1).1 rfl hl.1 rfl (Nat.le_of_ble_eq_true rfl) dX2_stickSpan_4 ⟨by decide, by decide⟩) hI (fun H locs hI => ?_)
  refine lv_aload_n hx hb dX2_stickSpan_7 rfl (lv_at hl 0 rfl) ?_
  refine lv_iload_n hx hb dX2_stickSpan_8 rfl (lv_at hl 1 rfl) ?_
  refine lv_iload_n hx hb dX2_stickSpan_9 rfl (lv_at hl 2 rfl) ?_
  obtain ⟨v2, ev2, hq⟩ := b_s hq
  refine gr_i (g_runV (As := [.int a1, .int a2]) (rest := [.int v1, .ref a0]) (ci := 5) hC (c_X2_stickTo l V g D cT f n a0 a1 a2 v2 ev2) k_X2_stickTo m_656 rfl rfl ⟨Nat.le_of_ble_eq_true rfl, Nat.le_of_ble_eq_true rfl⟩ hI rfl rfl (h_me_eq ev2).1 rfl hl.1 rfl (Nat.le_of_ble_eq_true rfl) dX2_stickSpan_10 ⟨by decide, by decide⟩) hI (fun H locs hI => ?_)
  refine lv_iload_n hx hb dX2_stickSpan_13 rfl (lv_at hl 3 rfl) ?_
  obtain ⟨v3, ev3, hq⟩ := b_s hq
  refine gr_i (g_runV (As := [.int v1, .int v2, .int a3]) (rest := []) (ci := 5) hC (c_X2_distance l V g D cT f n a0 v1 v2 a3 v3 ev3) k_X2_distance m_660 rfl rfl ⟨Nat.le_of_ble_eq_true rfl, Nat.le_of_ble_eq_true rfl⟩ hI rfl rfl (h_me_eq ev3).1 rfl hl.1 rfl (Nat.le_of_ble_eq_true rfl) dX2_stickSpan_14 ⟨by decide, by decide⟩) hI (fun H locs hI => ?_)
  exact ge_Ri hx hb hlocks hr rfl hI hq dX2_stickSpan_17

abbrev rm_X2_measure : Room := { frames := 6, cells := 0, slots := 0, locals := 213 }
theorem k_X2_measure : g_CV yX2_measure cX2_measure 6 (some .int) 2 := ⟨⟨m_698, m_3, by decide +kernel⟩, m_696, m_697⟩
set_option maxHeartbeats 4000000 in
set_option maxRecDepth 100000 in
theorem c_X2_measure (l : Launch) (V : Nat → Nat) (g : GH) (D : va_G) (cT : Nat → ClassId) (f : GH) (n : Nat) (a0 : Nat) (a1 : Int32) (a2 : Int32) (o : Int32) (hq : p_X2_measure V g f a0 a1 a2 = some o) : Met l yX2_measure (Cond.code yX2_measure cX2_measure 6 (some .int) :: g_B) rm_X2_measure (va_Pc [.ref a0, .int a1, .int a2] (g_I V g D cT f n)) (g_Ri o n) 0 0 g_no := by
  refine g_begin (own := RX2) [.ref a0, .int a1, .int a2] [(0, .ref a0), (1, .int a1), (2, .int a2)] g_no (fun _ h => h.elim) (by decide) rfl (Nat.le_of_ble_eq_true rfl) rfl ?_
  intro p e s m args below meth c hx hb hr hlocks hin hC hI ls hl
  obtain ⟨hx, hb, hml, hown, hB⟩ := id hC
  obtain ⟨H, hH⟩ : ∃ H, H = s.heap := ⟨_, rfl⟩
  obtain ⟨locs, hlocs⟩ : ∃ L : List Loc, L = [] := ⟨_, rfl⟩
  rw [← hH, ← hlocs] at hI ⊢
  clear hH hlocs
  unfold p_X2_measure at hq
  replace hq := (h_me_eq hq).2
  refine lv_iconst (v := (0 : Int32)) hx hb dX2_measure_0 (by decide) ?_
  refine lv_istore_n (lv' := [(3, .int (0 : Int32)), (0, .ref a0), (1, .int a1), (2, .int a2)]) hx hb dX2_measure_1 rfl hl (by decide) rfl (fun ls hl => ?_)
  refine lv_aload_n hx hb dX2_measure_2 rfl (lv_at hl 1 rfl) ?_
  refine lv_iload_n hx hb dX2_measure_3 rfl (lv_at hl 2 rfl) ?_
  obtain ⟨v1, ev1, hq⟩ := b_s hq
  refine gr_i (g_runV (As := [.int a1]) (rest := []) (ci := 5) hC (c_X2_sticks l V g D cT f n a0 a1 v1 ev1) k_X2_sticks m_699 rfl rfl ⟨Nat.le_of_ble_eq_true rfl, Nat.le_of_ble_eq_true rfl⟩ hI rfl rfl (h_me_eq ev1).1 rfl hl.1 rfl (Nat.le_of_ble_eq_true rfl) dX2_measure_4 ⟨by decide, by decide⟩) hI (fun H locs hI => ?_)
  refine lv_istore (lv' := [(4, .int v1), (3, .int (0 : Int32)), (0, .ref a0), (1, .int a1), (2, .int a2)]) hx hb dX2_measure_7 hl (by decide) rfl (fun ls hl => ?_)
  refine lv_iconst (v := (0 : Int32)) hx hb dX2_measure_9 (by decide) ?_
  refine lv_istore (lv' := [(5, .int (0 : Int32)), (4, .int v1), (3, .int (0 : Int32)), (0, .ref a0), (1, .int a1), (2, .int a2)]) hx hb dX2_measure_10 hl (by decide) rfl (fun ls hl => ?_)
  have hl12 : ∀ (K36 : Int32 → Option Int32) (hK36 : ∀ (x3 : Int32) (H : Heap) (locs : List Loc) (ls : Array Slot), g_at g_no V g D cT f n s H locs → lv_has ls 6 [(3, .int x3)] → K36 x3 = some o → W p l e rm_X2_measure s m args below meth c H locs 0 0 (MQ below (g_Ri o n) args s 0 0 g_no) (F0 m 36 ls [])) (N : Nat) (x0 : Nat) (x1 : Int32) (x2 : Int32) (x3 : Int32) (x4 : Int32) (x5 : Int32) (H : Heap) (locs : List Loc) (ls : Array Slot), g_at g_no V g D cT f n s H locs → lv_has ls 6 [(0, .ref x0), (1, .int x1), (2, .int x2), (3, .int x3), (4, .int x4), (5, .int x5)] → p_X2_measure_l12 V g f K36 N x0 x1 x2 x3 x4 x5 = some o → W p l e rm_X2_measure s m args below meth c H locs 0 0 (MQ below (g_Ri o n) args s 0 0 g_no) (F0 m 12 ls []) := by
    intro K36 hK36 N
    induction N with
    | zero =>
      intro x0 x1 x2 x3 x4 x5 H locs ls hI hl hq
      rw [p_X2_measure_l12] at hq
      cases hq
    | succ N ih =>
      intro x0 x1 x2 x3 x4 x5 H locs ls hI hl hq
      rw [p_X2_measure_l12] at hq
      refine lv_iload hx hb dX2_measure_12 (lv_at hl 5 rfl) ?_
      refine lv_iload hx hb dX2_measure_14 (lv_at hl 4 rfl) ?_
      refine lv_icmp_ge (tgt := 36) hx hb dX2_measure_16 (by decide) (fun c2 => ?_) (fun c2 => ?_)
      · replace hq := i_t c2 hq
        exact hK36 x3 H locs ls hI (lv_sub hl [3] rfl) hq
      · replace hq := i_f c2 hq
        refine lv_iload_n hx hb dX2_measure_19 rfl (lv_at hl 3 rfl) ?_
        refine lv_aload_n hx hb dX2_measure_20 rfl (lv_at hl 0 rfl) ?_
        refine lv_iload_n hx hb dX2_measure_21 rfl (lv_at hl 1 rfl) ?_
        refine lv_iload hx hb dX2_measure_22 (lv_at hl 5 rfl) ?_
        refine lv_iload_n hx hb dX2_measure_24 rfl (lv_at hl 2 rfl) ?_
        obtain ⟨v3, ev3, hq⟩ := b_s hq
        refine gr_i (g_runV (As := [.int x1, .int x5, .int x2]) (rest := [.int x3]) (ci := 5) hC (c_X2_stickSpan l V g D cT f n x0 x1 x5 x2 v3 ev3) k_X2_stickSpan m_700 rfl rfl ⟨Nat.le_of_ble_eq_true rfl, Nat.le_of_ble_eq_true rfl⟩ hI rfl rfl (h_me_eq ev3).1 rfl hl.1 rfl (Nat.le_of_ble_eq_true rfl) dX2_measure_25 ⟨by decide, by decide⟩) hI (fun H locs hI => ?_)
        refine lv_iadd hx hb dX2_measure_28 ?_
        refine lv_istore_n (lv' := [(3, .int (x3 + v3)), (0, .ref x0), (1, .int x1), (2, .int x2), (4, .int x4), (5, .int x5)]) hx hb dX2_measure_29 rfl hl (by decide) rfl (fun ls hl => ?_)
        refine lv_iinc (v := x5 + (1 : Int32)) (lv' := [(5, .int (x5 + (1 : Int32))), (3, .int (x3 + v3)), (0, .ref x0), (1, .int x1), (2, .int x2), (4, .int x4)]) hx hb dX2_measure_30 hl (k := 5) rfl rfl (by decide) rfl (fun ls hl => ?_)
        refine lv_goto (tgt := 12) hx hb dX2_measure_33 (by decide) ?_
        exact ih x0 x1 x2 (x3 + v3) x4 (x5 + (1 : Int32)) H locs ls hI (lv_sub hl [2, 3, 4, 1, 5, 0] rfl) hq
  refine hl12 _ ?_ FU a0 a1 a2 (0 : Int32) v1 (0 : Int32) H locs ls hI (lv_sub hl [3, 4, 5, 2, 1, 0] rfl) hq
  · intro x3 H locs ls hI hl hq
    refine lv_iload_n hx hb dX2_measure_36 rfl (lv_at hl 0 rfl) ?_
    exact ge_Ri hx hb hlocks hr rfl hI hq dX2_measure_37

abbrev rm_X2_gain : Room := { frames := 7, cells := 0, slots := 0, locals := 238 }
theorem k_X2_gain : g_CV yX2_gain cX2_gain 3 (some .int) 2 := ⟨⟨m_708, m_3, by decide +kernel⟩, m_706, m_707⟩
set_option maxHeartbeats 4000000 in
set_option maxRecDepth 100000 in
theorem c_X2_gain (l : Launch) (V : Nat → Nat) (g : GH) (D : va_G) (cT : Nat → ClassId) (f : GH) (n : Nat) (a0 : Nat) (a1 : Int32) (a2 : Int32) (o : Int32) (hq : p_X2_gain V g f a0 a1 a2 = some o) : Met l yX2_gain (Cond.code yX2_gain cX2_gain 3 (some .int) :: g_B) rm_X2_gain (va_Pc [.ref a0, .int a1, .int a2] (g_I V g D cT f n)) (g_Ri o n) 0 0 g_no := by
  refine g_begin (own := RX2) [.ref a0, .int a1, .int a2] [(0, .ref a0), (1, .int a1), (2, .int a2)] g_no (fun _ h => h.elim) (by decide) rfl (Nat.le_of_ble_eq_true rfl) rfl ?_
  intro p e s m args below meth c hx hb hr hlocks hin hC hI ls hl
  obtain ⟨hx, hb, hml, hown, hB⟩ := id hC
  obtain ⟨H, hH⟩ : ∃ H, H = s.heap := ⟨_, rfl⟩
  obtain ⟨locs, hlocs⟩ : ∃ L : List Loc, L = [] := ⟨_, rfl⟩
  rw [← hH, ← hlocs] at hI ⊢
  clear hH hlocs
  unfold p_X2_gain at hq
  replace hq := (h_me_eq hq).2
  refine lv_aload_n hx hb dX2_gain_0 rfl (lv_at hl 0 rfl) ?_
  refine lv_iload_n hx hb dX2_gain_1 rfl (lv_at hl 1 rfl) ?_
  refine lv_iload_n hx hb dX2_gain_2 rfl (lv_at hl 2 rfl) ?_
  obtain ⟨v1, ev1, hq⟩ := b_s hq
  refine gr_i (g_runV (As := [.int a1, .int a2]) (rest := []) (ci := 5) hC (c_X2_measure l V g D cT f n a0 a1 a2 v1 ev1) k_X2_measure m_709 rfl rfl ⟨Nat.le_of_ble_eq_true rfl, Nat.le_of_ble_eq_true rfl⟩ hI rfl rfl (h_me_eq ev1).1 rfl hl.1 rfl (Nat.le_of_ble_eq_true rfl) dX2_gain_3 ⟨by decide, by decide⟩) hI (fun H locs hI => ?_)
  refine lv_aload_n hx hb dX2_gain_6 rfl (lv_at hl 0 rfl) ?_
  refine lv_iload_n hx hb dX2_gain_7 rfl (lv_at hl 1 rfl) ?_
  refine lv_iconst (v := (1 : Int32)) hx hb dX2_gain_8 (by decide) ?_
  refine lv_iadd hx hb dX2_gain_9 ?_
  refine lv_iload_n hx hb dX2_gain_10 rfl (lv_at hl 2 rfl) ?_
  obtain ⟨v2, ev2, hq⟩ := b_s hq
  refine gr_i (g_runV (As := [.int (a1 + (1 : Int32)), .int a2]) (rest := [.int v1]) (ci := 5) hC (c_X2_measure l V g D cT f n a0 (a1 + (1 : Int32)) a2 v2 ev2) k_X2_measure m_709 rfl rfl ⟨Nat.le_of_ble_eq_true rfl, Nat.le_of_ble_eq_true rfl⟩ hI rfl rfl (h_me_eq ev2).1 rfl hl.1 rfl (Nat.le_of_ble_eq_true rfl) dX2_gain_11 ⟨by decide, by decide⟩) hI (fun H locs hI => ?_)
  refine lv_isub hx hb dX2_gain_14 ?_
  exact ge_Ri hx hb hlocks hr rfl hI hq dX2_gain_15

abbrev rm_X2_coarsestReaching : Room := { frames := 7, cells := 0, slots := 0, locals := 238 }
theorem k_X2_coarsestReaching : g_CV yX2_coarsestReaching cX2_coarsestReaching 4 (some .int) 2 := ⟨⟨m_722, m_3, by decide +kernel⟩, m_720, m_721⟩
set_option maxHeartbeats 4000000 in
set_option maxRecDepth 100000 in
theorem c_X2_coarsestReaching (l : Launch) (V : Nat → Nat) (g : GH) (D : va_G) (cT : Nat → ClassId) (f : GH) (n : Nat) (a0 : Nat) (a1 : Int32) (a2 : Int32) (o : Int32) (hq : p_X2_coarsestReaching V g f a0 a1 a2 = some o) : Met l yX2_coarsestReaching (Cond.code yX2_coarsestReaching cX2_coarsestReaching 4 (some .int) :: g_B) rm_X2_coarsestReaching (va_Pc [.ref a0, .int a1, .int a2] (g_I V g D cT f n)) (g_Ri o n) 0 0 g_no := by
  refine g_begin (own := RX2) [.ref a0, .int a1, .int a2] [(0, .ref a0), (1, .int a1), (2, .int a2)] g_no (fun _ h => h.elim) (by decide) rfl (Nat.le_of_ble_eq_true rfl) rfl ?_
  intro p e s m args below meth c hx hb hr hlocks hin hC hI ls hl
  obtain ⟨hx, hb, hml, hown, hB⟩ := id hC
  obtain ⟨H, hH⟩ : ∃ H, H = s.heap := ⟨_, rfl⟩
  obtain ⟨locs, hlocs⟩ : ∃ L : List Loc, L = [] := ⟨_, rfl⟩
  rw [← hH, ← hlocs] at hI ⊢
  clear hH hlocs
  unfold p_X2_coarsestReaching at hq
  replace hq := (h_me_eq hq).2
  refine lv_bipush (v := (7 : Int32)) hx hb dX2_coarsestReaching_0 (by decide) ?_
  refine lv_istore_n (lv' := [(3, .int (7 : Int32)), (0, .ref a0), (1, .int a1), (2, .int a2)]) hx hb dX2_coarsestReaching_2 rfl hl (by decide) rfl (fun ls hl => ?_)
  have hl3 : ∀ (K17 : Int32 → Option Int32) (hK17 : ∀ (x3 : Int32) (H : Heap) (locs : List Loc) (ls : Array Slot), g_at g_no V g D cT f n s H locs → lv_has ls 4 [(3, .int x3)] → K17 x3 = some o → W p l e rm_X2_coarsestReaching s m args below meth c H locs 0 0 (MQ below (g_Ri o n) args s 0 0 g_no) (F0 m 17 ls [])) (K25 : Option Int32) (hK25 : ∀  (H : Heap) (locs : List Loc) (ls : Array Slot), g_at g_no V g D cT f n s H locs → lv_has ls 4 [] → K25  = some o → W p l e rm_X2_coarsestReaching s m args below meth c H locs 0 0 (MQ below (g_Ri o n) args s 0 0 g_no) (F0 m 25 ls [])) (N : Nat) (x0 : Nat) (x1 : Int32) (x2 : Int32) (x3 : Int32) (H : Heap) (locs : List Loc) (ls : Array Slot), g_at g_no V g D cT f n s H locs → lv_has ls 4 [(0, .ref x0), (1, .int x1), (2, .int x2), (3, .int x3)] → p_X2_coarsestReaching_l3 V g f K17 K25 N x0 x1 x2 x3 = some o → W p l e rm_X2_coarsestReaching s m args below meth c H locs 0 0 (MQ below (g_Ri o n) args s 0 0 g_no) (F0 m 3 ls []) := by
    intro K17 hK17 K25 hK25 N
    induction N with
    | zero =>
      intro x0 x1 x2 x3 H locs ls hI hl hq
      rw [p_X2_coarsestReaching_l3] at hq
      cases hq
    | succ N ih =>
      intro x0 x1 x2 x3 H locs ls hI hl hq
      rw [p_X2_coarsestReaching_l3] at hq
      refine lv_iload_n hx hb dX2_coarsestReaching_3 rfl (lv_at hl 3 rfl) ?_
      refine lv_if_lt (tgt := 25) hx hb dX2_coarsestReaching_4 (by decide) (fun c1 => ?_) (fun c1 => ?_)
      · replace hq := i_t c1 hq
        exact hK25  H locs ls hI (lv_sub hl [] rfl) hq
      · replace hq := i_f c1 hq
        refine lv_aload_n hx hb dX2_coarsestReaching_7 rfl (lv_at hl 0 rfl) ?_
        refine lv_iload_n hx hb dX2_coarsestReaching_8 rfl (lv_at hl 3 rfl) ?_
        refine lv_iload_n hx hb dX2_coarsestReaching_9 rfl (lv_at hl 2 rfl) ?_
        obtain ⟨v2, ev2, hq⟩ := b_s hq
        refine gr_i (g_runV (As := [.int x3, .int x2]) (rest := []) (ci := 5) hC (c_X2_measure l V g D cT f n x0 x3 x2 v2 ev2) k_X2_measure m_709 rfl rfl ⟨Nat.le_of_ble_eq_true rfl, Nat.le_of_ble_eq_true rfl⟩ hI rfl rfl (h_me_eq ev2).1 rfl hl.1 rfl (Nat.le_of_ble_eq_true rfl) dX2_coarsestReaching_10 ⟨by decide, by decide⟩) hI (fun H locs hI => ?_)
        refine lv_iload_n hx hb dX2_coarsestReaching_13 rfl (lv_at hl 1 rfl) ?_
        refine lv_icmp_lt (tgt := 19) hx hb dX2_coarsestReaching_14 (by decide) (fun c3 => ?_) (fun c3 => ?_)
        · replace hq := i_t c3 hq
          refine lv_iinc (v := x3 + (-1 : Int32)) (lv' := [(3, .int (x3 + (-1 : Int32))), (0, .ref x0), (1, .int x1), (2, .int x2)]) hx hb dX2_coarsestReaching_19 hl (k := 3) rfl rfl (by decide) rfl (fun ls hl => ?_)
          refine lv_goto (tgt := 3) hx hb dX2_coarsestReaching_22 (by decide) ?_
          exact ih x0 x1 x2 (x3 + (-1 : Int32)) H locs ls hI (lv_sub hl [1, 2, 3, 0] rfl) hq
        · replace hq := i_f c3 hq
          exact hK17 x3 H locs ls hI (lv_sub hl [3] rfl) hq
  refine hl3 _ ?_ _ ?_ FU a0 a1 a2 (7 : Int32) H locs ls hI (lv_sub hl [1, 2, 3, 0] rfl) hq
  · intro x3 H locs ls hI hl hq
    refine lv_iload_n hx hb dX2_coarsestReaching_17 rfl (lv_at hl 0 rfl) ?_
    exact ge_Ri hx hb hlocks hr rfl hI hq dX2_coarsestReaching_18
  · intro  H locs ls hI hl hq
    refine lv_iconst (v := (-1 : Int32)) hx hb dX2_coarsestReaching_25 (by decide) ?_
    exact ge_Ri hx hb hlocks hr rfl hI hq dX2_coarsestReaching_26


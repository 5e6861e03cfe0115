abbrev rm_X1_surrounds : Room := { frames := 7, cells := 0, slots := 0, locals := 237 }
theorem k_X1_surrounds : g_CV yX1_surrounds cX1_surrounds 3 (some .boolean) 2 := ⟨⟨m_741, m_2, by decide +kernel⟩, m_739, m_740⟩
set_option maxHeartbeats 4000000 in
set_option maxRecDepth 100000 in
theorem c_X1_surrounds (l : Launch) (V : Nat → Nat) (g : GH) (D : va_G) (cT : Nat → ClassId) (f : GH) (n : Nat) (a0 : Nat) (a1 : Int32) (a2 : Int32) (o : Int32) (hq : p_X1_surrounds V g f a0 a1 a2 = some o) : Met l yX1_surrounds (Cond.code yX1_surrounds cX1_surrounds 3 (some .boolean) :: g_B) rm_X1_surrounds (va_Pc [.ref a0, .int a1, .int a2] (g_I V g D cT f n)) (g_Ri o n) 0 0 g_no := by
  refine g_begin (own := RX1) [.ref a0, .int a1, .int a2] [(0, .ref a0), (1, .int a1), (2, .int a2)] g_no (fun _ h => h.elim) (by decide) rfl (Nat.le_of_ble_eq_true rfl) rfl ?_
  intro p e s m args below meth c hx hb hr hlocks hin hC hI ls hl
  obtain ⟨hx, hb, hml, hown, hB⟩ := id hC
  obtain ⟨H, hH⟩ : ∃ H, H = s.heap := ⟨_, rfl⟩
  obtain ⟨locs, hlocs⟩ : ∃ L : List Loc, L = [] := ⟨_, rfl⟩
  rw [← hH, ← hlocs] at hI ⊢
  clear hH hlocs
  unfold p_X1_surrounds at hq
  replace hq := (h_me_eq hq).2
  refine lv_iload_n hx hb dX1_surrounds_0 rfl (lv_at hl 1 rfl) ?_
  refine lv_iload_n hx hb dX1_surrounds_1 rfl (lv_at hl 2 rfl) ?_
  refine lv_icmp_eq (tgt := 39) hx hb dX1_surrounds_2 (by decide) (fun c1 => ?_) (fun c1 => ?_)
  · replace hq := i_t c1 hq
    refine lv_iconst (v := (0 : Int32)) hx hb dX1_surrounds_39 (by decide) ?_
    exact ge_Ri hx hb hlocks hr (by decide +kernel) hI hq dX1_surrounds_40
  · replace hq := i_f c1 hq
    refine lv_aload_n hx hb dX1_surrounds_5 rfl (lv_at hl 0 rfl) ?_
    obtain ⟨v2, ev2, hq⟩ := b_s hq
    refine fa_gr (own := RX1) (ref := "CoastlineRuler$Chart") (k := 0) hx hb hB inB_RX1 hown hI rfl (by decide) m_72 (fun _ h9 => h9) ev2 dX1_surrounds_6 ?_
    refine lv_iload_n hx hb dX1_surrounds_9 rfl (lv_at hl 1 rfl) ?_
    obtain ⟨v3, ev3, hq⟩ := b_s hq
    refine fa_lq hx hb hI (by decide) rfl ev3 dX1_surrounds_10 ?_
    obtain ⟨v4, ev4, hq⟩ := b_s hq
    refine fa_gi (own := RX1) (ref := "CoastlineRuler$Coast") (k := 3) hx hb hB inB_RX2 hown hI rfl (by decide) m_59 (fun _ h9 => h9) ev4 dX1_surrounds_11 ?_
    refine lv_if_eq (tgt := 39) hx hb dX1_surrounds_14 (by decide) (fun c5 => ?_) (fun c5 => ?_)
    · replace hq := i_t c5 hq
      refine lv_iconst (v := (0 : Int32)) hx hb dX1_surrounds_39 (by decide) ?_
      exact ge_Ri hx hb hlocks hr (by decide +kernel) hI hq dX1_surrounds_40
    · replace hq := i_f c5 hq
      refine lv_aload_n hx hb dX1_surrounds_17 rfl (lv_at hl 0 rfl) ?_
      obtain ⟨v6, ev6, hq⟩ := b_s hq
      refine fa_gr (own := RX1) (ref := "CoastlineRuler$Chart") (k := 0) hx hb hB inB_RX1 hown hI rfl (by decide) m_72 (fun _ h9 => h9) ev6 dX1_surrounds_18 ?_
      refine lv_iload_n hx hb dX1_surrounds_21 rfl (lv_at hl 1 rfl) ?_
      obtain ⟨v7, ev7, hq⟩ := b_s hq
      refine fa_lq hx hb hI (by decide) rfl ev7 dX1_surrounds_22 ?_
      refine lv_aload_n hx hb dX1_surrounds_23 rfl (lv_at hl 0 rfl) ?_
      obtain ⟨v8, ev8, hq⟩ := b_s hq
      refine fa_gr (own := RX1) (ref := "CoastlineRuler$Chart") (k := 0) hx hb hB inB_RX1 hown hI rfl (by decide) m_72 (fun _ h9 => h9) ev8 dX1_surrounds_24 ?_
      refine lv_iload_n hx hb dX1_surrounds_27 rfl (lv_at hl 2 rfl) ?_
      obtain ⟨v9, ev9, hq⟩ := b_s hq
      refine fa_lq hx hb hI (by decide) rfl ev9 dX1_surrounds_28 ?_
      obtain ⟨v10, ev10, hq⟩ := b_s hq
      refine gr_i (g_runV (As := [.ref v9]) (rest := []) (ci := 5) hC (c_X2_coversAll l V g D cT f n v7 v9 v10 ev10) k_X2_coversAll m_742 rfl rfl ⟨Nat.le_of_ble_eq_true rfl, Nat.le_of_ble_eq_true rfl⟩ hI rfl rfl (h_me_eq ev10).1 rfl hl.1 rfl (Nat.le_of_ble_eq_true rfl) dX1_surrounds_29 ⟨by decide, by decide⟩) hI (fun H locs hI => ?_)
      refine lv_if_eq (tgt := 39) hx hb dX1_surrounds_32 (by decide) (fun c11 => ?_) (fun c11 => ?_)
      · replace hq := i_t c11 hq
        refine lv_iconst (v := (0 : Int32)) hx hb dX1_surrounds_39 (by decide) ?_
        exact ge_Ri hx hb hlocks hr (by decide +kernel) hI hq dX1_surrounds_40
      · replace hq := i_f c11 hq
        refine lv_iconst (v := (1 : Int32)) hx hb dX1_surrounds_35 (by decide) ?_
        refine lv_goto (tgt := 40) hx hb dX1_surrounds_36 (by decide) ?_
        exact ge_Ri hx hb hlocks hr (by decide +kernel) hI hq dX1_surrounds_40

abbrev rm_X7_isCoordinate : Room := { frames := 2, cells := 0, slots := 0, locals := 120 }
theorem k_X7_isCoordinate : g_CS yX7_isCoordinate cX7_isCoordinate 1 (some .boolean) 1 := ⟨⟨m_873, m_1, by decide +kernel⟩, m_872⟩
set_option maxHeartbeats 4000000 in
set_option maxRecDepth 100000 in
theorem c_X7_isCoordinate (l : Launch) (V : Nat → Nat) (g : GH) (D : va_G) (cT : Nat → ClassId) (f : GH) (n : Nat) (a0 : Int32) (o : Int32) (hq : p_X7_isCoordinate V g f a0 = some o) : Met l yX7_isCoordinate (Cond.code yX7_isCoordinate cX7_isCoordinate 1 (some .boolean) :: g_B) rm_X7_isCoordinate (va_Pc [.int a0] (g_I V g D cT f n)) (g_Ri o n) 0 0 g_no := by
  refine g_begin (own := RX7) [.int a0] [(0, .int a0)] g_no (fun _ h => h.elim) (by decide) rfl (Nat.le_of_ble_eq_true rfl) rfl ?_
  intro p e s m args below meth c hx hb hr hlocks hin hC hI ls hl
  obtain ⟨hx, hb, hml, hown, hB⟩ := id hC
  obtain ⟨H, hH⟩ : ∃ H, H = s.heap := ⟨_, rfl⟩
  obtain ⟨locs, hlocs⟩ : ∃ L : List Loc, L = [] := ⟨_, rfl⟩
  rw [← hH, ← hlocs] at hI ⊢
  clear hH hlocs
  unfold p_X7_isCoordinate at hq
  refine lv_iload_n hx hb dX7_isCoordinate_0 rfl (lv_at hl 0 rfl) ?_
  refine lv_sipush (v := (-1000 : Int32)) hx hb dX7_isCoordinate_1 (by decide) ?_
  refine lv_icmp_lt (tgt := 18) hx hb dX7_isCoordinate_4 (by decide) (fun c1 => ?_) (fun c1 => ?_)
  · replace hq := i_t c1 hq
    refine lv_iconst (v := (0 : Int32)) hx hb dX7_isCoordinate_18 (by decide) ?_
    exact ge_Ri hx hb hlocks hr (by decide +kernel) hI hq dX7_isCoordinate_19
  · replace hq := i_f c1 hq
    refine lv_iload_n hx hb dX7_isCoordinate_7 rfl (lv_at hl 0 rfl) ?_
    refine lv_sipush (v := (1000 : Int32)) hx hb dX7_isCoordinate_8 (by decide) ?_
    refine lv_icmp_gt (tgt := 18) hx hb dX7_isCoordinate_11 (by decide) (fun c2 => ?_) (fun c2 => ?_)
    · replace hq := i_t c2 hq
      refine lv_iconst (v := (0 : Int32)) hx hb dX7_isCoordinate_18 (by decide) ?_
      exact ge_Ri hx hb hlocks hr (by decide +kernel) hI hq dX7_isCoordinate_19
    · replace hq := i_f c2 hq
      refine lv_iconst (v := (1 : Int32)) hx hb dX7_isCoordinate_14 (by decide) ?_
      refine lv_goto (tgt := 19) hx hb dX7_isCoordinate_15 (by decide) ?_
      exact ge_Ri hx hb hlocks hr (by decide +kernel) hI hq dX7_isCoordinate_19

abbrev rm_X2_canSlide : Room := { frames := 3, cells := 0, slots := 0, locals := 140 }
theorem k_X2_canSlide : g_CV yX2_canSlide cX2_canSlide 4 (some .boolean) 2 := ⟨⟨m_934, m_3, by decide +kernel⟩, m_932, m_933⟩
set_option maxHeartbeats 4000000 in
set_option maxRecDepth 100000 in
theorem c_X2_canSlide (l : Launch) (V : Nat → Nat) (g : GH) (D : va_G) (cT : Nat → ClassId) (f : GH) (n : Nat) (a0 : Nat) (a1 : Int32) (a2 : Int32) (o : Int32) (hq : p_X2_canSlide V g f a0 a1 a2 = some o) : Met l yX2_canSlide (Cond.code yX2_canSlide cX2_canSlide 4 (some .boolean) :: g_B) rm_X2_canSlide (va_Pc [.ref a0, .int a1, .int a2] (g_I V g D cT f n)) (g_Ri o n) 0 0 g_no := by
  refine g_begin (own := RX2) [.ref a0, .int a1, .int a2] [(0, .ref a0), (1, .int a1), (2, .int a2)] g_no (fun _ h => h.elim) (by decide) rfl (Nat.le_of_ble_eq_true rfl) rfl ?_
  intro p e s m args below meth c hx hb hr hlocks hin hC hI ls hl
  obtain ⟨hx, hb, hml, hown, hB⟩ := id hC
  obtain ⟨H, hH⟩ : ∃ H, H = s.heap := ⟨_, rfl⟩
  obtain ⟨locs, hlocs⟩ : ∃ L : List Loc, L = [] := ⟨_, rfl⟩
  rw [← hH, ← hlocs] at hI ⊢
  clear hH hlocs
  unfold p_X2_canSlide at hq
  replace hq := (h_me_eq hq).2
  refine lv_iconst (v := (0 : Int32)) hx hb dX2_canSlide_0 (by decide) ?_
  refine lv_istore_n (lv' := [(3, .int (0 : Int32)), (0, .ref a0), (1, .int a1), (2, .int a2)]) hx hb dX2_canSlide_1 rfl hl (by decide) rfl (fun ls hl => ?_)
  have hl2 : ∀ (K38 : Option Int32) (hK38 : ∀  (H : Heap) (locs : List Loc) (ls : Array Slot), g_at g_no V g D cT f n s H locs → lv_has ls 4 [] → K38  = some o → W p l e rm_X2_canSlide s m args below meth c H locs 0 0 (MQ below (g_Ri o n) args s 0 0 g_no) (F0 m 38 ls [])) (K46 : Option Int32) (hK46 : ∀  (H : Heap) (locs : List Loc) (ls : Array Slot), g_at g_no V g D cT f n s H locs → lv_has ls 4 [] → K46  = some o → W p l e rm_X2_canSlide s m args below meth c H locs 0 0 (MQ below (g_Ri o n) args s 0 0 g_no) (F0 m 46 ls [])) (N : Nat) (x0 : Nat) (x1 : Int32) (x2 : Int32) (x3 : Int32) (H : Heap) (locs : List Loc) (ls : Array Slot), g_at g_no V g D cT f n s H locs → lv_has ls 4 [(0, .ref x0), (1, .int x1), (2, .int x2), (3, .int x3)] → p_X2_canSlide_l2 V g f K38 K46 N x0 x1 x2 x3 = some o → W p l e rm_X2_canSlide s m args below meth c H locs 0 0 (MQ below (g_Ri o n) args s 0 0 g_no) (F0 m 2 ls []) := by
    intro K38 hK38 K46 hK46 N
    induction N with
    | zero =>
      intro x0 x1 x2 x3 H locs ls hI hl hq
      rw [p_X2_canSlide_l2] at hq
      cases hq
    | succ N ih =>
      intro x0 x1 x2 x3 H locs ls hI hl hq
      rw [p_X2_canSlide_l2] at hq
      refine lv_iload_n hx hb dX2_canSlide_2 rfl (lv_at hl 3 rfl) ?_
      refine lv_aload_n hx hb dX2_canSlide_3 rfl (lv_at hl 0 rfl) ?_
      obtain ⟨v1, ev1, hq⟩ := b_s hq
      refine fa_gi (own := RX2) (ref := "CoastlineRuler$Coast") (k := 2) hx hb hB inB_RX2 hown hI rfl (by decide) m_54 (fun _ h9 => h9) ev1 dX2_canSlide_4 ?_
      refine lv_icmp_ge (tgt := 46) hx hb dX2_canSlide_7 (by decide) (fun c2 => ?_) (fun c2 => ?_)
      · replace hq := i_t c2 hq
        exact hK46  H locs ls hI (lv_sub hl [] rfl) hq
      · replace hq := i_f c2 hq
        refine lv_aload_n hx hb dX2_canSlide_10 rfl (lv_at hl 0 rfl) ?_
        obtain ⟨v3, ev3, hq⟩ := b_s hq
        refine fa_gr (own := RX2) (ref := "CoastlineRuler$Coast") (k := 0) hx hb hB inB_RX2 hown hI rfl (by decide) m_48 (fun _ h9 => h9) ev3 dX2_canSlide_11 ?_
        refine lv_iload_n hx hb dX2_canSlide_14 rfl (lv_at hl 3 rfl) ?_
        obtain ⟨v4, ev4, hq⟩ := b_s hq
        refine fa_li hx hb hI ev4 dX2_canSlide_15 ?_
        refine lv_iload_n hx hb dX2_canSlide_16 rfl (lv_at hl 1 rfl) ?_
        refine lv_iadd hx hb dX2_canSlide_17 ?_
        obtain ⟨v5, ev5, hq⟩ := b_s hq
        refine gr_i (g_runSN (As := [.int (v4 + x1)]) (rest := []) (j0 := 2) hC (c_X7_isCoordinate l V g D cT f n (v4 + x1) v5 ev5) k_X7_isCoordinate rfl rfl rfl ⟨Nat.le_of_ble_eq_true rfl, Nat.le_of_ble_eq_true rfl⟩ hI rfl hl.1 rfl (Nat.le_of_ble_eq_true rfl) dX2_canSlide_18 ⟨by decide, by decide⟩) hI (fun H locs hI => ?_)
        refine lv_if_eq (tgt := 38) hx hb dX2_canSlide_21 (by decide) (fun c6 => ?_) (fun c6 => ?_)
        · replace hq := i_t c6 hq
          exact hK38  H locs ls hI (lv_sub hl [] rfl) hq
        · replace hq := i_f c6 hq
          refine lv_aload_n hx hb dX2_canSlide_24 rfl (lv_at hl 0 rfl) ?_
          obtain ⟨v7, ev7, hq⟩ := b_s hq
          refine fa_gr (own := RX2) (ref := "CoastlineRuler$Coast") (k := 1) hx hb hB inB_RX2 hown hI rfl (by decide) m_51 (fun _ h9 => h9) ev7 dX2_canSlide_25 ?_
          refine lv_iload_n hx hb dX2_canSlide_28 rfl (lv_at hl 3 rfl) ?_
          obtain ⟨v8, ev8, hq⟩ := b_s hq
          refine fa_li hx hb hI ev8 dX2_canSlide_29 ?_
          refine lv_iload_n hx hb dX2_canSlide_30 rfl (lv_at hl 2 rfl) ?_
          refine lv_iadd hx hb dX2_canSlide_31 ?_
          obtain ⟨v9, ev9, hq⟩ := b_s hq
          refine gr_i (g_runSN (As := [.int (v8 + x2)]) (rest := []) (j0 := 2) hC (c_X7_isCoordinate l V g D cT f n (v8 + x2) v9 ev9) k_X7_isCoordinate rfl rfl rfl ⟨Nat.le_of_ble_eq_true rfl, Nat.le_of_ble_eq_true rfl⟩ hI rfl hl.1 rfl (Nat.le_of_ble_eq_true rfl) dX2_canSlide_32 ⟨by decide, by decide⟩) hI (fun H locs hI => ?_)
          refine lv_if_ne (tgt := 40) hx hb dX2_canSlide_35 (by decide) (fun c10 => ?_) (fun c10 => ?_)
          · replace hq := i_f c10 hq
            refine lv_iinc (v := x3 + (1 : Int32)) (lv' := [(3, .int (x3 + (1 : Int32))), (0, .ref x0), (1, .int x1), (2, .int x2)]) hx hb dX2_canSlide_40 hl (k := 3) rfl rfl (by decide) rfl (fun ls hl => ?_)
            refine lv_goto (tgt := 2) hx hb dX2_canSlide_43 (by decide) ?_
            exact ih x0 x1 x2 (x3 + (1 : Int32)) H locs ls hI (lv_sub hl [1, 2, 3, 0] rfl) hq
          · replace hq := i_t c10 hq
            exact hK38  H locs ls hI (lv_sub hl [] rfl) hq
  refine hl2 _ ?_ _ ?_ FU a0 a1 a2 (0 : Int32) H locs ls hI (lv_sub hl [1, 2, 3, 0] rfl) hq
  · intro  H locs ls hI hl hq
    refine lv_iconst (v := (0 : Int32)) hx hb dX2_canSlide_38 (by decide) ?_
    exact ge_Ri hx hb hlocks hr (by decide +kernel) hI hq dX2_canSlide_39
  · intro  H locs ls hI hl hq
    refine lv_iconst (v := (1 : Int32)) hx hb dX2_canSlide_46 (by decide) ?_
    exact ge_Ri hx hb hlocks hr (by decide +kernel) hI hq dX2_canSlide_47

abbrev rm_X2_neededPoints : Room := { frames := 2, cells := 0, slots := 0, locals := 120 }
theorem k_X2_neededPoints : g_CV yX2_neededPoints cX2_neededPoints 1 (some .int) 0 := ⟨⟨m_484, m_3, by decide +kernel⟩, m_482, m_483⟩
set_option maxHeartbeats 4000000 in
set_option maxRecDepth 100000 in
theorem c_X2_neededPoints (l : Launch) (V : Nat → Nat) (g : GH) (D : va_G) (cT : Nat → ClassId) (f : GH) (n : Nat) (a0 : Nat) (o : Int32) (hq : p_X2_neededPoints V g f a0 = some o) : Met l yX2_neededPoints (Cond.code yX2_neededPoints cX2_neededPoints 1 (some .int) :: g_B) rm_X2_neededPoints (va_Pc [.ref a0] (g_I V g D cT f n)) (g_Ri o n) 0 0 g_no := by
  refine g_begin (own := RX2) [.ref a0] [(0, .ref a0)] g_no (fun _ h => h.elim) (by decide) rfl (Nat.le_of_ble_eq_true rfl) rfl ?_
  intro p e s m args below meth c hx hb hr hlocks hin hC hI ls hl
  obtain ⟨hx, hb, hml, hown, hB⟩ := id hC
  obtain ⟨H, hH⟩ : ∃ H, H = s.heap := ⟨_, rfl⟩
  obtain ⟨locs, hlocs⟩ : ∃ L : List Loc, L = [] := ⟨_, rfl⟩
  rw [← hH, ← hlocs] at hI ⊢
  clear hH hlocs
  unfold p_X2_neededPoints at hq
  replace hq := (h_me_eq hq).2
  refine lv_aload_n hx hb dX2_neededPoints_0 rfl (lv_at hl 0 rfl) ?_
  obtain ⟨v1, ev1, hq⟩ := b_s hq
  refine fa_gi (own := RX2) (ref := "CoastlineRuler$Coast") (k := 3) hx hb hB inB_RX2 hown hI rfl (by decide) m_58 (fun _ h9 => h9) ev1 dX2_neededPoints_1 ?_
  refine lv_if_eq (tgt := 11) hx hb dX2_neededPoints_4 (by decide) (fun c2 => ?_) (fun c2 => ?_)
  · replace hq := i_t c2 hq
    refine lv_iconst (v := (2 : Int32)) hx hb dX2_neededPoints_11 (by decide) ?_
    exact ge_Ri hx hb hlocks hr rfl hI hq dX2_neededPoints_12
  · replace hq := i_f c2 hq
    refine lv_iconst (v := (3 : Int32)) hx hb dX2_neededPoints_7 (by decide) ?_
    refine lv_goto (tgt := 12) hx hb dX2_neededPoints_8 (by decide) ?_
    exact ge_Ri hx hb hlocks hr rfl hI hq dX2_neededPoints_12

abbrev rm_X2_pointsAfterUnfold : Room := { frames := 2, cells := 0, slots := 0, locals := 120 }
theorem k_X2_pointsAfterUnfold : g_CV yX2_pointsAfterUnfold cX2_pointsAfterUnfold 1 (some .int) 0 := ⟨⟨m_929, m_3, by decide +kernel⟩, m_927, m_928⟩
set_option maxHeartbeats 4000000 in
set_option maxRecDepth 100000 in
theorem c_X2_pointsAfterUnfold (l : Launch) (V : Nat → Nat) (g : GH) (D : va_G) (cT : Nat → ClassId) (f : GH) (n : Nat) (a0 : Nat) (o : Int32) (hq : p_X2_pointsAfterUnfold V g f a0 = some o) : Met l yX2_pointsAfterUnfold (Cond.code yX2_pointsAfterUnfold cX2_pointsAfterUnfold 1 (some .int) :: g_B) rm_X2_pointsAfterUnfold (va_Pc [.ref a0] (g_I V g D cT f n)) (g_Ri o n) 0 0 g_no := by
  refine g_begin (own := RX2) [.ref a0] [(0, .ref a0)] g_no (fun _ h => h.elim) (by decide) rfl (Nat.le_of_ble_eq_true rfl) rfl ?_
  intro p e s m args below meth c hx hb hr hlocks hin hC hI ls hl
  obtain ⟨hx, hb, hml, hown, hB⟩ := id hC
  obtain ⟨H, hH⟩ : ∃ H, H = s.heap := ⟨_, rfl⟩
  obtain ⟨locs, hlocs⟩ : ∃ L : List Loc, L = [] := ⟨_, rfl⟩
  rw [← hH, ← hlocs] at hI ⊢
  clear hH hlocs
  unfold p_X2_pointsAfterUnfold at hq
  replace hq := (h_me_eq hq).2
  refine lv_aload_n hx hb dX2_pointsAfterUnfold_0 rfl (lv_at hl 0 rfl) ?_
  obtain ⟨v1, ev1, hq⟩ := b_s hq
  refine fa_gi (own := RX2) (ref := "CoastlineRuler$Coast") (k := 2) hx hb hB inB_RX2 hown hI rfl (by decide) m_54 (fun _ h9 => h9) ev1 dX2_pointsAfterUnfold_1 ?_
  refine lv_iconst (v := (1 : Int32)) hx hb dX2_pointsAfterUnfold_4 (by decide) ?_
  refine lv_iadd hx hb dX2_pointsAfterUnfold_5 ?_
  refine lv_iconst (v := (1 : Int32)) hx hb dX2_pointsAfterUnfold_6 (by decide) ?_
  refine lv_ishr hx hb dX2_pointsAfterUnfold_7 ?_
  exact ge_Ri hx hb hlocks hr rfl hI hq dX2_pointsAfterUnfold_8

abbrev rm_X2_displacement : Room := { frames := 2, cells := 0, slots := 0, locals := 120 }
theorem k_X2_displacement : g_CV yX2_displacement cX2_displacement 3 (some .int) 2 := ⟨⟨m_870, m_3, by decide +kernel⟩, m_868, m_869⟩
set_option maxHeartbeats 4000000 in
set_option maxRecDepth 100000 in
theorem c_X2_displacement (l : Launch) (V : Nat → Nat) (g : GH) (D : va_G) (cT : Nat → ClassId) (f : GH) (n : Nat) (a0 : Nat) (a1 : Int32) (a2 : Int32) (o : Int32) (hq : p_X2_displacement V g f a0 a1 a2 = some o) : Met l yX2_displacement (Cond.code yX2_displacement cX2_displacement 3 (some .int) :: g_B) rm_X2_displacement (va_Pc [.ref a0, .int a1, .int a2] (g_I V g D cT f n)) (g_Ri o n) 0 0 g_no := by
  refine g_begin (own := RX2) [.ref a0, .int a1, .int a2] [(0, .ref a0), (1, .int a1), (2, .int a2)] g_no (fun _ h => h.elim) (by decide) rfl (Nat.le_of_ble_eq_true rfl) rfl ?_
  intro p e s m args below meth c hx hb hr hlocks hin hC hI ls hl
  obtain ⟨hx, hb, hml, hown, hB⟩ := id hC
  obtain ⟨H, hH⟩ : ∃ H, H = s.heap := ⟨_, rfl⟩
  obtain ⟨locs, hlocs⟩ : ∃ L : List Loc, L = [] := ⟨_, rfl⟩
  rw [← hH, ← hlocs] at hI ⊢
  clear hH hlocs
  unfold p_X2_displacement at hq
  replace hq := (h_me_eq hq).2
  refine lv_iload_n hx hb dX2_displacement_0 rfl (lv_at hl 1 rfl) ?_
  refine lv_iconst (v := (1 : Int32)) hx hb dX2_displacement_1 (by decide) ?_
  refine lv_iand hx hb dX2_displacement_2 ?_
  refine lv_if_ne (tgt := 10) hx hb dX2_displacement_3 (by decide) (fun c1 => ?_) (fun c1 => ?_)
  · replace hq := i_f c1 hq
    refine lv_iload_n hx hb dX2_displacement_10 rfl (lv_at hl 2 rfl) ?_
    refine lv_ineg hx hb dX2_displacement_11 ?_
    exact ge_Ri hx hb hlocks hr rfl hI hq dX2_displacement_12
  · replace hq := i_t c1 hq
    refine lv_iload_n hx hb dX2_displacement_6 rfl (lv_at hl 2 rfl) ?_
    refine lv_goto (tgt := 12) hx hb dX2_displacement_7 (by decide) ?_
    exact ge_Ri hx hb hlocks hr rfl hI hq dX2_displacement_12

abbrev rm_X2_isFlat : Room := { frames := 3, cells := 0, slots := 0, locals := 140 }
theorem k_X2_isFlat : g_CV yX2_isFlat cX2_isFlat 3 (some .boolean) 2 := ⟨⟨m_866, m_3, by decide +kernel⟩, m_864, m_865⟩
set_option maxHeartbeats 4000000 in
set_option maxRecDepth 100000 in
theorem c_X2_isFlat (l : Launch) (V : Nat → Nat) (g : GH) (D : va_G) (cT : Nat → ClassId) (f : GH) (n : Nat) (a0 : Nat) (a1 : Int32) (a2 : Int32) (o : Int32) (hq : p_X2_isFlat V g f a0 a1 a2 = some o) : Met l yX2_isFlat (Cond.code yX2_isFlat cX2_isFlat 3 (some .boolean) :: g_B) rm_X2_isFlat (va_Pc [.ref a0, .int a1, .int a2] (g_I V g D cT f n)) (g_Ri o n) 0 0 g_no := by
  refine g_begin (own := RX2) [.ref a0, .int a1, .int a2] [(0, .ref a0), (1, .int a1), (2, .int a2)] g_no (fun _ h => h.elim) (by decide) rfl (Nat.le_of_ble_eq_true rfl) rfl ?_
  intro p e s m args below meth c hx hb hr hlocks hin hC hI ls hl
  obtain ⟨hx, hb, hml, hown, hB⟩ := id hC
  obtain ⟨H, hH⟩ : ∃ H, H = s.heap := ⟨_, rfl⟩
  obtain ⟨locs, hlocs⟩ : ∃ L : List Loc, L = [] := ⟨_, rfl⟩
  rw [← hH, ← hlocs] at hI ⊢
  clear hH hlocs
  unfold p_X2_isFlat at hq
  replace hq := (h_me_eq hq).2
  refine lv_aload_n hx hb dX2_isFlat_0 rfl (lv_at hl 0 rfl) ?_
  obtain ⟨v1, ev1, hq⟩ := b_s hq
  refine fa_gr (own := RX2) (ref := "CoastlineRuler$Coast") (k := 0) hx hb hB inB_RX2 hown hI rfl (by decide) m_48 (fun _ h9 => h9) ev1 dX2_isFlat_1 ?_
  refine lv_iload_n hx hb dX2_isFlat_4 rfl (lv_at hl 1 rfl) ?_
  obtain ⟨v2, ev2, hq⟩ := b_s hq
  refine fa_li hx hb hI ev2 dX2_isFlat_5 ?_
  refine lv_aload_n hx hb dX2_isFlat_6 rfl (lv_at hl 0 rfl) ?_
  obtain ⟨v3, ev3, hq⟩ := b_s hq
  refine fa_gr (own := RX2) (ref := "CoastlineRuler$Coast") (k := 0) hx hb hB inB_RX2 hown hI rfl (by decide) m_48 (fun _ h9 => h9) ev3 dX2_isFlat_7 ?_
  refine lv_iload_n hx hb dX2_isFlat_10 rfl (lv_at hl 2 rfl) ?_
  obtain ⟨v4, ev4, hq⟩ := b_s hq
  refine fa_li hx hb hI ev4 dX2_isFlat_11 ?_
  refine lv_isub hx hb dX2_isFlat_12 ?_
  obtain ⟨v5, ev5, hq⟩ := b_s hq
  refine g_abs hx hb (hml.trans hl.1.symm) hown (hB _ m_668) (hB _ m_669) (hB _ m_15) (hB _ m_670) (Nat.le_of_ble_eq_true rfl) (Nat.le_of_ble_eq_true rfl) (Nat.le_of_ble_eq_true rfl) (Nat.le_of_ble_eq_true rfl) ev5 dX2_isFlat_13 ?_
  refine lv_aload_n hx hb dX2_isFlat_16 rfl (lv_at hl 0 rfl) ?_
  obtain ⟨v6, ev6, hq⟩ := b_s hq
  refine fa_gr (own := RX2) (ref := "CoastlineRuler$Coast") (k := 1) hx hb hB inB_RX2 hown hI rfl (by decide) m_51 (fun _ h9 => h9) ev6 dX2_isFlat_17 ?_
  refine lv_iload_n hx hb dX2_isFlat_20 rfl (lv_at hl 1 rfl) ?_
  obtain ⟨v7, ev7, hq⟩ := b_s hq
  refine fa_li hx hb hI ev7 dX2_isFlat_21 ?_
  refine lv_aload_n hx hb dX2_isFlat_22 rfl (lv_at hl 0 rfl) ?_
  obtain ⟨v8, ev8, hq⟩ := b_s hq
  refine fa_gr (own := RX2) (ref := "CoastlineRuler$Coast") (k := 1) hx hb hB inB_RX2 hown hI rfl (by decide) m_51 (fun _ h9 => h9) ev8 dX2_isFlat_23 ?_
  refine lv_iload_n hx hb dX2_isFlat_26 rfl (lv_at hl 2 rfl) ?_
  obtain ⟨v9, ev9, hq⟩ := b_s hq
  refine fa_li hx hb hI ev9 dX2_isFlat_27 ?_
  refine lv_isub hx hb dX2_isFlat_28 ?_
  obtain ⟨v10, ev10, hq⟩ := b_s hq
  refine g_abs hx hb (hml.trans hl.1.symm) hown (hB _ m_668) (hB _ m_669) (hB _ m_15) (hB _ m_670) (Nat.le_of_ble_eq_true rfl) (Nat.le_of_ble_eq_true rfl) (Nat.le_of_ble_eq_true rfl) (Nat.le_of_ble_eq_true rfl) ev10 dX2_isFlat_29 ?_
  refine lv_icmp_lt (tgt := 39) hx hb dX2_isFlat_32 (by decide) (fun c11 => ?_) (fun c11 => ?_)
  · replace hq := i_t c11 hq
    refine lv_iconst (v := (0 : Int32)) hx hb dX2_isFlat_39 (by decide) ?_
    exact ge_Ri hx hb hlocks hr (by decide +kernel) hI hq dX2_isFlat_40
  · replace hq := i_f c11 hq
    refine lv_iconst (v := (1 : Int32)) hx hb dX2_isFlat_35 (by decide) ?_
    refine lv_goto (tgt := 40) hx hb dX2_isFlat_36 (by decide) ?_
    exact ge_Ri hx hb hlocks hr (by decide +kernel) hI hq dX2_isFlat_40

abbrev rm_X2_midpointX : Room := { frames := 4, cells := 0, slots := 0, locals := 162 }
theorem k_X2_midpointX : g_CV yX2_midpointX cX2_midpointX 5 (some .int) 2 := ⟨⟨m_862, m_3, by decide +kernel⟩, m_860, m_861⟩
set_option maxHeartbeats 4000000 in
set_option maxRecDepth 100000 in
theorem c_X2_midpointX (l : Launch) (V : Nat → Nat) (g : GH) (D : va_G) (cT : Nat → ClassId) (f : GH) (n : Nat) (a0 : Nat) (a1 : Int32) (a2 : Int32) (o : Int32) (hq : p_X2_midpointX V g f a0 a1 a2 = some o) : Met l yX2_midpointX (Cond.code yX2_midpointX cX2_midpointX 5 (some .int) :: g_B) rm_X2_midpointX (va_Pc [.ref a0, .int a1, .int a2] (g_I V g D cT f n)) (g_Ri o n) 0 0 g_no := by
  refine g_begin (own := RX2) [.ref a0, .int a1, .int a2] [(0, .ref a0), (1, .int a1), (2, .int a2)] g_no (fun _ h => h.elim) (by decide) rfl (Nat.le_of_ble_eq_true rfl) rfl ?_
  intro p e s m args below meth c hx hb hr hlocks hin hC hI ls hl
  obtain ⟨hx, hb, hml, hown, hB⟩ := id hC
  obtain ⟨H, hH⟩ : ∃ H, H = s.heap := ⟨_, rfl⟩
  obtain ⟨locs, hlocs⟩ : ∃ L : List Loc, L = [] := ⟨_, rfl⟩
  rw [← hH, ← hlocs] at hI ⊢
  clear hH hlocs
  unfold p_X2_midpointX at hq
  replace hq := (h_me_eq hq).2
  refine lv_aload_n hx hb dX2_midpointX_0 rfl (lv_at hl 0 rfl) ?_
  refine lv_iload_n hx hb dX2_midpointX_1 rfl (lv_at hl 1 rfl) ?_
  obtain ⟨v1, ev1, hq⟩ := b_s hq
  refine gr_i (g_runV (As := [.int a1]) (rest := []) (ci := 5) hC (c_X2_segmentEnd l V g D cT f n a0 a1 v1 ev1) k_X2_segmentEnd m_758 rfl rfl ⟨Nat.le_of_ble_eq_true rfl, Nat.le_of_ble_eq_true rfl⟩ hI rfl rfl (h_me_eq ev1).1 rfl hl.1 rfl (Nat.le_of_ble_eq_true rfl) dX2_midpointX_2 ⟨by decide, by decide⟩) hI (fun H locs hI => ?_)
  refine lv_istore_n (lv' := [(3, .int v1), (0, .ref a0), (1, .int a1), (2, .int a2)]) hx hb dX2_midpointX_5 rfl hl (by decide) rfl (fun ls hl => ?_)
  refine lv_aload_n hx hb dX2_midpointX_6 rfl (lv_at hl 1 rfl) ?_
  obtain ⟨v2, ev2, hq⟩ := b_s hq
  refine fa_gr (own := RX2) (ref := "CoastlineRuler$Coast") (k := 0) hx hb hB inB_RX2 hown hI rfl (by decide) m_48 (fun _ h9 => h9) ev2 dX2_midpointX_7 ?_
  refine lv_iload_n hx hb dX2_midpointX_10 rfl (lv_at hl 2 rfl) ?_
  obtain ⟨v3, ev3, hq⟩ := b_s hq
  refine fa_li hx hb hI ev3 dX2_midpointX_11 ?_
  refine lv_aload_n hx hb dX2_midpointX_12 rfl (lv_at hl 1 rfl) ?_
  obtain ⟨v4, ev4, hq⟩ := b_s hq
  refine fa_gr (own := RX2) (ref := "CoastlineRuler$Coast") (k := 0) hx hb hB inB_RX2 hown hI rfl (by decide) m_48 (fun _ h9 => h9) ev4 dX2_midpointX_13 ?_
  refine lv_iload_n hx hb dX2_midpointX_16 rfl (lv_at hl 0 rfl) ?_
  obtain ⟨v5, ev5, hq⟩ := b_s hq
  refine fa_li hx hb hI ev5 dX2_midpointX_17 ?_
  refine lv_iadd hx hb dX2_midpointX_18 ?_
  refine lv_iconst (v := (1 : Int32)) hx hb dX2_midpointX_19 (by decide) ?_
  refine lv_ishr hx hb dX2_midpointX_20 ?_
  refine lv_istore (lv' := [(4, .int ((v3 + v5) >>> ((1 : Int32) &&& 31))), (3, .int v1), (0, .ref a0), (1, .int a1), (2, .int a2)]) hx hb dX2_midpointX_21 hl (by decide) rfl (fun ls hl => ?_)
  refine lv_aload_n hx hb dX2_midpointX_23 rfl (lv_at hl 2 rfl) ?_
  refine lv_iload_n hx hb dX2_midpointX_24 rfl (lv_at hl 3 rfl) ?_
  refine lv_iload_n hx hb dX2_midpointX_25 rfl (lv_at hl 1 rfl) ?_
  obtain ⟨v6, ev6, hq⟩ := b_s hq
  refine gr_i (g_runV (As := [.int a1, .int v1]) (rest := []) (ci := 5) hC (c_X2_isFlat l V g D cT f n a0 a1 v1 v6 ev6) k_X2_isFlat m_863 rfl rfl ⟨Nat.le_of_ble_eq_true rfl, Nat.le_of_ble_eq_true rfl⟩ hI rfl rfl (h_me_eq ev6).1 rfl hl.1 rfl (Nat.le_of_ble_eq_true rfl) dX2_midpointX_26 ⟨by decide, by decide⟩) hI (fun H locs hI => ?_)
  refine lv_if_eq (tgt := 37) hx hb dX2_midpointX_29 (by decide) (fun c7 => ?_) (fun c7 => ?_)
  · replace hq := i_t c7 hq
    refine lv_iload hx hb dX2_midpointX_37 (lv_at hl 0 rfl) ?_
    refine lv_aload_n hx hb dX2_midpointX_39 rfl (lv_at hl 2 rfl) ?_
    refine lv_iload_n hx hb dX2_midpointX_40 rfl (lv_at hl 3 rfl) ?_
    refine lv_iload_n hx hb dX2_midpointX_41 rfl (lv_at hl 4 rfl) ?_
    obtain ⟨v8, ev8, hq⟩ := b_s hq
    refine gr_i (g_runV (As := [.int a1, .int a2]) (rest := [.int ((v3 + v5) >>> ((1 : Int32) &&& 31))]) (ci := 5) hC (c_X2_displacement l V g D cT f n a0 a1 a2 v8 ev8) k_X2_displacement m_867 rfl rfl ⟨Nat.le_of_ble_eq_true rfl, Nat.le_of_ble_eq_true rfl⟩ hI rfl rfl (h_me_eq ev8).1 rfl hl.1 rfl (Nat.le_of_ble_eq_true rfl) dX2_midpointX_42 ⟨by decide, by decide⟩) hI (fun H locs hI => ?_)
    refine lv_iadd hx hb dX2_midpointX_45 ?_
    exact ge_Ri hx hb hlocks hr rfl hI hq dX2_midpointX_46
  · replace hq := i_f c7 hq
    refine lv_iload hx hb dX2_midpointX_32 (lv_at hl 0 rfl) ?_
    refine lv_goto (tgt := 46) hx hb dX2_midpointX_34 (by decide) ?_
    exact ge_Ri hx hb hlocks hr rfl hI hq dX2_midpointX_46

abbrev rm_X2_midpointY : Room := { frames := 4, cells := 0, slots := 0, locals := 162 }
theorem k_X2_midpointY : g_CV yX2_midpointY cX2_midpointY 5 (some .int) 2 := ⟨⟨m_877, m_3, by decide +kernel⟩, m_875, m_876⟩
set_option maxHeartbeats 4000000 in
set_option maxRecDepth 100000 in
theorem c_X2_midpointY (l : Launch) (V : Nat → Nat) (g : GH) (D : va_G) (cT : Nat → ClassId) (f : GH) (n : Nat) (a0 : Nat) (a1 : Int32) (a2 : Int32) (o : Int32) (hq : p_X2_midpointY V g f a0 a1 a2 = some o) : Met l yX2_midpointY (Cond.code yX2_midpointY cX2_midpointY 5 (some .int) :: g_B) rm_X2_midpointY (va_Pc [.ref a0, .int a1, .int a2] (g_I V g D cT f n)) (g_Ri o n) 0 0 g_no := by
  refine g_begin (own := RX2) [.ref a0, .int a1, .int a2] [(0, .ref a0), (1, .int a1), (2, .int a2)] g_no (fun _ h => h.elim) (by decide) rfl (Nat.le_of_ble_eq_true rfl) rfl ?_
  intro p e s m args below meth c hx hb hr hlocks hin hC hI ls hl
  obtain ⟨hx, hb, hml, hown, hB⟩ := id hC
  obtain ⟨H, hH⟩ : ∃ H, H = s.heap := ⟨_, rfl⟩
  obtain ⟨locs, hlocs⟩ : ∃ L : List Loc, L = [] := ⟨_, rfl⟩
  rw [← hH, ← hlocs] at hI ⊢
  clear hH hlocs
  unfold p_X2_midpointY at hq
  replace hq := (h_me_eq hq).2
  refine lv_aload_n hx hb dX2_midpointY_0 rfl (lv_at hl 0 rfl) ?_
  refine lv_iload_n hx hb dX2_midpointY_1 rfl (lv_at hl 1 rfl) ?_
  obtain ⟨v1, ev1, hq⟩ := b_s hq
  refine gr_i (g_runV (As := [.int a1]) (rest := []) (ci := 5) hC (c_X2_segmentEnd l V g D cT f n a0 a1 v1 ev1) k_X2_segmentEnd m_758 rfl rfl ⟨Nat.le_of_ble_eq_true rfl, Nat.le_of_ble_eq_true rfl⟩ hI rfl rfl (h_me_eq ev1).1 rfl hl.1 rfl (Nat.le_of_ble_eq_true rfl) dX2_midpointY_2 ⟨by decide, by decide⟩) hI (fun H locs hI => ?_)
  refine lv_istore_n (lv' := [(3, .int v1), (0, .ref a0), (1, .int a1), (2, .int a2)]) hx hb dX2_midpointY_5 rfl hl (by decide) rfl (fun ls hl => ?_)
  refine lv_aload_n hx hb dX2_midpointY_6 rfl (lv_at hl 1 rfl) ?_
  obtain ⟨v2, ev2, hq⟩ := b_s hq
  refine fa_gr (own := RX2) (ref := "CoastlineRuler$Coast") (k := 1) hx hb hB inB_RX2 hown hI rfl (by decide) m_51 (fun _ h9 => h9) ev2 dX2_midpointY_7 ?_
  refine lv_iload_n hx hb dX2_midpointY_10 rfl (lv_at hl 2 rfl) ?_
  obtain ⟨v3, ev3, hq⟩ := b_s hq
  refine fa_li hx hb hI ev3 dX2_midpointY_11 ?_
  refine lv_aload_n hx hb dX2_midpointY_12 rfl (lv_at hl 1 rfl) ?_
  obtain ⟨v4, ev4, hq⟩ := b_s hq
  refine fa_gr (own := RX2) (ref := "CoastlineRuler$Coast") (k := 1) hx hb hB inB_RX2 hown hI rfl (by decide) m_51 (fun _ h9 => h9) ev4 dX2_midpointY_13 ?_
  refine lv_iload_n hx hb dX2_midpointY_16 rfl (lv_at hl 0 rfl) ?_
  obtain ⟨v5, ev5, hq⟩ := b_s hq
  refine fa_li hx hb hI ev5 dX2_midpointY_17 ?_
  refine lv_iadd hx hb dX2_midpointY_18 ?_
  refine lv_iconst (v := (1 : Int32)) hx hb dX2_midpointY_19 (by decide) ?_
  refine lv_ishr hx hb dX2_midpointY_20 ?_
  refine lv_istore (lv' := [(4, .int ((v3 + v5) >>> ((1 : Int32) &&& 31))), (3, .int v1), (0, .ref a0), (1, .int a1), (2, .int a2)]) hx hb dX2_midpointY_21 hl (by decide) rfl (fun ls hl => ?_)
  refine lv_aload_n hx hb dX2_midpointY_23 rfl (lv_at hl 2 rfl) ?_
  refine lv_iload_n hx hb dX2_midpointY_24 rfl (lv_at hl 3 rfl) ?_
  refine lv_iload_n hx hb dX2_midpointY_25 rfl (lv_at hl 1 rfl) ?_
  obtain ⟨v6, ev6, hq⟩ := b_s hq
  refine gr_i (g_runV (As := [.int a1, .int v1]) (rest := []) (ci := 5) hC (c_X2_isFlat l V g D cT f n a0 a1 v1 v6 ev6) k_X2_isFlat m_863 rfl rfl ⟨Nat.le_of_ble_eq_true rfl, Nat.le_of_ble_eq_true rfl⟩ hI rfl rfl (h_me_eq ev6).1 rfl hl.1 rfl (Nat.le_of_ble_eq_true rfl) dX2_midpointY_26 ⟨by decide, by decide⟩) hI (fun H locs hI => ?_)
  refine lv_if_eq (tgt := 44) hx hb dX2_midpointY_29 (by decide) (fun c7 => ?_) (fun c7 => ?_)
  · replace hq := i_t c7 hq
    refine lv_iload hx hb dX2_midpointY_44 (lv_at hl 0 rfl) ?_
    exact ge_Ri hx hb hlocks hr rfl hI hq dX2_midpointY_46
  · replace hq := i_f c7 hq
    refine lv_iload hx hb dX2_midpointY_32 (lv_at hl 0 rfl) ?_
    refine lv_aload_n hx hb dX2_midpointY_34 rfl (lv_at hl 2 rfl) ?_
    refine lv_iload_n hx hb dX2_midpointY_35 rfl (lv_at hl 3 rfl) ?_
    refine lv_iload_n hx hb dX2_midpointY_36 rfl (lv_at hl 4 rfl) ?_
    obtain ⟨v8, ev8, hq⟩ := b_s hq
    refine gr_i (g_runV (As := [.int a1, .int a2]) (rest := [.int ((v3 + v5) >>> ((1 : Int32) &&& 31))]) (ci := 5) hC (c_X2_displacement l V g D cT f n a0 a1 a2 v8 ev8) k_X2_displacement m_867 rfl rfl ⟨Nat.le_of_ble_eq_true rfl, Nat.le_of_ble_eq_true rfl⟩ hI rfl rfl (h_me_eq ev8).1 rfl hl.1 rfl (Nat.le_of_ble_eq_true rfl) dX2_midpointY_37 ⟨by decide, by decide⟩) hI (fun H locs hI => ?_)
    refine lv_iadd hx hb dX2_midpointY_40 ?_
    refine lv_goto (tgt := 46) hx hb dX2_midpointY_41 (by decide) ?_
    exact ge_Ri hx hb hlocks hr rfl hI hq dX2_midpointY_46

abbrev rm_X2_whyNotFold : Room := { frames := 5, cells := 0, slots := 0, locals := 186 }
theorem k_X2_whyNotFold : g_CV yX2_whyNotFold cX2_whyNotFold 3 (some .int) 1 := ⟨⟨m_858, m_3, by decide +kernel⟩, m_856, m_857⟩
set_option maxHeartbeats 4000000 in
set_option maxRecDepth 100000 in
theorem c_X2_whyNotFold (l : Launch) (V : Nat → Nat) (g : GH) (D : va_G) (cT : Nat → ClassId) (f : GH) (n : Nat) (a0 : Nat) (a1 : Int32) (o : Int32) (hq : p_X2_whyNotFold V g f a0 a1 = some o) : Met l yX2_whyNotFold (Cond.code yX2_whyNotFold cX2_whyNotFold 3 (some .int) :: g_B) rm_X2_whyNotFold (va_Pc [.ref a0, .int a1] (g_I V g D cT f n)) (g_Ri o n) 0 0 g_no := by
  refine g_begin (own := RX2) [.ref a0, .int a1] [(0, .ref a0), (1, .int a1)] g_no (fun _ h => h.elim) (by decide) rfl (Nat.le_of_ble_eq_true rfl) rfl ?_
  intro p e s m args below meth c hx hb hr hlocks hin hC hI ls hl
  obtain ⟨hx, hb, hml, hown, hB⟩ := id hC
  obtain ⟨H, hH⟩ : ∃ H, H = s.heap := ⟨_, rfl⟩
  obtain ⟨locs, hlocs⟩ : ∃ L : List Loc, L = [] := ⟨_, rfl⟩
  rw [← hH, ← hlocs] at hI ⊢
  clear hH hlocs
  unfold p_X2_whyNotFold at hq
  replace hq := (h_me_eq hq).2
  refine lv_aload_n hx hb dX2_whyNotFold_0 rfl (lv_at hl 0 rfl) ?_
  obtain ⟨v1, ev1, hq⟩ := b_s hq
  refine fa_gi (own := RX2) (ref := "CoastlineRuler$Coast") (k := 2) hx hb hB inB_RX2 hown hI rfl (by decide) m_54 (fun _ h9 => h9) ev1 dX2_whyNotFold_1 ?_
  refine lv_aload_n hx hb dX2_whyNotFold_4 rfl (lv_at hl 0 rfl) ?_
  obtain ⟨v2, ev2, hq⟩ := b_s hq
  refine gr_i (g_runV (As := []) (rest := [.int v1]) (ci := 5) hC (c_X2_segments l V g D cT f n a0 v2 ev2) k_X2_segments m_750 rfl rfl ⟨Nat.le_of_ble_eq_true rfl, Nat.le_of_ble_eq_true rfl⟩ hI rfl rfl (h_me_eq ev2).1 rfl hl.1 rfl (Nat.le_of_ble_eq_true rfl) dX2_whyNotFold_5 ⟨by decide, by decide⟩) hI (fun H locs hI => ?_)
  refine lv_iadd hx hb dX2_whyNotFold_8 ?_
  refine lv_sipush (v := (129 : Int32)) hx hb dX2_whyNotFold_9 (by decide) ?_
  refine lv_icmp_le (tgt := 17) hx hb dX2_whyNotFold_12 (by decide) (fun c3 => ?_) (fun c3 => ?_)
  · replace hq := i_t c3 hq
    refine lv_iconst (v := (0 : Int32)) hx hb dX2_whyNotFold_17 (by decide) ?_
    refine lv_istore_n (lv' := [(2, .int (0 : Int32)), (0, .ref a0), (1, .int a1)]) hx hb dX2_whyNotFold_18 rfl hl (by decide) rfl (fun ls hl => ?_)
    have hl19 : ∀ (K51 : Option Int32) (hK51 : ∀  (H : Heap) (locs : List Loc) (ls : Array Slot), g_at g_no V g D cT f n s H locs → lv_has ls 3 [] → K51  = some o → W p l e rm_X2_whyNotFold s m args below meth c H locs 0 0 (MQ below (g_Ri o n) args s 0 0 g_no) (F0 m 51 ls [])) (K59 : Option Int32) (hK59 : ∀  (H : Heap) (locs : List Loc) (ls : Array Slot), g_at g_no V g D cT f n s H locs → lv_has ls 3 [] → K59  = some o → W p l e rm_X2_whyNotFold s m args below meth c H locs 0 0 (MQ below (g_Ri o n) args s 0 0 g_no) (F0 m 59 ls [])) (N : Nat) (x0 : Nat) (x1 : Int32) (x2 : Int32) (H : Heap) (locs : List Loc) (ls : Array Slot), g_at g_no V g D cT f n s H locs → lv_has ls 3 [(0, .ref x0), (1, .int x1), (2, .int x2)] → p_X2_whyNotFold_l19 V g f K51 K59 N x0 x1 x2 = some o → W p l e rm_X2_whyNotFold s m args below meth c H locs 0 0 (MQ below (g_Ri o n) args s 0 0 g_no) (F0 m 19 ls []) := by
      intro K51 hK51 K59 hK59 N
      induction N with
      | zero =>
        intro x0 x1 x2 H locs ls hI hl hq
        rw [p_X2_whyNotFold_l19] at hq
        cases hq
      | succ N ih =>
        intro x0 x1 x2 H locs ls hI hl hq
        rw [p_X2_whyNotFold_l19] at hq
        refine lv_iload_n hx hb dX2_whyNotFold_19 rfl (lv_at hl 2 rfl) ?_
        refine lv_aload_n hx hb dX2_whyNotFold_20 rfl (lv_at hl 0 rfl) ?_
        obtain ⟨v4, ev4, hq⟩ := b_s hq
        refine gr_i (g_runV (As := []) (rest := [.int x2]) (ci := 5) hC (c_X2_segments l V g D cT f n x0 v4 ev4) k_X2_segments m_750 rfl rfl ⟨Nat.le_of_ble_eq_true rfl, Nat.le_of_ble_eq_true rfl⟩ hI rfl rfl (h_me_eq ev4).1 rfl hl.1 rfl (Nat.le_of_ble_eq_true rfl) dX2_whyNotFold_21 ⟨by decide, by decide⟩) hI (fun H locs hI => ?_)
        refine lv_icmp_ge (tgt := 59) hx hb dX2_whyNotFold_24 (by decide) (fun c5 => ?_) (fun c5 => ?_)
        · replace hq := i_t c5 hq
          exact hK59  H locs ls hI (lv_sub hl [] rfl) hq
        · replace hq := i_f c5 hq
          refine lv_aload_n hx hb dX2_whyNotFold_27 rfl (lv_at hl 0 rfl) ?_
          refine lv_iload_n hx hb dX2_whyNotFold_28 rfl (lv_at hl 2 rfl) ?_
          refine lv_iload_n hx hb dX2_whyNotFold_29 rfl (lv_at hl 1 rfl) ?_
          obtain ⟨v6, ev6, hq⟩ := b_s hq
          refine gr_i (g_runV (As := [.int x2, .int x1]) (rest := []) (ci := 5) hC (c_X2_midpointX l V g D cT f n x0 x2 x1 v6 ev6) k_X2_midpointX m_859 rfl rfl ⟨Nat.le_of_ble_eq_true rfl, Nat.le_of_ble_eq_true rfl⟩ hI rfl rfl (h_me_eq ev6).1 rfl hl.1 rfl (Nat.le_of_ble_eq_true rfl) dX2_whyNotFold_30 ⟨by decide, by decide⟩) hI (fun H locs hI => ?_)
          obtain ⟨v7, ev7, hq⟩ := b_s hq
          refine gr_i (g_runSN (As := [.int v6]) (rest := []) (j0 := 2) hC (c_X7_isCoordinate l V g D cT f n v6 v7 ev7) k_X7_isCoordinate rfl rfl rfl ⟨Nat.le_of_ble_eq_true rfl, Nat.le_of_ble_eq_true rfl⟩ hI rfl hl.1 rfl (Nat.le_of_ble_eq_true rfl) dX2_whyNotFold_33 ⟨by decide, by decide⟩) hI (fun H locs hI => ?_)
          refine lv_if_eq (tgt := 51) hx hb dX2_whyNotFold_36 (by decide) (fun c8 => ?_) (fun c8 => ?_)
          · replace hq := i_t c8 hq
            exact hK51  H locs ls hI (lv_sub hl [] rfl) hq
          · replace hq := i_f c8 hq
            refine lv_aload_n hx hb dX2_whyNotFold_39 rfl (lv_at hl 0 rfl) ?_
            refine lv_iload_n hx hb dX2_whyNotFold_40 rfl (lv_at hl 2 rfl) ?_
            refine lv_iload_n hx hb dX2_whyNotFold_41 rfl (lv_at hl 1 rfl) ?_
            obtain ⟨v9, ev9, hq⟩ := b_s hq
            refine gr_i (g_runV (As := [.int x2, .int x1]) (rest := []) (ci := 5) hC (c_X2_midpointY l V g D cT f n x0 x2 x1 v9 ev9) k_X2_midpointY m_874 rfl rfl ⟨Nat.le_of_ble_eq_true rfl, Nat.le_of_ble_eq_true rfl⟩ hI rfl rfl (h_me_eq ev9).1 rfl hl.1 rfl (Nat.le_of_ble_eq_true rfl) dX2_whyNotFold_42 ⟨by decide, by decide⟩) hI (fun H locs hI => ?_)
            obtain ⟨v10, ev10, hq⟩ := b_s hq
            refine gr_i (g_runSN (As := [.int v9]) (rest := []) (j0 := 2) hC (c_X7_isCoordinate l V g D cT f n v9 v10 ev10) k_X7_isCoordinate rfl rfl rfl ⟨Nat.le_of_ble_eq_true rfl, Nat.le_of_ble_eq_true rfl⟩ hI rfl hl.1 rfl (Nat.le_of_ble_eq_true rfl) dX2_whyNotFold_45 ⟨by decide, by decide⟩) hI (fun H locs hI => ?_)
            refine lv_if_ne (tgt := 53) hx hb dX2_whyNotFold_48 (by decide) (fun c11 => ?_) (fun c11 => ?_)
            · replace hq := i_f c11 hq
              refine lv_iinc (v := x2 + (1 : Int32)) (lv' := [(2, .int (x2 + (1 : Int32))), (0, .ref x0), (1, .int x1)]) hx hb dX2_whyNotFold_53 hl (k := 2) rfl rfl (by decide) rfl (fun ls hl => ?_)
              refine lv_goto (tgt := 19) hx hb dX2_whyNotFold_56 (by decide) ?_
              exact ih x0 x1 (x2 + (1 : Int32)) H locs ls hI (lv_sub hl [1, 2, 0] rfl) hq
            · replace hq := i_t c11 hq
              exact hK51  H locs ls hI (lv_sub hl [] rfl) hq
    refine hl19 _ ?_ _ ?_ FU a0 a1 (0 : Int32) H locs ls hI (lv_sub hl [1, 2, 0] rfl) hq
    · intro  H locs ls hI hl hq
      refine lv_iconst (v := (2 : Int32)) hx hb dX2_whyNotFold_51 (by decide) ?_
      exact ge_Ri hx hb hlocks hr rfl hI hq dX2_whyNotFold_52
    · intro  H locs ls hI hl hq
      refine lv_iconst (v := (0 : Int32)) hx hb dX2_whyNotFold_59 (by decide) ?_
      exact ge_Ri hx hb hlocks hr rfl hI hq dX2_whyNotFold_60
  · replace hq := i_f c3 hq
    refine lv_iconst (v := (1 : Int32)) hx hb dX2_whyNotFold_15 (by decide) ?_
    exact ge_Ri hx hb hlocks hr rfl hI hq dX2_whyNotFold_16

abbrev rm_X1_allowsChange : Room := { frames := 6, cells := 0, slots := 0, locals := 208 }
theorem k_X1_allowsChange : g_CV yX1_allowsChange cX1_allowsChange 3 (some .boolean) 2 := ⟨⟨m_916, m_2, by decide +kernel⟩, m_914, m_915⟩
set_option maxHeartbeats 4000000 in
set_option maxRecDepth 100000 in
theorem c_X1_allowsChange (l : Launch) (V : Nat → Nat) (g : GH) (D : va_G) (cT : Nat → ClassId) (f : GH) (n : Nat) (a0 : Nat) (a1 : Nat) (a2 : Nat) (o : Int32) (hq : p_X1_allowsChange V g f a0 a1 a2 = some o) : Met l yX1_allowsChange (Cond.code yX1_allowsChange cX1_allowsChange 3 (some .boolean) :: g_B) rm_X1_allowsChange (va_Pc [.ref a0, .ref a1, .ref a2] (g_I V g D cT f n)) (g_Ri o n) 0 0 g_no := by
  refine g_begin (own := RX1) [.ref a0, .ref a1, .ref a2] [(0, .ref a0), (1, .ref a1), (2, .ref a2)] g_no (fun _ h => h.elim) (by decide) rfl (Nat.le_of_ble_eq_true rfl) rfl ?_
  intro p e s m args below meth c hx hb hr hlocks hin hC hI ls hl
  obtain ⟨hx, hb, hml, hown, hB⟩ := id hC
  obtain ⟨H, hH⟩ : ∃ H, H = s.heap := ⟨_, rfl⟩
  obtain ⟨locs, hlocs⟩ : ∃ L : List Loc, L = [] := ⟨_, rfl⟩
  rw [← hH, ← hlocs] at hI ⊢
  clear hH hlocs
  unfold p_X1_allowsChange at hq
  replace hq := (h_me_eq hq).2
  refine fs_gs (i := 12) hx hb hown hI rfl (hB _ m_917) (fun _ h9 => h9) dX1_allowsChange_0 ?_
  refine lv_aload_n hx hb dX1_allowsChange_3 rfl (lv_at hl 2 rfl) ?_
  obtain ⟨v1, ev1, hq⟩ := b_s hq
  refine fa_gr (own := RX1) (ref := "CoastlineRuler$Command") (k := 0) hx hb hB inB_RX3 hown hI rfl (by decide) m_165 (fun _ h9 => h9) ev1 dX1_allowsChange_4 ?_
  obtain ⟨v2, ev2, hq⟩ := b_s hq
  refine gr_i (g_runUs (As := []) (rest := [.ref (V 13)]) (ci := 50) hC (c_Jx29ce0_ordinal_8abf5 l V g D cT f n v1 v2 ev2) (⟨⟨m_924, m_7⟩, m_923, m_920, m_922, rfl, by decide, by decide, by decide +kernel⟩ : g_CU "CoastlineRuler$Verb" "java/lang/Enum" (⟨"CoastlineRuler$Verb", "ordinal", "()I"⟩ : MethodName) yJx29ce0_ordinal_8abf5 cJx29ce0_ordinal_8abf5 1 (some .int) 0) m_919 rfl rfl ⟨Nat.le_of_ble_eq_true rfl, Nat.le_of_ble_eq_true rfl⟩ hI rfl (h_me_eq ev2).1 rfl hl.1 rfl (Nat.le_of_ble_eq_true rfl) dX1_allowsChange_7 ⟨by decide, by decide⟩) hI (fun H locs hI => ?_)
  obtain ⟨v3, ev3, hq⟩ := b_s hq
  refine fs_li hx hb hI ev3 dX1_allowsChange_10 ?_
  by_cases c4_0 : v3 = (1 : Int32)
  · replace hq := i_t c4_0 hq
    refine lv_tableIn (off := 33) (tgt := 44) hx hb dX1_allowsChange_11 (by rw [c4_0]; decide) (by rw [c4_0]; decide) (by rw [c4_0]; decide) (by decide) ?_
    refine lv_aload_n hx hb dX1_allowsChange_44 rfl (lv_at hl 1 rfl) ?_
    refine lv_aload_n hx hb dX1_allowsChange_45 rfl (lv_at hl 2 rfl) ?_
    obtain ⟨v5, ev5, hq⟩ := b_s hq
    refine fa_gi (own := RX1) (ref := "CoastlineRuler$Command") (k := 3) hx hb hB inB_RX3 hown hI rfl (by decide) m_172 (fun _ h9 => h9) ev5 dX1_allowsChange_46 ?_
    obtain ⟨v6, ev6, hq⟩ := b_s hq
    refine gr_i (g_runV (As := [.int v5]) (rest := []) (ci := 5) hC (c_X2_whyNotFold l V g D cT f n a1 v5 v6 ev6) k_X2_whyNotFold m_925 rfl rfl ⟨Nat.le_of_ble_eq_true rfl, Nat.le_of_ble_eq_true rfl⟩ hI rfl rfl (h_me_eq ev6).1 rfl hl.1 rfl (Nat.le_of_ble_eq_true rfl) dX1_allowsChange_49 ⟨by decide, by decide⟩) hI (fun H locs hI => ?_)
    refine lv_if_ne (tgt := 59) hx hb dX1_allowsChange_52 (by decide) (fun c7 => ?_) (fun c7 => ?_)
    · replace hq := i_f c7 hq
      refine lv_iconst (v := (0 : Int32)) hx hb dX1_allowsChange_59 (by decide) ?_
      exact ge_Ri hx hb hlocks hr (by decide +kernel) hI hq dX1_allowsChange_60
    · replace hq := i_t c7 hq
      refine lv_iconst (v := (1 : Int32)) hx hb dX1_allowsChange_55 (by decide) ?_
      refine lv_goto (tgt := 60) hx hb dX1_allowsChange_56 (by decide) ?_
      exact ge_Ri hx hb hlocks hr (by decide +kernel) hI hq dX1_allowsChange_60
  · replace hq := i_f c4_0 hq
    by_cases c4_1 : v3 = (2 : Int32)
    · replace hq := i_t c4_1 hq
      refine lv_tableIn (off := 50) (tgt := 61) hx hb dX1_allowsChange_11 (by rw [c4_1]; decide) (by rw [c4_1]; decide) (by rw [c4_1]; decide) (by decide) ?_
      refine lv_aload_n hx hb dX1_allowsChange_61 rfl (lv_at hl 1 rfl) ?_
      obtain ⟨v8, ev8, hq⟩ := b_s hq
      refine gr_i (g_runV (As := []) (rest := []) (ci := 5) hC (c_X2_pointsAfterUnfold l V g D cT f n a1 v8 ev8) k_X2_pointsAfterUnfold m_926 rfl rfl ⟨Nat.le_of_ble_eq_true rfl, Nat.le_of_ble_eq_true rfl⟩ hI rfl rfl (h_me_eq ev8).1 rfl hl.1 rfl (Nat.le_of_ble_eq_true rfl) dX1_allowsChange_62 ⟨by decide, by decide⟩) hI (fun H locs hI => ?_)
      refine lv_aload_n hx hb dX1_allowsChange_65 rfl (lv_at hl 1 rfl) ?_
      obtain ⟨v9, ev9, hq⟩ := b_s hq
      refine gr_i (g_runV (As := []) (rest := [.int v8]) (ci := 5) hC (c_X2_neededPoints l V g D cT f n a1 v9 ev9) k_X2_neededPoints m_930 rfl rfl ⟨Nat.le_of_ble_eq_true rfl, Nat.le_of_ble_eq_true rfl⟩ hI rfl rfl (h_me_eq ev9).1 rfl hl.1 rfl (Nat.le_of_ble_eq_true rfl) dX1_allowsChange_66 ⟨by decide, by decide⟩) hI (fun H locs hI => ?_)
      refine lv_icmp_lt (tgt := 76) hx hb dX1_allowsChange_69 (by decide) (fun c10 => ?_) (fun c10 => ?_)
      · replace hq := i_t c10 hq
        refine lv_iconst (v := (0 : Int32)) hx hb dX1_allowsChange_76 (by decide) ?_
        exact ge_Ri hx hb hlocks hr (by decide +kernel) hI hq dX1_allowsChange_77
      · replace hq := i_f c10 hq
        refine lv_iconst (v := (1 : Int32)) hx hb dX1_allowsChange_72 (by decide) ?_
        refine lv_goto (tgt := 77) hx hb dX1_allowsChange_73 (by decide) ?_
        exact ge_Ri hx hb hlocks hr (by decide +kernel) hI hq dX1_allowsChange_77
    · replace hq := i_f c4_1 hq
      by_cases c4_2 : v3 = (3 : Int32)
      · replace hq := i_t c4_2 hq
        refine lv_tableIn (off := 67) (tgt := 78) hx hb dX1_allowsChange_11 (by rw [c4_2]; decide) (by rw [c4_2]; decide) (by rw [c4_2]; decide) (by decide) ?_
        refine lv_aload_n hx hb dX1_allowsChange_78 rfl (lv_at hl 1 rfl) ?_
        obtain ⟨v11, ev11, hq⟩ := b_s hq
        refine fa_gi (own := RX1) (ref := "CoastlineRuler$Coast") (k := 2) hx hb hB inB_RX2 hown hI rfl (by decide) m_55 (fun _ h9 => h9) ev11 dX1_allowsChange_79 ?_
        refine lv_sipush (v := (129 : Int32)) hx hb dX1_allowsChange_82 (by decide) ?_
        refine lv_icmp_ge (tgt := 92) hx hb dX1_allowsChange_85 (by decide) (fun c12 => ?_) (fun c12 => ?_)
        · replace hq := i_t c12 hq
          refine lv_iconst (v := (0 : Int32)) hx hb dX1_allowsChange_92 (by decide) ?_
          exact ge_Ri hx hb hlocks hr (by decide +kernel) hI hq dX1_allowsChange_93
        · replace hq := i_f c12 hq
          refine lv_iconst (v := (1 : Int32)) hx hb dX1_allowsChange_88 (by decide) ?_
          refine lv_goto (tgt := 93) hx hb dX1_allowsChange_89 (by decide) ?_
          exact ge_Ri hx hb hlocks hr (by decide +kernel) hI hq dX1_allowsChange_93
      · replace hq := i_f c4_2 hq
        by_cases c4_3 : v3 = (4 : Int32)
        · replace hq := i_t c4_3 hq
          refine lv_tableIn (off := 83) (tgt := 94) hx hb dX1_allowsChange_11 (by rw [c4_3]; decide) (by rw [c4_3]; decide) (by rw [c4_3]; decide) (by decide) ?_
          refine lv_aload_n hx hb dX1_allowsChange_94 rfl (lv_at hl 1 rfl) ?_
          obtain ⟨v13, ev13, hq⟩ := b_s hq
          refine fa_gi (own := RX1) (ref := "CoastlineRuler$Coast") (k := 2) hx hb hB inB_RX2 hown hI rfl (by decide) m_55 (fun _ h9 => h9) ev13 dX1_allowsChange_95 ?_
          refine lv_aload_n hx hb dX1_allowsChange_98 rfl (lv_at hl 1 rfl) ?_
          obtain ⟨v14, ev14, hq⟩ := b_s hq
          refine gr_i (g_runV (As := []) (rest := [.int v13]) (ci := 5) hC (c_X2_neededPoints l V g D cT f n a1 v14 ev14) k_X2_neededPoints m_930 rfl rfl ⟨Nat.le_of_ble_eq_true rfl, Nat.le_of_ble_eq_true rfl⟩ hI rfl rfl (h_me_eq ev14).1 rfl hl.1 rfl (Nat.le_of_ble_eq_true rfl) dX1_allowsChange_99 ⟨by decide, by decide⟩) hI (fun H locs hI => ?_)
          refine lv_icmp_le (tgt := 109) hx hb dX1_allowsChange_102 (by decide) (fun c15 => ?_) (fun c15 => ?_)
          · replace hq := i_t c15 hq
            refine lv_iconst (v := (0 : Int32)) hx hb dX1_allowsChange_109 (by decide) ?_
            exact ge_Ri hx hb hlocks hr (by decide +kernel) hI hq dX1_allowsChange_110
          · replace hq := i_f c15 hq
            refine lv_iconst (v := (1 : Int32)) hx hb dX1_allowsChange_105 (by decide) ?_
            refine lv_goto (tgt := 110) hx hb dX1_allowsChange_106 (by decide) ?_
            exact ge_Ri hx hb hlocks hr (by decide +kernel) hI hq dX1_allowsChange_110
        · replace hq := i_f c4_3 hq
          by_cases c4_4 : v3 = (5 : Int32)
          · replace hq := i_t c4_4 hq
            refine lv_tableIn (off := 100) (tgt := 111) hx hb dX1_allowsChange_11 (by rw [c4_4]; decide) (by rw [c4_4]; decide) (by rw [c4_4]; decide) (by decide) ?_
            refine lv_aload_n hx hb dX1_allowsChange_111 rfl (lv_at hl 1 rfl) ?_
            refine lv_aload_n hx hb dX1_allowsChange_112 rfl (lv_at hl 2 rfl) ?_
            obtain ⟨v16, ev16, hq⟩ := b_s hq
            refine fa_gi (own := RX1) (ref := "CoastlineRuler$Command") (k := 3) hx hb hB inB_RX3 hown hI rfl (by decide) m_172 (fun _ h9 => h9) ev16 dX1_allowsChange_113 ?_
            refine lv_aload_n hx hb dX1_allowsChange_116 rfl (lv_at hl 2 rfl) ?_
            obtain ⟨v17, ev17, hq⟩ := b_s hq
            refine fa_gi (own := RX1) (ref := "CoastlineRuler$Command") (k := 4) hx hb hB inB_RX3 hown hI rfl (by decide) m_174 (fun _ h9 => h9) ev17 dX1_allowsChange_117 ?_
            obtain ⟨v18, ev18, hq⟩ := b_s hq
            refine gr_i (g_runV (As := [.int v16, .int v17]) (rest := []) (ci := 5) hC (c_X2_canSlide l V g D cT f n a1 v16 v17 v18 ev18) k_X2_canSlide m_931 rfl rfl ⟨Nat.le_of_ble_eq_true rfl, Nat.le_of_ble_eq_true rfl⟩ hI rfl rfl (h_me_eq ev18).1 rfl hl.1 rfl (Nat.le_of_ble_eq_true rfl) dX1_allowsChange_120 ⟨by decide, by decide⟩) hI (fun H locs hI => ?_)
            obtain ⟨_, ev19, hq⟩ := b_s hq
            exact ge_Ri hx hb hlocks hr (h_bz_eq ev19).2.1 hI hq dX1_allowsChange_123
          · replace hq := i_f c4_4 hq
            have nc4_0 := lv_neT (a := 1) c4_0 rfl
            have nc4_1 := lv_neT (a := 2) c4_1 rfl
            have nc4_2 := lv_neT (a := 3) c4_2 rfl
            have nc4_3 := lv_neT (a := 4) c4_3 rfl
            have nc4_4 := lv_neT (a := 5) c4_4 rfl
            refine lv_tableOut (tgt := 124) hx hb dX1_allowsChange_11 (by omega) (by decide) ?_
            refine lv_iconst (v := (1 : Int32)) hx hb dX1_allowsChange_124 (by decide) ?_
            exact ge_Ri hx hb hlocks hr (by decide +kernel) hI hq dX1_allowsChange_125

abbrev rm_X6_allows : Room := { frames := 2, cells := 0, slots := 0, locals := 120 }
theorem k_X6_allows : g_CV yX6_allows cX6_allows 2 (some .boolean) 1 := ⟨⟨m_912, m_8, by decide +kernel⟩, m_910, m_911⟩
set_option maxHeartbeats 4000000 in
set_option maxRecDepth 100000 in
theorem c_X6_allows (l : Launch) (V : Nat → Nat) (g : GH) (D : va_G) (cT : Nat → ClassId) (f : GH) (n : Nat) (a0 : Nat) (a1 : Int32) (o : Int32) (hq : p_X6_allows V g f a0 a1 = some o) : Met l yX6_allows (Cond.code yX6_allows cX6_allows 2 (some .boolean) :: g_B) rm_X6_allows (va_Pc [.ref a0, .int a1] (g_I V g D cT f n)) (g_Ri o n) 0 0 g_no := by
  refine g_begin (own := RX6) [.ref a0, .int a1] [(0, .ref a0), (1, .int a1)] g_no (fun _ h => h.elim) (by decide) rfl (Nat.le_of_ble_eq_true rfl) rfl ?_
  intro p e s m args below meth c hx hb hr hlocks hin hC hI ls hl
  obtain ⟨hx, hb, hml, hown, hB⟩ := id hC
  obtain ⟨H, hH⟩ : ∃ H, H = s.heap := ⟨_, rfl⟩
  obtain ⟨locs, hlocs⟩ : ∃ L : List Loc, L = [] := ⟨_, rfl⟩
  rw [← hH, ← hlocs] at hI ⊢
  clear hH hlocs
  unfold p_X6_allows at hq
  replace hq := (h_me_eq hq).2
  refine lv_iload_n hx hb dX6_allows_0 rfl (lv_at hl 1 rfl) ?_
  refine lv_aload_n hx hb dX6_allows_1 rfl (lv_at hl 0 rfl) ?_
  obtain ⟨v1, ev1, hq⟩ := b_s hq
  refine fs_gi (own := RX6) (ref := "CoastlineRuler$Verb") (ci := 50) (k := 5) hx hb hB hown hI m_1280 (fun _ h9 => h9) ev1 dX6_allows_2 ?_
  refine lv_ineg hx hb dX6_allows_5 ?_
  refine lv_icmp_lt (tgt := 21) hx hb dX6_allows_6 (by decide) (fun c2 => ?_) (fun c2 => ?_)
  · replace hq := i_t c2 hq
    refine lv_iconst (v := (0 : Int32)) hx hb dX6_allows_21 (by decide) ?_
    exact ge_Ri hx hb hlocks hr (by decide +kernel) hI hq dX6_allows_22
  · replace hq := i_f c2 hq
    refine lv_iload_n hx hb dX6_allows_9 rfl (lv_at hl 1 rfl) ?_
    refine lv_aload_n hx hb dX6_allows_10 rfl (lv_at hl 0 rfl) ?_
    obtain ⟨v3, ev3, hq⟩ := b_s hq
    refine fs_gi (own := RX6) (ref := "CoastlineRuler$Verb") (ci := 50) (k := 5) hx hb hB hown hI m_1280 (fun _ h9 => h9) ev3 dX6_allows_11 ?_
    refine lv_icmp_gt (tgt := 21) hx hb dX6_allows_14 (by decide) (fun c4 => ?_) (fun c4 => ?_)
    · replace hq := i_t c4 hq
      refine lv_iconst (v := (0 : Int32)) hx hb dX6_allows_21 (by decide) ?_
      exact ge_Ri hx hb hlocks hr (by decide +kernel) hI hq dX6_allows_22
    · replace hq := i_f c4 hq
      refine lv_iconst (v := (1 : Int32)) hx hb dX6_allows_17 (by decide) ?_
      refine lv_goto (tgt := 22) hx hb dX6_allows_18 (by decide) ?_
      exact ge_Ri hx hb hlocks hr (by decide +kernel) hI hq dX6_allows_22

abbrev rm_X1_refusalOf : Room := { frames := 7, cells := 0, slots := 0, locals := 230 }
theorem k_X1_refusalOf : g_CV yX1_refusalOf cX1_refusalOf 5 (some .int) 1 := ⟨⟨m_904, m_2, by decide +kernel⟩, m_902, m_903⟩
set_option maxHeartbeats 4000000 in
set_option maxRecDepth 100000 in
theorem c_X1_refusalOf (l : Launch) (V : Nat → Nat) (g : GH) (D : va_G) (cT : Nat → ClassId) (f : GH) (n : Nat) (a0 : Nat) (a1 : Nat) (o : Int32) (hq : p_X1_refusalOf V g f a0 a1 = some o) : Met l yX1_refusalOf (Cond.code yX1_refusalOf cX1_refusalOf 5 (some .int) :: g_B) rm_X1_refusalOf (va_Pc [.ref a0, .ref a1] (g_I V g D cT f n)) (g_Ri o n) 0 0 g_no := by
  refine g_begin (own := RX1) [.ref a0, .ref a1] [(0, .ref a0), (1, .ref a1)] g_no (fun _ h => h.elim) (by decide) rfl (Nat.le_of_ble_eq_true rfl) rfl ?_
  intro p e s m args below meth c hx hb hr hlocks hin hC hI ls hl
  obtain ⟨hx, hb, hml, hown, hB⟩ := id hC
  obtain ⟨H, hH⟩ : ∃ H, H = s.heap := ⟨_, rfl⟩
  obtain ⟨locs, hlocs⟩ : ∃ L : List Loc, L = [] := ⟨_, rfl⟩
  rw [← hH, ← hlocs] at hI ⊢
  clear hH hlocs
  unfold p_X1_refusalOf at hq
  replace hq := (h_me_eq hq).2
  refine lv_aload_n hx hb dX1_refusalOf_0 rfl (lv_at hl 1 rfl) ?_
  obtain ⟨v1, ev1, hq⟩ := b_s hq
  refine fa_gr (own := RX1) (ref := "CoastlineRuler$Command") (k := 0) hx hb hB inB_RX3 hown hI rfl (by decide) m_165 (fun _ h9 => h9) ev1 dX1_refusalOf_1 ?_
  refine lv_astore_n (lv' := [(2, .ref v1), (0, .ref a0), (1, .ref a1)]) hx hb dX1_refusalOf_4 rfl hl (by decide) rfl (fun ls hl => ?_)
  refine lv_aload_n hx hb dX1_refusalOf_5 rfl (lv_at hl 0 rfl) ?_
  obtain ⟨v2, ev2, hq⟩ := b_s hq
  refine fs_gi (own := RX1) (ref := "CoastlineRuler$Verb") (ci := 50) (k := 2) hx hb hB hown hI m_1278 (fun _ h9 => h9) ev2 dX1_refusalOf_6 ?_
  refine lv_if_eq (tgt := 27) hx hb dX1_refusalOf_9 (by decide) (fun c3 => ?_) (fun c3 => ?_)
  · replace hq := i_t c3 hq
    refine lv_aload_n hx hb dX1_refusalOf_27 rfl (lv_at hl 0 rfl) ?_
    refine fs_gs (i := 10) hx hb hown hI rfl (hB _ m_905) (fun _ h9 => h9) dX1_refusalOf_28 ?_
    refine lv_acmp_ne (rx := (some v1)) (ry := (some (V 11))) (tgt := 36) hx hb dX1_refusalOf_31 (by decide) (fun c4 => ?_) (fun c4 => ?_)
    · replace hq := i_f c4 hq
      refine lv_aload_n hx hb dX1_refusalOf_36 rfl (lv_at hl 1 rfl) ?_
      refine lv_aload_n hx hb dX1_refusalOf_37 rfl (lv_at hl 2 rfl) ?_
      obtain ⟨v5, ev5, hq⟩ := b_s hq
      refine fa_gi (own := RX1) (ref := "CoastlineRuler$Command") (k := 1) hx hb hB inB_RX3 hown hI rfl (by decide) m_168 (fun _ h9 => h9) ev5 dX1_refusalOf_38 ?_
      obtain ⟨v6, ev6, hq⟩ := b_s hq
      refine gr_i (g_runV (As := [.int v5]) (rest := []) (ci := 4) hC (c_X1_hasCoast l V g D cT f n a0 v5 v6 ev6) k_X1_hasCoast m_906 rfl rfl ⟨Nat.le_of_ble_eq_true rfl, Nat.le_of_ble_eq_true rfl⟩ hI rfl rfl (h_me_eq ev6).1 rfl hl.1 rfl (Nat.le_of_ble_eq_true rfl) dX1_refusalOf_41 ⟨by decide, by decide⟩) hI (fun H locs hI => ?_)
      refine lv_if_ne (tgt := 49) hx hb dX1_refusalOf_44 (by decide) (fun c7 => ?_) (fun c7 => ?_)
      · replace hq := i_f c7 hq
        refine lv_aload_n hx hb dX1_refusalOf_49 rfl (lv_at hl 1 rfl) ?_
        obtain ⟨v8, ev8, hq⟩ := b_s hq
        refine fa_gr (own := RX1) (ref := "CoastlineRuler$Chart") (k := 0) hx hb hB inB_RX1 hown hI rfl (by decide) m_72 (fun _ h9 => h9) ev8 dX1_refusalOf_50 ?_
        refine lv_aload_n hx hb dX1_refusalOf_53 rfl (lv_at hl 2 rfl) ?_
        obtain ⟨v9, ev9, hq⟩ := b_s hq
        refine fa_gi (own := RX1) (ref := "CoastlineRuler$Command") (k := 1) hx hb hB inB_RX3 hown hI rfl (by decide) m_168 (fun _ h9 => h9) ev9 dX1_refusalOf_54 ?_
        obtain ⟨v10, ev10, hq⟩ := b_s hq
        refine fa_lq hx hb hI (by decide) rfl ev10 dX1_refusalOf_57 ?_
        refine lv_astore_n (lv' := [(3, .ref v10), (2, .ref v1), (0, .ref a0), (1, .ref a1)]) hx hb dX1_refusalOf_58 rfl hl (by decide) rfl (fun ls hl => ?_)
        refine lv_aload_n hx hb dX1_refusalOf_59 rfl (lv_at hl 1 rfl) ?_
        refine fs_gs (i := 5) hx hb hown hI rfl (hB _ m_907) (fun _ h9 => h9) dX1_refusalOf_60 ?_
        have hj79 : ∀ (x0 : Nat) (x1 : Nat) (x2 : Nat) (x3 : Nat) (t0 : Int32) (H : Heap) (locs : List Loc) (ls : Array Slot), g_at g_no V g D cT f n s H locs → lv_has ls 5 [(0, .ref x0), (1, .ref x1), (2, .ref x2), (3, .ref x3)] → p_X1_refusalOf_j79 V g f x0 x1 x2 x3 t0 = some o → W p l e rm_X1_refusalOf s m args below meth c H locs 0 0 (MQ below (g_Ri o n) args s 0 0 g_no) (F0 m 79 ls [.int t0]) := by
          intro x0 x1 x2 x3 t0 H locs ls hI hl hq
          unfold p_X1_refusalOf_j79 at hq
          refine lv_istore (lv' := [(4, .int t0), (0, .ref x0), (1, .ref x1), (2, .ref x2), (3, .ref x3)]) hx hb dX1_refusalOf_79 hl (by decide) rfl (fun ls hl => ?_)
          refine lv_aload_n hx hb dX1_refusalOf_81 rfl (lv_at hl 3 rfl) ?_
          obtain ⟨v11, ev11, hq⟩ := b_s hq
          refine fs_gi (own := RX1) (ref := "CoastlineRuler$Verb") (ci := 50) (k := 3) hx hb hB hown hI m_1279 (fun _ h9 => h9) ev11 dX1_refusalOf_82 ?_
          have hj106 : ∀ (x0 : Nat) (x1 : Nat) (x2 : Nat) (x3 : Nat) (H : Heap) (locs : List Loc) (ls : Array Slot), g_at g_no V g D cT f n s H locs → lv_has ls 5 [(0, .ref x0), (1, .ref x1), (2, .ref x2), (3, .ref x3)] → p_X1_refusalOf_j106 V g f x0 x1 x2 x3 = some o → W p l e rm_X1_refusalOf s m args below meth c H locs 0 0 (MQ below (g_Ri o n) args s 0 0 g_no) (F0 m 106 ls []) := by
            intro x0 x1 x2 x3 H locs ls hI hl hq
            unfold p_X1_refusalOf_j106 at hq
            refine lv_aload_n hx hb dX1_refusalOf_106 rfl (lv_at hl 2 rfl) ?_
            refine lv_aload_n hx hb dX1_refusalOf_107 rfl (lv_at hl 1 rfl) ?_
            obtain ⟨v12, ev12, hq⟩ := b_s hq
            refine fa_gi (own := RX1) (ref := "CoastlineRuler$Command") (k := 3) hx hb hB inB_RX3 hown hI rfl (by decide) m_172 (fun _ h9 => h9) ev12 dX1_refusalOf_108 ?_
            obtain ⟨v13, ev13, hq⟩ := b_s hq
            refine gr_i (g_runVs (As := [.int v12]) (rest := []) (ci := 50) hC (c_X6_allows l V g D cT f n x2 v12 v13 ev13) k_X6_allows m_909 rfl rfl ⟨Nat.le_of_ble_eq_true rfl, Nat.le_of_ble_eq_true rfl⟩ hI rfl (h_me_eq ev13).1 rfl hl.1 rfl (Nat.le_of_ble_eq_true rfl) dX1_refusalOf_111 ⟨by decide, by decide⟩) hI (fun H locs hI => ?_)
            refine lv_if_eq (tgt := 128) hx hb dX1_refusalOf_114 (by decide) (fun c14 => ?_) (fun c14 => ?_)
            · replace hq := i_t c14 hq
              refine lv_iconst (v := (2 : Int32)) hx hb dX1_refusalOf_128 (by decide) ?_
              exact ge_Ri hx hb hlocks hr rfl hI hq dX1_refusalOf_129
            · replace hq := i_f c14 hq
              refine lv_aload_n hx hb dX1_refusalOf_117 rfl (lv_at hl 2 rfl) ?_
              refine lv_aload_n hx hb dX1_refusalOf_118 rfl (lv_at hl 1 rfl) ?_
              obtain ⟨v15, ev15, hq⟩ := b_s hq
              refine fa_gi (own := RX1) (ref := "CoastlineRuler$Command") (k := 4) hx hb hB inB_RX3 hown hI rfl (by decide) m_174 (fun _ h9 => h9) ev15 dX1_refusalOf_119 ?_
              obtain ⟨v16, ev16, hq⟩ := b_s hq
              refine gr_i (g_runVs (As := [.int v15]) (rest := []) (ci := 50) hC (c_X6_allows l V g D cT f n x2 v15 v16 ev16) k_X6_allows m_909 rfl rfl ⟨Nat.le_of_ble_eq_true rfl, Nat.le_of_ble_eq_true rfl⟩ hI rfl (h_me_eq ev16).1 rfl hl.1 rfl (Nat.le_of_ble_eq_true rfl) dX1_refusalOf_122 ⟨by decide, by decide⟩) hI (fun H locs hI => ?_)
              refine lv_if_ne (tgt := 130) hx hb dX1_refusalOf_125 (by decide) (fun c17 => ?_) (fun c17 => ?_)
              · replace hq := i_f c17 hq
                refine lv_aload_n hx hb dX1_refusalOf_130 rfl (lv_at hl 0 rfl) ?_
                refine lv_aload_n hx hb dX1_refusalOf_131 rfl (lv_at hl 3 rfl) ?_
                refine lv_aload_n hx hb dX1_refusalOf_132 rfl (lv_at hl 1 rfl) ?_
                obtain ⟨v18, ev18, hq⟩ := b_s hq
                refine gr_i (g_runV (As := [.ref x3, .ref x1]) (rest := []) (ci := 4) hC (c_X1_allowsChange l V g D cT f n x0 x3 x1 v18 ev18) k_X1_allowsChange m_913 rfl rfl ⟨Nat.le_of_ble_eq_true rfl, Nat.le_of_ble_eq_true rfl⟩ hI rfl rfl (h_me_eq ev18).1 rfl hl.1 rfl (Nat.le_of_ble_eq_true rfl) dX1_refusalOf_133 ⟨by decide, by decide⟩) hI (fun H locs hI => ?_)
                refine lv_if_eq (tgt := 143) hx hb dX1_refusalOf_136 (by decide) (fun c19 => ?_) (fun c19 => ?_)
                · replace hq := i_t c19 hq
                  refine lv_iconst (v := (3 : Int32)) hx hb dX1_refusalOf_143 (by decide) ?_
                  exact ge_Ri hx hb hlocks hr rfl hI hq dX1_refusalOf_144
                · replace hq := i_f c19 hq
                  refine lv_iconst (v := (0 : Int32)) hx hb dX1_refusalOf_139 (by decide) ?_
                  refine lv_goto (tgt := 144) hx hb dX1_refusalOf_140 (by decide) ?_
                  exact ge_Ri hx hb hlocks hr rfl hI hq dX1_refusalOf_144
              · replace hq := i_t c17 hq
                refine lv_iconst (v := (2 : Int32)) hx hb dX1_refusalOf_128 (by decide) ?_
                exact ge_Ri hx hb hlocks hr rfl hI hq dX1_refusalOf_129
          refine lv_if_eq (tgt := 106) hx hb dX1_refusalOf_85 (by decide) (fun c20 => ?_) (fun c20 => ?_)
          · replace hq := i_t c20 hq
            exact hj106 x0 x1 x2 x3 H locs ls hI (lv_sub hl [1, 2, 3, 4] rfl) hq
          · replace hq := i_f c20 hq
            refine lv_aload_n hx hb dX1_refusalOf_88 rfl (lv_at hl 2 rfl) ?_
            obtain ⟨v21, ev21, hq⟩ := b_s hq
            refine fa_gi (own := RX1) (ref := "CoastlineRuler$Command") (k := 2) hx hb hB inB_RX3 hown hI rfl (by decide) m_170 (fun _ h9 => h9) ev21 dX1_refusalOf_89 ?_
            refine lv_if_lt (tgt := 104) hx hb dX1_refusalOf_92 (by decide) (fun c22 => ?_) (fun c22 => ?_)
            · replace hq := i_t c22 hq
              refine lv_iconst (v := (1 : Int32)) hx hb dX1_refusalOf_104 (by decide) ?_
              exact ge_Ri hx hb hlocks hr rfl hI hq dX1_refusalOf_105
            · replace hq := i_f c22 hq
              refine lv_aload_n hx hb dX1_refusalOf_95 rfl (lv_at hl 2 rfl) ?_
              obtain ⟨v23, ev23, hq⟩ := b_s hq
              refine fa_gi (own := RX1) (ref := "CoastlineRuler$Command") (k := 2) hx hb hB inB_RX3 hown hI rfl (by decide) m_170 (fun _ h9 => h9) ev23 dX1_refusalOf_96 ?_
              refine lv_iload hx hb dX1_refusalOf_99 (lv_at hl 0 rfl) ?_
              refine lv_icmp_lt (tgt := 106) hx hb dX1_refusalOf_101 (by decide) (fun c24 => ?_) (fun c24 => ?_)
              · replace hq := i_t c24 hq
                exact hj106 x0 x1 x2 x3 H locs ls hI (lv_sub hl [1, 2, 3, 4] rfl) hq
              · replace hq := i_f c24 hq
                refine lv_iconst (v := (1 : Int32)) hx hb dX1_refusalOf_104 (by decide) ?_
                exact ge_Ri hx hb hlocks hr rfl hI hq dX1_refusalOf_105
        refine lv_acmp_ne (rx := (some v1)) (ry := (some (V 6))) (tgt := 75) hx hb dX1_refusalOf_63 (by decide) (fun c25 => ?_) (fun c25 => ?_)
        · replace hq := i_f c25 hq
          refine lv_aload_n hx hb dX1_refusalOf_75 rfl (lv_at hl 0 rfl) ?_
          obtain ⟨v26, ev26, hq⟩ := b_s hq
          refine fa_gi (own := RX1) (ref := "CoastlineRuler$Coast") (k := 2) hx hb hB inB_RX2 hown hI rfl (by decide) m_55 (fun _ h9 => h9) ev26 dX1_refusalOf_76 ?_
          exact hj79 a0 a1 v1 v10 v26 H locs ls hI (lv_sub hl [2, 3, 1, 0] rfl) hq
        · replace hq := i_t c25 hq
          refine lv_aload_n hx hb dX1_refusalOf_66 rfl (lv_at hl 0 rfl) ?_
          obtain ⟨v27, ev27, hq⟩ := b_s hq
          refine fa_gi (own := RX1) (ref := "CoastlineRuler$Coast") (k := 2) hx hb hB inB_RX2 hown hI rfl (by decide) m_55 (fun _ h9 => h9) ev27 dX1_refusalOf_67 ?_
          refine lv_iconst (v := (1 : Int32)) hx hb dX1_refusalOf_70 (by decide) ?_
          refine lv_iadd hx hb dX1_refusalOf_71 ?_
          refine lv_goto (tgt := 79) hx hb dX1_refusalOf_72 (by decide) ?_
          exact hj79 a0 a1 v1 v10 (v27 + (1 : Int32)) H locs ls hI (lv_sub hl [2, 3, 1, 0] rfl) hq
      · replace hq := i_t c7 hq
        refine lv_iconst (v := (1 : Int32)) hx hb dX1_refusalOf_47 (by decide) ?_
        exact ge_Ri hx hb hlocks hr rfl hI hq dX1_refusalOf_48
    · replace hq := i_t c4 hq
      refine lv_iconst (v := (0 : Int32)) hx hb dX1_refusalOf_34 (by decide) ?_
      exact ge_Ri hx hb hlocks hr rfl hI hq dX1_refusalOf_35
  · replace hq := i_f c3 hq
    refine lv_aload_n hx hb dX1_refusalOf_12 rfl (lv_at hl 1 rfl) ?_
    obtain ⟨v28, ev28, hq⟩ := b_s hq
    refine fa_gi (own := RX1) (ref := "CoastlineRuler$Chart") (k := 1) hx hb hB inB_RX1 hown hI rfl (by decide) m_75 (fun _ h9 => h9) ev28 dX1_refusalOf_13 ?_
    refine lv_bipush (v := (6 : Int32)) hx hb dX1_refusalOf_16 (by decide) ?_
    refine lv_icmp_ge (tgt := 25) hx hb dX1_refusalOf_18 (by decide) (fun c29 => ?_) (fun c29 => ?_)
    · replace hq := i_t c29 hq
      refine lv_iconst (v := (3 : Int32)) hx hb dX1_refusalOf_25 (by decide) ?_
      exact ge_Ri hx hb hlocks hr rfl hI hq dX1_refusalOf_26
    · replace hq := i_f c29 hq
      refine lv_iconst (v := (0 : Int32)) hx hb dX1_refusalOf_21 (by decide) ?_
      refine lv_goto (tgt := 26) hx hb dX1_refusalOf_22 (by decide) ?_
      exact ge_Ri hx hb hlocks hr rfl hI hq dX1_refusalOf_26

abbrev rm_X1_add : Room := { frames := 3, cells := 0, slots := 0, locals := 141 }
theorem k_X1_add : g_CV yX1_add cX1_add 2 (some .int) 1 := ⟨⟨m_951, m_2, by decide +kernel⟩, m_949, m_950⟩
set_option maxHeartbeats 4000000 in
set_option maxRecDepth 100000 in
theorem c_X1_add (l : Launch) (V : Nat → Nat) (g : GH) (D : va_G) (cT : Nat → ClassId) (f : GH) (n : Nat) (a0 : Nat) (a1 : Nat) (o : Int32 × GH) (hq : p_X1_add V g f a0 a1 = some o) : Met l yX1_add (Cond.code yX1_add cX1_add 2 (some .int) :: g_B) rm_X1_add (va_Pc [.ref a0, .ref a1] (g_I V g D cT f n)) (g_Wi V D cT o.1 o.2 n) 0 0 (g_A V) := by
  refine g_begin (own := RX1) [.ref a0, .ref a1] [(0, .ref a0), (1, .ref a1)] (g_A V) (fun _ h => h) (by decide) rfl (Nat.le_of_ble_eq_true rfl) rfl ?_
  intro p e s m args below meth c hx hb hr hlocks hin hC hI ls hl
  obtain ⟨hx, hb, hml, hown, hB⟩ := id hC
  obtain ⟨H, hH⟩ : ∃ H, H = s.heap := ⟨_, rfl⟩
  obtain ⟨locs, hlocs⟩ : ∃ L : List Loc, L = [] := ⟨_, rfl⟩
  rw [← hH, ← hlocs] at hI ⊢
  clear hH hlocs
  unfold p_X1_add at hq
  replace hq := (h_me_eq hq).2
  refine lv_aload_n hx hb dX1_add_0 rfl (lv_at hl 0 rfl) ?_
  obtain ⟨v1, ev1, hq⟩ := b_s hq
  refine fa_gr (own := RX1) (ref := "CoastlineRuler$Chart") (k := 0) hx hb hB inB_RX1 hown hI rfl (by decide) m_72 (fun _ h9 => h9) ev1 dX1_add_1 ?_
  refine lv_aload_n hx hb dX1_add_4 rfl (lv_at hl 0 rfl) ?_
  obtain ⟨v2, ev2, hq⟩ := b_s hq
  refine fa_gi (own := RX1) (ref := "CoastlineRuler$Chart") (k := 1) hx hb hB inB_RX1 hown hI rfl (by decide) m_75 (fun _ h9 => h9) ev2 dX1_add_5 ?_
  obtain ⟨v3, ev3, hq⟩ := b_s hq
  refine fa_lq hx hb hI (by decide) rfl ev3 dX1_add_8 ?_
  refine lv_aload_n hx hb dX1_add_9 rfl (lv_at hl 1 rfl) ?_
  obtain ⟨v4, ev4, hq⟩ := b_s hq
  refine gw_v (g_runV (As := [.ref a1]) (rest := []) (ci := 5) hC (c_X2_copyFrom l V g D cT f n v3 a1 v4 ev4) k_X2_copyFrom m_499 rfl rfl ⟨Nat.le_of_ble_eq_true rfl, Nat.le_of_ble_eq_true rfl⟩ hI rfl rfl (h_me_eq ev4).1 rfl hl.1 rfl (Nat.le_of_ble_eq_true rfl) dX1_add_10 ⟨by decide, by decide⟩) hI (fun H locs hI => ?_)
  refine lv_aload_n hx hb dX1_add_13 rfl (lv_at hl 0 rfl) ?_
  refine lv_dup hx hb dX1_add_14 rfl ?_
  obtain ⟨v5, ev5, hq⟩ := b_s hq
  refine fa_gi (own := RX1) (ref := "CoastlineRuler$Chart") (k := 4) hx hb hB inB_RX1 hown hI rfl (by decide) m_83 (fun _ h9 => h9) ev5 dX1_add_15 ?_
  refine lv_aload_n hx hb dX1_add_18 rfl (lv_at hl 1 rfl) ?_
  obtain ⟨v6, ev6, hq⟩ := b_s hq
  refine fa_gi (own := RX1) (ref := "CoastlineRuler$Coast") (k := 2) hx hb hB inB_RX2 hown hI rfl (by decide) m_55 (fun _ h9 => h9) ev6 dX1_add_19 ?_
  refine lv_iadd hx hb dX1_add_22 ?_
  obtain ⟨f7, ef7, hq⟩ := b_s hq
  refine fa_pt (own := RX1) (ref := "CoastlineRuler$Chart") (k := 4) hx hb hB inB_RX1 tyX1_ok nmX1 hown hI rfl (by decide) m_83 (fun _ h9 => h9) (by decide) rfl rfl ef7 dX1_add_23 (fun H locs hI => ?_)
  refine lv_aload_n hx hb dX1_add_26 rfl (lv_at hl 0 rfl) ?_
  refine lv_dup hx hb dX1_add_27 rfl ?_
  obtain ⟨v8, ev8, hq⟩ := b_s hq
  refine fa_gi (own := RX1) (ref := "CoastlineRuler$Chart") (k := 1) hx hb hB inB_RX1 hown hI rfl (by decide) m_75 (fun _ h9 => h9) ev8 dX1_add_28 ?_
  refine lv_iconst (v := (1 : Int32)) hx hb dX1_add_31 (by decide) ?_
  refine lv_iadd hx hb dX1_add_32 ?_
  obtain ⟨f9, ef9, hq⟩ := b_s hq
  refine fa_pt (own := RX1) (ref := "CoastlineRuler$Chart") (k := 1) hx hb hB inB_RX1 tyX1_ok nmX1 hown hI rfl (by decide) m_75 (fun _ h9 => h9) (by decide) rfl rfl ef9 dX1_add_33 (fun H locs hI => ?_)
  refine lv_aload_n hx hb dX1_add_36 rfl (lv_at hl 0 rfl) ?_
  obtain ⟨v10, ev10, hq⟩ := b_s hq
  refine fa_gi (own := RX1) (ref := "CoastlineRuler$Chart") (k := 1) hx hb hB inB_RX1 hown hI rfl (by decide) m_75 (fun _ h9 => h9) ev10 dX1_add_37 ?_
  refine lv_iconst (v := (1 : Int32)) hx hb dX1_add_40 (by decide) ?_
  refine lv_isub hx hb dX1_add_41 ?_
  exact ge_Wi hx hb hlocks hr rfl hI (congrArg (fun z => z.1) (Option.some.inj hq)) (congrArg (fun z => z.2) (Option.some.inj hq)) dX1_add_42

abbrev rm_X2_distanceTo : Room := { frames := 3, cells := 0, slots := 0, locals := 141 }
theorem k_X2_distanceTo : g_CV yX2_distanceTo cX2_distanceTo 7 (some .int) 4 := ⟨⟨m_667, m_3, by decide +kernel⟩, m_665, m_666⟩
set_option maxHeartbeats 4000000 in
set_option maxRecDepth 100000 in
theorem c_X2_distanceTo (l : Launch) (V : Nat → Nat) (g : GH) (D : va_G) (cT : Nat → ClassId) (f : GH) (n : Nat) (a0 : Nat) (a1 : Int32) (a2 : Int32) (a3 : Int32) (a4 : Int32) (o : Int32) (hq : p_X2_distanceTo V g f a0 a1 a2 a3 a4 = some o) : Met l yX2_distanceTo (Cond.code yX2_distanceTo cX2_distanceTo 7 (some .int) :: g_B) rm_X2_distanceTo (va_Pc [.ref a0, .int a1, .int a2, .int a3, .int a4] (g_I V g D cT f n)) (g_Ri o n) 0 0 g_no := by
  refine g_begin (own := RX2) [.ref a0, .int a1, .int a2, .int a3, .int a4] [(0, .ref a0), (1, .int a1), (2, .int a2), (3, .int a3), (4, .int a4)] g_no (fun _ h => h.elim) (by decide) rfl (Nat.le_of_ble_eq_true rfl) rfl ?_
  intro p e s m args below meth c hx hb hr hlocks hin hC hI ls hl
  obtain ⟨hx, hb, hml, hown, hB⟩ := id hC
  obtain ⟨H, hH⟩ : ∃ H, H = s.heap := ⟨_, rfl⟩
  obtain ⟨locs, hlocs⟩ : ∃ L : List Loc, L = [] := ⟨_, rfl⟩
  rw [← hH, ← hlocs] at hI ⊢
  clear hH hlocs
  unfold p_X2_distanceTo at hq
  replace hq := (h_me_eq hq).2
  refine lv_aload_n hx hb dX2_distanceTo_0 rfl (lv_at hl 0 rfl) ?_
  obtain ⟨v1, ev1, hq⟩ := b_s hq
  refine fa_gr (own := RX2) (ref := "CoastlineRuler$Coast") (k := 0) hx hb hB inB_RX2 hown hI rfl (by decide) m_48 (fun _ h9 => h9) ev1 dX2_distanceTo_1 ?_
  refine lv_iload_n hx hb dX2_distanceTo_4 rfl (lv_at hl 1 rfl) ?_
  obtain ⟨v2, ev2, hq⟩ := b_s hq
  refine fa_li hx hb hI ev2 dX2_distanceTo_5 ?_
  refine lv_iload_n hx hb dX2_distanceTo_6 rfl (lv_at hl 2 rfl) ?_
  refine lv_isub hx hb dX2_distanceTo_7 ?_
  obtain ⟨v3, ev3, hq⟩ := b_s hq
  refine g_abs hx hb (hml.trans hl.1.symm) hown (hB _ m_668) (hB _ m_669) (hB _ m_15) (hB _ m_670) (Nat.le_of_ble_eq_true rfl) (Nat.le_of_ble_eq_true rfl) (Nat.le_of_ble_eq_true rfl) (Nat.le_of_ble_eq_true rfl) ev3 dX2_distanceTo_8 ?_
  refine lv_istore (lv' := [(5, .int v3), (0, .ref a0), (1, .int a1), (2, .int a2), (3, .int a3), (4, .int a4)]) hx hb dX2_distanceTo_11 hl (by decide) rfl (fun ls hl => ?_)
  refine lv_aload_n hx hb dX2_distanceTo_13 rfl (lv_at hl 1 rfl) ?_
  obtain ⟨v4, ev4, hq⟩ := b_s hq
  refine fa_gr (own := RX2) (ref := "CoastlineRuler$Coast") (k := 1) hx hb hB inB_RX2 hown hI rfl (by decide) m_51 (fun _ h9 => h9) ev4 dX2_distanceTo_14 ?_
  refine lv_iload_n hx hb dX2_distanceTo_17 rfl (lv_at hl 2 rfl) ?_
  obtain ⟨v5, ev5, hq⟩ := b_s hq
  refine fa_li hx hb hI ev5 dX2_distanceTo_18 ?_
  refine lv_iload_n hx hb dX2_distanceTo_19 rfl (lv_at hl 4 rfl) ?_
  refine lv_isub hx hb dX2_distanceTo_20 ?_
  obtain ⟨v6, ev6, hq⟩ := b_s hq
  refine g_abs hx hb (hml.trans hl.1.symm) hown (hB _ m_668) (hB _ m_669) (hB _ m_15) (hB _ m_670) (Nat.le_of_ble_eq_true rfl) (Nat.le_of_ble_eq_true rfl) (Nat.le_of_ble_eq_true rfl) (Nat.le_of_ble_eq_true rfl) ev6 dX2_distanceTo_21 ?_
  refine lv_istore (lv' := [(6, .int v6), (5, .int v3), (0, .ref a0), (1, .int a1), (2, .int a2), (3, .int a3), (4, .int a4)]) hx hb dX2_distanceTo_24 hl (by decide) rfl (fun ls hl => ?_)
  refine lv_iload hx hb dX2_distanceTo_26 (lv_at hl 6 rfl) ?_
  refine lv_if_eq (tgt := 41) hx hb dX2_distanceTo_28 (by decide) (fun c7 => ?_) (fun c7 => ?_)
  · replace hq := i_t c7 hq
    refine lv_iload hx hb dX2_distanceTo_41 (lv_at hl 1 rfl) ?_
    refine lv_iload hx hb dX2_distanceTo_43 (lv_at hl 0 rfl) ?_
    refine lv_iadd hx hb dX2_distanceTo_45 ?_
    exact ge_Ri hx hb hlocks hr rfl hI hq dX2_distanceTo_46
  · replace hq := i_f c7 hq
    refine lv_iload hx hb dX2_distanceTo_31 (lv_at hl 1 rfl) ?_
    refine lv_iload hx hb dX2_distanceTo_33 (lv_at hl 0 rfl) ?_
    obtain ⟨v8, ev8, hq⟩ := b_s hq
    refine g_max hx hb (hml.trans hl.1.symm) hown (hB _ m_671) (hB _ m_672) (hB _ m_15) (hB _ m_673) (Nat.le_of_ble_eq_true rfl) (Nat.le_of_ble_eq_true rfl) (Nat.le_of_ble_eq_true rfl) (Nat.le_of_ble_eq_true rfl) ev8 dX2_distanceTo_35 ?_
    refine lv_goto (tgt := 46) hx hb dX2_distanceTo_38 (by decide) ?_
    exact ge_Ri hx hb hlocks hr rfl hI hq dX2_distanceTo_46

abbrev rm_X1_move : Room := { frames := 4, cells := 0, slots := 0, locals := 167 }
theorem k_X1_move : g_CV yX1_move cX1_move 5 (some .int) 2 := ⟨⟨m_959, m_2, by decide +kernel⟩, m_957, m_958⟩
set_option maxHeartbeats 4000000 in
set_option maxRecDepth 100000 in
theorem c_X1_move (l : Launch) (V : Nat → Nat) (g : GH) (D : va_G) (cT : Nat → ClassId) (f : GH) (n : Nat) (a0 : Nat) (a1 : Nat) (a2 : Nat) (o : Int32 × GH) (hq : p_X1_move V g f a0 a1 a2 = some o) : Met l yX1_move (Cond.code yX1_move cX1_move 5 (some .int) :: g_B) rm_X1_move (va_Pc [.ref a0, .ref a1, .ref a2] (g_I V g D cT f n)) (g_Wi V D cT o.1 o.2 n) 0 0 (g_A V) := by
  refine g_begin (own := RX1) [.ref a0, .ref a1, .ref a2] [(0, .ref a0), (1, .ref a1), (2, .ref a2)] (g_A V) (fun _ h => h) (by decide) rfl (Nat.le_of_ble_eq_true rfl) rfl ?_
  intro p e s m args below meth c hx hb hr hlocks hin hC hI ls hl
  obtain ⟨hx, hb, hml, hown, hB⟩ := id hC
  obtain ⟨H, hH⟩ : ∃ H, H = s.heap := ⟨_, rfl⟩
  obtain ⟨locs, hlocs⟩ : ∃ L : List Loc, L = [] := ⟨_, rfl⟩
  rw [← hH, ← hlocs] at hI ⊢
  clear hH hlocs
  unfold p_X1_move at hq
  replace hq := (h_me_eq hq).2
  refine lv_aload_n hx hb dX1_move_0 rfl (lv_at hl 2 rfl) ?_
  obtain ⟨v1, ev1, hq⟩ := b_s hq
  refine fa_gi (own := RX1) (ref := "CoastlineRuler$Command") (k := 2) hx hb hB inB_RX3 hown hI rfl (by decide) m_170 (fun _ h9 => h9) ev1 dX1_move_1 ?_
  refine lv_istore_n (lv' := [(3, .int v1), (0, .ref a0), (1, .ref a1), (2, .ref a2)]) hx hb dX1_move_4 rfl hl (by decide) rfl (fun ls hl => ?_)
  refine lv_aload_n hx hb dX1_move_5 rfl (lv_at hl 2 rfl) ?_
  refine lv_iload_n hx hb dX1_move_6 rfl (lv_at hl 0 rfl) ?_
  refine lv_aload_n hx hb dX1_move_7 rfl (lv_at hl 3 rfl) ?_
  obtain ⟨v2, ev2, hq⟩ := b_s hq
  refine fa_gi (own := RX1) (ref := "CoastlineRuler$Command") (k := 3) hx hb hB inB_RX3 hown hI rfl (by decide) m_172 (fun _ h9 => h9) ev2 dX1_move_8 ?_
  refine lv_aload_n hx hb dX1_move_11 rfl (lv_at hl 3 rfl) ?_
  obtain ⟨v3, ev3, hq⟩ := b_s hq
  refine fa_gi (own := RX1) (ref := "CoastlineRuler$Command") (k := 4) hx hb hB inB_RX3 hown hI rfl (by decide) m_174 (fun _ h9 => h9) ev3 dX1_move_12 ?_
  refine lv_aload_n hx hb dX1_move_15 rfl (lv_at hl 1 rfl) ?_
  obtain ⟨v4, ev4, hq⟩ := b_s hq
  refine fa_gi (own := RX1) (ref := "CoastlineRuler$Chart") (k := 2) hx hb hB inB_RX1 hown hI rfl (by decide) m_79 (fun _ h9 => h9) ev4 dX1_move_16 ?_
  obtain ⟨v5, ev5, hq⟩ := b_s hq
  refine gr_i (g_runV (As := [.int v1, .int v2, .int v3, .int v4]) (rest := []) (ci := 5) hC (c_X2_distanceTo l V g D cT f n a1 v1 v2 v3 v4 v5 ev5) k_X2_distanceTo m_960 rfl rfl ⟨Nat.le_of_ble_eq_true rfl, Nat.le_of_ble_eq_true rfl⟩ hI rfl rfl (h_me_eq ev5).1 rfl hl.1 rfl (Nat.le_of_ble_eq_true rfl) dX1_move_19 ⟨by decide, by decide⟩) hI (fun H locs hI => ?_)
  refine lv_istore (lv' := [(4, .int v5), (3, .int v1), (0, .ref a0), (1, .ref a1), (2, .ref a2)]) hx hb dX1_move_22 hl (by decide) rfl (fun ls hl => ?_)
  refine lv_aload_n hx hb dX1_move_24 rfl (lv_at hl 3 rfl) ?_
  obtain ⟨v6, ev6, hq⟩ := b_s hq
  refine fa_gr (own := RX1) (ref := "CoastlineRuler$Coast") (k := 0) hx hb hB inB_RX2 hown hI rfl (by decide) m_50 (fun _ h9 => h9) ev6 dX1_move_25 ?_
  refine lv_iload_n hx hb dX1_move_28 rfl (lv_at hl 1 rfl) ?_
  refine lv_aload_n hx hb dX1_move_29 rfl (lv_at hl 4 rfl) ?_
  obtain ⟨v7, ev7, hq⟩ := b_s hq
  refine fa_gi (own := RX1) (ref := "CoastlineRuler$Command") (k := 3) hx hb hB inB_RX3 hown hI rfl (by decide) m_172 (fun _ h9 => h9) ev7 dX1_move_30 ?_
  obtain ⟨f8, ef8, hq⟩ := b_s hq
  refine fa_si hx hb hI ef8 dX1_move_33 (fun H locs hI => ?_)
  refine lv_aload_n hx hb dX1_move_34 rfl (lv_at hl 3 rfl) ?_
  obtain ⟨v9, ev9, hq⟩ := b_s hq
  refine fa_gr (own := RX1) (ref := "CoastlineRuler$Coast") (k := 1) hx hb hB inB_RX2 hown hI rfl (by decide) m_53 (fun _ h9 => h9) ev9 dX1_move_35 ?_
  refine lv_iload_n hx hb dX1_move_38 rfl (lv_at hl 1 rfl) ?_
  refine lv_aload_n hx hb dX1_move_39 rfl (lv_at hl 4 rfl) ?_
  obtain ⟨v10, ev10, hq⟩ := b_s hq
  refine fa_gi (own := RX1) (ref := "CoastlineRuler$Command") (k := 4) hx hb hB inB_RX3 hown hI rfl (by decide) m_174 (fun _ h9 => h9) ev10 dX1_move_40 ?_
  obtain ⟨f11, ef11, hq⟩ := b_s hq
  refine fa_si hx hb hI ef11 dX1_move_43 (fun H locs hI => ?_)
  refine lv_iload hx hb dX1_move_44 (lv_at hl 0 rfl) ?_
  exact ge_Wi hx hb hlocks hr rfl hI (congrArg (fun z => z.1) (Option.some.inj hq)) (congrArg (fun z => z.2) (Option.some.inj hq)) dX1_move_46

abbrev rm_X1_remove : Room := { frames := 2, cells := 0, slots := 0, locals := 120 }
theorem k_X1_remove : g_CV yX1_remove cX1_remove 4 (some .int) 1 := ⟨⟨m_955, m_2, by decide +kernel⟩, m_953, m_954⟩
set_option maxHeartbeats 4000000 in
set_option maxRecDepth 100000 in
theorem c_X1_remove (l : Launch) (V : Nat → Nat) (g : GH) (D : va_G) (cT : Nat → ClassId) (f : GH) (n : Nat) (a0 : Nat) (a1 : Int32) (o : Int32 × GH) (hq : p_X1_remove V g f a0 a1 = some o) : Met l yX1_remove (Cond.code yX1_remove cX1_remove 4 (some .int) :: g_B) rm_X1_remove (va_Pc [.ref a0, .int a1] (g_I V g D cT f n)) (g_Wi V D cT o.1 o.2 n) 0 0 (g_A V) := by
  refine g_begin (own := RX1) [.ref a0, .int a1] [(0, .ref a0), (1, .int a1)] (g_A V) (fun _ h => h) (by decide) rfl (Nat.le_of_ble_eq_true rfl) rfl ?_
  intro p e s m args below meth c hx hb hr hlocks hin hC hI ls hl
  obtain ⟨hx, hb, hml, hown, hB⟩ := id hC
  obtain ⟨H, hH⟩ : ∃ H, H = s.heap := ⟨_, rfl⟩
  obtain ⟨locs, hlocs⟩ : ∃ L : List Loc, L = [] := ⟨_, rfl⟩
  rw [← hH, ← hlocs] at hI ⊢
  clear hH hlocs
  unfold p_X1_remove at hq
  replace hq := (h_me_eq hq).2
  refine lv_aload_n hx hb dX1_remove_0 rfl (lv_at hl 0 rfl) ?_
  obtain ⟨v1, ev1, hq⟩ := b_s hq
  refine fa_gr (own := RX1) (ref := "CoastlineRuler$Chart") (k := 0) hx hb hB inB_RX1 hown hI rfl (by decide) m_72 (fun _ h9 => h9) ev1 dX1_remove_1 ?_
  refine lv_iload_n hx hb dX1_remove_4 rfl (lv_at hl 1 rfl) ?_
  obtain ⟨v2, ev2, hq⟩ := b_s hq
  refine fa_lq hx hb hI (by decide) rfl ev2 dX1_remove_5 ?_
  refine lv_astore_n (lv' := [(2, .ref v2), (0, .ref a0), (1, .int a1)]) hx hb dX1_remove_6 rfl hl (by decide) rfl (fun ls hl => ?_)
  refine lv_iload_n hx hb dX1_remove_7 rfl (lv_at hl 2 rfl) ?_
  refine lv_istore_n (lv' := [(3, .int a1), (2, .ref v2), (0, .ref a0), (1, .int a1)]) hx hb dX1_remove_8 rfl hl (by decide) rfl (fun ls hl => ?_)
  have hl9 : ∀ (K39 : Nat → Nat → GH → Option (Int32 × GH)) (hK39 : ∀ (x0 : Nat) (x2 : Nat) (f : GH) (H : Heap) (locs : List Loc) (ls : Array Slot), g_at (g_A V) V g D cT f n s H locs → lv_has ls 4 [(0, .ref x0), (2, .ref x2)] → K39 x0 x2 f = some o → W p l e rm_X1_remove s m args below meth c H locs 0 0 (MQ below (g_Wi V D cT o.1 o.2 n) args s 0 0 (g_A V)) (F0 m 39 ls [])) (N : Nat) (x0 : Nat) (x2 : Nat) (x3 : Int32) (f : GH) (H : Heap) (locs : List Loc) (ls : Array Slot), g_at (g_A V) V g D cT f n s H locs → lv_has ls 4 [(0, .ref x0), (2, .ref x2), (3, .int x3)] → p_X1_remove_l9 V g K39 N x0 x2 x3 f = some o → W p l e rm_X1_remove s m args below meth c H locs 0 0 (MQ below (g_Wi V D cT o.1 o.2 n) args s 0 0 (g_A V)) (F0 m 9 ls []) := by
    intro K39 hK39 N
    induction N with
    | zero =>
      intro x0 x2 x3 f H locs ls hI hl hq
      rw [p_X1_remove_l9] at hq
      cases hq
    | succ N ih =>
      intro x0 x2 x3 f H locs ls hI hl hq
      rw [p_X1_remove_l9] at hq
      refine lv_iload_n hx hb dX1_remove_9 rfl (lv_at hl 2 rfl) ?_
      refine lv_iconst (v := (1 : Int32)) hx hb dX1_remove_10 (by decide) ?_
      refine lv_iadd hx hb dX1_remove_11 ?_
      refine lv_aload_n hx hb dX1_remove_12 rfl (lv_at hl 0 rfl) ?_
      obtain ⟨v3, ev3, hq⟩ := b_s hq
      refine fa_gi (own := RX1) (ref := "CoastlineRuler$Chart") (k := 1) hx hb hB inB_RX1 hown hI rfl (by decide) m_75 (fun _ h9 => h9) ev3 dX1_remove_13 ?_
      refine lv_icmp_ge (tgt := 39) hx hb dX1_remove_16 (by decide) (fun c4 => ?_) (fun c4 => ?_)
      · replace hq := i_t c4 hq
        exact hK39 x0 x2 f H locs ls hI (lv_sub hl [0, 1] rfl) hq
      · replace hq := i_f c4 hq
        refine lv_aload_n hx hb dX1_remove_19 rfl (lv_at hl 0 rfl) ?_
        obtain ⟨v5, ev5, hq⟩ := b_s hq
        refine fa_gr (own := RX1) (ref := "CoastlineRuler$Chart") (k := 0) hx hb hB inB_RX1 hown hI rfl (by decide) m_72 (fun _ h9 => h9) ev5 dX1_remove_20 ?_
        refine lv_iload_n hx hb dX1_remove_23 rfl (lv_at hl 2 rfl) ?_
        refine lv_aload_n hx hb dX1_remove_24 rfl (lv_at hl 0 rfl) ?_
        obtain ⟨v6, ev6, hq⟩ := b_s hq
        refine fa_gr (own := RX1) (ref := "CoastlineRuler$Chart") (k := 0) hx hb hB inB_RX1 hown hI rfl (by decide) m_72 (fun _ h9 => h9) ev6 dX1_remove_25 ?_
        refine lv_iload_n hx hb dX1_remove_28 rfl (lv_at hl 2 rfl) ?_
        refine lv_iconst (v := (1 : Int32)) hx hb dX1_remove_29 (by decide) ?_
        refine lv_iadd hx hb dX1_remove_30 ?_
        obtain ⟨v7, ev7, hq⟩ := b_s hq
        refine fa_lq hx hb hI (by decide) rfl ev7 dX1_remove_31 ?_
        obtain ⟨f8, ef8, hq⟩ := b_s hq
        refine fa_sq hx hb hI (by decide) (ci := 5) rfl rfl ef8 dX1_remove_32 (fun H locs hI => ?_)
        refine lv_iinc (v := x3 + (1 : Int32)) (lv' := [(3, .int (x3 + (1 : Int32))), (0, .ref x0), (2, .ref x2)]) hx hb dX1_remove_33 hl (k := 2) rfl rfl (by decide) rfl (fun ls hl => ?_)
        refine lv_goto (tgt := 9) hx hb dX1_remove_36 (by decide) ?_
        exact ih x0 x2 (x3 + (1 : Int32)) f8 H locs ls hI (lv_sub hl [1, 2, 0] rfl) hq
  refine hl9 _ ?_ FU a0 v2 a1 f H locs ls hI (lv_sub hl [2, 1, 0] rfl) hq
  · intro x0 x2 f H locs ls hI hl hq
    refine lv_aload_n hx hb dX1_remove_39 rfl (lv_at hl 0 rfl) ?_
    obtain ⟨v9, ev9, hq⟩ := b_s hq
    refine fa_gr (own := RX1) (ref := "CoastlineRuler$Chart") (k := 0) hx hb hB inB_RX1 hown hI rfl (by decide) m_72 (fun _ h9 => h9) ev9 dX1_remove_40 ?_
    refine lv_aload_n hx hb dX1_remove_43 rfl (lv_at hl 0 rfl) ?_
    obtain ⟨v10, ev10, hq⟩ := b_s hq
    refine fa_gi (own := RX1) (ref := "CoastlineRuler$Chart") (k := 1) hx hb hB inB_RX1 hown hI rfl (by decide) m_75 (fun _ h9 => h9) ev10 dX1_remove_44 ?_
    refine lv_iconst (v := (1 : Int32)) hx hb dX1_remove_47 (by decide) ?_
    refine lv_isub hx hb dX1_remove_48 ?_
    refine lv_aload_n hx hb dX1_remove_49 rfl (lv_at hl 1 rfl) ?_
    obtain ⟨f11, ef11, hq⟩ := b_s hq
    refine fa_sq hx hb hI (by decide) (ci := 5) rfl rfl ef11 dX1_remove_50 (fun H locs hI => ?_)
    refine lv_aload_n hx hb dX1_remove_51 rfl (lv_at hl 0 rfl) ?_
    refine lv_dup hx hb dX1_remove_52 rfl ?_
    obtain ⟨v12, ev12, hq⟩ := b_s hq
    refine fa_gi (own := RX1) (ref := "CoastlineRuler$Chart") (k := 1) hx hb hB inB_RX1 hown hI rfl (by decide) m_75 (fun _ h9 => h9) ev12 dX1_remove_53 ?_
    refine lv_iconst (v := (1 : Int32)) hx hb dX1_remove_56 (by decide) ?_
    refine lv_isub hx hb dX1_remove_57 ?_
    obtain ⟨f13, ef13, hq⟩ := b_s hq
    refine fa_pt (own := RX1) (ref := "CoastlineRuler$Chart") (k := 1) hx hb hB inB_RX1 tyX1_ok nmX1 hown hI rfl (by decide) m_75 (fun _ h9 => h9) (by decide) rfl rfl ef13 dX1_remove_58 (fun H locs hI => ?_)
    refine lv_aload_n hx hb dX1_remove_61 rfl (lv_at hl 0 rfl) ?_
    refine lv_dup hx hb dX1_remove_62 rfl ?_
    obtain ⟨v14, ev14, hq⟩ := b_s hq
    refine fa_gi (own := RX1) (ref := "CoastlineRuler$Chart") (k := 5) hx hb hB inB_RX1 hown hI rfl (by decide) m_85 (fun _ h9 => h9) ev14 dX1_remove_63 ?_
    refine lv_aload_n hx hb dX1_remove_66 rfl (lv_at hl 1 rfl) ?_
    obtain ⟨v15, ev15, hq⟩ := b_s hq
    refine fa_gi (own := RX1) (ref := "CoastlineRuler$Coast") (k := 2) hx hb hB inB_RX2 hown hI rfl (by decide) m_55 (fun _ h9 => h9) ev15 dX1_remove_67 ?_
    refine lv_iadd hx hb dX1_remove_70 ?_
    obtain ⟨f16, ef16, hq⟩ := b_s hq
    refine fa_pt (own := RX1) (ref := "CoastlineRuler$Chart") (k := 5) hx hb hB inB_RX1 tyX1_ok nmX1 hown hI rfl (by decide) m_85 (fun _ h9 => h9) (by decide) rfl rfl ef16 dX1_remove_71 (fun H locs hI => ?_)
    refine lv_aload_n hx hb dX1_remove_74 rfl (lv_at hl 1 rfl) ?_
    obtain ⟨v17, ev17, hq⟩ := b_s hq
    refine fa_gi (own := RX1) (ref := "CoastlineRuler$Coast") (k := 2) hx hb hB inB_RX2 hown hI rfl (by decide) m_55 (fun _ h9 => h9) ev17 dX1_remove_75 ?_
    exact ge_Wi hx hb hlocks hr rfl hI (congrArg (fun z => z.1) (Option.some.inj hq)) (congrArg (fun z => z.2) (Option.some.inj hq)) dX1_remove_78

abbrev rm_X2_drop : Room := { frames := 2, cells := 0, slots := 0, locals := 120 }
theorem k_X2_drop : g_CV yX2_drop cX2_drop 2 none 1 := ⟨⟨m_974, m_3, by decide +kernel⟩, m_972, m_973⟩
set_option maxHeartbeats 4000000 in
set_option maxRecDepth 100000 in
theorem c_X2_drop (l : Launch) (V : Nat → Nat) (g : GH) (D : va_G) (cT : Nat → ClassId) (f : GH) (n : Nat) (a0 : Nat) (a1 : Int32) (o : GH) (hq : p_X2_drop V g f a0 a1 = some o) : Met l yX2_drop (Cond.code yX2_drop cX2_drop 2 none :: g_B) rm_X2_drop (va_Pc [.ref a0, .int a1] (g_I V g D cT f n)) (g_Wv V D cT o n) 0 0 (g_A V) := by
  refine g_begin (own := RX2) [.ref a0, .int a1] [(0, .ref a0), (1, .int a1)] (g_A V) (fun _ h => h) (by decide) rfl (Nat.le_of_ble_eq_true rfl) rfl ?_
  intro p e s m args below meth c hx hb hr hlocks hin hC hI ls hl
  obtain ⟨hx, hb, hml, hown, hB⟩ := id hC
  obtain ⟨H, hH⟩ : ∃ H, H = s.heap := ⟨_, rfl⟩
  obtain ⟨locs, hlocs⟩ : ∃ L : List Loc, L = [] := ⟨_, rfl⟩
  rw [← hH, ← hlocs] at hI ⊢
  clear hH hlocs
  unfold p_X2_drop at hq
  replace hq := (h_me_eq hq).2
  refine lv_aload_n hx hb dX2_drop_0 rfl (lv_at hl 0 rfl) ?_
  obtain ⟨v1, ev1, hq⟩ := b_s hq
  refine fa_gr (own := RX2) (ref := "CoastlineRuler$Coast") (k := 0) hx hb hB inB_RX2 hown hI rfl (by decide) m_48 (fun _ h9 => h9) ev1 dX2_drop_1 ?_
  refine lv_iload_n hx hb dX2_drop_4 rfl (lv_at hl 1 rfl) ?_
  refine lv_iconst (v := (1 : Int32)) hx hb dX2_drop_5 (by decide) ?_
  refine lv_iadd hx hb dX2_drop_6 ?_
  refine lv_aload_n hx hb dX2_drop_7 rfl (lv_at hl 0 rfl) ?_
  obtain ⟨v2, ev2, hq⟩ := b_s hq
  refine fa_gr (own := RX2) (ref := "CoastlineRuler$Coast") (k := 0) hx hb hB inB_RX2 hown hI rfl (by decide) m_48 (fun _ h9 => h9) ev2 dX2_drop_8 ?_
  refine lv_iload_n hx hb dX2_drop_11 rfl (lv_at hl 1 rfl) ?_
  refine lv_aload_n hx hb dX2_drop_12 rfl (lv_at hl 0 rfl) ?_
  obtain ⟨v3, ev3, hq⟩ := b_s hq
  refine fa_gi (own := RX2) (ref := "CoastlineRuler$Coast") (k := 2) hx hb hB inB_RX2 hown hI rfl (by decide) m_54 (fun _ h9 => h9) ev3 dX2_drop_13 ?_
  refine lv_iload_n hx hb dX2_drop_16 rfl (lv_at hl 1 rfl) ?_
  refine lv_isub hx hb dX2_drop_17 ?_
  refine lv_iconst (v := (1 : Int32)) hx hb dX2_drop_18 (by decide) ?_
  refine lv_isub hx hb dX2_drop_19 ?_
  obtain ⟨f4, ef4, hq⟩ := b_s hq
  refine fa_cp (own := RX2) hx hb (hml.trans hl.1.symm) hB hown m_238 m_240 m_239 m_13 hI ef4 (by decide) (by decide) dX2_drop_20 (fun H locs hI => ?_)
  refine lv_aload_n hx hb dX2_drop_23 rfl (lv_at hl 0 rfl) ?_
  obtain ⟨v5, ev5, hq⟩ := b_s hq
  refine fa_gr (own := RX2) (ref := "CoastlineRuler$Coast") (k := 1) hx hb hB inB_RX2 hown hI rfl (by decide) m_51 (fun _ h9 => h9) ev5 dX2_drop_24 ?_
  refine lv_iload_n hx hb dX2_drop_27 rfl (lv_at hl 1 rfl) ?_
  refine lv_iconst (v := (1 : Int32)) hx hb dX2_drop_28 (by decide) ?_
  refine lv_iadd hx hb dX2_drop_29 ?_
  refine lv_aload_n hx hb dX2_drop_30 rfl (lv_at hl 0 rfl) ?_
  obtain ⟨v6, ev6, hq⟩ := b_s hq
  refine fa_gr (own := RX2) (ref := "CoastlineRuler$Coast") (k := 1) hx hb hB inB_RX2 hown hI rfl (by decide) m_51 (fun _ h9 => h9) ev6 dX2_drop_31 ?_
  refine lv_iload_n hx hb dX2_drop_34 rfl (lv_at hl 1 rfl) ?_
  refine lv_aload_n hx hb dX2_drop_35 rfl (lv_at hl 0 rfl) ?_
  obtain ⟨v7, ev7, hq⟩ := b_s hq
  refine fa_gi (own := RX2) (ref := "CoastlineRuler$Coast") (k := 2) hx hb hB inB_RX2 hown hI rfl (by decide) m_54 (fun _ h9 => h9) ev7 dX2_drop_36 ?_
  refine lv_iload_n hx hb dX2_drop_39 rfl (lv_at hl 1 rfl) ?_
  refine lv_isub hx hb dX2_drop_40 ?_
  refine lv_iconst (v := (1 : Int32)) hx hb dX2_drop_41 (by decide) ?_
  refine lv_isub hx hb dX2_drop_42 ?_
  obtain ⟨f8, ef8, hq⟩ := b_s hq
  refine fa_cp (own := RX2) hx hb (hml.trans hl.1.symm) hB hown m_238 m_240 m_239 m_13 hI ef8 (by decide) (by decide) dX2_drop_43 (fun H locs hI => ?_)
  refine lv_aload_n hx hb dX2_drop_46 rfl (lv_at hl 0 rfl) ?_
  refine lv_dup hx hb dX2_drop_47 rfl ?_
  obtain ⟨v9, ev9, hq⟩ := b_s hq
  refine fa_gi (own := RX2) (ref := "CoastlineRuler$Coast") (k := 2) hx hb hB inB_RX2 hown hI rfl (by decide) m_54 (fun _ h9 => h9) ev9 dX2_drop_48 ?_
  refine lv_iconst (v := (1 : Int32)) hx hb dX2_drop_51 (by decide) ?_
  refine lv_isub hx hb dX2_drop_52 ?_
  obtain ⟨f10, ef10, hq⟩ := b_s hq
  refine fa_pt (own := RX2) (ref := "CoastlineRuler$Coast") (k := 2) hx hb hB inB_RX2 tyX2_ok nmX2 hown hI rfl (by decide) m_54 (fun _ h9 => h9) (by decide) rfl rfl ef10 dX2_drop_53 (fun H locs hI => ?_)
  exact ge_Wv hx hb hlocks hr hI (Option.some.inj hq) dX2_drop_56


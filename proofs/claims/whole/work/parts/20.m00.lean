abbrev rm_X8_at : Room := { frames := 2, cells := 0, slots := 0, locals := 120 }
theorem k_X8_at : g_CS yX8_at cX8_at 1 (some .int) 1 := ⟨⟨m_1517, m_14, by decide +kernel⟩, m_1516⟩
set_option maxHeartbeats 4000000 in
set_option maxRecDepth 100000 in
theorem c_X8_at (l : Launch) (V : Nat → Nat) (g : GH) (D : va_G) (cT : Nat → ClassId) (f : GH) (n : Nat) (a0 : Int32) (o : Int32) (hq : p_X8_at V g f a0 = some o) : Met l yX8_at (Cond.code yX8_at cX8_at 1 (some .int) :: g_B) rm_X8_at (va_Pc [.int a0] (g_I V g D cT f n)) (g_Ri o n) 0 0 g_no := by
  refine g_begin (own := RX8) [.int a0] [(0, .int a0)] g_no (fun _ h => h.elim) (by decide) rfl (Nat.le_of_ble_eq_true rfl) rfl ?_
  intro p e s m args below meth c hx hb hr hlocks hin hC hI ls hl
  obtain ⟨hx, hb, hml, hown, hB⟩ := id hC
  obtain ⟨H, hH⟩ : ∃ H, H = s.heap := ⟨_, rfl⟩
  obtain ⟨locs, hlocs⟩ : ∃ L : List Loc, L = [] := ⟨_, rfl⟩
  rw [← hH, ← hlocs] at hI ⊢
  clear hH hlocs
  unfold p_X8_at at hq
  refine lv_iconst (v := (5 : Int32)) hx hb dX8_at_0 (by decide) ?_
  refine lv_sipush (v := (260 : Int32)) hx hb dX8_at_1 (by decide) ?_
  refine lv_iload_n hx hb dX8_at_4 rfl (lv_at hl 0 rfl) ?_
  refine lv_imul hx hb dX8_at_5 ?_
  refine lv_iadd hx hb dX8_at_6 ?_
  exact ge_Ri hx hb hlocks hr rfl hI hq dX8_at_7

abbrev rm_X8_layTold : Room := { frames := 3, cells := 0, slots := 0, locals := 140 }
theorem k_X8_layTold : g_CV yX8_layTold cX8_layTold 1 none 0 := ⟨⟨m_1514, m_14, by decide +kernel⟩, m_1513, ms_20⟩
set_option maxHeartbeats 4000000 in
set_option maxRecDepth 100000 in
theorem c_X8_layTold (l : Launch) (V : Nat → Nat) (g : GH) (D : va_G) (cT : Nat → ClassId) (f : GH) (n : Nat) (a0 : Nat) (o : GH) (hq : p_X8_layTold V g f a0 = some o) : Met l yX8_layTold (Cond.code yX8_layTold cX8_layTold 1 none :: g_B) rm_X8_layTold (va_Pc [.ref a0] (g_I V g D cT f n)) (g_Wv V D cT o n) 0 0 (g_A V) := by
  refine g_begin (own := RX8) [.ref a0] [(0, .ref a0)] (g_A V) (fun _ h => h) (by decide) rfl (Nat.le_of_ble_eq_true rfl) rfl ?_
  intro p e s m args below meth c hx hb hr hlocks hin hC hI ls hl
  obtain ⟨hx, hb, hml, hown, hB⟩ := id hC
  obtain ⟨H, hH⟩ : ∃ H, H = s.heap := ⟨_, rfl⟩
  obtain ⟨locs, hlocs⟩ : ∃ L : List Loc, L = [] := ⟨_, rfl⟩
  rw [← hH, ← hlocs] at hI ⊢
  clear hH hlocs
  unfold p_X8_layTold at hq
  replace hq := (h_me_eq hq).2
  refine lv_aload_n hx hb dX8_layTold_0 rfl (lv_at hl 0 rfl) ?_
  obtain ⟨v1, ev1, hq⟩ := b_s hq
  refine fa_gr (own := RX8) (ref := "CoastlineRulerModel") (k := 22) hx hb hB inB_RX8 hown hI rfl (by decide) m_1553 (fun _ h9 => h9) ev1 dX8_layTold_1 ?_
  refine lv_iconst (v := (0 : Int32)) hx hb dX8_layTold_4 (by decide) ?_
  refine lv_aload_n hx hb dX8_layTold_5 rfl (lv_at hl 0 rfl) ?_
  obtain ⟨v2, ev2, hq⟩ := b_s hq
  refine fa_gr (own := RX8) (ref := "CoastlineRulerModel") (k := 5) hx hb hB inB_RX8 hown hI rfl (by decide) m_1536 (fun _ h9 => h9) ev2 dX8_layTold_6 ?_
  refine lv_aload_n hx hb dX8_layTold_9 rfl (lv_at hl 0 rfl) ?_
  obtain ⟨v3, ev3, hq⟩ := b_s hq
  refine fa_gr (own := RX8) (ref := "CoastlineRulerModel") (k := 5) hx hb hB inB_RX8 hown hI rfl (by decide) m_1536 (fun _ h9 => h9) ev3 dX8_layTold_10 ?_
  refine lv_iconst (v := (1 : Int32)) hx hb dX8_layTold_13 (by decide) ?_
  obtain ⟨v4, ev4, hq⟩ := b_s hq
  refine fa_li hx hb hI ev4 dX8_layTold_14 ?_
  obtain ⟨v5, ev5, hq⟩ := b_s hq
  refine gr_i (g_runS (As := [.int v4]) (rest := [.ref v2, .int (0 : Int32), .ref v1]) hC (c_X8_at l V g D cT f n v4 v5 ev5) k_X8_at m_1515 rfl rfl ⟨Nat.le_of_ble_eq_true rfl, Nat.le_of_ble_eq_true rfl⟩ hI rfl hl.1 rfl (Nat.le_of_ble_eq_true rfl) dX8_layTold_15 ⟨by decide, by decide⟩) hI (fun H locs hI => ?_)
  refine lv_aload_n hx hb dX8_layTold_18 rfl (lv_at hl 0 rfl) ?_
  obtain ⟨v6, ev6, hq⟩ := b_s hq
  refine fa_gr (own := RX8) (ref := "CoastlineRulerModel") (k := 22) hx hb hB inB_RX8 hown hI rfl (by decide) m_1553 (fun _ h9 => h9) ev6 dX8_layTold_19 ?_
  obtain ⟨v7, ev7, hq⟩ := b_s hq
  refine fa_al hx hb hI (by decide) ev7 dX8_layTold_22 ?_
  obtain ⟨f8, ef8, hq⟩ := b_s hq
  refine fa_cp (own := RX8) hx hb (hml.trans hl.1.symm) hB hown m_1518 m_252 m_251 m_13 hI ef8 (by decide) (by decide) dX8_layTold_23 (fun H locs hI => ?_)
  refine lv_aload_n hx hb dX8_layTold_26 rfl (lv_at hl 0 rfl) ?_
  obtain ⟨v9, ev9, hq⟩ := b_s hq
  refine fa_gr (own := RX8) (ref := "CoastlineRulerModel") (k := 5) hx hb hB inB_RX8 hown hI rfl (by decide) m_1536 (fun _ h9 => h9) ev9 dX8_layTold_27 ?_
  refine lv_iconst (v := (1 : Int32)) hx hb dX8_layTold_30 (by decide) ?_
  refine lv_dup2_11 hx hb dX8_layTold_31 rfl rfl ?_
  obtain ⟨v10, ev10, hq⟩ := b_s hq
  refine fa_li hx hb hI ev10 dX8_layTold_32 ?_
  refine lv_iconst (v := (1 : Int32)) hx hb dX8_layTold_33 (by decide) ?_
  refine lv_iadd hx hb dX8_layTold_34 ?_
  obtain ⟨f11, ef11, hq⟩ := b_s hq
  refine fa_si hx hb hI ef11 dX8_layTold_35 (fun H locs hI => ?_)
  exact ge_Wv hx hb hlocks hr hI (Option.some.inj hq) dX8_layTold_36

abbrev rm_X8_count : Room := { frames := 3, cells := 0, slots := 0, locals := 140 }
theorem k_X8_count : g_CV yX8_count cX8_count 2 (some .int) 1 := ⟨⟨m_1530, m_14, by decide +kernel⟩, m_1529, ms_23⟩
set_option maxHeartbeats 4000000 in
set_option maxRecDepth 100000 in
theorem c_X8_count (l : Launch) (V : Nat → Nat) (g : GH) (D : va_G) (cT : Nat → ClassId) (f : GH) (n : Nat) (a0 : Nat) (a1 : Int32) (o : Int32) (hq : p_X8_count V g f a0 a1 = some o) : Met l yX8_count (Cond.code yX8_count cX8_count 2 (some .int) :: g_B) rm_X8_count (va_Pc [.ref a0, .int a1] (g_I V g D cT f n)) (g_Ri o n) 0 0 g_no := by
  refine g_begin (own := RX8) [.ref a0, .int a1] [(0, .ref a0), (1, .int a1)] g_no (fun _ h => h.elim) (by decide) rfl (Nat.le_of_ble_eq_true rfl) rfl ?_
  intro p e s m args below meth c hx hb hr hlocks hin hC hI ls hl
  obtain ⟨hx, hb, hml, hown, hB⟩ := id hC
  obtain ⟨H, hH⟩ : ∃ H, H = s.heap := ⟨_, rfl⟩
  obtain ⟨locs, hlocs⟩ : ∃ L : List Loc, L = [] := ⟨_, rfl⟩
  rw [← hH, ← hlocs] at hI ⊢
  clear hH hlocs
  unfold p_X8_count at hq
  replace hq := (h_me_eq hq).2
  refine lv_aload_n hx hb dX8_count_0 rfl (lv_at hl 0 rfl) ?_
  obtain ⟨v1, ev1, hq⟩ := b_s hq
  refine fa_gr (own := RX8) (ref := "CoastlineRulerModel") (k := 5) hx hb hB inB_RX8 hown hI rfl (by decide) m_1536 (fun _ h9 => h9) ev1 dX8_count_1 ?_
  refine lv_iload_n hx hb dX8_count_4 rfl (lv_at hl 1 rfl) ?_
  obtain ⟨v2, ev2, hq⟩ := b_s hq
  refine gr_i (g_runS (As := [.int a1]) (rest := [.ref v1]) hC (c_X8_at l V g D cT f n a1 v2 ev2) k_X8_at m_1515 rfl rfl ⟨Nat.le_of_ble_eq_true rfl, Nat.le_of_ble_eq_true rfl⟩ hI rfl hl.1 rfl (Nat.le_of_ble_eq_true rfl) dX8_count_5 ⟨by decide, by decide⟩) hI (fun H locs hI => ?_)
  refine lv_iconst (v := (1 : Int32)) hx hb dX8_count_8 (by decide) ?_
  refine lv_iadd hx hb dX8_count_9 ?_
  obtain ⟨v3, ev3, hq⟩ := b_s hq
  refine fa_li hx hb hI ev3 dX8_count_10 ?_
  exact ge_Ri hx hb hlocks hr rfl hI hq dX8_count_11

abbrev rm_X8_allPoints : Room := { frames := 4, cells := 0, slots := 0, locals := 161 }
theorem k_X8_allPoints : g_CV yX8_allPoints cX8_allPoints 3 (some .int) 0 := ⟨⟨m_1526, m_14, by decide +kernel⟩, m_1525, ms_22⟩
set_option maxHeartbeats 4000000 in
set_option maxRecDepth 100000 in
theorem c_X8_allPoints (l : Launch) (V : Nat → Nat) (g : GH) (D : va_G) (cT : Nat → ClassId) (f : GH) (n : Nat) (a0 : Nat) (o : Int32) (hq : p_X8_allPoints V g f a0 = some o) : Met l yX8_allPoints (Cond.code yX8_allPoints cX8_allPoints 3 (some .int) :: g_B) rm_X8_allPoints (va_Pc [.ref a0] (g_I V g D cT f n)) (g_Ri o n) 0 0 g_no := by
  refine g_begin (own := RX8) [.ref a0] [(0, .ref a0)] g_no (fun _ h => h.elim) (by decide) rfl (Nat.le_of_ble_eq_true rfl) rfl ?_
  intro p e s m args below meth c hx hb hr hlocks hin hC hI ls hl
  obtain ⟨hx, hb, hml, hown, hB⟩ := id hC
  obtain ⟨H, hH⟩ : ∃ H, H = s.heap := ⟨_, rfl⟩
  obtain ⟨locs, hlocs⟩ : ∃ L : List Loc, L = [] := ⟨_, rfl⟩
  rw [← hH, ← hlocs] at hI ⊢
  clear hH hlocs
  unfold p_X8_allPoints at hq
  replace hq := (h_me_eq hq).2
  refine lv_iconst (v := (0 : Int32)) hx hb dX8_allPoints_0 (by decide) ?_
  refine lv_istore_n (lv' := [(1, .int (0 : Int32)), (0, .ref a0)]) hx hb dX8_allPoints_1 rfl hl (by decide) rfl (fun ls hl => ?_)
  refine lv_iconst (v := (0 : Int32)) hx hb dX8_allPoints_2 (by decide) ?_
  refine lv_istore_n (lv' := [(2, .int (0 : Int32)), (1, .int (0 : Int32)), (0, .ref a0)]) hx hb dX8_allPoints_3 rfl hl (by decide) rfl (fun ls hl => ?_)
  have hl4 : ∀ (K28 : Int32 → Option Int32) (hK28 : ∀ (x1 : Int32) (H : Heap) (locs : List Loc) (ls : Array Slot), g_at g_no V g D cT f n s H locs → lv_has ls 3 [(1, .int x1)] → K28 x1 = some o → W p l e rm_X8_allPoints s m args below meth c H locs 0 0 (MQ below (g_Ri o n) args s 0 0 g_no) (F0 m 28 ls [])) (N : Nat) (x0 : Nat) (x1 : Int32) (x2 : Int32) (H : Heap) (locs : List Loc) (ls : Array Slot), g_at g_no V g D cT f n s H locs → lv_has ls 3 [(0, .ref x0), (1, .int x1), (2, .int x2)] → p_X8_allPoints_l4 V g f K28 N x0 x1 x2 = some o → W p l e rm_X8_allPoints s m args below meth c H locs 0 0 (MQ below (g_Ri o n) args s 0 0 g_no) (F0 m 4 ls []) := by
    intro K28 hK28 N
    induction N with
    | zero =>
      intro x0 x1 x2 H locs ls hI hl hq
      rw [p_X8_allPoints_l4] at hq
      cases hq
    | succ N ih =>
      intro x0 x1 x2 H locs ls hI hl hq
      rw [p_X8_allPoints_l4] at hq
      refine lv_iload_n hx hb dX8_allPoints_4 rfl (lv_at hl 2 rfl) ?_
      refine lv_aload_n hx hb dX8_allPoints_5 rfl (lv_at hl 0 rfl) ?_
      obtain ⟨v1, ev1, hq⟩ := b_s hq
      refine fa_gr (own := RX8) (ref := "CoastlineRulerModel") (k := 5) hx hb hB inB_RX8 hown hI rfl (by decide) m_1536 (fun _ h9 => h9) ev1 dX8_allPoints_6 ?_
      refine lv_iconst (v := (1 : Int32)) hx hb dX8_allPoints_9 (by decide) ?_
      obtain ⟨v2, ev2, hq⟩ := b_s hq
      refine fa_li hx hb hI ev2 dX8_allPoints_10 ?_
      refine lv_icmp_ge (tgt := 28) hx hb dX8_allPoints_11 (by decide) (fun c3 => ?_) (fun c3 => ?_)
      · replace hq := i_t c3 hq
        exact hK28 x1 H locs ls hI (lv_sub hl [1] rfl) hq
      · replace hq := i_f c3 hq
        refine lv_iload_n hx hb dX8_allPoints_14 rfl (lv_at hl 1 rfl) ?_
        refine lv_aload_n hx hb dX8_allPoints_15 rfl (lv_at hl 0 rfl) ?_
        refine lv_iload_n hx hb dX8_allPoints_16 rfl (lv_at hl 2 rfl) ?_
        obtain ⟨v4, ev4, hq⟩ := b_s hq
        refine gr_i (g_runV (As := [.int x2]) (rest := [.int x1]) (ci := 10) hC (c_X8_count l V g D cT f n x0 x2 v4 ev4) k_X8_count m_1527 rfl rfl ⟨Nat.le_of_ble_eq_true rfl, Nat.le_of_ble_eq_true rfl⟩ hI rfl rfl (h_me_eq ev4).1 rfl hl.1 rfl (Nat.le_of_ble_eq_true rfl) dX8_allPoints_17 ⟨by decide, by decide⟩) hI (fun H locs hI => ?_)
        refine lv_iadd hx hb dX8_allPoints_20 ?_
        refine lv_istore_n (lv' := [(1, .int (x1 + v4)), (0, .ref x0), (2, .int x2)]) hx hb dX8_allPoints_21 rfl hl (by decide) rfl (fun ls hl => ?_)
        refine lv_iinc (v := x2 + (1 : Int32)) (lv' := [(2, .int (x2 + (1 : Int32))), (1, .int (x1 + v4)), (0, .ref x0)]) hx hb dX8_allPoints_22 hl (k := 2) rfl rfl (by decide) rfl (fun ls hl => ?_)
        refine lv_goto (tgt := 4) hx hb dX8_allPoints_25 (by decide) ?_
        exact ih x0 (x1 + v4) (x2 + (1 : Int32)) H locs ls hI (lv_sub hl [2, 1, 0] rfl) hq
  refine hl4 _ ?_ FU a0 (0 : Int32) (0 : Int32) H locs ls hI (lv_sub hl [2, 1, 0] rfl) hq
  · intro x1 H locs ls hI hl hq
    refine lv_iload_n hx hb dX8_allPoints_28 rfl (lv_at hl 0 rfl) ?_
    exact ge_Ri hx hb hlocks hr rfl hI hq dX8_allPoints_29

abbrev rm_X8_restartLedgers : Room := { frames := 5, cells := 0, slots := 0, locals := 183 }
theorem k_X8_restartLedgers : g_CV yX8_restartLedgers cX8_restartLedgers 1 none 0 := ⟨⟨m_1522, m_14, by decide +kernel⟩, m_1521, ms_21⟩
set_option maxHeartbeats 4000000 in
set_option maxRecDepth 100000 in
theorem c_X8_restartLedgers (l : Launch) (V : Nat → Nat) (g : GH) (D : va_G) (cT : Nat → ClassId) (f : GH) (n : Nat) (a0 : Nat) (o : GH) (hq : p_X8_restartLedgers V g f a0 = some o) : Met l yX8_restartLedgers (Cond.code yX8_restartLedgers cX8_restartLedgers 1 none :: g_B) rm_X8_restartLedgers (va_Pc [.ref a0] (g_I V g D cT f n)) (g_Wv V D cT o n) 0 0 (g_A V) := by
  refine g_begin (own := RX8) [.ref a0] [(0, .ref a0)] (g_A V) (fun _ h => h) (by decide) rfl (Nat.le_of_ble_eq_true rfl) rfl ?_
  intro p e s m args below meth c hx hb hr hlocks hin hC hI ls hl
  obtain ⟨hx, hb, hml, hown, hB⟩ := id hC
  obtain ⟨H, hH⟩ : ∃ H, H = s.heap := ⟨_, rfl⟩
  obtain ⟨locs, hlocs⟩ : ∃ L : List Loc, L = [] := ⟨_, rfl⟩
  rw [← hH, ← hlocs] at hI ⊢
  clear hH hlocs
  unfold p_X8_restartLedgers at hq
  replace hq := (h_me_eq hq).2
  refine lv_aload_n hx hb dX8_restartLedgers_0 rfl (lv_at hl 0 rfl) ?_
  obtain ⟨v1, ev1, hq⟩ := b_s hq
  refine fa_gr (own := RX8) (ref := "CoastlineRulerModel") (k := 5) hx hb hB inB_RX8 hown hI rfl (by decide) m_1536 (fun _ h9 => h9) ev1 dX8_restartLedgers_1 ?_
  refine lv_iconst (v := (2 : Int32)) hx hb dX8_restartLedgers_4 (by decide) ?_
  refine lv_aload_n hx hb dX8_restartLedgers_5 rfl (lv_at hl 0 rfl) ?_
  obtain ⟨v2, ev2, hq⟩ := b_s hq
  refine gr_i (g_runV (As := []) (rest := [.int (2 : Int32), .ref v1]) (ci := 10) hC (c_X8_allPoints l V g D cT f n a0 v2 ev2) k_X8_allPoints m_1523 rfl rfl ⟨Nat.le_of_ble_eq_true rfl, Nat.le_of_ble_eq_true rfl⟩ hI rfl rfl (h_me_eq ev2).1 rfl hl.1 rfl (Nat.le_of_ble_eq_true rfl) dX8_restartLedgers_6 ⟨by decide, by decide⟩) hI (fun H locs hI => ?_)
  obtain ⟨f3, ef3, hq⟩ := b_s hq
  refine fa_si hx hb hI ef3 dX8_restartLedgers_9 (fun H locs hI => ?_)
  refine lv_aload_n hx hb dX8_restartLedgers_10 rfl (lv_at hl 0 rfl) ?_
  obtain ⟨v4, ev4, hq⟩ := b_s hq
  refine fa_gr (own := RX8) (ref := "CoastlineRulerModel") (k := 5) hx hb hB inB_RX8 hown hI rfl (by decide) m_1536 (fun _ h9 => h9) ev4 dX8_restartLedgers_11 ?_
  refine lv_iconst (v := (3 : Int32)) hx hb dX8_restartLedgers_14 (by decide) ?_
  refine lv_iconst (v := (0 : Int32)) hx hb dX8_restartLedgers_15 (by decide) ?_
  obtain ⟨f5, ef5, hq⟩ := b_s hq
  refine fa_si hx hb hI ef5 dX8_restartLedgers_16 (fun H locs hI => ?_)
  refine lv_aload_n hx hb dX8_restartLedgers_17 rfl (lv_at hl 0 rfl) ?_
  obtain ⟨v6, ev6, hq⟩ := b_s hq
  refine fa_gr (own := RX8) (ref := "CoastlineRulerModel") (k := 5) hx hb hB inB_RX8 hown hI rfl (by decide) m_1536 (fun _ h9 => h9) ev6 dX8_restartLedgers_18 ?_
  refine lv_iconst (v := (4 : Int32)) hx hb dX8_restartLedgers_21 (by decide) ?_
  refine lv_iconst (v := (0 : Int32)) hx hb dX8_restartLedgers_22 (by decide) ?_
  obtain ⟨f7, ef7, hq⟩ := b_s hq
  refine fa_si hx hb hI ef7 dX8_restartLedgers_23 (fun H locs hI => ?_)
  exact ge_Wv hx hb hlocks hr hI (Option.some.inj hq) dX8_restartLedgers_24

abbrev rm_X8_startCoast : Room := { frames := 2, cells := 0, slots := 0, locals := 120 }
theorem k_X8_startCoast : g_CV yX8_startCoast cX8_startCoast 2 none 1 := ⟨⟨m_1506, m_14, by decide +kernel⟩, m_1505, ms_18⟩
set_option maxHeartbeats 4000000 in
set_option maxRecDepth 100000 in
theorem c_X8_startCoast (l : Launch) (V : Nat → Nat) (g : GH) (D : va_G) (cT : Nat → ClassId) (f : GH) (n : Nat) (a0 : Nat) (a1 : Int32) (o : GH) (hq : p_X8_startCoast V g f a0 a1 = some o) : Met l yX8_startCoast (Cond.code yX8_startCoast cX8_startCoast 2 none :: g_B) rm_X8_startCoast (va_Pc [.ref a0, .int a1] (g_I V g D cT f n)) (g_Wv V D cT o n) 0 0 (g_A V) := by
  refine g_begin (own := RX8) [.ref a0, .int a1] [(0, .ref a0), (1, .int a1)] (g_A V) (fun _ h => h) (by decide) rfl (Nat.le_of_ble_eq_true rfl) rfl ?_
  intro p e s m args below meth c hx hb hr hlocks hin hC hI ls hl
  obtain ⟨hx, hb, hml, hown, hB⟩ := id hC
  obtain ⟨H, hH⟩ : ∃ H, H = s.heap := ⟨_, rfl⟩
  obtain ⟨locs, hlocs⟩ : ∃ L : List Loc, L = [] := ⟨_, rfl⟩
  rw [← hH, ← hlocs] at hI ⊢
  clear hH hlocs
  unfold p_X8_startCoast at hq
  replace hq := (h_me_eq hq).2
  refine lv_aload_n hx hb dX8_startCoast_0 rfl (lv_at hl 0 rfl) ?_
  obtain ⟨v1, ev1, hq⟩ := b_s hq
  refine fa_gr (own := RX8) (ref := "CoastlineRulerModel") (k := 22) hx hb hB inB_RX8 hown hI rfl (by decide) m_1553 (fun _ h9 => h9) ev1 dX8_startCoast_1 ?_
  refine lv_iconst (v := (0 : Int32)) hx hb dX8_startCoast_4 (by decide) ?_
  refine lv_iload_n hx hb dX8_startCoast_5 rfl (lv_at hl 1 rfl) ?_
  obtain ⟨f2, ef2, hq⟩ := b_s hq
  refine fa_si hx hb hI ef2 dX8_startCoast_6 (fun H locs hI => ?_)
  refine lv_aload_n hx hb dX8_startCoast_7 rfl (lv_at hl 0 rfl) ?_
  obtain ⟨v3, ev3, hq⟩ := b_s hq
  refine fa_gr (own := RX8) (ref := "CoastlineRulerModel") (k := 22) hx hb hB inB_RX8 hown hI rfl (by decide) m_1553 (fun _ h9 => h9) ev3 dX8_startCoast_8 ?_
  refine lv_iconst (v := (1 : Int32)) hx hb dX8_startCoast_11 (by decide) ?_
  refine lv_iconst (v := (0 : Int32)) hx hb dX8_startCoast_12 (by decide) ?_
  obtain ⟨f4, ef4, hq⟩ := b_s hq
  refine fa_si hx hb hI ef4 dX8_startCoast_13 (fun H locs hI => ?_)
  exact ge_Wv hx hb hlocks hr hI (Option.some.inj hq) dX8_startCoast_14

abbrev rm_X8_tellPoint : Room := { frames := 2, cells := 0, slots := 0, locals := 120 }
theorem k_X8_tellPoint : g_CV yX8_tellPoint cX8_tellPoint 3 none 2 := ⟨⟨m_1510, m_14, by decide +kernel⟩, m_1509, ms_19⟩
set_option maxHeartbeats 4000000 in
set_option maxRecDepth 100000 in
theorem c_X8_tellPoint (l : Launch) (V : Nat → Nat) (g : GH) (D : va_G) (cT : Nat → ClassId) (f : GH) (n : Nat) (a0 : Nat) (a1 : Int32) (a2 : Int32) (o : GH) (hq : p_X8_tellPoint V g f a0 a1 a2 = some o) : Met l yX8_tellPoint (Cond.code yX8_tellPoint cX8_tellPoint 3 none :: g_B) rm_X8_tellPoint (va_Pc [.ref a0, .int a1, .int a2] (g_I V g D cT f n)) (g_Wv V D cT o n) 0 0 (g_A V) := by
  refine g_begin (own := RX8) [.ref a0, .int a1, .int a2] [(0, .ref a0), (1, .int a1), (2, .int a2)] (g_A V) (fun _ h => h) (by decide) rfl (Nat.le_of_ble_eq_true rfl) rfl ?_
  intro p e s m args below meth c hx hb hr hlocks hin hC hI ls hl
  obtain ⟨hx, hb, hml, hown, hB⟩ := id hC
  obtain ⟨H, hH⟩ : ∃ H, H = s.heap := ⟨_, rfl⟩
  obtain ⟨locs, hlocs⟩ : ∃ L : List Loc, L = [] := ⟨_, rfl⟩
  rw [← hH, ← hlocs] at hI ⊢
  clear hH hlocs
  unfold p_X8_tellPoint at hq
  replace hq := (h_me_eq hq).2
  refine lv_aload_n hx hb dX8_tellPoint_0 rfl (lv_at hl 0 rfl) ?_
  obtain ⟨v1, ev1, hq⟩ := b_s hq
  refine fa_gr (own := RX8) (ref := "CoastlineRulerModel") (k := 22) hx hb hB inB_RX8 hown hI rfl (by decide) m_1553 (fun _ h9 => h9) ev1 dX8_tellPoint_1 ?_
  refine lv_iconst (v := (2 : Int32)) hx hb dX8_tellPoint_4 (by decide) ?_
  refine lv_iconst (v := (2 : Int32)) hx hb dX8_tellPoint_5 (by decide) ?_
  refine lv_aload_n hx hb dX8_tellPoint_6 rfl (lv_at hl 0 rfl) ?_
  obtain ⟨v2, ev2, hq⟩ := b_s hq
  refine fa_gr (own := RX8) (ref := "CoastlineRulerModel") (k := 22) hx hb hB inB_RX8 hown hI rfl (by decide) m_1553 (fun _ h9 => h9) ev2 dX8_tellPoint_7 ?_
  refine lv_iconst (v := (1 : Int32)) hx hb dX8_tellPoint_10 (by decide) ?_
  obtain ⟨v3, ev3, hq⟩ := b_s hq
  refine fa_li hx hb hI ev3 dX8_tellPoint_11 ?_
  refine lv_imul hx hb dX8_tellPoint_12 ?_
  refine lv_iadd hx hb dX8_tellPoint_13 ?_
  refine lv_iload_n hx hb dX8_tellPoint_14 rfl (lv_at hl 1 rfl) ?_
  obtain ⟨f4, ef4, hq⟩ := b_s hq
  refine fa_si hx hb hI ef4 dX8_tellPoint_15 (fun H locs hI => ?_)
  refine lv_aload_n hx hb dX8_tellPoint_16 rfl (lv_at hl 0 rfl) ?_
  obtain ⟨v5, ev5, hq⟩ := b_s hq
  refine fa_gr (own := RX8) (ref := "CoastlineRulerModel") (k := 22) hx hb hB inB_RX8 hown hI rfl (by decide) m_1553 (fun _ h9 => h9) ev5 dX8_tellPoint_17 ?_
  refine lv_iconst (v := (2 : Int32)) hx hb dX8_tellPoint_20 (by decide) ?_
  refine lv_iconst (v := (2 : Int32)) hx hb dX8_tellPoint_21 (by decide) ?_
  refine lv_aload_n hx hb dX8_tellPoint_22 rfl (lv_at hl 0 rfl) ?_
  obtain ⟨v6, ev6, hq⟩ := b_s hq
  refine fa_gr (own := RX8) (ref := "CoastlineRulerModel") (k := 22) hx hb hB inB_RX8 hown hI rfl (by decide) m_1553 (fun _ h9 => h9) ev6 dX8_tellPoint_23 ?_
  refine lv_iconst (v := (1 : Int32)) hx hb dX8_tellPoint_26 (by decide) ?_
  obtain ⟨v7, ev7, hq⟩ := b_s hq
  refine fa_li hx hb hI ev7 dX8_tellPoint_27 ?_
  refine lv_imul hx hb dX8_tellPoint_28 ?_
  refine lv_iadd hx hb dX8_tellPoint_29 ?_
  refine lv_iconst (v := (1 : Int32)) hx hb dX8_tellPoint_30 (by decide) ?_
  refine lv_iadd hx hb dX8_tellPoint_31 ?_
  refine lv_iload_n hx hb dX8_tellPoint_32 rfl (lv_at hl 2 rfl) ?_
  obtain ⟨f8, ef8, hq⟩ := b_s hq
  refine fa_si hx hb hI ef8 dX8_tellPoint_33 (fun H locs hI => ?_)
  refine lv_aload_n hx hb dX8_tellPoint_34 rfl (lv_at hl 0 rfl) ?_
  obtain ⟨v9, ev9, hq⟩ := b_s hq
  refine fa_gr (own := RX8) (ref := "CoastlineRulerModel") (k := 22) hx hb hB inB_RX8 hown hI rfl (by decide) m_1553 (fun _ h9 => h9) ev9 dX8_tellPoint_35 ?_
  refine lv_iconst (v := (1 : Int32)) hx hb dX8_tellPoint_38 (by decide) ?_
  refine lv_dup2_11 hx hb dX8_tellPoint_39 rfl rfl ?_
  obtain ⟨v10, ev10, hq⟩ := b_s hq
  refine fa_li hx hb hI ev10 dX8_tellPoint_40 ?_
  refine lv_iconst (v := (1 : Int32)) hx hb dX8_tellPoint_41 (by decide) ?_
  refine lv_iadd hx hb dX8_tellPoint_42 ?_
  obtain ⟨f11, ef11, hq⟩ := b_s hq
  refine fa_si hx hb hI ef11 dX8_tellPoint_43 (fun H locs hI => ?_)
  exact ge_Wv hx hb hlocks hr hI (Option.some.inj hq) dX8_tellPoint_44

abbrev rm_X8_init : Room := { frames := 6, cells := 10, slots := 24239, locals := 203 }
theorem k_X8_init : g_CI yX8_init cX8_init 1 0 := ⟨⟨m_1488, m_14, by decide +kernel⟩, rfl, m_1487⟩
set_option maxHeartbeats 4000000 in
set_option maxRecDepth 100000 in
theorem sg_X8_init_5 {p : Program} {l : Launch} {e : Env} {s : State} {m : MethodId} {args : Array Value} {below : List Frame} {meth : Method} {c : Code} {V : Nat → Nat} {g : GH} {D : va_G} {cT : Nat → ClassId} {o : GH × Nat} (hx : p.tables.exec = Jvm.exec) (hb : c.code = cX8_init) (hr : meth.sig.returnType = none) (hlocks : meth.locks = false) (hin : meth.name = yX8_init.name) (hC : CallFix p m c cX8_init 1 s args g_B RX8) : ∀ (x0 : Nat) (f : GH) (n : Nat) (H : Heap) (locs : List Loc) (ls : Array Slot), g_at (g_A V) V g D cT f n s H locs → lv_has ls 1 [(0, .ref x0)] → p_X8_init_s5 V g x0 f n = some o → W p l e rm_X8_init s m args below meth c H locs 10 24239 (MQ below (g_Wv V D cT o.1 o.2) args s 10 24239 (g_A V)) (F0 m 246 ls []) := by
  intro x0 f n H locs ls hI hl hq
  obtain ⟨_, _, hml, hown, hB⟩ := id hC
  unfold p_X8_init_s5 at hq
  refine lv_aload_n hx hb dX8_init_246 rfl (lv_at hl 0 rfl) ?_
  refine lv_iconst (v := (1 : Int32)) hx hb dX8_init_247 (by decide) ?_
  obtain ⟨v48, ev48, hq⟩ := b_s hq
  refine gw_v (g_runV (As := [.int (1 : Int32)]) (rest := []) (ci := 10) hC (c_X8_startCoast l V g D cT f n x0 (1 : Int32) v48 ev48) k_X8_startCoast m_1503 rfl rfl ⟨Nat.le_of_ble_eq_true rfl, Nat.le_of_ble_eq_true rfl⟩ hI rfl rfl (h_me_eq ev48).1 rfl hl.1 rfl (Nat.le_of_ble_eq_true rfl) dX8_init_248 ⟨by decide, by decide⟩) hI (fun H locs hI => ?_)
  refine lv_aload_n hx hb dX8_init_251 rfl (lv_at hl 0 rfl) ?_
  refine lv_bipush (v := (35 : Int32)) hx hb dX8_init_252 (by decide) ?_
  refine lv_iconst (v := (5 : Int32)) hx hb dX8_init_254 (by decide) ?_
  obtain ⟨v49, ev49, hq⟩ := b_s hq
  refine gw_v (g_runV (As := [.int (35 : Int32), .int (5 : Int32)]) (rest := []) (ci := 10) hC (c_X8_tellPoint l V g D cT v48 n x0 (35 : Int32) (5 : Int32) v49 ev49) k_X8_tellPoint m_1507 rfl rfl ⟨Nat.le_of_ble_eq_true rfl, Nat.le_of_ble_eq_true rfl⟩ hI rfl rfl (h_me_eq ev49).1 rfl hl.1 rfl (Nat.le_of_ble_eq_true rfl) dX8_init_255 ⟨by decide, by decide⟩) hI (fun H locs hI => ?_)
  refine lv_aload_n hx hb dX8_init_258 rfl (lv_at hl 0 rfl) ?_
  refine lv_bipush (v := (45 : Int32)) hx hb dX8_init_259 (by decide) ?_
  refine lv_iconst (v := (5 : Int32)) hx hb dX8_init_261 (by decide) ?_
  obtain ⟨v50, ev50, hq⟩ := b_s hq
  refine gw_v (g_runV (As := [.int (45 : Int32), .int (5 : Int32)]) (rest := []) (ci := 10) hC (c_X8_tellPoint l V g D cT v49 n x0 (45 : Int32) (5 : Int32) v50 ev50) k_X8_tellPoint m_1507 rfl rfl ⟨Nat.le_of_ble_eq_true rfl, Nat.le_of_ble_eq_true rfl⟩ hI rfl rfl (h_me_eq ev50).1 rfl hl.1 rfl (Nat.le_of_ble_eq_true rfl) dX8_init_262 ⟨by decide, by decide⟩) hI (fun H locs hI => ?_)
  refine lv_aload_n hx hb dX8_init_265 rfl (lv_at hl 0 rfl) ?_
  refine lv_bipush (v := (40 : Int32)) hx hb dX8_init_266 (by decide) ?_
  refine lv_bipush (v := (15 : Int32)) hx hb dX8_init_268 (by decide) ?_
  obtain ⟨v51, ev51, hq⟩ := b_s hq
  refine gw_v (g_runV (As := [.int (40 : Int32), .int (15 : Int32)]) (rest := []) (ci := 10) hC (c_X8_tellPoint l V g D cT v50 n x0 (40 : Int32) (15 : Int32) v51 ev51) k_X8_tellPoint m_1507 rfl rfl ⟨Nat.le_of_ble_eq_true rfl, Nat.le_of_ble_eq_true rfl⟩ hI rfl rfl (h_me_eq ev51).1 rfl hl.1 rfl (Nat.le_of_ble_eq_true rfl) dX8_init_270 ⟨by decide, by decide⟩) hI (fun H locs hI => ?_)
  refine lv_aload_n hx hb dX8_init_273 rfl (lv_at hl 0 rfl) ?_
  obtain ⟨v52, ev52, hq⟩ := b_s hq
  refine gw_v (g_runV (As := []) (rest := []) (ci := 10) hC (c_X8_layTold l V g D cT v51 n x0 v52 ev52) k_X8_layTold m_1511 rfl rfl ⟨Nat.le_of_ble_eq_true rfl, Nat.le_of_ble_eq_true rfl⟩ hI rfl rfl (h_me_eq ev52).1 rfl hl.1 rfl (Nat.le_of_ble_eq_true rfl) dX8_init_274 ⟨by decide, by decide⟩) hI (fun H locs hI => ?_)
  refine lv_aload_n hx hb dX8_init_277 rfl (lv_at hl 0 rfl) ?_
  obtain ⟨v53, ev53, hq⟩ := b_s hq
  refine gw_v (g_runV (As := []) (rest := []) (ci := 10) hC (c_X8_restartLedgers l V g D cT v52 n x0 v53 ev53) k_X8_restartLedgers m_1519 rfl rfl ⟨Nat.le_of_ble_eq_true rfl, Nat.le_of_ble_eq_true rfl⟩ hI rfl rfl (h_me_eq ev53).1 rfl hl.1 rfl (Nat.le_of_ble_eq_true rfl) dX8_init_278 ⟨by decide, by decide⟩) hI (fun H locs hI => ?_)
  obtain rfl := Option.some.inj hq
  exact ge_Wv hx hb hlocks hr hI rfl dX8_init_281

set_option maxHeartbeats 4000000 in
set_option maxRecDepth 100000 in
theorem sg_X8_init_4 {p : Program} {l : Launch} {e : Env} {s : State} {m : MethodId} {args : Array Value} {below : List Frame} {meth : Method} {c : Code} {V : Nat → Nat} {g : GH} {D : va_G} {cT : Nat → ClassId} {o : GH × Nat} (hx : p.tables.exec = Jvm.exec) (hb : c.code = cX8_init) (hr : meth.sig.returnType = none) (hlocks : meth.locks = false) (hin : meth.name = yX8_init.name) (hC : CallFix p m c cX8_init 1 s args g_B RX8) : ∀ (x0 : Nat) (f : GH) (n : Nat) (H : Heap) (locs : List Loc) (ls : Array Slot), g_at (g_A V) V g D cT f n s H locs → lv_has ls 1 [(0, .ref x0)] → p_X8_init_s4 V g x0 f n = some o → W p l e rm_X8_init s m args below meth c H locs 10 24239 (MQ below (g_Wv V D cT o.1 o.2) args s 10 24239 (g_A V)) (F0 m 203 ls []) := by
  intro x0 f n H locs ls hI hl hq
  obtain ⟨_, _, hml, hown, hB⟩ := id hC
  unfold p_X8_init_s4 at hq
  refine lv_aload_n hx hb dX8_init_203 rfl (lv_at hl 0 rfl) ?_
  obtain ⟨v41, ev41, hq⟩ := b_s hq
  refine gw_v (g_runV (As := []) (rest := []) (ci := 10) hC (c_X8_layTold l V g D cT f n x0 v41 ev41) k_X8_layTold m_1511 rfl rfl ⟨Nat.le_of_ble_eq_true rfl, Nat.le_of_ble_eq_true rfl⟩ hI rfl rfl (h_me_eq ev41).1 rfl hl.1 rfl (Nat.le_of_ble_eq_true rfl) dX8_init_204 ⟨by decide, by decide⟩) hI (fun H locs hI => ?_)
  refine lv_aload_n hx hb dX8_init_207 rfl (lv_at hl 0 rfl) ?_
  refine lv_iconst (v := (1 : Int32)) hx hb dX8_init_208 (by decide) ?_
  obtain ⟨v42, ev42, hq⟩ := b_s hq
  refine gw_v (g_runV (As := [.int (1 : Int32)]) (rest := []) (ci := 10) hC (c_X8_startCoast l V g D cT v41 n x0 (1 : Int32) v42 ev42) k_X8_startCoast m_1503 rfl rfl ⟨Nat.le_of_ble_eq_true rfl, Nat.le_of_ble_eq_true rfl⟩ hI rfl rfl (h_me_eq ev42).1 rfl hl.1 rfl (Nat.le_of_ble_eq_true rfl) dX8_init_209 ⟨by decide, by decide⟩) hI (fun H locs hI => ?_)
  refine lv_aload_n hx hb dX8_init_212 rfl (lv_at hl 0 rfl) ?_
  refine lv_bipush (v := (30 : Int32)) hx hb dX8_init_213 (by decide) ?_
  refine lv_iconst (v := (0 : Int32)) hx hb dX8_init_215 (by decide) ?_
  obtain ⟨v43, ev43, hq⟩ := b_s hq
  refine gw_v (g_runV (As := [.int (30 : Int32), .int (0 : Int32)]) (rest := []) (ci := 10) hC (c_X8_tellPoint l V g D cT v42 n x0 (30 : Int32) (0 : Int32) v43 ev43) k_X8_tellPoint m_1507 rfl rfl ⟨Nat.le_of_ble_eq_true rfl, Nat.le_of_ble_eq_true rfl⟩ hI rfl rfl (h_me_eq ev43).1 rfl hl.1 rfl (Nat.le_of_ble_eq_true rfl) dX8_init_216 ⟨by decide, by decide⟩) hI (fun H locs hI => ?_)
  refine lv_aload_n hx hb dX8_init_219 rfl (lv_at hl 0 rfl) ?_
  refine lv_bipush (v := (50 : Int32)) hx hb dX8_init_220 (by decide) ?_
  refine lv_iconst (v := (0 : Int32)) hx hb dX8_init_222 (by decide) ?_
  obtain ⟨v44, ev44, hq⟩ := b_s hq
  refine gw_v (g_runV (As := [.int (50 : Int32), .int (0 : Int32)]) (rest := []) (ci := 10) hC (c_X8_tellPoint l V g D cT v43 n x0 (50 : Int32) (0 : Int32) v44 ev44) k_X8_tellPoint m_1507 rfl rfl ⟨Nat.le_of_ble_eq_true rfl, Nat.le_of_ble_eq_true rfl⟩ hI rfl rfl (h_me_eq ev44).1 rfl hl.1 rfl (Nat.le_of_ble_eq_true rfl) dX8_init_223 ⟨by decide, by decide⟩) hI (fun H locs hI => ?_)
  refine lv_aload_n hx hb dX8_init_226 rfl (lv_at hl 0 rfl) ?_
  refine lv_bipush (v := (50 : Int32)) hx hb dX8_init_227 (by decide) ?_
  refine lv_bipush (v := (20 : Int32)) hx hb dX8_init_229 (by decide) ?_
  obtain ⟨v45, ev45, hq⟩ := b_s hq
  refine gw_v (g_runV (As := [.int (50 : Int32), .int (20 : Int32)]) (rest := []) (ci := 10) hC (c_X8_tellPoint l V g D cT v44 n x0 (50 : Int32) (20 : Int32) v45 ev45) k_X8_tellPoint m_1507 rfl rfl ⟨Nat.le_of_ble_eq_true rfl, Nat.le_of_ble_eq_true rfl⟩ hI rfl rfl (h_me_eq ev45).1 rfl hl.1 rfl (Nat.le_of_ble_eq_true rfl) dX8_init_231 ⟨by decide, by decide⟩) hI (fun H locs hI => ?_)
  refine lv_aload_n hx hb dX8_init_234 rfl (lv_at hl 0 rfl) ?_
  refine lv_bipush (v := (30 : Int32)) hx hb dX8_init_235 (by decide) ?_
  refine lv_bipush (v := (20 : Int32)) hx hb dX8_init_237 (by decide) ?_
  obtain ⟨v46, ev46, hq⟩ := b_s hq
  refine gw_v (g_runV (As := [.int (30 : Int32), .int (20 : Int32)]) (rest := []) (ci := 10) hC (c_X8_tellPoint l V g D cT v45 n x0 (30 : Int32) (20 : Int32) v46 ev46) k_X8_tellPoint m_1507 rfl rfl ⟨Nat.le_of_ble_eq_true rfl, Nat.le_of_ble_eq_true rfl⟩ hI rfl rfl (h_me_eq ev46).1 rfl hl.1 rfl (Nat.le_of_ble_eq_true rfl) dX8_init_239 ⟨by decide, by decide⟩) hI (fun H locs hI => ?_)
  refine lv_aload_n hx hb dX8_init_242 rfl (lv_at hl 0 rfl) ?_
  obtain ⟨v47, ev47, hq⟩ := b_s hq
  refine gw_v (g_runV (As := []) (rest := []) (ci := 10) hC (c_X8_layTold l V g D cT v46 n x0 v47 ev47) k_X8_layTold m_1511 rfl rfl ⟨Nat.le_of_ble_eq_true rfl, Nat.le_of_ble_eq_true rfl⟩ hI rfl rfl (h_me_eq ev47).1 rfl hl.1 rfl (Nat.le_of_ble_eq_true rfl) dX8_init_243 ⟨by decide, by decide⟩) hI (fun H locs hI => ?_)
  exact sg_X8_init_5 hx hb hr hlocks hin hC x0 v47 n H locs ls hI (lv_sub hl [0] rfl) hq

set_option maxHeartbeats 4000000 in
set_option maxRecDepth 100000 in
theorem sg_X8_init_3 {p : Program} {l : Launch} {e : Env} {s : State} {m : MethodId} {args : Array Value} {below : List Frame} {meth : Method} {c : Code} {V : Nat → Nat} {g : GH} {D : va_G} {cT : Nat → ClassId} {o : GH × Nat} (hx : p.tables.exec = Jvm.exec) (hb : c.code = cX8_init) (hr : meth.sig.returnType = none) (hlocks : meth.locks = false) (hin : meth.name = yX8_init.name) (hC : CallFix p m c cX8_init 1 s args g_B RX8) : ∀ (x0 : Nat) (f : GH) (n : Nat) (H : Heap) (locs : List Loc) (ls : Array Slot), g_at (g_A V) V g D cT f n s H locs → lv_has ls 1 [(0, .ref x0)] → p_X8_init_s3 V g x0 f n = some o → W p l e rm_X8_init s m args below meth c H locs 10 24239 (MQ below (g_Wv V D cT o.1 o.2) args s 10 24239 (g_A V)) (F0 m 165 ls []) := by
  intro x0 f n H locs ls hI hl hq
  obtain ⟨_, _, hml, hown, hB⟩ := id hC
  unfold p_X8_init_s3 at hq
  refine lv_aload_n hx hb dX8_init_165 rfl (lv_at hl 0 rfl) ?_
  refine lv_iconst (v := (0 : Int32)) hx hb dX8_init_166 (by decide) ?_
  obtain ⟨v35, ev35, hq⟩ := b_s hq
  refine gw_v (g_runV (As := [.int (0 : Int32)]) (rest := []) (ci := 10) hC (c_X8_startCoast l V g D cT f n x0 (0 : Int32) v35 ev35) k_X8_startCoast m_1503 rfl rfl ⟨Nat.le_of_ble_eq_true rfl, Nat.le_of_ble_eq_true rfl⟩ hI rfl rfl (h_me_eq ev35).1 rfl hl.1 rfl (Nat.le_of_ble_eq_true rfl) dX8_init_167 ⟨by decide, by decide⟩) hI (fun H locs hI => ?_)
  refine lv_aload_n hx hb dX8_init_170 rfl (lv_at hl 0 rfl) ?_
  refine lv_iconst (v := (0 : Int32)) hx hb dX8_init_171 (by decide) ?_
  refine lv_iconst (v := (0 : Int32)) hx hb dX8_init_172 (by decide) ?_
  obtain ⟨v36, ev36, hq⟩ := b_s hq
  refine gw_v (g_runV (As := [.int (0 : Int32), .int (0 : Int32)]) (rest := []) (ci := 10) hC (c_X8_tellPoint l V g D cT v35 n x0 (0 : Int32) (0 : Int32) v36 ev36) k_X8_tellPoint m_1507 rfl rfl ⟨Nat.le_of_ble_eq_true rfl, Nat.le_of_ble_eq_true rfl⟩ hI rfl rfl (h_me_eq ev36).1 rfl hl.1 rfl (Nat.le_of_ble_eq_true rfl) dX8_init_173 ⟨by decide, by decide⟩) hI (fun H locs hI => ?_)
  refine lv_aload_n hx hb dX8_init_176 rfl (lv_at hl 0 rfl) ?_
  refine lv_iconst (v := (4 : Int32)) hx hb dX8_init_177 (by decide) ?_
  refine lv_iconst (v := (3 : Int32)) hx hb dX8_init_178 (by decide) ?_
  obtain ⟨v37, ev37, hq⟩ := b_s hq
  refine gw_v (g_runV (As := [.int (4 : Int32), .int (3 : Int32)]) (rest := []) (ci := 10) hC (c_X8_tellPoint l V g D cT v36 n x0 (4 : Int32) (3 : Int32) v37 ev37) k_X8_tellPoint m_1507 rfl rfl ⟨Nat.le_of_ble_eq_true rfl, Nat.le_of_ble_eq_true rfl⟩ hI rfl rfl (h_me_eq ev37).1 rfl hl.1 rfl (Nat.le_of_ble_eq_true rfl) dX8_init_179 ⟨by decide, by decide⟩) hI (fun H locs hI => ?_)
  refine lv_aload_n hx hb dX8_init_182 rfl (lv_at hl 0 rfl) ?_
  refine lv_bipush (v := (8 : Int32)) hx hb dX8_init_183 (by decide) ?_
  refine lv_iconst (v := (0 : Int32)) hx hb dX8_init_185 (by decide) ?_
  obtain ⟨v38, ev38, hq⟩ := b_s hq
  refine gw_v (g_runV (As := [.int (8 : Int32), .int (0 : Int32)]) (rest := []) (ci := 10) hC (c_X8_tellPoint l V g D cT v37 n x0 (8 : Int32) (0 : Int32) v38 ev38) k_X8_tellPoint m_1507 rfl rfl ⟨Nat.le_of_ble_eq_true rfl, Nat.le_of_ble_eq_true rfl⟩ hI rfl rfl (h_me_eq ev38).1 rfl hl.1 rfl (Nat.le_of_ble_eq_true rfl) dX8_init_186 ⟨by decide, by decide⟩) hI (fun H locs hI => ?_)
  refine lv_aload_n hx hb dX8_init_189 rfl (lv_at hl 0 rfl) ?_
  refine lv_bipush (v := (12 : Int32)) hx hb dX8_init_190 (by decide) ?_
  refine lv_iconst (v := (5 : Int32)) hx hb dX8_init_192 (by decide) ?_
  obtain ⟨v39, ev39, hq⟩ := b_s hq
  refine gw_v (g_runV (As := [.int (12 : Int32), .int (5 : Int32)]) (rest := []) (ci := 10) hC (c_X8_tellPoint l V g D cT v38 n x0 (12 : Int32) (5 : Int32) v39 ev39) k_X8_tellPoint m_1507 rfl rfl ⟨Nat.le_of_ble_eq_true rfl, Nat.le_of_ble_eq_true rfl⟩ hI rfl rfl (h_me_eq ev39).1 rfl hl.1 rfl (Nat.le_of_ble_eq_true rfl) dX8_init_193 ⟨by decide, by decide⟩) hI (fun H locs hI => ?_)
  refine lv_aload_n hx hb dX8_init_196 rfl (lv_at hl 0 rfl) ?_
  refine lv_bipush (v := (20 : Int32)) hx hb dX8_init_197 (by decide) ?_
  refine lv_iconst (v := (5 : Int32)) hx hb dX8_init_199 (by decide) ?_
  obtain ⟨v40, ev40, hq⟩ := b_s hq
  refine gw_v (g_runV (As := [.int (20 : Int32), .int (5 : Int32)]) (rest := []) (ci := 10) hC (c_X8_tellPoint l V g D cT v39 n x0 (20 : Int32) (5 : Int32) v40 ev40) k_X8_tellPoint m_1507 rfl rfl ⟨Nat.le_of_ble_eq_true rfl, Nat.le_of_ble_eq_true rfl⟩ hI rfl rfl (h_me_eq ev40).1 rfl hl.1 rfl (Nat.le_of_ble_eq_true rfl) dX8_init_200 ⟨by decide, by decide⟩) hI (fun H locs hI => ?_)
  exact sg_X8_init_4 hx hb hr hlocks hin hC x0 v40 n H locs ls hI (lv_sub hl [0] rfl) hq

set_option maxHeartbeats 4000000 in
set_option maxRecDepth 100000 in
theorem sg_X8_init_2 {p : Program} {l : Launch} {e : Env} {s : State} {m : MethodId} {args : Array Value} {below : List Frame} {meth : Method} {c : Code} {V : Nat → Nat} {g : GH} {D : va_G} {cT : Nat → ClassId} {o : GH × Nat} (hx : p.tables.exec = Jvm.exec) (hb : c.code = cX8_init) (hr : meth.sig.returnType = none) (hlocks : meth.locks = false) (hin : meth.name = yX8_init.name) (hC : CallFix p m c cX8_init 1 s args g_B RX8) : ∀ (x0 : Nat) (f : GH) (n : Nat) (H : Heap) (locs : List Loc) (ls : Array Slot), g_at (g_A V) V g D cT f n s H locs → lv_has ls 1 [(0, .ref x0)] → p_X8_init_s2 V g x0 f n = some o → W p l e rm_X8_init s m args below meth c H locs 9 24228 (MQ below (g_Wv V D cT o.1 o.2) args s 10 24239 (g_A V)) (F0 m 96 ls []) := by
  intro x0 f n H locs ls hI hl hq
  obtain ⟨_, _, hml, hown, hB⟩ := id hC
  unfold p_X8_init_s2 at hq
  refine lv_aload_n hx hb dX8_init_96 rfl (lv_at hl 0 rfl) ?_
  refine lv_bipush (v := (11 : Int32)) hx hb dX8_init_97 (by decide) ?_
  obtain ⟨f22, ef22, hq⟩ := b_s hq
  refine fa_newq (N := 11) (t := 7) (own := RX8) hx hb hown (hB _ m_1490) (g_aox hI (i := 3) rfl) (by decide) rfl hI (by decide) (by decide +kernel) (by decide +kernel) (by decide) (by decide) ef22 dX8_init_99 (fun H locs hI => ?_)
  refine lv_dup hx hb dX8_init_102 rfl ?_
  refine lv_iconst (v := (0 : Int32)) hx hb dX8_init_103 (by decide) ?_
  refine lv_ldcS hx hb hown (g_rtq hI rt_20) dX8_init_104 ?_
  obtain ⟨f23, ef23, hq⟩ := b_s hq
  refine fa_sqs hx hb hI ef23 dX8_init_106 (fun H locs hI => ?_)
  refine lv_dup hx hb dX8_init_107 rfl ?_
  refine lv_iconst (v := (1 : Int32)) hx hb dX8_init_108 (by decide) ?_
  refine lv_ldcS hx hb hown (g_rtq hI rt_21) dX8_init_109 ?_
  obtain ⟨f24, ef24, hq⟩ := b_s hq
  refine fa_sqs hx hb hI ef24 dX8_init_111 (fun H locs hI => ?_)
  refine lv_dup hx hb dX8_init_112 rfl ?_
  refine lv_iconst (v := (2 : Int32)) hx hb dX8_init_113 (by decide) ?_
  refine lv_ldcS hx hb hown (g_rtq hI rt_22) dX8_init_114 ?_
  obtain ⟨f25, ef25, hq⟩ := b_s hq
  refine fa_sqs hx hb hI ef25 dX8_init_116 (fun H locs hI => ?_)
  refine lv_dup hx hb dX8_init_117 rfl ?_
  refine lv_iconst (v := (3 : Int32)) hx hb dX8_init_118 (by decide) ?_
  refine lv_ldcS hx hb hown (g_rtq hI rt_23) dX8_init_119 ?_
  obtain ⟨f26, ef26, hq⟩ := b_s hq
  refine fa_sqs hx hb hI ef26 dX8_init_121 (fun H locs hI => ?_)
  refine lv_dup hx hb dX8_init_122 rfl ?_
  refine lv_iconst (v := (4 : Int32)) hx hb dX8_init_123 (by decide) ?_
  refine lv_ldcS hx hb hown (g_rtq hI rt_24) dX8_init_124 ?_
  obtain ⟨f27, ef27, hq⟩ := b_s hq
  refine fa_sqs hx hb hI ef27 dX8_init_126 (fun H locs hI => ?_)
  refine lv_dup hx hb dX8_init_127 rfl ?_
  refine lv_iconst (v := (5 : Int32)) hx hb dX8_init_128 (by decide) ?_
  refine lv_ldcS hx hb hown (g_rtq hI rt_25) dX8_init_129 ?_
  obtain ⟨f28, ef28, hq⟩ := b_s hq
  refine fa_sqs hx hb hI ef28 dX8_init_131 (fun H locs hI => ?_)
  refine lv_dup hx hb dX8_init_132 rfl ?_
  refine lv_bipush (v := (6 : Int32)) hx hb dX8_init_133 (by decide) ?_
  refine lv_ldcS hx hb hown (g_rtq hI rt_26) dX8_init_135 ?_
  obtain ⟨f29, ef29, hq⟩ := b_s hq
  refine fa_sqs hx hb hI ef29 dX8_init_137 (fun H locs hI => ?_)
  refine lv_dup hx hb dX8_init_138 rfl ?_
  refine lv_bipush (v := (7 : Int32)) hx hb dX8_init_139 (by decide) ?_
  refine lv_ldcS hx hb hown (g_rtq hI rt_27) dX8_init_141 ?_
  obtain ⟨f30, ef30, hq⟩ := b_s hq
  refine fa_sqs hx hb hI ef30 dX8_init_143 (fun H locs hI => ?_)
  refine lv_dup hx hb dX8_init_144 rfl ?_
  refine lv_bipush (v := (8 : Int32)) hx hb dX8_init_145 (by decide) ?_
  refine lv_ldcS hx hb hown (g_rtq hI rt_28) dX8_init_147 ?_
  obtain ⟨f31, ef31, hq⟩ := b_s hq
  refine fa_sqs hx hb hI ef31 dX8_init_149 (fun H locs hI => ?_)
  refine lv_dup hx hb dX8_init_150 rfl ?_
  refine lv_bipush (v := (9 : Int32)) hx hb dX8_init_151 (by decide) ?_
  refine lv_ldcS hx hb hown (g_rtq hI rt_29) dX8_init_153 ?_
  obtain ⟨f32, ef32, hq⟩ := b_s hq
  refine fa_sqs hx hb hI ef32 dX8_init_155 (fun H locs hI => ?_)
  refine lv_dup hx hb dX8_init_156 rfl ?_
  refine lv_bipush (v := (10 : Int32)) hx hb dX8_init_157 (by decide) ?_
  refine lv_ldcS hx hb hown (g_rtq hI rt_30) dX8_init_159 ?_
  obtain ⟨f33, ef33, hq⟩ := b_s hq
  refine fa_sqs hx hb hI ef33 dX8_init_161 (fun H locs hI => ?_)
  obtain ⟨f34, ef34, hq⟩ := b_s hq
  refine fa_ptF (own := RX8) (ref := "CoastlineRulerModel") (k := 24) hx hb hB inB_RX8 tyX8_ok nmX8 hown hI rfl (by decide) m_1555 (fun _ h9 => h9) (by decide) hin (by decide) rfl rfl ef34 dX8_init_162 (fun H locs hI => ?_)
  exact sg_X8_init_3 hx hb hr hlocks hin hC x0 f34 (n + 1) H locs ls hI (lv_sub hl [0] rfl) hq

set_option maxHeartbeats 4000000 in
set_option maxRecDepth 100000 in
theorem sg_X8_init_1 {p : Program} {l : Launch} {e : Env} {s : State} {m : MethodId} {args : Array Value} {below : List Frame} {meth : Method} {c : Code} {V : Nat → Nat} {g : GH} {D : va_G} {cT : Nat → ClassId} {o : GH × Nat} (hx : p.tables.exec = Jvm.exec) (hb : c.code = cX8_init) (hr : meth.sig.returnType = none) (hlocks : meth.locks = false) (hin : meth.name = yX8_init.name) (hC : CallFix p m c cX8_init 1 s args g_B RX8) : ∀ (x0 : Nat) (f : GH) (n : Nat) (H : Heap) (locs : List Loc) (ls : Array Slot), g_at (g_A V) V g D cT f n s H locs → lv_has ls 1 [(0, .ref x0)] → p_X8_init_s1 V g x0 f n = some o → W p l e rm_X8_init s m args below meth c H locs 5 21900 (MQ below (g_Wv V D cT o.1 o.2) args s 10 24239 (g_A V)) (F0 m 49 ls []) := by
  intro x0 f n H locs ls hI hl hq
  obtain ⟨_, _, hml, hown, hB⟩ := id hC
  unfold p_X8_init_s1 at hq
  refine lv_aload_n hx hb dX8_init_49 rfl (lv_at hl 0 rfl) ?_
  refine lv_aload_n hx hb dX8_init_50 rfl (lv_at hl 0 rfl) ?_
  obtain ⟨v11, ev11, hq⟩ := b_s hq
  refine fa_gr (own := RX8) (ref := "CoastlineRulerModel") (k := 0) hx hb hB inB_RX8 hown hI rfl (by decide) m_1531 (fun _ h9 => h9) ev11 dX8_init_51 ?_
  obtain ⟨f12, ef12, hq⟩ := b_s hq
  refine fa_pt (own := RX8) (ref := "CoastlineRulerModel") (k := 5) hx hb hB inB_RX8 tyX8_ok nmX8 hown hI rfl (by decide) m_1536 (fun _ h9 => h9) (by decide) rfl rfl ef12 dX8_init_54 (fun H locs hI => ?_)
  refine lv_aload_n hx hb dX8_init_57 rfl (lv_at hl 0 rfl) ?_
  refine lv_bipush (v := (100 : Int32)) hx hb dX8_init_58 (by decide) ?_
  obtain ⟨f13, ef13, hq⟩ := b_s hq
  refine fa_newa (atype := .int) (N := 100) (t := 0) hx hb hB m_74 rfl (by decide) hI (fun _ => rfl) (by decide) (by decide +kernel) (by decide +kernel) (by decide) (by decide) ef13 dX8_init_60 (fun H locs hI => ?_)
  obtain ⟨f14, ef14, hq⟩ := b_s hq
  refine fa_ptF (own := RX8) (ref := "CoastlineRulerModel") (k := 10) hx hb hB inB_RX8 tyX8_ok nmX8 hown hI rfl (by decide) m_1541 (fun _ h9 => h9) (by decide) hin (by decide) rfl rfl ef14 dX8_init_62 (fun H locs hI => ?_)
  refine lv_aload_n hx hb dX8_init_65 rfl (lv_at hl 0 rfl) ?_
  refine lv_sipush (v := (700 : Int32)) hx hb dX8_init_66 (by decide) ?_
  obtain ⟨f15, ef15, hq⟩ := b_s hq
  refine fa_newa (atype := .int) (N := 700) (t := 0) hx hb hB m_74 rfl (by decide) hI (fun _ => rfl) (by decide) (by decide +kernel) (by decide +kernel) (by decide) (by decide) ef15 dX8_init_69 (fun H locs hI => ?_)
  obtain ⟨f16, ef16, hq⟩ := b_s hq
  refine fa_ptF (own := RX8) (ref := "CoastlineRulerModel") (k := 12) hx hb hB inB_RX8 tyX8_ok nmX8 hown hI rfl (by decide) m_1543 (fun _ h9 => h9) (by decide) hin (by decide) rfl rfl ef16 dX8_init_71 (fun H locs hI => ?_)
  refine lv_aload_n hx hb dX8_init_74 rfl (lv_at hl 0 rfl) ?_
  refine lv_iconst (v := (-1 : Int32)) hx hb dX8_init_75 (by decide) ?_
  obtain ⟨f17, ef17, hq⟩ := b_s hq
  refine fa_pt (own := RX8) (ref := "CoastlineRulerModel") (k := 20) hx hb hB inB_RX8 tyX8_ok nmX8 hown hI rfl (by decide) m_1551 (fun _ h9 => h9) (by decide) rfl rfl ef17 dX8_init_76 (fun H locs hI => ?_)
  refine lv_aload_n hx hb dX8_init_79 rfl (lv_at hl 0 rfl) ?_
  refine lv_bipush (v := (68 : Int32)) hx hb dX8_init_80 (by decide) ?_
  obtain ⟨f18, ef18, hq⟩ := b_s hq
  refine fa_newa (atype := .int) (N := 68) (t := 0) hx hb hB m_74 rfl (by decide) hI (fun _ => rfl) (by decide) (by decide +kernel) (by decide +kernel) (by decide) (by decide) ef18 dX8_init_82 (fun H locs hI => ?_)
  obtain ⟨f19, ef19, hq⟩ := b_s hq
  refine fa_ptF (own := RX8) (ref := "CoastlineRulerModel") (k := 22) hx hb hB inB_RX8 tyX8_ok nmX8 hown hI rfl (by decide) m_1553 (fun _ h9 => h9) (by decide) hin (by decide) rfl rfl ef19 dX8_init_84 (fun H locs hI => ?_)
  refine lv_aload_n hx hb dX8_init_87 rfl (lv_at hl 0 rfl) ?_
  refine lv_sipush (v := (1460 : Int32)) hx hb dX8_init_88 (by decide) ?_
  obtain ⟨f20, ef20, hq⟩ := b_s hq
  refine fa_newa (atype := .int) (N := 1460) (t := 0) hx hb hB m_74 rfl (by decide) hI (fun _ => rfl) (by decide) (by decide +kernel) (by decide +kernel) (by decide) (by decide) ef20 dX8_init_91 (fun H locs hI => ?_)
  obtain ⟨f21, ef21, hq⟩ := b_s hq
  refine fa_ptF (own := RX8) (ref := "CoastlineRulerModel") (k := 23) hx hb hB inB_RX8 tyX8_ok nmX8 hown hI rfl (by decide) m_1554 (fun _ h9 => h9) (by decide) hin (by decide) rfl rfl ef21 dX8_init_93 (fun H locs hI => ?_)
  exact sg_X8_init_2 hx hb hr hlocks hin hC x0 f21 (n + 4) H locs ls hI (lv_sub hl [0] rfl) hq

set_option maxHeartbeats 4000000 in
set_option maxRecDepth 100000 in
theorem c_X8_init (l : Launch) (V : Nat → Nat) (g : GH) (D : va_G) (cT : Nat → ClassId) (f : GH) (n : Nat) (a0 : Nat) (o : GH × Nat) (hq : p_X8_init V g f n a0 = some o) : Met l yX8_init (Cond.code yX8_init cX8_init 1 none :: g_B) rm_X8_init (va_Pc [.ref a0] (g_I V g D cT f n)) (g_Wv V D cT o.1 o.2) 10 24239 (g_A V) := by
  refine g_begin (own := RX8) [.ref a0] [(0, .ref a0)] (g_A V) (fun _ h => h) (by decide) rfl (Nat.le_of_ble_eq_true rfl) rfl ?_
  intro p e s m args below meth c hx hb hr hlocks hin hC hI ls hl
  obtain ⟨hx, hb, hml, hown, hB⟩ := id hC
  obtain ⟨H, hH⟩ : ∃ H, H = s.heap := ⟨_, rfl⟩
  obtain ⟨locs, hlocs⟩ : ∃ L : List Loc, L = [] := ⟨_, rfl⟩
  rw [← hH, ← hlocs] at hI ⊢
  clear hH hlocs
  unfold p_X8_init at hq
  replace hq := (h_me_eq hq).2
  refine lv_aload_n hx hb dX8_init_0 rfl (lv_at hl 0 rfl) ?_
  refine W.objInit hx hb hown (hB _ m_1489) (hB _ m_36) (hB _ m_37) rfl (by rw [hml]; exact hl.1) rfl dX8_init_1 (Nat.le_of_ble_eq_true rfl) (Nat.le_of_ble_eq_true rfl) ?_
  refine W.eq (g2 := F0 m 4 ls []) rfl ?_
  refine lv_aload_n hx hb dX8_init_4 rfl (lv_at hl 0 rfl) ?_
  refine lv_sipush (v := (1825 : Int32)) hx hb dX8_init_5 (by decide) ?_
  obtain ⟨f1, ef1, hq⟩ := b_s hq
  refine fa_newa (atype := .int) (N := 1825) (t := 0) hx hb hB m_74 rfl (by decide) hI (fun _ => rfl) (by decide) (by decide +kernel) (by decide +kernel) (by decide) (by decide) ef1 dX8_init_8 (fun H locs hI => ?_)
  obtain ⟨f2, ef2, hq⟩ := b_s hq
  refine fa_ptF (own := RX8) (ref := "CoastlineRulerModel") (k := 0) hx hb hB inB_RX8 tyX8_ok nmX8 hown hI rfl (by decide) m_1531 (fun _ h9 => h9) (by decide) hin (by decide) rfl rfl ef2 dX8_init_10 (fun H locs hI => ?_)
  refine lv_aload_n hx hb dX8_init_13 rfl (lv_at hl 0 rfl) ?_
  refine lv_sipush (v := (1825 : Int32)) hx hb dX8_init_14 (by decide) ?_
  obtain ⟨f3, ef3, hq⟩ := b_s hq
  refine fa_newa (atype := .int) (N := 1825) (t := 0) hx hb hB m_74 rfl (by decide) hI (fun _ => rfl) (by decide) (by decide +kernel) (by decide +kernel) (by decide) (by decide) ef3 dX8_init_17 (fun H locs hI => ?_)
  obtain ⟨f4, ef4, hq⟩ := b_s hq
  refine fa_ptF (own := RX8) (ref := "CoastlineRulerModel") (k := 1) hx hb hB inB_RX8 tyX8_ok nmX8 hown hI rfl (by decide) m_1532 (fun _ h9 => h9) (by decide) hin (by decide) rfl rfl ef4 dX8_init_19 (fun H locs hI => ?_)
  refine lv_aload_n hx hb dX8_init_22 rfl (lv_at hl 0 rfl) ?_
  refine lv_sipush (v := (1825 : Int32)) hx hb dX8_init_23 (by decide) ?_
  obtain ⟨f5, ef5, hq⟩ := b_s hq
  refine fa_newa (atype := .int) (N := 1825) (t := 0) hx hb hB m_74 rfl (by decide) hI (fun _ => rfl) (by decide) (by decide +kernel) (by decide +kernel) (by decide) (by decide) ef5 dX8_init_26 (fun H locs hI => ?_)
  obtain ⟨f6, ef6, hq⟩ := b_s hq
  refine fa_ptF (own := RX8) (ref := "CoastlineRulerModel") (k := 2) hx hb hB inB_RX8 tyX8_ok nmX8 hown hI rfl (by decide) m_1533 (fun _ h9 => h9) (by decide) hin (by decide) rfl rfl ef6 dX8_init_28 (fun H locs hI => ?_)
  refine lv_aload_n hx hb dX8_init_31 rfl (lv_at hl 0 rfl) ?_
  refine lv_sipush (v := (1825 : Int32)) hx hb dX8_init_32 (by decide) ?_
  obtain ⟨f7, ef7, hq⟩ := b_s hq
  refine fa_newa (atype := .int) (N := 1825) (t := 0) hx hb hB m_74 rfl (by decide) hI (fun _ => rfl) (by decide) (by decide +kernel) (by decide +kernel) (by decide) (by decide) ef7 dX8_init_35 (fun H locs hI => ?_)
  obtain ⟨f8, ef8, hq⟩ := b_s hq
  refine fa_ptF (own := RX8) (ref := "CoastlineRulerModel") (k := 3) hx hb hB inB_RX8 tyX8_ok nmX8 hown hI rfl (by decide) m_1534 (fun _ h9 => h9) (by decide) hin (by decide) rfl rfl ef8 dX8_init_37 (fun H locs hI => ?_)
  refine lv_aload_n hx hb dX8_init_40 rfl (lv_at hl 0 rfl) ?_
  refine lv_sipush (v := (14600 : Int32)) hx hb dX8_init_41 (by decide) ?_
  obtain ⟨f9, ef9, hq⟩ := b_s hq
  refine fa_newa (atype := .int) (N := 14600) (t := 0) hx hb hB m_74 rfl (by decide) hI (fun _ => rfl) (by decide) (by decide +kernel) (by decide +kernel) (by decide) (by decide) ef9 dX8_init_44 (fun H locs hI => ?_)
  obtain ⟨f10, ef10, hq⟩ := b_s hq
  refine fa_ptF (own := RX8) (ref := "CoastlineRulerModel") (k := 4) hx hb hB inB_RX8 tyX8_ok nmX8 hown hI rfl (by decide) m_1535 (fun _ h9 => h9) (by decide) hin (by decide) rfl rfl ef10 dX8_init_46 (fun H locs hI => ?_)
  exact sg_X8_init_1 hx hb hr hlocks hin hC a0 f10 (n + 5) H locs ls hI (lv_sub hl [0] rfl) hq

abbrev rm_X8_thrown : Room := { frames := 2, cells := 0, slots := 0, locals := 120 }
theorem k_X8_thrown : g_CV yX8_thrown cX8_thrown 1 (some .int) 0 := ⟨⟨m_1613, m_14, by decide +kernel⟩, m_1611, m_1612⟩
set_option maxHeartbeats 4000000 in
set_option maxRecDepth 100000 in
theorem c_X8_thrown (l : Launch) (V : Nat → Nat) (g : GH) (D : va_G) (cT : Nat → ClassId) (f : GH) (n : Nat) (a0 : Nat) (o : Int32) (hq : p_X8_thrown V g f a0 = some o) : Met l yX8_thrown (Cond.code yX8_thrown cX8_thrown 1 (some .int) :: g_B) rm_X8_thrown (va_Pc [.ref a0] (g_I V g D cT f n)) (g_Ri o n) 0 0 g_no := by
  refine g_begin (own := RX8) [.ref a0] [(0, .ref a0)] g_no (fun _ h => h.elim) (by decide) rfl (Nat.le_of_ble_eq_true rfl) rfl ?_
  intro p e s m args below meth c hx hb hr hlocks hin hC hI ls hl
  obtain ⟨hx, hb, hml, hown, hB⟩ := id hC
  obtain ⟨H, hH⟩ : ∃ H, H = s.heap := ⟨_, rfl⟩
  obtain ⟨locs, hlocs⟩ : ∃ L : List Loc, L = [] := ⟨_, rfl⟩
  rw [← hH, ← hlocs] at hI ⊢
  clear hH hlocs
  unfold p_X8_thrown at hq
  replace hq := (h_me_eq hq).2
  refine lv_aload_n hx hb dX8_thrown_0 rfl (lv_at hl 0 rfl) ?_
  obtain ⟨v1, ev1, hq⟩ := b_s hq
  refine fa_gi (own := RX8) (ref := "CoastlineRulerModel") (k := 7) hx hb hB inB_RX8 hown hI rfl (by decide) m_1538 (fun _ h9 => h9) ev1 dX8_thrown_1 ?_
  exact ge_Ri hx hb hlocks hr rfl hI hq dX8_thrown_4

abbrev rm_X8_inRange : Room := { frames := 2, cells := 0, slots := 0, locals := 120 }
theorem k_X8_inRange : g_CS yX8_inRange cX8_inRange 3 (some .boolean) 3 := ⟨⟨m_1636, m_14, by decide +kernel⟩, m_1635⟩
set_option maxHeartbeats 4000000 in
set_option maxRecDepth 100000 in
theorem c_X8_inRange (l : Launch) (V : Nat → Nat) (g : GH) (D : va_G) (cT : Nat → ClassId) (f : GH) (n : Nat) (a0 : Int32) (a1 : Int32) (a2 : Int32) (o : Int32) (hq : p_X8_inRange V g f a0 a1 a2 = some o) : Met l yX8_inRange (Cond.code yX8_inRange cX8_inRange 3 (some .boolean) :: g_B) rm_X8_inRange (va_Pc [.int a0, .int a1, .int a2] (g_I V g D cT f n)) (g_Ri o n) 0 0 g_no := by
  refine g_begin (own := RX8) [.int a0, .int a1, .int a2] [(0, .int a0), (1, .int a1), (2, .int a2)] g_no (fun _ h => h.elim) (by decide) rfl (Nat.le_of_ble_eq_true rfl) rfl ?_
  intro p e s m args below meth c hx hb hr hlocks hin hC hI ls hl
  obtain ⟨hx, hb, hml, hown, hB⟩ := id hC
  obtain ⟨H, hH⟩ : ∃ H, H = s.heap := ⟨_, rfl⟩
  obtain ⟨locs, hlocs⟩ : ∃ L : List Loc, L = [] := ⟨_, rfl⟩
  rw [← hH, ← hlocs] at hI ⊢
  clear hH hlocs
  unfold p_X8_inRange at hq
  refine lv_iload_n hx hb dX8_inRange_0 rfl (lv_at hl 0 rfl) ?_
  refine lv_iload_n hx hb dX8_inRange_1 rfl (lv_at hl 1 rfl) ?_
  refine lv_icmp_lt (tgt := 14) hx hb dX8_inRange_2 (by decide) (fun c1 => ?_) (fun c1 => ?_)
  · replace hq := i_t c1 hq
    refine lv_iconst (v := (0 : Int32)) hx hb dX8_inRange_14 (by decide) ?_
    exact ge_Ri hx hb hlocks hr (by decide +kernel) hI hq dX8_inRange_15
  · replace hq := i_f c1 hq
    refine lv_iload_n hx hb dX8_inRange_5 rfl (lv_at hl 0 rfl) ?_
    refine lv_iload_n hx hb dX8_inRange_6 rfl (lv_at hl 2 rfl) ?_
    refine lv_icmp_gt (tgt := 14) hx hb dX8_inRange_7 (by decide) (fun c2 => ?_) (fun c2 => ?_)
    · replace hq := i_t c2 hq
      refine lv_iconst (v := (0 : Int32)) hx hb dX8_inRange_14 (by decide) ?_
      exact ge_Ri hx hb hlocks hr (by decide +kernel) hI hq dX8_inRange_15
    · replace hq := i_f c2 hq
      refine lv_iconst (v := (1 : Int32)) hx hb dX8_inRange_10 (by decide) ?_
      refine lv_goto (tgt := 15) hx hb dX8_inRange_11 (by decide) ?_
      exact ge_Ri hx hb hlocks hr (by decide +kernel) hI hq dX8_inRange_15

abbrev rm_X8_lacks : Room := { frames := 2, cells := 0, slots := 0, locals := 120 }
theorem k_X8_lacks : g_CV yX8_lacks cX8_lacks 2 (some .boolean) 1 := ⟨⟨m_1640, m_14, by decide +kernel⟩, m_1639, ms_26⟩
set_option maxHeartbeats 4000000 in
set_option maxRecDepth 100000 in
theorem c_X8_lacks (l : Launch) (V : Nat → Nat) (g : GH) (D : va_G) (cT : Nat → ClassId) (f : GH) (n : Nat) (a0 : Nat) (a1 : Int32) (o : Int32 × GH) (hq : p_X8_lacks V g f a0 a1 = some o) : Met l yX8_lacks (Cond.code yX8_lacks cX8_lacks 2 (some .boolean) :: g_B) rm_X8_lacks (va_Pc [.ref a0, .int a1] (g_I V g D cT f n)) (g_Wi V D cT o.1 o.2 n) 0 0 (g_A V) := by
  refine g_begin (own := RX8) [.ref a0, .int a1] [(0, .ref a0), (1, .int a1)] (g_A V) (fun _ h => h) (by decide) rfl (Nat.le_of_ble_eq_true rfl) rfl ?_
  intro p e s m args below meth c hx hb hr hlocks hin hC hI ls hl
  obtain ⟨hx, hb, hml, hown, hB⟩ := id hC
  obtain ⟨H, hH⟩ : ∃ H, H = s.heap := ⟨_, rfl⟩
  obtain ⟨locs, hlocs⟩ : ∃ L : List Loc, L = [] := ⟨_, rfl⟩
  rw [← hH, ← hlocs] at hI ⊢
  clear hH hlocs
  unfold p_X8_lacks at hq
  replace hq := (h_me_eq hq).2
  refine lv_aload_n hx hb dX8_lacks_0 rfl (lv_at hl 0 rfl) ?_
  refine lv_iload_n hx hb dX8_lacks_1 rfl (lv_at hl 1 rfl) ?_
  refine lv_if_eq (tgt := 9) hx hb dX8_lacks_2 (by decide) (fun c1 => ?_) (fun c1 => ?_)
  · replace hq := i_t c1 hq
    refine lv_iconst (v := (1 : Int32)) hx hb dX8_lacks_9 (by decide) ?_
    obtain ⟨f2, ef2, hq⟩ := b_s hq
    refine fa_pt (own := RX8) (ref := "CoastlineRulerModel") (k := 7) hx hb hB inB_RX8 tyX8_ok nmX8 hown hI rfl (by decide) m_1538 (fun _ h9 => h9) (by decide) rfl rfl ef2 dX8_lacks_10 (fun H locs hI => ?_)
    refine lv_iload_n hx hb dX8_lacks_13 rfl (lv_at hl 1 rfl) ?_
    refine lv_if_ne (tgt := 21) hx hb dX8_lacks_14 (by decide) (fun c3 => ?_) (fun c3 => ?_)
    · replace hq := i_f c3 hq
      refine lv_iconst (v := (0 : Int32)) hx hb dX8_lacks_21 (by decide) ?_
      exact ge_Wi hx hb hlocks hr (by decide +kernel) hI (congrArg (fun z => z.1) (Option.some.inj hq)) (congrArg (fun z => z.2) (Option.some.inj hq)) dX8_lacks_22
    · replace hq := i_t c3 hq
      refine lv_iconst (v := (1 : Int32)) hx hb dX8_lacks_17 (by decide) ?_
      refine lv_goto (tgt := 22) hx hb dX8_lacks_18 (by decide) ?_
      exact ge_Wi hx hb hlocks hr (by decide +kernel) hI (congrArg (fun z => z.1) (Option.some.inj hq)) (congrArg (fun z => z.2) (Option.some.inj hq)) dX8_lacks_22
  · replace hq := i_f c1 hq
    refine lv_iconst (v := (0 : Int32)) hx hb dX8_lacks_5 (by decide) ?_
    refine lv_goto (tgt := 10) hx hb dX8_lacks_6 (by decide) ?_
    obtain ⟨f4, ef4, hq⟩ := b_s hq
    refine fa_pt (own := RX8) (ref := "CoastlineRulerModel") (k := 7) hx hb hB inB_RX8 tyX8_ok nmX8 hown hI rfl (by decide) m_1538 (fun _ h9 => h9) (by decide) rfl rfl ef4 dX8_lacks_10 (fun H locs hI => ?_)
    refine lv_iload_n hx hb dX8_lacks_13 rfl (lv_at hl 1 rfl) ?_
    refine lv_if_ne (tgt := 21) hx hb dX8_lacks_14 (by decide) (fun c5 => ?_) (fun c5 => ?_)
    · replace hq := i_f c5 hq
      refine lv_iconst (v := (0 : Int32)) hx hb dX8_lacks_21 (by decide) ?_
      exact ge_Wi hx hb hlocks hr (by decide +kernel) hI (congrArg (fun z => z.1) (Option.some.inj hq)) (congrArg (fun z => z.2) (Option.some.inj hq)) dX8_lacks_22
    · replace hq := i_t c5 hq
      refine lv_iconst (v := (1 : Int32)) hx hb dX8_lacks_17 (by decide) ?_
      refine lv_goto (tgt := 22) hx hb dX8_lacks_18 (by decide) ?_
      exact ge_Wi hx hb hlocks hr (by decide +kernel) hI (congrArg (fun z => z.1) (Option.some.inj hq)) (congrArg (fun z => z.2) (Option.some.inj hq)) dX8_lacks_22

abbrev rm_X8_lacksBoth : Room := { frames := 3, cells := 0, slots := 0, locals := 141 }
theorem k_X8_lacksBoth : g_CV yX8_lacksBoth cX8_lacksBoth 3 (some .boolean) 2 := ⟨⟨m_1696, m_14, by decide +kernel⟩, m_1695, ms_32⟩
set_option maxHeartbeats 4000000 in
set_option maxRecDepth 100000 in
theorem c_X8_lacksBoth (l : Launch) (V : Nat → Nat) (g : GH) (D : va_G) (cT : Nat → ClassId) (f : GH) (n : Nat) (a0 : Nat) (a1 : Int32) (a2 : Int32) (o : Int32 × GH) (hq : p_X8_lacksBoth V g f a0 a1 a2 = some o) : Met l yX8_lacksBoth (Cond.code yX8_lacksBoth cX8_lacksBoth 3 (some .boolean) :: g_B) rm_X8_lacksBoth (va_Pc [.ref a0, .int a1, .int a2] (g_I V g D cT f n)) (g_Wi V D cT o.1 o.2 n) 0 0 (g_A V) := by
  refine g_begin (own := RX8) [.ref a0, .int a1, .int a2] [(0, .ref a0), (1, .int a1), (2, .int a2)] (g_A V) (fun _ h => h) (by decide) rfl (Nat.le_of_ble_eq_true rfl) rfl ?_
  intro p e s m args below meth c hx hb hr hlocks hin hC hI ls hl
  obtain ⟨hx, hb, hml, hown, hB⟩ := id hC
  obtain ⟨H, hH⟩ : ∃ H, H = s.heap := ⟨_, rfl⟩
  obtain ⟨locs, hlocs⟩ : ∃ L : List Loc, L = [] := ⟨_, rfl⟩
  rw [← hH, ← hlocs] at hI ⊢
  clear hH hlocs
  unfold p_X8_lacksBoth at hq
  replace hq := (h_me_eq hq).2
  refine lv_aload_n hx hb dX8_lacksBoth_0 rfl (lv_at hl 0 rfl) ?_
  refine lv_iload_n hx hb dX8_lacksBoth_1 rfl (lv_at hl 1 rfl) ?_
  obtain ⟨v1, ev1, hq⟩ := b_s hq
  refine gw_i (g_runV (As := [.int a1]) (rest := []) (ci := 10) hC (c_X8_lacks l V g D cT f n a0 a1 v1 ev1) k_X8_lacks m_1637 rfl rfl ⟨Nat.le_of_ble_eq_true rfl, Nat.le_of_ble_eq_true rfl⟩ hI rfl rfl (h_me_eq ev1).1 rfl hl.1 rfl (Nat.le_of_ble_eq_true rfl) dX8_lacksBoth_2 ⟨by decide, by decide⟩) hI (fun H locs hI => ?_)
  refine lv_if_eq (tgt := 10) hx hb dX8_lacksBoth_5 (by decide) (fun c2 => ?_) (fun c2 => ?_)
  · replace hq := i_t c2 hq
    refine lv_aload_n hx hb dX8_lacksBoth_10 rfl (lv_at hl 0 rfl) ?_
    refine lv_iload_n hx hb dX8_lacksBoth_11 rfl (lv_at hl 2 rfl) ?_
    refine lv_if_eq (tgt := 19) hx hb dX8_lacksBoth_12 (by decide) (fun c3 => ?_) (fun c3 => ?_)
    · replace hq := i_t c3 hq
      refine lv_iconst (v := (2 : Int32)) hx hb dX8_lacksBoth_19 (by decide) ?_
      obtain ⟨f4, ef4, hq⟩ := b_s hq
      refine fa_pt (own := RX8) (ref := "CoastlineRulerModel") (k := 7) hx hb hB inB_RX8 tyX8_ok nmX8 hown hI rfl (by decide) m_1538 (fun _ h9 => h9) (by decide) rfl rfl ef4 dX8_lacksBoth_20 (fun H locs hI => ?_)
      refine lv_aload_n hx hb dX8_lacksBoth_23 rfl (lv_at hl 0 rfl) ?_
      obtain ⟨v5, ev5, hq⟩ := b_s hq
      refine fa_gi (own := RX8) (ref := "CoastlineRulerModel") (k := 7) hx hb hB inB_RX8 hown hI rfl (by decide) m_1538 (fun _ h9 => h9) ev5 dX8_lacksBoth_24 ?_
      refine lv_if_eq (tgt := 34) hx hb dX8_lacksBoth_27 (by decide) (fun c6 => ?_) (fun c6 => ?_)
      · replace hq := i_t c6 hq
        refine lv_iconst (v := (0 : Int32)) hx hb dX8_lacksBoth_34 (by decide) ?_
        exact ge_Wi hx hb hlocks hr (by decide +kernel) hI (congrArg (fun z => z.1) (Option.some.inj hq)) (congrArg (fun z => z.2) (Option.some.inj hq)) dX8_lacksBoth_35
      · replace hq := i_f c6 hq
        refine lv_iconst (v := (1 : Int32)) hx hb dX8_lacksBoth_30 (by decide) ?_
        refine lv_goto (tgt := 35) hx hb dX8_lacksBoth_31 (by decide) ?_
        exact ge_Wi hx hb hlocks hr (by decide +kernel) hI (congrArg (fun z => z.1) (Option.some.inj hq)) (congrArg (fun z => z.2) (Option.some.inj hq)) dX8_lacksBoth_35
    · replace hq := i_f c3 hq
      refine lv_iconst (v := (0 : Int32)) hx hb dX8_lacksBoth_15 (by decide) ?_
      refine lv_goto (tgt := 20) hx hb dX8_lacksBoth_16 (by decide) ?_
      obtain ⟨f7, ef7, hq⟩ := b_s hq
      refine fa_pt (own := RX8) (ref := "CoastlineRulerModel") (k := 7) hx hb hB inB_RX8 tyX8_ok nmX8 hown hI rfl (by decide) m_1538 (fun _ h9 => h9) (by decide) rfl rfl ef7 dX8_lacksBoth_20 (fun H locs hI => ?_)
      refine lv_aload_n hx hb dX8_lacksBoth_23 rfl (lv_at hl 0 rfl) ?_
      obtain ⟨v8, ev8, hq⟩ := b_s hq
      refine fa_gi (own := RX8) (ref := "CoastlineRulerModel") (k := 7) hx hb hB inB_RX8 hown hI rfl (by decide) m_1538 (fun _ h9 => h9) ev8 dX8_lacksBoth_24 ?_
      refine lv_if_eq (tgt := 34) hx hb dX8_lacksBoth_27 (by decide) (fun c9 => ?_) (fun c9 => ?_)
      · replace hq := i_t c9 hq
        refine lv_iconst (v := (0 : Int32)) hx hb dX8_lacksBoth_34 (by decide) ?_
        exact ge_Wi hx hb hlocks hr (by decide +kernel) hI (congrArg (fun z => z.1) (Option.some.inj hq)) (congrArg (fun z => z.2) (Option.some.inj hq)) dX8_lacksBoth_35
      · replace hq := i_f c9 hq
        refine lv_iconst (v := (1 : Int32)) hx hb dX8_lacksBoth_30 (by decide) ?_
        refine lv_goto (tgt := 35) hx hb dX8_lacksBoth_31 (by decide) ?_
        exact ge_Wi hx hb hlocks hr (by decide +kernel) hI (congrArg (fun z => z.1) (Option.some.inj hq)) (congrArg (fun z => z.2) (Option.some.inj hq)) dX8_lacksBoth_35
  · replace hq := i_f c2 hq
    refine lv_iconst (v := (1 : Int32)) hx hb dX8_lacksBoth_8 (by decide) ?_
    exact ge_Wi hx hb hlocks hr (by decide +kernel) hI (congrArg (fun z => z.1) (Option.some.inj hq)) (congrArg (fun z => z.2) (Option.some.inj hq)) dX8_lacksBoth_9

abbrev rm_X8_sizeOf : Room := { frames := 2, cells := 0, slots := 0, locals := 120 }
theorem k_X8_sizeOf : g_CS yX8_sizeOf cX8_sizeOf 1 (some .int) 1 := ⟨⟨m_1682, m_14, by decide +kernel⟩, m_1681⟩
set_option maxHeartbeats 4000000 in
set_option maxRecDepth 100000 in
theorem c_X8_sizeOf (l : Launch) (V : Nat → Nat) (g : GH) (D : va_G) (cT : Nat → ClassId) (f : GH) (n : Nat) (a0 : Int32) (o : Int32) (hq : p_X8_sizeOf V g f a0 = some o) : Met l yX8_sizeOf (Cond.code yX8_sizeOf cX8_sizeOf 1 (some .int) :: g_B) rm_X8_sizeOf (va_Pc [.int a0] (g_I V g D cT f n)) (g_Ri o n) 0 0 g_no := by
  refine g_begin (own := RX8) [.int a0] [(0, .int a0)] g_no (fun _ h => h.elim) (by decide) rfl (Nat.le_of_ble_eq_true rfl) rfl ?_
  intro p e s m args below meth c hx hb hr hlocks hin hC hI ls hl
  obtain ⟨hx, hb, hml, hown, hB⟩ := id hC
  obtain ⟨H, hH⟩ : ∃ H, H = s.heap := ⟨_, rfl⟩
  obtain ⟨locs, hlocs⟩ : ∃ L : List Loc, L = [] := ⟨_, rfl⟩
  rw [← hH, ← hlocs] at hI ⊢
  clear hH hlocs
  unfold p_X8_sizeOf at hq
  refine lv_iload_n hx hb dX8_sizeOf_0 rfl (lv_at hl 0 rfl) ?_
  refine lv_if_ge (tgt := 9) hx hb dX8_sizeOf_1 (by decide) (fun c1 => ?_) (fun c1 => ?_)
  · replace hq := i_t c1 hq
    refine lv_iload_n hx hb dX8_sizeOf_9 rfl (lv_at hl 0 rfl) ?_
    exact ge_Ri hx hb hlocks hr rfl hI hq dX8_sizeOf_10
  · replace hq := i_f c1 hq
    refine lv_iload_n hx hb dX8_sizeOf_4 rfl (lv_at hl 0 rfl) ?_
    refine lv_ineg hx hb dX8_sizeOf_5 ?_
    refine lv_goto (tgt := 10) hx hb dX8_sizeOf_6 (by decide) ?_
    exact ge_Ri hx hb hlocks hr rfl hI hq dX8_sizeOf_10

abbrev rm_X8_least : Room := { frames := 2, cells := 0, slots := 0, locals := 120 }
theorem k_X8_least : g_CS yX8_least cX8_least 2 (some .int) 2 := ⟨⟨m_1828, m_14, by decide +kernel⟩, m_1827⟩
set_option maxHeartbeats 4000000 in
set_option maxRecDepth 100000 in
theorem c_X8_least (l : Launch) (V : Nat → Nat) (g : GH) (D : va_G) (cT : Nat → ClassId) (f : GH) (n : Nat) (a0 : Int32) (a1 : Int32) (o : Int32) (hq : p_X8_least V g f a0 a1 = some o) : Met l yX8_least (Cond.code yX8_least cX8_least 2 (some .int) :: g_B) rm_X8_least (va_Pc [.int a0, .int a1] (g_I V g D cT f n)) (g_Ri o n) 0 0 g_no := by
  refine g_begin (own := RX8) [.int a0, .int a1] [(0, .int a0), (1, .int a1)] g_no (fun _ h => h.elim) (by decide) rfl (Nat.le_of_ble_eq_true rfl) rfl ?_
  intro p e s m args below meth c hx hb hr hlocks hin hC hI ls hl
  obtain ⟨hx, hb, hml, hown, hB⟩ := id hC
  obtain ⟨H, hH⟩ : ∃ H, H = s.heap := ⟨_, rfl⟩
  obtain ⟨locs, hlocs⟩ : ∃ L : List Loc, L = [] := ⟨_, rfl⟩
  rw [← hH, ← hlocs] at hI ⊢
  clear hH hlocs
  unfold p_X8_least at hq
  refine lv_iload_n hx hb dX8_least_0 rfl (lv_at hl 0 rfl) ?_
  refine lv_iload_n hx hb dX8_least_1 rfl (lv_at hl 1 rfl) ?_
  refine lv_icmp_ge (tgt := 9) hx hb dX8_least_2 (by decide) (fun c1 => ?_) (fun c1 => ?_)
  · replace hq := i_t c1 hq
    refine lv_iload_n hx hb dX8_least_9 rfl (lv_at hl 1 rfl) ?_
    exact ge_Ri hx hb hlocks hr rfl hI hq dX8_least_10
  · replace hq := i_f c1 hq
    refine lv_iload_n hx hb dX8_least_5 rfl (lv_at hl 0 rfl) ?_
    refine lv_goto (tgt := 10) hx hb dX8_least_6 (by decide) ?_
    exact ge_Ri hx hb hlocks hr rfl hI hq dX8_least_10

abbrev rm_X8_isCoast : Room := { frames := 3, cells := 0, slots := 0, locals := 142 }
theorem k_X8_isCoast : g_CV yX8_isCoast cX8_isCoast 2 (some .boolean) 1 := ⟨⟨m_1633, m_14, by decide +kernel⟩, m_1632, ms_25⟩
set_option maxHeartbeats 4000000 in
set_option maxRecDepth 100000 in
theorem c_X8_isCoast (l : Launch) (V : Nat → Nat) (g : GH) (D : va_G) (cT : Nat → ClassId) (f : GH) (n : Nat) (a0 : Nat) (a1 : Int32) (o : Int32) (hq : p_X8_isCoast V g f a0 a1 = some o) : Met l yX8_isCoast (Cond.code yX8_isCoast cX8_isCoast 2 (some .boolean) :: g_B) rm_X8_isCoast (va_Pc [.ref a0, .int a1] (g_I V g D cT f n)) (g_Ri o n) 0 0 g_no := by
  refine g_begin (own := RX8) [.ref a0, .int a1] [(0, .ref a0), (1, .int a1)] g_no (fun _ h => h.elim) (by decide) rfl (Nat.le_of_ble_eq_true rfl) rfl ?_
  intro p e s m args below meth c hx hb hr hlocks hin hC hI ls hl
  obtain ⟨hx, hb, hml, hown, hB⟩ := id hC
  obtain ⟨H, hH⟩ : ∃ H, H = s.heap := ⟨_, rfl⟩
  obtain ⟨locs, hlocs⟩ : ∃ L : List Loc, L = [] := ⟨_, rfl⟩
  rw [← hH, ← hlocs] at hI ⊢
  clear hH hlocs
  unfold p_X8_isCoast at hq
  replace hq := (h_me_eq hq).2
  refine lv_iload_n hx hb dX8_isCoast_0 rfl (lv_at hl 1 rfl) ?_
  refine lv_iconst (v := (0 : Int32)) hx hb dX8_isCoast_1 (by decide) ?_
  refine lv_aload_n hx hb dX8_isCoast_2 rfl (lv_at hl 0 rfl) ?_
  obtain ⟨v1, ev1, hq⟩ := b_s hq
  refine fa_gr (own := RX8) (ref := "CoastlineRulerModel") (k := 5) hx hb hB inB_RX8 hown hI rfl (by decide) m_1536 (fun _ h9 => h9) ev1 dX8_isCoast_3 ?_
  refine lv_iconst (v := (1 : Int32)) hx hb dX8_isCoast_6 (by decide) ?_
  obtain ⟨v2, ev2, hq⟩ := b_s hq
  refine fa_li hx hb hI ev2 dX8_isCoast_7 ?_
  refine lv_iconst (v := (1 : Int32)) hx hb dX8_isCoast_8 (by decide) ?_
  refine lv_isub hx hb dX8_isCoast_9 ?_
  obtain ⟨v3, ev3, hq⟩ := b_s hq
  refine gr_i (g_runS (As := [.int a1, .int (0 : Int32), .int (v2 - (1 : Int32))]) (rest := []) hC (c_X8_inRange l V g D cT f n a1 (0 : Int32) (v2 - (1 : Int32)) v3 ev3) k_X8_inRange m_1634 rfl rfl ⟨Nat.le_of_ble_eq_true rfl, Nat.le_of_ble_eq_true rfl⟩ hI rfl hl.1 rfl (Nat.le_of_ble_eq_true rfl) dX8_isCoast_10 ⟨by decide, by decide⟩) hI (fun H locs hI => ?_)
  obtain ⟨_, ev4, hq⟩ := b_s hq
  exact ge_Ri hx hb hlocks hr (h_bz_eq ev4).2.1 hI hq dX8_isCoast_13

abbrev rm_X8_island : Room := { frames := 3, cells := 0, slots := 0, locals := 140 }
theorem k_X8_island : g_CV yX8_island cX8_island 2 (some .boolean) 1 := ⟨⟨m_1644, m_14, by decide +kernel⟩, m_1643, ms_27⟩
set_option maxHeartbeats 4000000 in
set_option maxRecDepth 100000 in
theorem c_X8_island (l : Launch) (V : Nat → Nat) (g : GH) (D : va_G) (cT : Nat → ClassId) (f : GH) (n : Nat) (a0 : Nat) (a1 : Int32) (o : Int32) (hq : p_X8_island V g f a0 a1 = some o) : Met l yX8_island (Cond.code yX8_island cX8_island 2 (some .boolean) :: g_B) rm_X8_island (va_Pc [.ref a0, .int a1] (g_I V g D cT f n)) (g_Ri o n) 0 0 g_no := by
  refine g_begin (own := RX8) [.ref a0, .int a1] [(0, .ref a0), (1, .int a1)] g_no (fun _ h => h.elim) (by decide) rfl (Nat.le_of_ble_eq_true rfl) rfl ?_
  intro p e s m args below meth c hx hb hr hlocks hin hC hI ls hl
  obtain ⟨hx, hb, hml, hown, hB⟩ := id hC
  obtain ⟨H, hH⟩ : ∃ H, H = s.heap := ⟨_, rfl⟩
  obtain ⟨locs, hlocs⟩ : ∃ L : List Loc, L = [] := ⟨_, rfl⟩
  rw [← hH, ← hlocs] at hI ⊢
  clear hH hlocs
  unfold p_X8_island at hq
  replace hq := (h_me_eq hq).2
  refine lv_aload_n hx hb dX8_island_0 rfl (lv_at hl 0 rfl) ?_
  obtain ⟨v1, ev1, hq⟩ := b_s hq
  refine fa_gr (own := RX8) (ref := "CoastlineRulerModel") (k := 5) hx hb hB inB_RX8 hown hI rfl (by decide) m_1536 (fun _ h9 => h9) ev1 dX8_island_1 ?_
  refine lv_iload_n hx hb dX8_island_4 rfl (lv_at hl 1 rfl) ?_
  obtain ⟨v2, ev2, hq⟩ := b_s hq
  refine gr_i (g_runS (As := [.int a1]) (rest := [.ref v1]) hC (c_X8_at l V g D cT f n a1 v2 ev2) k_X8_at m_1515 rfl rfl ⟨Nat.le_of_ble_eq_true rfl, Nat.le_of_ble_eq_true rfl⟩ hI rfl hl.1 rfl (Nat.le_of_ble_eq_true rfl) dX8_island_5 ⟨by decide, by decide⟩) hI (fun H locs hI => ?_)
  refine lv_iconst (v := (0 : Int32)) hx hb dX8_island_8 (by decide) ?_
  refine lv_iadd hx hb dX8_island_9 ?_
  obtain ⟨v3, ev3, hq⟩ := b_s hq
  refine fa_li hx hb hI ev3 dX8_island_10 ?_
  refine lv_iconst (v := (1 : Int32)) hx hb dX8_island_11 (by decide) ?_
  refine lv_icmp_ne (tgt := 19) hx hb dX8_island_12 (by decide) (fun c4 => ?_) (fun c4 => ?_)
  · replace hq := i_f c4 hq
    refine lv_iconst (v := (0 : Int32)) hx hb dX8_island_19 (by decide) ?_
    exact ge_Ri hx hb hlocks hr (by decide +kernel) hI hq dX8_island_20
  · replace hq := i_t c4 hq
    refine lv_iconst (v := (1 : Int32)) hx hb dX8_island_15 (by decide) ?_
    refine lv_goto (tgt := 20) hx hb dX8_island_16 (by decide) ?_
    exact ge_Ri hx hb hlocks hr (by decide +kernel) hI hq dX8_island_20

abbrev rm_X8_x : Room := { frames := 3, cells := 0, slots := 0, locals := 140 }
theorem k_X8_x : g_CV yX8_x cX8_x 3 (some .int) 2 := ⟨⟨m_1660, m_14, by decide +kernel⟩, m_1659, ms_29⟩
set_option maxHeartbeats 4000000 in
set_option maxRecDepth 100000 in
theorem c_X8_x (l : Launch) (V : Nat → Nat) (g : GH) (D : va_G) (cT : Nat → ClassId) (f : GH) (n : Nat) (a0 : Nat) (a1 : Int32) (a2 : Int32) (o : Int32) (hq : p_X8_x V g f a0 a1 a2 = some o) : Met l yX8_x (Cond.code yX8_x cX8_x 3 (some .int) :: g_B) rm_X8_x (va_Pc [.ref a0, .int a1, .int a2] (g_I V g D cT f n)) (g_Ri o n) 0 0 g_no := by
  refine g_begin (own := RX8) [.ref a0, .int a1, .int a2] [(0, .ref a0), (1, .int a1), (2, .int a2)] g_no (fun _ h => h.elim) (by decide) rfl (Nat.le_of_ble_eq_true rfl) rfl ?_
  intro p e s m args below meth c hx hb hr hlocks hin hC hI ls hl
  obtain ⟨hx, hb, hml, hown, hB⟩ := id hC
  obtain ⟨H, hH⟩ : ∃ H, H = s.heap := ⟨_, rfl⟩
  obtain ⟨locs, hlocs⟩ : ∃ L : List Loc, L = [] := ⟨_, rfl⟩
  rw [← hH, ← hlocs] at hI ⊢
  clear hH hlocs
  unfold p_X8_x at hq
  replace hq := (h_me_eq hq).2
  refine lv_aload_n hx hb dX8_x_0 rfl (lv_at hl 0 rfl) ?_
  obtain ⟨v1, ev1, hq⟩ := b_s hq
  refine fa_gr (own := RX8) (ref := "CoastlineRulerModel") (k := 5) hx hb hB inB_RX8 hown hI rfl (by decide) m_1536 (fun _ h9 => h9) ev1 dX8_x_1 ?_
  refine lv_iload_n hx hb dX8_x_4 rfl (lv_at hl 1 rfl) ?_
  obtain ⟨v2, ev2, hq⟩ := b_s hq
  refine gr_i (g_runS (As := [.int a1]) (rest := [.ref v1]) hC (c_X8_at l V g D cT f n a1 v2 ev2) k_X8_at m_1515 rfl rfl ⟨Nat.le_of_ble_eq_true rfl, Nat.le_of_ble_eq_true rfl⟩ hI rfl hl.1 rfl (Nat.le_of_ble_eq_true rfl) dX8_x_5 ⟨by decide, by decide⟩) hI (fun H locs hI => ?_)
  refine lv_iconst (v := (2 : Int32)) hx hb dX8_x_8 (by decide) ?_
  refine lv_iadd hx hb dX8_x_9 ?_
  refine lv_iconst (v := (2 : Int32)) hx hb dX8_x_10 (by decide) ?_
  refine lv_iload_n hx hb dX8_x_11 rfl (lv_at hl 2 rfl) ?_
  refine lv_imul hx hb dX8_x_12 ?_
  refine lv_iadd hx hb dX8_x_13 ?_
  obtain ⟨v3, ev3, hq⟩ := b_s hq
  refine fa_li hx hb hI ev3 dX8_x_14 ?_
  exact ge_Ri hx hb hlocks hr rfl hI hq dX8_x_15

abbrev rm_X8_y : Room := { frames := 3, cells := 0, slots := 0, locals := 140 }
theorem k_X8_y : g_CV yX8_y cX8_y 3 (some .int) 2 := ⟨⟨m_1668, m_14, by decide +kernel⟩, m_1667, ms_30⟩
set_option maxHeartbeats 4000000 in
set_option maxRecDepth 100000 in
theorem c_X8_y (l : Launch) (V : Nat → Nat) (g : GH) (D : va_G) (cT : Nat → ClassId) (f : GH) (n : Nat) (a0 : Nat) (a1 : Int32) (a2 : Int32) (o : Int32) (hq : p_X8_y V g f a0 a1 a2 = some o) : Met l yX8_y (Cond.code yX8_y cX8_y 3 (some .int) :: g_B) rm_X8_y (va_Pc [.ref a0, .int a1, .int a2] (g_I V g D cT f n)) (g_Ri o n) 0 0 g_no := by
  refine g_begin (own := RX8) [.ref a0, .int a1, .int a2] [(0, .ref a0), (1, .int a1), (2, .int a2)] g_no (fun _ h => h.elim) (by decide) rfl (Nat.le_of_ble_eq_true rfl) rfl ?_
  intro p e s m args below meth c hx hb hr hlocks hin hC hI ls hl
  obtain ⟨hx, hb, hml, hown, hB⟩ := id hC
  obtain ⟨H, hH⟩ : ∃ H, H = s.heap := ⟨_, rfl⟩
  obtain ⟨locs, hlocs⟩ : ∃ L : List Loc, L = [] := ⟨_, rfl⟩
  rw [← hH, ← hlocs] at hI ⊢
  clear hH hlocs
  unfold p_X8_y at hq
  replace hq := (h_me_eq hq).2
  refine lv_aload_n hx hb dX8_y_0 rfl (lv_at hl 0 rfl) ?_
  obtain ⟨v1, ev1, hq⟩ := b_s hq
  refine fa_gr (own := RX8) (ref := "CoastlineRulerModel") (k := 5) hx hb hB inB_RX8 hown hI rfl (by decide) m_1536 (fun _ h9 => h9) ev1 dX8_y_1 ?_
  refine lv_iload_n hx hb dX8_y_4 rfl (lv_at hl 1 rfl) ?_
  obtain ⟨v2, ev2, hq⟩ := b_s hq
  refine gr_i (g_runS (As := [.int a1]) (rest := [.ref v1]) hC (c_X8_at l V g D cT f n a1 v2 ev2) k_X8_at m_1515 rfl rfl ⟨Nat.le_of_ble_eq_true rfl, Nat.le_of_ble_eq_true rfl⟩ hI rfl hl.1 rfl (Nat.le_of_ble_eq_true rfl) dX8_y_5 ⟨by decide, by decide⟩) hI (fun H locs hI => ?_)
  refine lv_iconst (v := (2 : Int32)) hx hb dX8_y_8 (by decide) ?_
  refine lv_iadd hx hb dX8_y_9 ?_
  refine lv_iconst (v := (2 : Int32)) hx hb dX8_y_10 (by decide) ?_
  refine lv_iload_n hx hb dX8_y_11 rfl (lv_at hl 2 rfl) ?_
  refine lv_imul hx hb dX8_y_12 ?_
  refine lv_iadd hx hb dX8_y_13 ?_
  refine lv_iconst (v := (1 : Int32)) hx hb dX8_y_14 (by decide) ?_
  refine lv_iadd hx hb dX8_y_15 ?_
  obtain ⟨v3, ev3, hq⟩ := b_s hq
  refine fa_li hx hb hI ev3 dX8_y_16 ?_
  exact ge_Ri hx hb hlocks hr rfl hI hq dX8_y_17

abbrev rm_X8_layPoint : Room := { frames := 3, cells := 0, slots := 0, locals := 140 }
theorem k_X8_layPoint : g_CV yX8_layPoint cX8_layPoint 5 none 4 := ⟨⟨m_1883, m_14, by decide +kernel⟩, m_1882, ms_53⟩
set_option maxHeartbeats 4000000 in
set_option maxRecDepth 100000 in
theorem c_X8_layPoint (l : Launch) (V : Nat → Nat) (g : GH) (D : va_G) (cT : Nat → ClassId) (f : GH) (n : Nat) (a0 : Nat) (a1 : Int32) (a2 : Int32) (a3 : Int32) (a4 : Int32) (o : GH) (hq : p_X8_layPoint V g f a0 a1 a2 a3 a4 = some o) : Met l yX8_layPoint (Cond.code yX8_layPoint cX8_layPoint 5 none :: g_B) rm_X8_layPoint (va_Pc [.ref a0, .int a1, .int a2, .int a3, .int a4] (g_I V g D cT f n)) (g_Wv V D cT o n) 0 0 (g_A V) := by
  refine g_begin (own := RX8) [.ref a0, .int a1, .int a2, .int a3, .int a4] [(0, .ref a0), (1, .int a1), (2, .int a2), (3, .int a3), (4, .int a4)] (g_A V) (fun _ h => h) (by decide) rfl (Nat.le_of_ble_eq_true rfl) rfl ?_
  intro p e s m args below meth c hx hb hr hlocks hin hC hI ls hl
  obtain ⟨hx, hb, hml, hown, hB⟩ := id hC
  obtain ⟨H, hH⟩ : ∃ H, H = s.heap := ⟨_, rfl⟩
  obtain ⟨locs, hlocs⟩ : ∃ L : List Loc, L = [] := ⟨_, rfl⟩
  rw [← hH, ← hlocs] at hI ⊢
  clear hH hlocs
  unfold p_X8_layPoint at hq
  replace hq := (h_me_eq hq).2
  refine lv_aload_n hx hb dX8_layPoint_0 rfl (lv_at hl 0 rfl) ?_
  obtain ⟨v1, ev1, hq⟩ := b_s hq
  refine fa_gr (own := RX8) (ref := "CoastlineRulerModel") (k := 5) hx hb hB inB_RX8 hown hI rfl (by decide) m_1536 (fun _ h9 => h9) ev1 dX8_layPoint_1 ?_
  refine lv_iload_n hx hb dX8_layPoint_4 rfl (lv_at hl 1 rfl) ?_
  obtain ⟨v2, ev2, hq⟩ := b_s hq
  refine gr_i (g_runS (As := [.int a1]) (rest := [.ref v1]) hC (c_X8_at l V g D cT f n a1 v2 ev2) k_X8_at m_1515 rfl rfl ⟨Nat.le_of_ble_eq_true rfl, Nat.le_of_ble_eq_true rfl⟩ hI rfl hl.1 rfl (Nat.le_of_ble_eq_true rfl) dX8_layPoint_5 ⟨by decide, by decide⟩) hI (fun H locs hI => ?_)
  refine lv_iconst (v := (2 : Int32)) hx hb dX8_layPoint_8 (by decide) ?_
  refine lv_iadd hx hb dX8_layPoint_9 ?_
  refine lv_iconst (v := (2 : Int32)) hx hb dX8_layPoint_10 (by decide) ?_
  refine lv_iload_n hx hb dX8_layPoint_11 rfl (lv_at hl 2 rfl) ?_
  refine lv_imul hx hb dX8_layPoint_12 ?_
  refine lv_iadd hx hb dX8_layPoint_13 ?_
  refine lv_iload_n hx hb dX8_layPoint_14 rfl (lv_at hl 3 rfl) ?_
  obtain ⟨f3, ef3, hq⟩ := b_s hq
  refine fa_si hx hb hI ef3 dX8_layPoint_15 (fun H locs hI => ?_)
  refine lv_aload_n hx hb dX8_layPoint_16 rfl (lv_at hl 0 rfl) ?_
  obtain ⟨v4, ev4, hq⟩ := b_s hq
  refine fa_gr (own := RX8) (ref := "CoastlineRulerModel") (k := 5) hx hb hB inB_RX8 hown hI rfl (by decide) m_1536 (fun _ h9 => h9) ev4 dX8_layPoint_17 ?_
  refine lv_iload_n hx hb dX8_layPoint_20 rfl (lv_at hl 1 rfl) ?_
  obtain ⟨v5, ev5, hq⟩ := b_s hq
  refine gr_i (g_runS (As := [.int a1]) (rest := [.ref v4]) hC (c_X8_at l V g D cT f3 n a1 v5 ev5) k_X8_at m_1515 rfl rfl ⟨Nat.le_of_ble_eq_true rfl, Nat.le_of_ble_eq_true rfl⟩ hI rfl hl.1 rfl (Nat.le_of_ble_eq_true rfl) dX8_layPoint_21 ⟨by decide, by decide⟩) hI (fun H locs hI => ?_)
  refine lv_iconst (v := (2 : Int32)) hx hb dX8_layPoint_24 (by decide) ?_
  refine lv_iadd hx hb dX8_layPoint_25 ?_
  refine lv_iconst (v := (2 : Int32)) hx hb dX8_layPoint_26 (by decide) ?_
  refine lv_iload_n hx hb dX8_layPoint_27 rfl (lv_at hl 2 rfl) ?_
  refine lv_imul hx hb dX8_layPoint_28 ?_
  refine lv_iadd hx hb dX8_layPoint_29 ?_
  refine lv_iconst (v := (1 : Int32)) hx hb dX8_layPoint_30 (by decide) ?_
  refine lv_iadd hx hb dX8_layPoint_31 ?_
  refine lv_iload hx hb dX8_layPoint_32 (lv_at hl 4 rfl) ?_
  obtain ⟨f6, ef6, hq⟩ := b_s hq
  refine fa_si hx hb hI ef6 dX8_layPoint_34 (fun H locs hI => ?_)
  exact ge_Wv hx hb hlocks hr hI (Option.some.inj hq) dX8_layPoint_35

abbrev rm_X8_isPoint : Room := { frames := 4, cells := 0, slots := 0, locals := 163 }
theorem k_X8_isPoint : g_CV yX8_isPoint cX8_isPoint 3 (some .boolean) 2 := ⟨⟨m_1656, m_14, by decide +kernel⟩, m_1655, ms_28⟩
set_option maxHeartbeats 4000000 in
set_option maxRecDepth 100000 in
theorem c_X8_isPoint (l : Launch) (V : Nat → Nat) (g : GH) (D : va_G) (cT : Nat → ClassId) (f : GH) (n : Nat) (a0 : Nat) (a1 : Int32) (a2 : Int32) (o : Int32) (hq : p_X8_isPoint V g f a0 a1 a2 = some o) : Met l yX8_isPoint (Cond.code yX8_isPoint cX8_isPoint 3 (some .boolean) :: g_B) rm_X8_isPoint (va_Pc [.ref a0, .int a1, .int a2] (g_I V g D cT f n)) (g_Ri o n) 0 0 g_no := by
  refine g_begin (own := RX8) [.ref a0, .int a1, .int a2] [(0, .ref a0), (1, .int a1), (2, .int a2)] g_no (fun _ h => h.elim) (by decide) rfl (Nat.le_of_ble_eq_true rfl) rfl ?_
  intro p e s m args below meth c hx hb hr hlocks hin hC hI ls hl
  obtain ⟨hx, hb, hml, hown, hB⟩ := id hC
  obtain ⟨H, hH⟩ : ∃ H, H = s.heap := ⟨_, rfl⟩
  obtain ⟨locs, hlocs⟩ : ∃ L : List Loc, L = [] := ⟨_, rfl⟩
  rw [← hH, ← hlocs] at hI ⊢
  clear hH hlocs
  unfold p_X8_isPoint at hq
  replace hq := (h_me_eq hq).2
  refine lv_aload_n hx hb dX8_isPoint_0 rfl (lv_at hl 0 rfl) ?_
  refine lv_iload_n hx hb dX8_isPoint_1 rfl (lv_at hl 1 rfl) ?_
  obtain ⟨v1, ev1, hq⟩ := b_s hq
  refine gr_i (g_runV (As := [.int a1]) (rest := []) (ci := 10) hC (c_X8_isCoast l V g D cT f n a0 a1 v1 ev1) k_X8_isCoast m_1630 rfl rfl ⟨Nat.le_of_ble_eq_true rfl, Nat.le_of_ble_eq_true rfl⟩ hI rfl rfl (h_me_eq ev1).1 rfl hl.1 rfl (Nat.le_of_ble_eq_true rfl) dX8_isPoint_2 ⟨by decide, by decide⟩) hI (fun H locs hI => ?_)
  refine lv_if_eq (tgt := 27) hx hb dX8_isPoint_5 (by decide) (fun c2 => ?_) (fun c2 => ?_)
  · replace hq := i_t c2 hq
    refine lv_iconst (v := (0 : Int32)) hx hb dX8_isPoint_27 (by decide) ?_
    exact ge_Ri hx hb hlocks hr (by decide +kernel) hI hq dX8_isPoint_28
  · replace hq := i_f c2 hq
    refine lv_iload_n hx hb dX8_isPoint_8 rfl (lv_at hl 2 rfl) ?_
    refine lv_iconst (v := (0 : Int32)) hx hb dX8_isPoint_9 (by decide) ?_
    refine lv_aload_n hx hb dX8_isPoint_10 rfl (lv_at hl 0 rfl) ?_
    refine lv_iload_n hx hb dX8_isPoint_11 rfl (lv_at hl 1 rfl) ?_
    obtain ⟨v3, ev3, hq⟩ := b_s hq
    refine gr_i (g_runV (As := [.int a1]) (rest := [.int (0 : Int32), .int a2]) (ci := 10) hC (c_X8_count l V g D cT f n a0 a1 v3 ev3) k_X8_count m_1527 rfl rfl ⟨Nat.le_of_ble_eq_true rfl, Nat.le_of_ble_eq_true rfl⟩ hI rfl rfl (h_me_eq ev3).1 rfl hl.1 rfl (Nat.le_of_ble_eq_true rfl) dX8_isPoint_12 ⟨by decide, by decide⟩) hI (fun H locs hI => ?_)
    refine lv_iconst (v := (1 : Int32)) hx hb dX8_isPoint_15 (by decide) ?_
    refine lv_isub hx hb dX8_isPoint_16 ?_
    obtain ⟨v4, ev4, hq⟩ := b_s hq
    refine gr_i (g_runS (As := [.int a2, .int (0 : Int32), .int (v3 - (1 : Int32))]) (rest := []) hC (c_X8_inRange l V g D cT f n a2 (0 : Int32) (v3 - (1 : Int32)) v4 ev4) k_X8_inRange m_1634 rfl rfl ⟨Nat.le_of_ble_eq_true rfl, Nat.le_of_ble_eq_true rfl⟩ hI rfl hl.1 rfl (Nat.le_of_ble_eq_true rfl) dX8_isPoint_17 ⟨by decide, by decide⟩) hI (fun H locs hI => ?_)
    refine lv_if_eq (tgt := 27) hx hb dX8_isPoint_20 (by decide) (fun c5 => ?_) (fun c5 => ?_)
    · replace hq := i_t c5 hq
      refine lv_iconst (v := (0 : Int32)) hx hb dX8_isPoint_27 (by decide) ?_
      exact ge_Ri hx hb hlocks hr (by decide +kernel) hI hq dX8_isPoint_28
    · replace hq := i_f c5 hq
      refine lv_iconst (v := (1 : Int32)) hx hb dX8_isPoint_23 (by decide) ?_
      refine lv_goto (tgt := 28) hx hb dX8_isPoint_24 (by decide) ?_
      exact ge_Ri hx hb hlocks hr (by decide +kernel) hI hq dX8_isPoint_28

abbrev rm_X8_isCoordinate : Room := { frames := 3, cells := 0, slots := 0, locals := 142 }
theorem k_X8_isCoordinate : g_CS yX8_isCoordinate cX8_isCoordinate 1 (some .boolean) 1 := ⟨⟨m_1692, m_14, by decide +kernel⟩, m_1691⟩
set_option maxHeartbeats 4000000 in
set_option maxRecDepth 100000 in
theorem c_X8_isCoordinate (l : Launch) (V : Nat → Nat) (g : GH) (D : va_G) (cT : Nat → ClassId) (f : GH) (n : Nat) (a0 : Int32) (o : Int32) (hq : p_X8_isCoordinate V g f a0 = some o) : Met l yX8_isCoordinate (Cond.code yX8_isCoordinate cX8_isCoordinate 1 (some .boolean) :: g_B) rm_X8_isCoordinate (va_Pc [.int a0] (g_I V g D cT f n)) (g_Ri o n) 0 0 g_no := by
  refine g_begin (own := RX8) [.int a0] [(0, .int a0)] g_no (fun _ h => h.elim) (by decide) rfl (Nat.le_of_ble_eq_true rfl) rfl ?_
  intro p e s m args below meth c hx hb hr hlocks hin hC hI ls hl
  obtain ⟨hx, hb, hml, hown, hB⟩ := id hC
  obtain ⟨H, hH⟩ : ∃ H, H = s.heap := ⟨_, rfl⟩
  obtain ⟨locs, hlocs⟩ : ∃ L : List Loc, L = [] := ⟨_, rfl⟩
  rw [← hH, ← hlocs] at hI ⊢
  clear hH hlocs
  unfold p_X8_isCoordinate at hq
  refine lv_iload_n hx hb dX8_isCoordinate_0 rfl (lv_at hl 0 rfl) ?_
  refine lv_sipush (v := (-1000 : Int32)) hx hb dX8_isCoordinate_1 (by decide) ?_
  refine lv_sipush (v := (1000 : Int32)) hx hb dX8_isCoordinate_4 (by decide) ?_
  obtain ⟨v1, ev1, hq⟩ := b_s hq
  refine gr_i (g_runS (As := [.int a0, .int (-1000 : Int32), .int (1000 : Int32)]) (rest := []) hC (c_X8_inRange l V g D cT f n a0 (-1000 : Int32) (1000 : Int32) v1 ev1) k_X8_inRange m_1634 rfl rfl ⟨Nat.le_of_ble_eq_true rfl, Nat.le_of_ble_eq_true rfl⟩ hI rfl hl.1 rfl (Nat.le_of_ble_eq_true rfl) dX8_isCoordinate_7 ⟨by decide, by decide⟩) hI (fun H locs hI => ?_)
  obtain ⟨_, ev2, hq⟩ := b_s hq
  exact ge_Ri hx hb hlocks hr (h_bz_eq ev2).2.1 hI hq dX8_isCoordinate_10

abbrev rm_X8_isPosition : Room := { frames := 4, cells := 0, slots := 0, locals := 162 }
theorem k_X8_isPosition : g_CS yX8_isPosition cX8_isPosition 2 (some .boolean) 2 := ⟨⟨m_1689, m_14, by decide +kernel⟩, m_1688⟩
set_option maxHeartbeats 4000000 in
set_option maxRecDepth 100000 in
theorem c_X8_isPosition (l : Launch) (V : Nat → Nat) (g : GH) (D : va_G) (cT : Nat → ClassId) (f : GH) (n : Nat) (a0 : Int32) (a1 : Int32) (o : Int32) (hq : p_X8_isPosition V g f a0 a1 = some o) : Met l yX8_isPosition (Cond.code yX8_isPosition cX8_isPosition 2 (some .boolean) :: g_B) rm_X8_isPosition (va_Pc [.int a0, .int a1] (g_I V g D cT f n)) (g_Ri o n) 0 0 g_no := by
  refine g_begin (own := RX8) [.int a0, .int a1] [(0, .int a0), (1, .int a1)] g_no (fun _ h => h.elim) (by decide) rfl (Nat.le_of_ble_eq_true rfl) rfl ?_
  intro p e s m args below meth c hx hb hr hlocks hin hC hI ls hl
  obtain ⟨hx, hb, hml, hown, hB⟩ := id hC
  obtain ⟨H, hH⟩ : ∃ H, H = s.heap := ⟨_, rfl⟩
  obtain ⟨locs, hlocs⟩ : ∃ L : List Loc, L = [] := ⟨_, rfl⟩
  rw [← hH, ← hlocs] at hI ⊢
  clear hH hlocs
  unfold p_X8_isPosition at hq
  refine lv_iload_n hx hb dX8_isPosition_0 rfl (lv_at hl 0 rfl) ?_
  obtain ⟨v1, ev1, hq⟩ := b_s hq
  refine gr_i (g_runS (As := [.int a0]) (rest := []) hC (c_X8_isCoordinate l V g D cT f n a0 v1 ev1) k_X8_isCoordinate m_1690 rfl rfl ⟨Nat.le_of_ble_eq_true rfl, Nat.le_of_ble_eq_true rfl⟩ hI rfl hl.1 rfl (Nat.le_of_ble_eq_true rfl) dX8_isPosition_1 ⟨by decide, by decide⟩) hI (fun H locs hI => ?_)
  refine lv_if_eq (tgt := 18) hx hb dX8_isPosition_4 (by decide) (fun c2 => ?_) (fun c2 => ?_)
  · replace hq := i_t c2 hq
    refine lv_iconst (v := (0 : Int32)) hx hb dX8_isPosition_18 (by decide) ?_
    exact ge_Ri hx hb hlocks hr (by decide +kernel) hI hq dX8_isPosition_19
  · replace hq := i_f c2 hq
    refine lv_iload_n hx hb dX8_isPosition_7 rfl (lv_at hl 1 rfl) ?_
    obtain ⟨v3, ev3, hq⟩ := b_s hq
    refine gr_i (g_runS (As := [.int a1]) (rest := []) hC (c_X8_isCoordinate l V g D cT f n a1 v3 ev3) k_X8_isCoordinate m_1690 rfl rfl ⟨Nat.le_of_ble_eq_true rfl, Nat.le_of_ble_eq_true rfl⟩ hI rfl hl.1 rfl (Nat.le_of_ble_eq_true rfl) dX8_isPosition_8 ⟨by decide, by decide⟩) hI (fun H locs hI => ?_)
    refine lv_if_eq (tgt := 18) hx hb dX8_isPosition_11 (by decide) (fun c4 => ?_) (fun c4 => ?_)
    · replace hq := i_t c4 hq
      refine lv_iconst (v := (0 : Int32)) hx hb dX8_isPosition_18 (by decide) ?_
      exact ge_Ri hx hb hlocks hr (by decide +kernel) hI hq dX8_isPosition_19
    · replace hq := i_f c4 hq
      refine lv_iconst (v := (1 : Int32)) hx hb dX8_isPosition_14 (by decide) ?_
      refine lv_goto (tgt := 19) hx hb dX8_isPosition_15 (by decide) ?_
      exact ge_Ri hx hb hlocks hr (by decide +kernel) hI hq dX8_isPosition_19

abbrev rm_X8_isLevel : Room := { frames := 3, cells := 0, slots := 0, locals := 142 }
theorem k_X8_isLevel : g_CS yX8_isLevel cX8_isLevel 1 (some .boolean) 1 := ⟨⟨m_1707, m_14, by decide +kernel⟩, m_1706⟩
set_option maxHeartbeats 4000000 in
set_option maxRecDepth 100000 in
theorem c_X8_isLevel (l : Launch) (V : Nat → Nat) (g : GH) (D : va_G) (cT : Nat → ClassId) (f : GH) (n : Nat) (a0 : Int32) (o : Int32) (hq : p_X8_isLevel V g f a0 = some o) : Met l yX8_isLevel (Cond.code yX8_isLevel cX8_isLevel 1 (some .boolean) :: g_B) rm_X8_isLevel (va_Pc [.int a0] (g_I V g D cT f n)) (g_Ri o n) 0 0 g_no := by
  refine g_begin (own := RX8) [.int a0] [(0, .int a0)] g_no (fun _ h => h.elim) (by decide) rfl (Nat.le_of_ble_eq_true rfl) rfl ?_
  intro p e s m args below meth c hx hb hr hlocks hin hC hI ls hl
  obtain ⟨hx, hb, hml, hown, hB⟩ := id hC
  obtain ⟨H, hH⟩ : ∃ H, H = s.heap := ⟨_, rfl⟩
  obtain ⟨locs, hlocs⟩ : ∃ L : List Loc, L = [] := ⟨_, rfl⟩
  rw [← hH, ← hlocs] at hI ⊢
  clear hH hlocs
  unfold p_X8_isLevel at hq
  refine lv_iload_n hx hb dX8_isLevel_0 rfl (lv_at hl 0 rfl) ?_
  refine lv_iconst (v := (0 : Int32)) hx hb dX8_isLevel_1 (by decide) ?_
  refine lv_bipush (v := (7 : Int32)) hx hb dX8_isLevel_2 (by decide) ?_
  obtain ⟨v1, ev1, hq⟩ := b_s hq
  refine gr_i (g_runS (As := [.int a0, .int (0 : Int32), .int (7 : Int32)]) (rest := []) hC (c_X8_inRange l V g D cT f n a0 (0 : Int32) (7 : Int32) v1 ev1) k_X8_inRange m_1634 rfl rfl ⟨Nat.le_of_ble_eq_true rfl, Nat.le_of_ble_eq_true rfl⟩ hI rfl hl.1 rfl (Nat.le_of_ble_eq_true rfl) dX8_isLevel_4 ⟨by decide, by decide⟩) hI (fun H locs hI => ?_)
  obtain ⟨_, ev2, hq⟩ := b_s hq
  exact ge_Ri hx hb hlocks hr (h_bz_eq ev2).2.1 hI hq dX8_isLevel_7

abbrev rm_X8_isHeight : Room := { frames := 3, cells := 0, slots := 0, locals := 142 }
theorem k_X8_isHeight : g_CS yX8_isHeight cX8_isHeight 1 (some .boolean) 1 := ⟨⟨m_1871, m_14, by decide +kernel⟩, m_1870⟩
set_option maxHeartbeats 4000000 in
set_option maxRecDepth 100000 in
theorem c_X8_isHeight (l : Launch) (V : Nat → Nat) (g : GH) (D : va_G) (cT : Nat → ClassId) (f : GH) (n : Nat) (a0 : Int32) (o : Int32) (hq : p_X8_isHeight V g f a0 = some o) : Met l yX8_isHeight (Cond.code yX8_isHeight cX8_isHeight 1 (some .boolean) :: g_B) rm_X8_isHeight (va_Pc [.int a0] (g_I V g D cT f n)) (g_Ri o n) 0 0 g_no := by
  refine g_begin (own := RX8) [.int a0] [(0, .int a0)] g_no (fun _ h => h.elim) (by decide) rfl (Nat.le_of_ble_eq_true rfl) rfl ?_
  intro p e s m args below meth c hx hb hr hlocks hin hC hI ls hl
  obtain ⟨hx, hb, hml, hown, hB⟩ := id hC
  obtain ⟨H, hH⟩ : ∃ H, H = s.heap := ⟨_, rfl⟩
  obtain ⟨locs, hlocs⟩ : ∃ L : List Loc, L = [] := ⟨_, rfl⟩
  rw [← hH, ← hlocs] at hI ⊢
  clear hH hlocs
  unfold p_X8_isHeight at hq
  refine lv_iload_n hx hb dX8_isHeight_0 rfl (lv_at hl 0 rfl) ?_
  refine lv_bipush (v := (-50 : Int32)) hx hb dX8_isHeight_1 (by decide) ?_
  refine lv_bipush (v := (50 : Int32)) hx hb dX8_isHeight_3 (by decide) ?_
  obtain ⟨v1, ev1, hq⟩ := b_s hq
  refine gr_i (g_runS (As := [.int a0, .int (-50 : Int32), .int (50 : Int32)]) (rest := []) hC (c_X8_inRange l V g D cT f n a0 (-50 : Int32) (50 : Int32) v1 ev1) k_X8_inRange m_1634 rfl rfl ⟨Nat.le_of_ble_eq_true rfl, Nat.le_of_ble_eq_true rfl⟩ hI rfl hl.1 rfl (Nat.le_of_ble_eq_true rfl) dX8_isHeight_5 ⟨by decide, by decide⟩) hI (fun H locs hI => ?_)
  obtain ⟨_, ev2, hq⟩ := b_s hq
  exact ge_Ri hx hb hlocks hr (h_bz_eq ev2).2.1 hI hq dX8_isHeight_8

abbrev rm_X8_fewest : Room := { frames := 4, cells := 0, slots := 0, locals := 161 }
theorem k_X8_fewest : g_CV yX8_fewest cX8_fewest 2 (some .int) 1 := ⟨⟨m_1903, m_14, by decide +kernel⟩, m_1902, ms_56⟩
set_option maxHeartbeats 4000000 in
set_option maxRecDepth 100000 in
theorem c_X8_fewest (l : Launch) (V : Nat → Nat) (g : GH) (D : va_G) (cT : Nat → ClassId) (f : GH) (n : Nat) (a0 : Nat) (a1 : Int32) (o : Int32) (hq : p_X8_fewest V g f a0 a1 = some o) : Met l yX8_fewest (Cond.code yX8_fewest cX8_fewest 2 (some .int) :: g_B) rm_X8_fewest (va_Pc [.ref a0, .int a1] (g_I V g D cT f n)) (g_Ri o n) 0 0 g_no := by
  refine g_begin (own := RX8) [.ref a0, .int a1] [(0, .ref a0), (1, .int a1)] g_no (fun _ h => h.elim) (by decide) rfl (Nat.le_of_ble_eq_true rfl) rfl ?_
  intro p e s m args below meth c hx hb hr hlocks hin hC hI ls hl
  obtain ⟨hx, hb, hml, hown, hB⟩ := id hC
  obtain ⟨H, hH⟩ : ∃ H, H = s.heap := ⟨_, rfl⟩
  obtain ⟨locs, hlocs⟩ : ∃ L : List Loc, L = [] := ⟨_, rfl⟩
  rw [← hH, ← hlocs] at hI ⊢
  clear hH hlocs
  unfold p_X8_fewest at hq
  replace hq := (h_me_eq hq).2
  refine lv_aload_n hx hb dX8_fewest_0 rfl (lv_at hl 0 rfl) ?_
  refine lv_iload_n hx hb dX8_fewest_1 rfl (lv_at hl 1 rfl) ?_
  obtain ⟨v1, ev1, hq⟩ := b_s hq
  refine gr_i (g_runV (As := [.int a1]) (rest := []) (ci := 10) hC (c_X8_island l V g D cT f n a0 a1 v1 ev1) k_X8_island m_1641 rfl rfl ⟨Nat.le_of_ble_eq_true rfl, Nat.le_of_ble_eq_true rfl⟩ hI rfl rfl (h_me_eq ev1).1 rfl hl.1 rfl (Nat.le_of_ble_eq_true rfl) dX8_fewest_2 ⟨by decide, by decide⟩) hI (fun H locs hI => ?_)
  refine lv_if_eq (tgt := 12) hx hb dX8_fewest_5 (by decide) (fun c2 => ?_) (fun c2 => ?_)
  · replace hq := i_t c2 hq
    refine lv_iconst (v := (2 : Int32)) hx hb dX8_fewest_12 (by decide) ?_
    exact ge_Ri hx hb hlocks hr rfl hI hq dX8_fewest_13
  · replace hq := i_f c2 hq
    refine lv_iconst (v := (3 : Int32)) hx hb dX8_fewest_8 (by decide) ?_
    refine lv_goto (tgt := 13) hx hb dX8_fewest_9 (by decide) ?_
    exact ge_Ri hx hb hlocks hr rfl hI hq dX8_fewest_13


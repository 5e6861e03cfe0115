abbrev rm_X8_shift : Room := { frames := 6, cells := 0, slots := 0, locals := 207 }
theorem k_X8_shift : g_CV yX8_shift cX8_shift 4 (some .int) 3 := ⟨⟨m_2002, m_14, by decide +kernel⟩, m_2000, m_2001⟩
set_option maxHeartbeats 4000000 in
set_option maxRecDepth 100000 in
theorem c_X8_shift (l : Launch) (V : Nat → Nat) (g : GH) (D : va_G) (cT : Nat → ClassId) (f : GH) (n : Nat) (a0 : Nat) (a1 : Int32) (a2 : Int32) (a3 : Int32) (o : Int32 × GH) (hq : p_X8_shift V g f a0 a1 a2 a3 = some o) : Met l yX8_shift (Cond.code yX8_shift cX8_shift 4 (some .int) :: g_B) rm_X8_shift (va_Pc [.ref a0, .int a1, .int a2, .int a3] (g_I V g D cT f n)) (g_Wi V D cT o.1 o.2 n) 0 0 (g_A V) := by
  refine g_begin (own := RX8) [.ref a0, .int a1, .int a2, .int a3] [(0, .ref a0), (1, .int a1), (2, .int a2), (3, .int a3)] (g_A V) (fun _ h => h) (by decide) rfl (Nat.le_of_ble_eq_true rfl) rfl ?_
  intro p e s m args below meth c hx hb hr hlocks hin hC hI ls hl
  obtain ⟨hx, hb, hml, hown, hB⟩ := id hC
  obtain ⟨H, hH⟩ : ∃ H, H = s.heap := ⟨_, rfl⟩
  obtain ⟨locs, hlocs⟩ : ∃ L : List Loc, L = [] := ⟨_, rfl⟩
  rw [← hH, ← hlocs] at hI ⊢
  clear hH hlocs
  unfold p_X8_shift at hq
  replace hq := (h_me_eq hq).2
  refine lv_aload_n hx hb dX8_shift_0 rfl (lv_at hl 0 rfl) ?_
  refine lv_aload_n hx hb dX8_shift_1 rfl (lv_at hl 0 rfl) ?_
  refine lv_iload_n hx hb dX8_shift_2 rfl (lv_at hl 1 rfl) ?_
  obtain ⟨v1, ev1, hq⟩ := b_s hq
  refine gr_i (g_runV (As := [.int a1]) (rest := [.ref a0]) (ci := 10) hC (c_X8_isCoast l V g D cT f n a0 a1 v1 ev1) k_X8_isCoast m_1630 rfl rfl ⟨Nat.le_of_ble_eq_true rfl, Nat.le_of_ble_eq_true rfl⟩ hI rfl rfl (h_me_eq ev1).1 rfl hl.1 rfl (Nat.le_of_ble_eq_true rfl) dX8_shift_3 ⟨by decide, by decide⟩) hI (fun H locs hI => ?_)
  refine lv_iload_n hx hb dX8_shift_6 rfl (lv_at hl 2 rfl) ?_
  obtain ⟨v2, ev2, hq⟩ := b_s hq
  refine gr_i (g_runS (As := [.int a2]) (rest := [.int v1, .ref a0]) hC (c_X8_isShift l V g D cT f n a2 v2 ev2) k_X8_isShift m_2003 rfl rfl ⟨Nat.le_of_ble_eq_true rfl, Nat.le_of_ble_eq_true rfl⟩ hI rfl hl.1 rfl (Nat.le_of_ble_eq_true rfl) dX8_shift_7 ⟨by decide, by decide⟩) hI (fun H locs hI => ?_)
  have hj25 : ∀ (x0 : Nat) (x1 : Int32) (x2 : Int32) (x3 : Int32) (t0 : Int32) (t1 : Int32) (t2 : Nat) (f : GH) (H : Heap) (locs : List Loc) (ls : Array Slot), g_at (g_A V) V g D cT f n s H locs → lv_has ls 4 [(0, .ref x0), (1, .int x1), (2, .int x2), (3, .int x3)] → p_X8_shift_j25 V g x0 x1 x2 x3 t0 t1 t2 f = some o → W p l e rm_X8_shift s m args below meth c H locs 0 0 (MQ below (g_Wi V D cT o.1 o.2 n) args s 0 0 (g_A V)) (F0 m 25 ls [.int t0, .int t1, .ref t2]) := by
    intro x0 x1 x2 x3 t0 t1 t2 f H locs ls hI hl hq
    unfold p_X8_shift_j25 at hq
    obtain ⟨v3, ev3, hq⟩ := b_s hq
    refine gw_i (g_runV (As := [.int t1, .int t0]) (rest := []) (ci := 10) hC (c_X8_lacksBoth l V g D cT f n t2 t1 t0 v3 ev3) k_X8_lacksBoth m_1693 rfl rfl ⟨Nat.le_of_ble_eq_true rfl, Nat.le_of_ble_eq_true rfl⟩ hI rfl rfl (h_me_eq ev3).1 rfl hl.1 rfl (Nat.le_of_ble_eq_true rfl) dX8_shift_25 ⟨by decide, by decide⟩) hI (fun H locs hI => ?_)
    refine lv_if_eq (tgt := 33) hx hb dX8_shift_28 (by decide) (fun c4 => ?_) (fun c4 => ?_)
    · replace hq := i_t c4 hq
      refine lv_aload_n hx hb dX8_shift_33 rfl (lv_at hl 0 rfl) ?_
      obtain ⟨v5, ev5, hq⟩ := b_s hq
      refine gw_v (g_runV (As := []) (rest := []) (ci := 10) hC (c_X8_keep l V g D cT v3.2 n x0 v5 ev5) k_X8_keep m_1940 rfl rfl ⟨Nat.le_of_ble_eq_true rfl, Nat.le_of_ble_eq_true rfl⟩ hI rfl rfl (h_me_eq ev5).1 rfl hl.1 rfl (Nat.le_of_ble_eq_true rfl) dX8_shift_34 ⟨by decide, by decide⟩) hI (fun H locs hI => ?_)
      refine lv_aload_n hx hb dX8_shift_37 rfl (lv_at hl 0 rfl) ?_
      refine lv_aload_n hx hb dX8_shift_38 rfl (lv_at hl 0 rfl) ?_
      refine lv_iload_n hx hb dX8_shift_39 rfl (lv_at hl 1 rfl) ?_
      refine lv_iload_n hx hb dX8_shift_40 rfl (lv_at hl 2 rfl) ?_
      refine lv_iload_n hx hb dX8_shift_41 rfl (lv_at hl 3 rfl) ?_
      obtain ⟨v6, ev6, hq⟩ := b_s hq
      refine gw_i (g_runV (As := [.int x1, .int x2, .int x3]) (rest := [.ref x0]) (ci := 10) hC (c_X8_doShift l V g D cT v5 n x0 x1 x2 x3 v6 ev6) k_X8_doShift m_2006 rfl rfl ⟨Nat.le_of_ble_eq_true rfl, Nat.le_of_ble_eq_true rfl⟩ hI rfl rfl (h_me_eq ev6).1 rfl hl.1 rfl (Nat.le_of_ble_eq_true rfl) dX8_shift_42 ⟨by decide, by decide⟩) hI (fun H locs hI => ?_)
      obtain ⟨v7, ev7, hq⟩ := b_s hq
      refine gw_i (g_runV (As := [.int v6.1]) (rest := []) (ci := 10) hC (c_X8_fails l V g D cT v6.2 n x0 v6.1 v7 ev7) k_X8_fails m_1951 rfl rfl ⟨Nat.le_of_ble_eq_true rfl, Nat.le_of_ble_eq_true rfl⟩ hI rfl rfl (h_me_eq ev7).1 rfl hl.1 rfl (Nat.le_of_ble_eq_true rfl) dX8_shift_45 ⟨by decide, by decide⟩) hI (fun H locs hI => ?_)
      refine lv_if_eq (tgt := 55) hx hb dX8_shift_48 (by decide) (fun c8 => ?_) (fun c8 => ?_)
      · replace hq := i_t c8 hq
        refine lv_aload_n hx hb dX8_shift_55 rfl (lv_at hl 0 rfl) ?_
        refine lv_iload_n hx hb dX8_shift_56 rfl (lv_at hl 1 rfl) ?_
        obtain ⟨v9, ev9, hq⟩ := b_s hq
        refine gr_i (g_runV (As := [.int x1]) (rest := []) (ci := 10) hC (c_X8_count l V g D cT v7.2 n x0 x1 v9 ev9) k_X8_count m_1527 rfl rfl ⟨Nat.le_of_ble_eq_true rfl, Nat.le_of_ble_eq_true rfl⟩ hI rfl rfl (h_me_eq ev9).1 rfl hl.1 rfl (Nat.le_of_ble_eq_true rfl) dX8_shift_57 ⟨by decide, by decide⟩) hI (fun H locs hI => ?_)
        exact ge_Wi hx hb hlocks hr rfl hI (congrArg (fun z => z.1) (Option.some.inj hq)) (congrArg (fun z => z.2) (Option.some.inj hq)) dX8_shift_60
      · replace hq := i_f c8 hq
        refine lv_iconst (v := (0 : Int32)) hx hb dX8_shift_51 (by decide) ?_
        refine lv_goto (tgt := 60) hx hb dX8_shift_52 (by decide) ?_
        exact ge_Wi hx hb hlocks hr rfl hI (congrArg (fun z => z.1) (Option.some.inj hq)) (congrArg (fun z => z.2) (Option.some.inj hq)) dX8_shift_60
    · replace hq := i_f c4 hq
      refine lv_iconst (v := (0 : Int32)) hx hb dX8_shift_31 (by decide) ?_
      exact ge_Wi hx hb hlocks hr rfl hI (congrArg (fun z => z.1) (Option.some.inj hq)) (congrArg (fun z => z.2) (Option.some.inj hq)) dX8_shift_32
  have hj24 : ∀ (x0 : Nat) (x1 : Int32) (x2 : Int32) (x3 : Int32) (t0 : Int32) (t1 : Nat) (f : GH) (H : Heap) (locs : List Loc) (ls : Array Slot), g_at (g_A V) V g D cT f n s H locs → lv_has ls 4 [(0, .ref x0), (1, .int x1), (2, .int x2), (3, .int x3)] → p_X8_shift_j24 V g (p_X8_shift_j25 V g) x0 x1 x2 x3 t0 t1 f = some o → W p l e rm_X8_shift s m args below meth c H locs 0 0 (MQ below (g_Wi V D cT o.1 o.2 n) args s 0 0 (g_A V)) (F0 m 24 ls [.int t0, .ref t1]) := by
    intro x0 x1 x2 x3 t0 t1 f H locs ls hI hl hq
    unfold p_X8_shift_j24 at hq
    refine lv_iconst (v := (0 : Int32)) hx hb dX8_shift_24 (by decide) ?_
    exact hj25 x0 x1 x2 x3 (0 : Int32) t0 t1 f H locs ls hI (lv_sub hl [0, 1, 2, 3] rfl) hq
  refine lv_if_eq (tgt := 24) hx hb dX8_shift_10 (by decide) (fun c10 => ?_) (fun c10 => ?_)
  · replace hq := i_t c10 hq
    exact hj24 a0 a1 a2 a3 v1 a0 f H locs ls hI (lv_sub hl [0, 1, 2, 3] rfl) hq
  · replace hq := i_f c10 hq
    refine lv_iload_n hx hb dX8_shift_13 rfl (lv_at hl 3 rfl) ?_
    obtain ⟨v11, ev11, hq⟩ := b_s hq
    refine gr_i (g_runS (As := [.int a3]) (rest := [.int v1, .ref a0]) hC (c_X8_isShift l V g D cT f n a3 v11 ev11) k_X8_isShift m_2003 rfl rfl ⟨Nat.le_of_ble_eq_true rfl, Nat.le_of_ble_eq_true rfl⟩ hI rfl hl.1 rfl (Nat.le_of_ble_eq_true rfl) dX8_shift_14 ⟨by decide, by decide⟩) hI (fun H locs hI => ?_)
    refine lv_if_eq (tgt := 24) hx hb dX8_shift_17 (by decide) (fun c12 => ?_) (fun c12 => ?_)
    · replace hq := i_t c12 hq
      exact hj24 a0 a1 a2 a3 v1 a0 f H locs ls hI (lv_sub hl [0, 1, 2, 3] rfl) hq
    · replace hq := i_f c12 hq
      refine lv_iconst (v := (1 : Int32)) hx hb dX8_shift_20 (by decide) ?_
      refine lv_goto (tgt := 25) hx hb dX8_shift_21 (by decide) ?_
      exact hj25 a0 a1 a2 a3 (1 : Int32) v1 a0 f H locs ls hI (lv_sub hl [0, 1, 2, 3] rfl) hq

abbrev rm_X8_reverse : Room := { frames := 5, cells := 0, slots := 0, locals := 187 }
theorem k_X8_reverse : g_CV yX8_reverse cX8_reverse 2 (some .int) 1 := ⟨⟨m_2013, m_14, by decide +kernel⟩, m_2011, m_2012⟩
set_option maxHeartbeats 4000000 in
set_option maxRecDepth 100000 in
theorem c_X8_reverse (l : Launch) (V : Nat → Nat) (g : GH) (D : va_G) (cT : Nat → ClassId) (f : GH) (n : Nat) (a0 : Nat) (a1 : Int32) (o : Int32 × GH) (hq : p_X8_reverse V g f a0 a1 = some o) : Met l yX8_reverse (Cond.code yX8_reverse cX8_reverse 2 (some .int) :: g_B) rm_X8_reverse (va_Pc [.ref a0, .int a1] (g_I V g D cT f n)) (g_Wi V D cT o.1 o.2 n) 0 0 (g_A V) := by
  refine g_begin (own := RX8) [.ref a0, .int a1] [(0, .ref a0), (1, .int a1)] (g_A V) (fun _ h => h) (by decide) rfl (Nat.le_of_ble_eq_true rfl) rfl ?_
  intro p e s m args below meth c hx hb hr hlocks hin hC hI ls hl
  obtain ⟨hx, hb, hml, hown, hB⟩ := id hC
  obtain ⟨H, hH⟩ : ∃ H, H = s.heap := ⟨_, rfl⟩
  obtain ⟨locs, hlocs⟩ : ∃ L : List Loc, L = [] := ⟨_, rfl⟩
  rw [← hH, ← hlocs] at hI ⊢
  clear hH hlocs
  unfold p_X8_reverse at hq
  replace hq := (h_me_eq hq).2
  refine lv_aload_n hx hb dX8_reverse_0 rfl (lv_at hl 0 rfl) ?_
  obtain ⟨v1, ev1, hq⟩ := b_s hq
  refine gw_v (g_runV (As := []) (rest := []) (ci := 10) hC (c_X8_keep l V g D cT f n a0 v1 ev1) k_X8_keep m_1940 rfl rfl ⟨Nat.le_of_ble_eq_true rfl, Nat.le_of_ble_eq_true rfl⟩ hI rfl rfl (h_me_eq ev1).1 rfl hl.1 rfl (Nat.le_of_ble_eq_true rfl) dX8_reverse_1 ⟨by decide, by decide⟩) hI (fun H locs hI => ?_)
  refine lv_aload_n hx hb dX8_reverse_4 rfl (lv_at hl 0 rfl) ?_
  refine lv_aload_n hx hb dX8_reverse_5 rfl (lv_at hl 0 rfl) ?_
  refine lv_iload_n hx hb dX8_reverse_6 rfl (lv_at hl 1 rfl) ?_
  obtain ⟨v2, ev2, hq⟩ := b_s hq
  refine gw_i (g_runV (As := [.int a1]) (rest := [.ref a0]) (ci := 10) hC (c_X8_doReverse l V g D cT v1 n a0 a1 v2 ev2) k_X8_doReverse m_2014 rfl rfl ⟨Nat.le_of_ble_eq_true rfl, Nat.le_of_ble_eq_true rfl⟩ hI rfl rfl (h_me_eq ev2).1 rfl hl.1 rfl (Nat.le_of_ble_eq_true rfl) dX8_reverse_7 ⟨by decide, by decide⟩) hI (fun H locs hI => ?_)
  obtain ⟨v3, ev3, hq⟩ := b_s hq
  refine gw_i (g_runV (As := [.int v2.1]) (rest := []) (ci := 10) hC (c_X8_fails l V g D cT v2.2 n a0 v2.1 v3 ev3) k_X8_fails m_1951 rfl rfl ⟨Nat.le_of_ble_eq_true rfl, Nat.le_of_ble_eq_true rfl⟩ hI rfl rfl (h_me_eq ev3).1 rfl hl.1 rfl (Nat.le_of_ble_eq_true rfl) dX8_reverse_10 ⟨by decide, by decide⟩) hI (fun H locs hI => ?_)
  refine lv_if_eq (tgt := 20) hx hb dX8_reverse_13 (by decide) (fun c4 => ?_) (fun c4 => ?_)
  · replace hq := i_t c4 hq
    refine lv_aload_n hx hb dX8_reverse_20 rfl (lv_at hl 0 rfl) ?_
    refine lv_iload_n hx hb dX8_reverse_21 rfl (lv_at hl 1 rfl) ?_
    obtain ⟨v5, ev5, hq⟩ := b_s hq
    refine gr_i (g_runV (As := [.int a1]) (rest := []) (ci := 10) hC (c_X8_count l V g D cT v3.2 n a0 a1 v5 ev5) k_X8_count m_1527 rfl rfl ⟨Nat.le_of_ble_eq_true rfl, Nat.le_of_ble_eq_true rfl⟩ hI rfl rfl (h_me_eq ev5).1 rfl hl.1 rfl (Nat.le_of_ble_eq_true rfl) dX8_reverse_22 ⟨by decide, by decide⟩) hI (fun H locs hI => ?_)
    exact ge_Wi hx hb hlocks hr rfl hI (congrArg (fun z => z.1) (Option.some.inj hq)) (congrArg (fun z => z.2) (Option.some.inj hq)) dX8_reverse_25
  · replace hq := i_f c4 hq
    refine lv_iconst (v := (0 : Int32)) hx hb dX8_reverse_16 (by decide) ?_
    refine lv_goto (tgt := 25) hx hb dX8_reverse_17 (by decide) ?_
    exact ge_Wi hx hb hlocks hr rfl hI (congrArg (fun z => z.1) (Option.some.inj hq)) (congrArg (fun z => z.2) (Option.some.inj hq)) dX8_reverse_25

abbrev rm_X8_setMetric : Room := { frames := 2, cells := 0, slots := 0, locals := 120 }
theorem k_X8_setMetric : g_CV yX8_setMetric cX8_setMetric 2 none 1 := ⟨⟨m_2025, m_14, by decide +kernel⟩, m_2024, ms_70⟩
set_option maxHeartbeats 4000000 in
set_option maxRecDepth 100000 in
theorem c_X8_setMetric (l : Launch) (V : Nat → Nat) (g : GH) (D : va_G) (cT : Nat → ClassId) (f : GH) (n : Nat) (a0 : Nat) (a1 : Int32) (o : GH) (hq : p_X8_setMetric V g f a0 a1 = some o) : Met l yX8_setMetric (Cond.code yX8_setMetric cX8_setMetric 2 none :: g_B) rm_X8_setMetric (va_Pc [.ref a0, .int a1] (g_I V g D cT f n)) (g_Wv V D cT o n) 0 0 (g_A V) := by
  refine g_begin (own := RX8) [.ref a0, .int a1] [(0, .ref a0), (1, .int a1)] (g_A V) (fun _ h => h) (by decide) rfl (Nat.le_of_ble_eq_true rfl) rfl ?_
  intro p e s m args below meth c hx hb hr hlocks hin hC hI ls hl
  obtain ⟨hx, hb, hml, hown, hB⟩ := id hC
  obtain ⟨H, hH⟩ : ∃ H, H = s.heap := ⟨_, rfl⟩
  obtain ⟨locs, hlocs⟩ : ∃ L : List Loc, L = [] := ⟨_, rfl⟩
  rw [← hH, ← hlocs] at hI ⊢
  clear hH hlocs
  unfold p_X8_setMetric at hq
  replace hq := (h_me_eq hq).2
  refine lv_aload_n hx hb dX8_setMetric_0 rfl (lv_at hl 0 rfl) ?_
  obtain ⟨v1, ev1, hq⟩ := b_s hq
  refine fa_gr (own := RX8) (ref := "CoastlineRulerModel") (k := 5) hx hb hB inB_RX8 hown hI rfl (by decide) m_1536 (fun _ h9 => h9) ev1 dX8_setMetric_1 ?_
  refine lv_iconst (v := (0 : Int32)) hx hb dX8_setMetric_4 (by decide) ?_
  refine lv_iload_n hx hb dX8_setMetric_5 rfl (lv_at hl 1 rfl) ?_
  refine lv_if_eq (tgt := 13) hx hb dX8_setMetric_6 (by decide) (fun c2 => ?_) (fun c2 => ?_)
  · replace hq := i_t c2 hq
    refine lv_iconst (v := (0 : Int32)) hx hb dX8_setMetric_13 (by decide) ?_
    obtain ⟨f3, ef3, hq⟩ := b_s hq
    refine fa_si hx hb hI ef3 dX8_setMetric_14 (fun H locs hI => ?_)
    exact ge_Wv hx hb hlocks hr hI (Option.some.inj hq) dX8_setMetric_15
  · replace hq := i_f c2 hq
    refine lv_iconst (v := (1 : Int32)) hx hb dX8_setMetric_9 (by decide) ?_
    refine lv_goto (tgt := 14) hx hb dX8_setMetric_10 (by decide) ?_
    obtain ⟨f4, ef4, hq⟩ := b_s hq
    refine fa_si hx hb hI ef4 dX8_setMetric_14 (fun H locs hI => ?_)
    exact ge_Wv hx hb hlocks hr hI (Option.some.inj hq) dX8_setMetric_15

abbrev rm_X8_setKingMetric : Room := { frames := 4, cells := 0, slots := 0, locals := 164 }
theorem k_X8_setKingMetric : g_CV yX8_setKingMetric cX8_setKingMetric 3 (some .boolean) 1 := ⟨⟨m_2021, m_14, by decide +kernel⟩, m_2019, m_2020⟩
set_option maxHeartbeats 4000000 in
set_option maxRecDepth 100000 in
theorem c_X8_setKingMetric (l : Launch) (V : Nat → Nat) (g : GH) (D : va_G) (cT : Nat → ClassId) (f : GH) (n : Nat) (a0 : Nat) (a1 : Int32) (o : Int32 × GH) (hq : p_X8_setKingMetric V g f a0 a1 = some o) : Met l yX8_setKingMetric (Cond.code yX8_setKingMetric cX8_setKingMetric 3 (some .boolean) :: g_B) rm_X8_setKingMetric (va_Pc [.ref a0, .int a1] (g_I V g D cT f n)) (g_Wi V D cT o.1 o.2 n) 0 0 (g_A V) := by
  refine g_begin (own := RX8) [.ref a0, .int a1] [(0, .ref a0), (1, .int a1)] (g_A V) (fun _ h => h) (by decide) rfl (Nat.le_of_ble_eq_true rfl) rfl ?_
  intro p e s m args below meth c hx hb hr hlocks hin hC hI ls hl
  obtain ⟨hx, hb, hml, hown, hB⟩ := id hC
  obtain ⟨H, hH⟩ : ∃ H, H = s.heap := ⟨_, rfl⟩
  obtain ⟨locs, hlocs⟩ : ∃ L : List Loc, L = [] := ⟨_, rfl⟩
  rw [← hH, ← hlocs] at hI ⊢
  clear hH hlocs
  unfold p_X8_setKingMetric at hq
  replace hq := (h_me_eq hq).2
  refine lv_aload_n hx hb dX8_setKingMetric_0 rfl (lv_at hl 0 rfl) ?_
  refine lv_iconst (v := (0 : Int32)) hx hb dX8_setKingMetric_1 (by decide) ?_
  obtain ⟨f1, ef1, hq⟩ := b_s hq
  refine fa_pt (own := RX8) (ref := "CoastlineRulerModel") (k := 7) hx hb hB inB_RX8 tyX8_ok nmX8 hown hI rfl (by decide) m_1538 (fun _ h9 => h9) (by decide) rfl rfl ef1 dX8_setKingMetric_2 (fun H locs hI => ?_)
  refine lv_aload_n hx hb dX8_setKingMetric_5 rfl (lv_at hl 0 rfl) ?_
  obtain ⟨v2, ev2, hq⟩ := b_s hq
  refine gr_i (g_runV (As := []) (rest := []) (ci := 10) hC (c_X8_isKing l V g D cT f1 n a0 v2 ev2) k_X8_isKing m_1622 rfl rfl ⟨Nat.le_of_ble_eq_true rfl, Nat.le_of_ble_eq_true rfl⟩ hI rfl rfl (h_me_eq ev2).1 rfl hl.1 rfl (Nat.le_of_ble_eq_true rfl) dX8_setKingMetric_6 ⟨by decide, by decide⟩) hI (fun H locs hI => ?_)
  refine lv_istore_n (lv' := [(2, .int v2), (0, .ref a0), (1, .int a1)]) hx hb dX8_setKingMetric_9 rfl hl (by decide) rfl (fun ls hl => ?_)
  refine lv_aload_n hx hb dX8_setKingMetric_10 rfl (lv_at hl 1 rfl) ?_
  obtain ⟨v3, ev3, hq⟩ := b_s hq
  refine gw_v (g_runV (As := []) (rest := []) (ci := 10) hC (c_X8_keep l V g D cT f1 n a0 v3 ev3) k_X8_keep m_1940 rfl rfl ⟨Nat.le_of_ble_eq_true rfl, Nat.le_of_ble_eq_true rfl⟩ hI rfl rfl (h_me_eq ev3).1 rfl hl.1 rfl (Nat.le_of_ble_eq_true rfl) dX8_setKingMetric_11 ⟨by decide, by decide⟩) hI (fun H locs hI => ?_)
  refine lv_aload_n hx hb dX8_setKingMetric_14 rfl (lv_at hl 1 rfl) ?_
  refine lv_iload_n hx hb dX8_setKingMetric_15 rfl (lv_at hl 2 rfl) ?_
  obtain ⟨v4, ev4, hq⟩ := b_s hq
  refine gw_v (g_runV (As := [.int a1]) (rest := []) (ci := 10) hC (c_X8_setMetric l V g D cT v3 n a0 a1 v4 ev4) k_X8_setMetric m_2022 rfl rfl ⟨Nat.le_of_ble_eq_true rfl, Nat.le_of_ble_eq_true rfl⟩ hI rfl rfl (h_me_eq ev4).1 rfl hl.1 rfl (Nat.le_of_ble_eq_true rfl) dX8_setKingMetric_16 ⟨by decide, by decide⟩) hI (fun H locs hI => ?_)
  refine lv_aload_n hx hb dX8_setKingMetric_19 rfl (lv_at hl 1 rfl) ?_
  obtain ⟨v5, ev5, hq⟩ := b_s hq
  refine gw_v (g_runV (As := []) (rest := []) (ci := 10) hC (c_X8_record l V g D cT v4 n a0 v5 ev5) k_X8_record m_1955 rfl rfl ⟨Nat.le_of_ble_eq_true rfl, Nat.le_of_ble_eq_true rfl⟩ hI rfl rfl (h_me_eq ev5).1 rfl hl.1 rfl (Nat.le_of_ble_eq_true rfl) dX8_setKingMetric_20 ⟨by decide, by decide⟩) hI (fun H locs hI => ?_)
  refine lv_iload_n hx hb dX8_setKingMetric_23 rfl (lv_at hl 0 rfl) ?_
  obtain ⟨_, ev6, hq⟩ := b_s hq
  exact ge_Wi hx hb hlocks hr (h_bz_eq ev6).2.1 hI (congrArg (fun z => z.1) (Option.some.inj hq)) (congrArg (fun z => z.2) (Option.some.inj hq)) dX8_setKingMetric_24

abbrev rm_X8_write : Room := { frames := 2, cells := 0, slots := 0, locals := 120 }
theorem k_X8_write : g_CV yX8_write cX8_write 2 none 1 := ⟨⟨m_2037, m_14, by decide +kernel⟩, m_2036, ms_72⟩
set_option maxHeartbeats 4000000 in
set_option maxRecDepth 100000 in
theorem c_X8_write (l : Launch) (V : Nat → Nat) (g : GH) (D : va_G) (cT : Nat → ClassId) (f : GH) (n : Nat) (a0 : Nat) (a1 : Int32) (o : GH) (hq : p_X8_write V g f a0 a1 = some o) : Met l yX8_write (Cond.code yX8_write cX8_write 2 none :: g_B) rm_X8_write (va_Pc [.ref a0, .int a1] (g_I V g D cT f n)) (g_Wv V D cT o n) 0 0 (g_A V) := by
  refine g_begin (own := RX8) [.ref a0, .int a1] [(0, .ref a0), (1, .int a1)] (g_A V) (fun _ h => h) (by decide) rfl (Nat.le_of_ble_eq_true rfl) rfl ?_
  intro p e s m args below meth c hx hb hr hlocks hin hC hI ls hl
  obtain ⟨hx, hb, hml, hown, hB⟩ := id hC
  obtain ⟨H, hH⟩ : ∃ H, H = s.heap := ⟨_, rfl⟩
  obtain ⟨locs, hlocs⟩ : ∃ L : List Loc, L = [] := ⟨_, rfl⟩
  rw [← hH, ← hlocs] at hI ⊢
  clear hH hlocs
  unfold p_X8_write at hq
  replace hq := (h_me_eq hq).2
  refine lv_aload_n hx hb dX8_write_0 rfl (lv_at hl 0 rfl) ?_
  obtain ⟨v1, ev1, hq⟩ := b_s hq
  refine fa_gr (own := RX8) (ref := "CoastlineRulerModel") (k := 10) hx hb hB inB_RX8 hown hI rfl (by decide) m_1541 (fun _ h9 => h9) ev1 dX8_write_1 ?_
  refine lv_aload_n hx hb dX8_write_4 rfl (lv_at hl 0 rfl) ?_
  obtain ⟨v2, ev2, hq⟩ := b_s hq
  refine fa_gi (own := RX8) (ref := "CoastlineRulerModel") (k := 11) hx hb hB inB_RX8 hown hI rfl (by decide) m_1542 (fun _ h9 => h9) ev2 dX8_write_5 ?_
  refine lv_iload_n hx hb dX8_write_8 rfl (lv_at hl 1 rfl) ?_
  obtain ⟨f3, ef3, hq⟩ := b_s hq
  refine fa_si hx hb hI ef3 dX8_write_9 (fun H locs hI => ?_)
  refine lv_aload_n hx hb dX8_write_10 rfl (lv_at hl 0 rfl) ?_
  refine lv_dup hx hb dX8_write_11 rfl ?_
  obtain ⟨v4, ev4, hq⟩ := b_s hq
  refine fa_gi (own := RX8) (ref := "CoastlineRulerModel") (k := 11) hx hb hB inB_RX8 hown hI rfl (by decide) m_1542 (fun _ h9 => h9) ev4 dX8_write_12 ?_
  refine lv_iconst (v := (1 : Int32)) hx hb dX8_write_15 (by decide) ?_
  refine lv_iadd hx hb dX8_write_16 ?_
  obtain ⟨f5, ef5, hq⟩ := b_s hq
  refine fa_pt (own := RX8) (ref := "CoastlineRulerModel") (k := 11) hx hb hB inB_RX8 tyX8_ok nmX8 hown hI rfl (by decide) m_1542 (fun _ h9 => h9) (by decide) rfl rfl ef5 dX8_write_17 (fun H locs hI => ?_)
  exact ge_Wv hx hb hlocks hr hI (Option.some.inj hq) dX8_write_20

abbrev rm_X8_writeNumber : Room := { frames := 3, cells := 0, slots := 0, locals := 141 }
theorem k_X8_writeNumber : g_CV yX8_writeNumber cX8_writeNumber 4 none 1 := ⟨⟨m_2033, m_14, by decide +kernel⟩, m_2032, ms_71⟩
set_option maxHeartbeats 4000000 in
set_option maxRecDepth 100000 in
theorem c_X8_writeNumber (l : Launch) (V : Nat → Nat) (g : GH) (D : va_G) (cT : Nat → ClassId) (f : GH) (n : Nat) (a0 : Nat) (a1 : Int32) (o : GH) (hq : p_X8_writeNumber V g f a0 a1 = some o) : Met l yX8_writeNumber (Cond.code yX8_writeNumber cX8_writeNumber 4 none :: g_B) rm_X8_writeNumber (va_Pc [.ref a0, .int a1] (g_I V g D cT f n)) (g_Wv V D cT o n) 0 0 (g_A V) := by
  refine g_begin (own := RX8) [.ref a0, .int a1] [(0, .ref a0), (1, .int a1)] (g_A V) (fun _ h => h) (by decide) rfl (Nat.le_of_ble_eq_true rfl) rfl ?_
  intro p e s m args below meth c hx hb hr hlocks hin hC hI ls hl
  obtain ⟨hx, hb, hml, hown, hB⟩ := id hC
  obtain ⟨H, hH⟩ : ∃ H, H = s.heap := ⟨_, rfl⟩
  obtain ⟨locs, hlocs⟩ : ∃ L : List Loc, L = [] := ⟨_, rfl⟩
  rw [← hH, ← hlocs] at hI ⊢
  clear hH hlocs
  unfold p_X8_writeNumber at hq
  replace hq := (h_me_eq hq).2
  refine lv_iconst (v := (1 : Int32)) hx hb dX8_writeNumber_0 (by decide) ?_
  refine lv_istore_n (lv' := [(2, .int (1 : Int32)), (0, .ref a0), (1, .int a1)]) hx hb dX8_writeNumber_1 rfl hl (by decide) rfl (fun ls hl => ?_)
  have hl2 : ∀ (K18 : Nat → Int32 → Int32 → GH → Option GH) (hK18 : ∀ (x0 : Nat) (x1 : Int32) (x2 : Int32) (f : GH) (H : Heap) (locs : List Loc) (ls : Array Slot), g_at (g_A V) V g D cT f n s H locs → lv_has ls 4 [(0, .ref x0), (1, .int x1), (2, .int x2)] → K18 x0 x1 x2 f = some o → W p l e rm_X8_writeNumber s m args below meth c H locs 0 0 (MQ below (g_Wv V D cT o n) args s 0 0 (g_A V)) (F0 m 18 ls [])) (N : Nat) (x0 : Nat) (x1 : Int32) (x2 : Int32) (f : GH) (H : Heap) (locs : List Loc) (ls : Array Slot), g_at (g_A V) V g D cT f n s H locs → lv_has ls 4 [(0, .ref x0), (1, .int x1), (2, .int x2)] → p_X8_writeNumber_l2 V g K18 N x0 x1 x2 f = some o → W p l e rm_X8_writeNumber s m args below meth c H locs 0 0 (MQ below (g_Wv V D cT o n) args s 0 0 (g_A V)) (F0 m 2 ls []) := by
    intro K18 hK18 N
    induction N with
    | zero =>
      intro x0 x1 x2 f H locs ls hI hl hq
      rw [p_X8_writeNumber_l2] at hq
      cases hq
    | succ N ih =>
      intro x0 x1 x2 f H locs ls hI hl hq
      rw [p_X8_writeNumber_l2] at hq
      refine lv_iload_n hx hb dX8_writeNumber_2 rfl (lv_at hl 1 rfl) ?_
      refine lv_iload_n hx hb dX8_writeNumber_3 rfl (lv_at hl 2 rfl) ?_
      obtain ⟨_, ev1, hq⟩ := b_s hq
      refine lv_idiv hx hb dX8_writeNumber_4 (h_dv_eq ev1).2 ?_
      refine lv_bipush (v := (9 : Int32)) hx hb dX8_writeNumber_5 (by decide) ?_
      refine lv_icmp_le (tgt := 18) hx hb dX8_writeNumber_7 (by decide) (fun c2 => ?_) (fun c2 => ?_)
      · replace hq := i_t c2 hq
        exact hK18 x0 x1 x2 f H locs ls hI (lv_sub hl [0, 1, 2] rfl) hq
      · replace hq := i_f c2 hq
        refine lv_iload_n hx hb dX8_writeNumber_10 rfl (lv_at hl 2 rfl) ?_
        refine lv_bipush (v := (10 : Int32)) hx hb dX8_writeNumber_11 (by decide) ?_
        refine lv_imul hx hb dX8_writeNumber_13 ?_
        refine lv_istore_n (lv' := [(2, .int (x2 * (10 : Int32))), (0, .ref x0), (1, .int x1)]) hx hb dX8_writeNumber_14 rfl hl (by decide) rfl (fun ls hl => ?_)
        refine lv_goto (tgt := 2) hx hb dX8_writeNumber_15 (by decide) ?_
        exact ih x0 x1 (x2 * (10 : Int32)) f H locs ls hI (lv_sub hl [1, 2, 0] rfl) hq
  refine hl2 _ ?_ FU a0 a1 (1 : Int32) f H locs ls hI (lv_sub hl [1, 2, 0] rfl) hq
  · intro x0 x1 x2 f H locs ls hI hl hq
    refine lv_iload_n hx hb dX8_writeNumber_18 rfl (lv_at hl 2 rfl) ?_
    refine lv_istore_n (lv' := [(3, .int x2), (0, .ref x0), (1, .int x1), (2, .int x2)]) hx hb dX8_writeNumber_19 rfl hl (by decide) rfl (fun ls hl => ?_)
    have hl20 : ∀ (K45 : GH → Option GH) (hK45 : ∀ (f : GH) (H : Heap) (locs : List Loc) (ls : Array Slot), g_at (g_A V) V g D cT f n s H locs → lv_has ls 4 [] → K45 f = some o → W p l e rm_X8_writeNumber s m args below meth c H locs 0 0 (MQ below (g_Wv V D cT o n) args s 0 0 (g_A V)) (F0 m 45 ls [])) (N : Nat) (x0 : Nat) (x1 : Int32) (x3 : Int32) (f : GH) (H : Heap) (locs : List Loc) (ls : Array Slot), g_at (g_A V) V g D cT f n s H locs → lv_has ls 4 [(0, .ref x0), (1, .int x1), (3, .int x3)] → p_X8_writeNumber_l20 V g K45 N x0 x1 x3 f = some o → W p l e rm_X8_writeNumber s m args below meth c H locs 0 0 (MQ below (g_Wv V D cT o n) args s 0 0 (g_A V)) (F0 m 20 ls []) := by
      intro K45 hK45 N
      induction N with
      | zero =>
        intro x0 x1 x3 f H locs ls hI hl hq
        rw [p_X8_writeNumber_l20] at hq
        cases hq
      | succ N ih =>
        intro x0 x1 x3 f H locs ls hI hl hq
        rw [p_X8_writeNumber_l20] at hq
        refine lv_iload_n hx hb dX8_writeNumber_20 rfl (lv_at hl 2 rfl) ?_
        refine lv_if_le (tgt := 45) hx hb dX8_writeNumber_21 (by decide) (fun c3 => ?_) (fun c3 => ?_)
        · replace hq := i_t c3 hq
          exact hK45 f H locs ls hI (lv_sub hl [] rfl) hq
        · replace hq := i_f c3 hq
          refine lv_aload_n hx hb dX8_writeNumber_24 rfl (lv_at hl 0 rfl) ?_
          refine lv_bipush (v := (48 : Int32)) hx hb dX8_writeNumber_25 (by decide) ?_
          refine lv_iload_n hx hb dX8_writeNumber_27 rfl (lv_at hl 1 rfl) ?_
          refine lv_iload_n hx hb dX8_writeNumber_28 rfl (lv_at hl 2 rfl) ?_
          obtain ⟨_, ev4, hq⟩ := b_s hq
          refine lv_idiv hx hb dX8_writeNumber_29 (h_dv_eq ev4).2 ?_
          refine lv_bipush (v := (10 : Int32)) hx hb dX8_writeNumber_30 (by decide) ?_
          refine lv_irem hx hb dX8_writeNumber_32 (by decide) ?_
          refine lv_iadd hx hb dX8_writeNumber_33 ?_
          obtain ⟨v5, ev5, hq⟩ := b_s hq
          refine gw_v (g_runV (As := [.int ((48 : Int32) + ((x1 / x3) - (x1 / x3) / (10 : Int32) * (10 : Int32)))]) (rest := []) (ci := 10) hC (c_X8_write l V g D cT f n x0 ((48 : Int32) + ((x1 / x3) - (x1 / x3) / (10 : Int32) * (10 : Int32))) v5 ev5) k_X8_write m_2034 rfl rfl ⟨Nat.le_of_ble_eq_true rfl, Nat.le_of_ble_eq_true rfl⟩ hI rfl rfl (h_me_eq ev5).1 rfl hl.1 rfl (Nat.le_of_ble_eq_true rfl) dX8_writeNumber_34 ⟨by decide, by decide⟩) hI (fun H locs hI => ?_)
          refine lv_iload_n hx hb dX8_writeNumber_37 rfl (lv_at hl 2 rfl) ?_
          refine lv_bipush (v := (10 : Int32)) hx hb dX8_writeNumber_38 (by decide) ?_
          refine lv_idiv hx hb dX8_writeNumber_40 (by decide) ?_
          refine lv_istore_n (lv' := [(3, .int (x3 / (10 : Int32))), (0, .ref x0), (1, .int x1)]) hx hb dX8_writeNumber_41 rfl hl (by decide) rfl (fun ls hl => ?_)
          refine lv_goto (tgt := 20) hx hb dX8_writeNumber_42 (by decide) ?_
          exact ih x0 x1 (x3 / (10 : Int32)) v5 H locs ls hI (lv_sub hl [1, 2, 0] rfl) hq
    refine hl20 _ ?_ FU x0 x1 x2 f H locs ls hI (lv_sub hl [1, 2, 0] rfl) hq
    · intro f H locs ls hI hl hq
      exact ge_Wv hx hb hlocks hr hI (Option.some.inj hq) dX8_writeNumber_45

abbrev rm_X8_isLastLevel : Room := { frames := 5, cells := 0, slots := 0, locals := 185 }
theorem k_X8_isLastLevel : g_CV yX8_isLastLevel cX8_isLastLevel 3 (some .boolean) 2 := ⟨⟨m_2041, m_14, by decide +kernel⟩, m_2040, ms_73⟩
set_option maxHeartbeats 4000000 in
set_option maxRecDepth 100000 in
theorem c_X8_isLastLevel (l : Launch) (V : Nat → Nat) (g : GH) (D : va_G) (cT : Nat → ClassId) (f : GH) (n : Nat) (a0 : Nat) (a1 : Int32) (a2 : Int32) (o : Int32) (hq : p_X8_isLastLevel V g f a0 a1 a2 = some o) : Met l yX8_isLastLevel (Cond.code yX8_isLastLevel cX8_isLastLevel 3 (some .boolean) :: g_B) rm_X8_isLastLevel (va_Pc [.ref a0, .int a1, .int a2] (g_I V g D cT f n)) (g_Ri o n) 0 0 g_no := by
  refine g_begin (own := RX8) [.ref a0, .int a1, .int a2] [(0, .ref a0), (1, .int a1), (2, .int a2)] g_no (fun _ h => h.elim) (by decide) rfl (Nat.le_of_ble_eq_true rfl) rfl ?_
  intro p e s m args below meth c hx hb hr hlocks hin hC hI ls hl
  obtain ⟨hx, hb, hml, hown, hB⟩ := id hC
  obtain ⟨H, hH⟩ : ∃ H, H = s.heap := ⟨_, rfl⟩
  obtain ⟨locs, hlocs⟩ : ∃ L : List Loc, L = [] := ⟨_, rfl⟩
  rw [← hH, ← hlocs] at hI ⊢
  clear hH hlocs
  unfold p_X8_isLastLevel at hq
  replace hq := (h_me_eq hq).2
  refine lv_iload_n hx hb dX8_isLastLevel_0 rfl (lv_at hl 2 rfl) ?_
  refine lv_bipush (v := (7 : Int32)) hx hb dX8_isLastLevel_1 (by decide) ?_
  refine lv_icmp_eq (tgt := 28) hx hb dX8_isLastLevel_3 (by decide) (fun c1 => ?_) (fun c1 => ?_)
  · replace hq := i_t c1 hq
    refine lv_iconst (v := (1 : Int32)) hx hb dX8_isLastLevel_28 (by decide) ?_
    refine lv_goto (tgt := 33) hx hb dX8_isLastLevel_29 (by decide) ?_
    exact ge_Ri hx hb hlocks hr (by decide +kernel) hI hq dX8_isLastLevel_33
  · replace hq := i_f c1 hq
    refine lv_aload_n hx hb dX8_isLastLevel_6 rfl (lv_at hl 0 rfl) ?_
    refine lv_iload_n hx hb dX8_isLastLevel_7 rfl (lv_at hl 1 rfl) ?_
    refine lv_iload_n hx hb dX8_isLastLevel_8 rfl (lv_at hl 2 rfl) ?_
    obtain ⟨v2, ev2, hq⟩ := b_s hq
    refine gr_i (g_runV (As := [.int a1, .int a2]) (rest := []) (ci := 10) hC (c_X8_sticks l V g D cT f n a0 a1 a2 v2 ev2) k_X8_sticks m_1716 rfl rfl ⟨Nat.le_of_ble_eq_true rfl, Nat.le_of_ble_eq_true rfl⟩ hI rfl rfl (h_me_eq ev2).1 rfl hl.1 rfl (Nat.le_of_ble_eq_true rfl) dX8_isLastLevel_9 ⟨by decide, by decide⟩) hI (fun H locs hI => ?_)
    refine lv_aload_n hx hb dX8_isLastLevel_12 rfl (lv_at hl 0 rfl) ?_
    refine lv_iload_n hx hb dX8_isLastLevel_13 rfl (lv_at hl 1 rfl) ?_
    obtain ⟨v3, ev3, hq⟩ := b_s hq
    refine gr_i (g_runV (As := [.int a1]) (rest := [.int v2]) (ci := 10) hC (c_X8_island l V g D cT f n a0 a1 v3 ev3) k_X8_island m_1641 rfl rfl ⟨Nat.le_of_ble_eq_true rfl, Nat.le_of_ble_eq_true rfl⟩ hI rfl rfl (h_me_eq ev3).1 rfl hl.1 rfl (Nat.le_of_ble_eq_true rfl) dX8_isLastLevel_14 ⟨by decide, by decide⟩) hI (fun H locs hI => ?_)
    refine lv_if_eq (tgt := 24) hx hb dX8_isLastLevel_17 (by decide) (fun c4 => ?_) (fun c4 => ?_)
    · replace hq := i_t c4 hq
      refine lv_iconst (v := (1 : Int32)) hx hb dX8_isLastLevel_24 (by decide) ?_
      refine lv_icmp_gt (tgt := 32) hx hb dX8_isLastLevel_25 (by decide) (fun c5 => ?_) (fun c5 => ?_)
      · replace hq := i_t c5 hq
        refine lv_iconst (v := (0 : Int32)) hx hb dX8_isLastLevel_32 (by decide) ?_
        exact ge_Ri hx hb hlocks hr (by decide +kernel) hI hq dX8_isLastLevel_33
      · replace hq := i_f c5 hq
        refine lv_iconst (v := (1 : Int32)) hx hb dX8_isLastLevel_28 (by decide) ?_
        refine lv_goto (tgt := 33) hx hb dX8_isLastLevel_29 (by decide) ?_
        exact ge_Ri hx hb hlocks hr (by decide +kernel) hI hq dX8_isLastLevel_33
    · replace hq := i_f c4 hq
      refine lv_iconst (v := (2 : Int32)) hx hb dX8_isLastLevel_20 (by decide) ?_
      refine lv_goto (tgt := 25) hx hb dX8_isLastLevel_21 (by decide) ?_
      refine lv_icmp_gt (tgt := 32) hx hb dX8_isLastLevel_25 (by decide) (fun c6 => ?_) (fun c6 => ?_)
      · replace hq := i_t c6 hq
        refine lv_iconst (v := (0 : Int32)) hx hb dX8_isLastLevel_32 (by decide) ?_
        exact ge_Ri hx hb hlocks hr (by decide +kernel) hI hq dX8_isLastLevel_33
      · replace hq := i_f c6 hq
        refine lv_iconst (v := (1 : Int32)) hx hb dX8_isLastLevel_28 (by decide) ?_
        refine lv_goto (tgt := 33) hx hb dX8_isLastLevel_29 (by decide) ?_
        exact ge_Ri hx hb hlocks hr (by decide +kernel) hI hq dX8_isLastLevel_33

abbrev rm_X8_writeLengths : Room := { frames := 8, cells := 0, slots := 0, locals := 259 }
theorem k_X8_writeLengths : g_CV yX8_writeLengths cX8_writeLengths 3 (some .int) 1 := ⟨⟨m_2029, m_14, by decide +kernel⟩, m_2027, m_2028⟩
set_option maxHeartbeats 4000000 in
set_option maxRecDepth 100000 in
theorem c_X8_writeLengths (l : Launch) (V : Nat → Nat) (g : GH) (D : va_G) (cT : Nat → ClassId) (f : GH) (n : Nat) (a0 : Nat) (a1 : Int32) (o : Int32 × GH) (hq : p_X8_writeLengths V g f a0 a1 = some o) : Met l yX8_writeLengths (Cond.code yX8_writeLengths cX8_writeLengths 3 (some .int) :: g_B) rm_X8_writeLengths (va_Pc [.ref a0, .int a1] (g_I V g D cT f n)) (g_Wi V D cT o.1 o.2 n) 0 0 (g_A V) := by
  refine g_begin (own := RX8) [.ref a0, .int a1] [(0, .ref a0), (1, .int a1)] (g_A V) (fun _ h => h) (by decide) rfl (Nat.le_of_ble_eq_true rfl) rfl ?_
  intro p e s m args below meth c hx hb hr hlocks hin hC hI ls hl
  obtain ⟨hx, hb, hml, hown, hB⟩ := id hC
  obtain ⟨H, hH⟩ : ∃ H, H = s.heap := ⟨_, rfl⟩
  obtain ⟨locs, hlocs⟩ : ∃ L : List Loc, L = [] := ⟨_, rfl⟩
  rw [← hH, ← hlocs] at hI ⊢
  clear hH hlocs
  unfold p_X8_writeLengths at hq
  replace hq := (h_me_eq hq).2
  refine lv_aload_n hx hb dX8_writeLengths_0 rfl (lv_at hl 0 rfl) ?_
  refine lv_aload_n hx hb dX8_writeLengths_1 rfl (lv_at hl 0 rfl) ?_
  refine lv_iload_n hx hb dX8_writeLengths_2 rfl (lv_at hl 1 rfl) ?_
  obtain ⟨v1, ev1, hq⟩ := b_s hq
  refine gr_i (g_runV (As := [.int a1]) (rest := [.ref a0]) (ci := 10) hC (c_X8_isCoast l V g D cT f n a0 a1 v1 ev1) k_X8_isCoast m_1630 rfl rfl ⟨Nat.le_of_ble_eq_true rfl, Nat.le_of_ble_eq_true rfl⟩ hI rfl rfl (h_me_eq ev1).1 rfl hl.1 rfl (Nat.le_of_ble_eq_true rfl) dX8_writeLengths_3 ⟨by decide, by decide⟩) hI (fun H locs hI => ?_)
  obtain ⟨v2, ev2, hq⟩ := b_s hq
  refine gw_i (g_runV (As := [.int v1]) (rest := []) (ci := 10) hC (c_X8_lacks l V g D cT f n a0 v1 v2 ev2) k_X8_lacks m_1637 rfl rfl ⟨Nat.le_of_ble_eq_true rfl, Nat.le_of_ble_eq_true rfl⟩ hI rfl rfl (h_me_eq ev2).1 rfl hl.1 rfl (Nat.le_of_ble_eq_true rfl) dX8_writeLengths_6 ⟨by decide, by decide⟩) hI (fun H locs hI => ?_)
  refine lv_if_eq (tgt := 14) hx hb dX8_writeLengths_9 (by decide) (fun c3 => ?_) (fun c3 => ?_)
  · replace hq := i_t c3 hq
    refine lv_aload_n hx hb dX8_writeLengths_14 rfl (lv_at hl 0 rfl) ?_
    refine lv_iconst (v := (0 : Int32)) hx hb dX8_writeLengths_15 (by decide) ?_
    obtain ⟨f4, ef4, hq⟩ := b_s hq
    refine fa_pt (own := RX8) (ref := "CoastlineRulerModel") (k := 11) hx hb hB inB_RX8 tyX8_ok nmX8 hown hI rfl (by decide) m_1542 (fun _ h9 => h9) (by decide) rfl rfl ef4 dX8_writeLengths_16 (fun H locs hI => ?_)
    refine lv_aload_n hx hb dX8_writeLengths_19 rfl (lv_at hl 0 rfl) ?_
    refine lv_aload_n hx hb dX8_writeLengths_20 rfl (lv_at hl 0 rfl) ?_
    refine lv_iload_n hx hb dX8_writeLengths_21 rfl (lv_at hl 1 rfl) ?_
    refine lv_iconst (v := (0 : Int32)) hx hb dX8_writeLengths_22 (by decide) ?_
    obtain ⟨v5, ev5, hq⟩ := b_s hq
    refine gr_i (g_runV (As := [.int a1, .int (0 : Int32)]) (rest := [.ref a0]) (ci := 10) hC (c_X8_lengthNow l V g D cT f4 n a0 a1 (0 : Int32) v5 ev5) k_X8_lengthNow m_1708 rfl rfl ⟨Nat.le_of_ble_eq_true rfl, Nat.le_of_ble_eq_true rfl⟩ hI rfl rfl (h_me_eq ev5).1 rfl hl.1 rfl (Nat.le_of_ble_eq_true rfl) dX8_writeLengths_23 ⟨by decide, by decide⟩) hI (fun H locs hI => ?_)
    obtain ⟨v6, ev6, hq⟩ := b_s hq
    refine gw_v (g_runV (As := [.int v5]) (rest := []) (ci := 10) hC (c_X8_writeNumber l V g D cT f4 n a0 v5 v6 ev6) k_X8_writeNumber m_2030 rfl rfl ⟨Nat.le_of_ble_eq_true rfl, Nat.le_of_ble_eq_true rfl⟩ hI rfl rfl (h_me_eq ev6).1 rfl hl.1 rfl (Nat.le_of_ble_eq_true rfl) dX8_writeLengths_26 ⟨by decide, by decide⟩) hI (fun H locs hI => ?_)
    refine lv_iconst (v := (1 : Int32)) hx hb dX8_writeLengths_29 (by decide) ?_
    refine lv_istore_n (lv' := [(2, .int (1 : Int32)), (0, .ref a0), (1, .int a1)]) hx hb dX8_writeLengths_30 rfl hl (by decide) rfl (fun ls hl => ?_)
    have hl31 : ∀ (K64 : Nat → GH → Option (Int32 × GH)) (hK64 : ∀ (x0 : Nat) (f : GH) (H : Heap) (locs : List Loc) (ls : Array Slot), g_at (g_A V) V g D cT f n s H locs → lv_has ls 3 [(0, .ref x0)] → K64 x0 f = some o → W p l e rm_X8_writeLengths s m args below meth c H locs 0 0 (MQ below (g_Wi V D cT o.1 o.2 n) args s 0 0 (g_A V)) (F0 m 64 ls [])) (N : Nat) (x0 : Nat) (x1 : Int32) (x2 : Int32) (f : GH) (H : Heap) (locs : List Loc) (ls : Array Slot), g_at (g_A V) V g D cT f n s H locs → lv_has ls 3 [(0, .ref x0), (1, .int x1), (2, .int x2)] → p_X8_writeLengths_l31 V g K64 N x0 x1 x2 f = some o → W p l e rm_X8_writeLengths s m args below meth c H locs 0 0 (MQ below (g_Wi V D cT o.1 o.2 n) args s 0 0 (g_A V)) (F0 m 31 ls []) := by
      intro K64 hK64 N
      induction N with
      | zero =>
        intro x0 x1 x2 f H locs ls hI hl hq
        rw [p_X8_writeLengths_l31] at hq
        cases hq
      | succ N ih =>
        intro x0 x1 x2 f H locs ls hI hl hq
        rw [p_X8_writeLengths_l31] at hq
        refine lv_aload_n hx hb dX8_writeLengths_31 rfl (lv_at hl 0 rfl) ?_
        refine lv_iload_n hx hb dX8_writeLengths_32 rfl (lv_at hl 1 rfl) ?_
        refine lv_iload_n hx hb dX8_writeLengths_33 rfl (lv_at hl 2 rfl) ?_
        refine lv_iconst (v := (1 : Int32)) hx hb dX8_writeLengths_34 (by decide) ?_
        refine lv_isub hx hb dX8_writeLengths_35 ?_
        obtain ⟨v7, ev7, hq⟩ := b_s hq
        refine gr_i (g_runV (As := [.int x1, .int (x2 - (1 : Int32))]) (rest := []) (ci := 10) hC (c_X8_isLastLevel l V g D cT f n x0 x1 (x2 - (1 : Int32)) v7 ev7) k_X8_isLastLevel m_2038 rfl rfl ⟨Nat.le_of_ble_eq_true rfl, Nat.le_of_ble_eq_true rfl⟩ hI rfl rfl (h_me_eq ev7).1 rfl hl.1 rfl (Nat.le_of_ble_eq_true rfl) dX8_writeLengths_36 ⟨by decide, by decide⟩) hI (fun H locs hI => ?_)
        refine lv_if_ne (tgt := 64) hx hb dX8_writeLengths_39 (by decide) (fun c8 => ?_) (fun c8 => ?_)
        · replace hq := i_f c8 hq
          exact hK64 x0 f H locs ls hI (lv_sub hl [0] rfl) hq
        · replace hq := i_t c8 hq
          refine lv_aload_n hx hb dX8_writeLengths_42 rfl (lv_at hl 0 rfl) ?_
          refine lv_bipush (v := (32 : Int32)) hx hb dX8_writeLengths_43 (by decide) ?_
          obtain ⟨v9, ev9, hq⟩ := b_s hq
          refine gw_v (g_runV (As := [.int (32 : Int32)]) (rest := []) (ci := 10) hC (c_X8_write l V g D cT f n x0 (32 : Int32) v9 ev9) k_X8_write m_2034 rfl rfl ⟨Nat.le_of_ble_eq_true rfl, Nat.le_of_ble_eq_true rfl⟩ hI rfl rfl (h_me_eq ev9).1 rfl hl.1 rfl (Nat.le_of_ble_eq_true rfl) dX8_writeLengths_45 ⟨by decide, by decide⟩) hI (fun H locs hI => ?_)
          refine lv_aload_n hx hb dX8_writeLengths_48 rfl (lv_at hl 0 rfl) ?_
          refine lv_aload_n hx hb dX8_writeLengths_49 rfl (lv_at hl 0 rfl) ?_
          refine lv_iload_n hx hb dX8_writeLengths_50 rfl (lv_at hl 1 rfl) ?_
          refine lv_iload_n hx hb dX8_writeLengths_51 rfl (lv_at hl 2 rfl) ?_
          obtain ⟨v10, ev10, hq⟩ := b_s hq
          refine gr_i (g_runV (As := [.int x1, .int x2]) (rest := [.ref x0]) (ci := 10) hC (c_X8_lengthNow l V g D cT v9 n x0 x1 x2 v10 ev10) k_X8_lengthNow m_1708 rfl rfl ⟨Nat.le_of_ble_eq_true rfl, Nat.le_of_ble_eq_true rfl⟩ hI rfl rfl (h_me_eq ev10).1 rfl hl.1 rfl (Nat.le_of_ble_eq_true rfl) dX8_writeLengths_52 ⟨by decide, by decide⟩) hI (fun H locs hI => ?_)
          obtain ⟨v11, ev11, hq⟩ := b_s hq
          refine gw_v (g_runV (As := [.int v10]) (rest := []) (ci := 10) hC (c_X8_writeNumber l V g D cT v9 n x0 v10 v11 ev11) k_X8_writeNumber m_2030 rfl rfl ⟨Nat.le_of_ble_eq_true rfl, Nat.le_of_ble_eq_true rfl⟩ hI rfl rfl (h_me_eq ev11).1 rfl hl.1 rfl (Nat.le_of_ble_eq_true rfl) dX8_writeLengths_55 ⟨by decide, by decide⟩) hI (fun H locs hI => ?_)
          refine lv_iinc (v := x2 + (1 : Int32)) (lv' := [(2, .int (x2 + (1 : Int32))), (0, .ref x0), (1, .int x1)]) hx hb dX8_writeLengths_58 hl (k := 2) rfl rfl (by decide) rfl (fun ls hl => ?_)
          refine lv_goto (tgt := 31) hx hb dX8_writeLengths_61 (by decide) ?_
          exact ih x0 x1 (x2 + (1 : Int32)) v11 H locs ls hI (lv_sub hl [1, 2, 0] rfl) hq
    refine hl31 _ ?_ FU a0 a1 (1 : Int32) v6 H locs ls hI (lv_sub hl [1, 2, 0] rfl) hq
    · intro x0 f H locs ls hI hl hq
      refine lv_aload_n hx hb dX8_writeLengths_64 rfl (lv_at hl 0 rfl) ?_
      obtain ⟨v12, ev12, hq⟩ := b_s hq
      refine fa_gi (own := RX8) (ref := "CoastlineRulerModel") (k := 11) hx hb hB inB_RX8 hown hI rfl (by decide) m_1542 (fun _ h9 => h9) ev12 dX8_writeLengths_65 ?_
      exact ge_Wi hx hb hlocks hr rfl hI (congrArg (fun z => z.1) (Option.some.inj hq)) (congrArg (fun z => z.2) (Option.some.inj hq)) dX8_writeLengths_68
  · replace hq := i_f c3 hq
    refine lv_iconst (v := (0 : Int32)) hx hb dX8_writeLengths_12 (by decide) ?_
    exact ge_Wi hx hb hlocks hr rfl hI (congrArg (fun z => z.1) (Option.some.inj hq)) (congrArg (fun z => z.2) (Option.some.inj hq)) dX8_writeLengths_13

abbrev rm_X8_outputByte : Room := { frames := 3, cells := 0, slots := 0, locals := 142 }
theorem k_X8_outputByte : g_CV yX8_outputByte cX8_outputByte 2 (some .int) 1 := ⟨⟨m_2045, m_14, by decide +kernel⟩, m_2043, m_2044⟩
set_option maxHeartbeats 4000000 in
set_option maxRecDepth 100000 in
theorem c_X8_outputByte (l : Launch) (V : Nat → Nat) (g : GH) (D : va_G) (cT : Nat → ClassId) (f : GH) (n : Nat) (a0 : Nat) (a1 : Int32) (o : Int32 × GH) (hq : p_X8_outputByte V g f a0 a1 = some o) : Met l yX8_outputByte (Cond.code yX8_outputByte cX8_outputByte 2 (some .int) :: g_B) rm_X8_outputByte (va_Pc [.ref a0, .int a1] (g_I V g D cT f n)) (g_Wi V D cT o.1 o.2 n) 0 0 (g_A V) := by
  refine g_begin (own := RX8) [.ref a0, .int a1] [(0, .ref a0), (1, .int a1)] (g_A V) (fun _ h => h) (by decide) rfl (Nat.le_of_ble_eq_true rfl) rfl ?_
  intro p e s m args below meth c hx hb hr hlocks hin hC hI ls hl
  obtain ⟨hx, hb, hml, hown, hB⟩ := id hC
  obtain ⟨H, hH⟩ : ∃ H, H = s.heap := ⟨_, rfl⟩
  obtain ⟨locs, hlocs⟩ : ∃ L : List Loc, L = [] := ⟨_, rfl⟩
  rw [← hH, ← hlocs] at hI ⊢
  clear hH hlocs
  unfold p_X8_outputByte at hq
  replace hq := (h_me_eq hq).2
  refine lv_aload_n hx hb dX8_outputByte_0 rfl (lv_at hl 0 rfl) ?_
  refine lv_iload_n hx hb dX8_outputByte_1 rfl (lv_at hl 1 rfl) ?_
  refine lv_iconst (v := (0 : Int32)) hx hb dX8_outputByte_2 (by decide) ?_
  refine lv_aload_n hx hb dX8_outputByte_3 rfl (lv_at hl 0 rfl) ?_
  obtain ⟨v1, ev1, hq⟩ := b_s hq
  refine fa_gi (own := RX8) (ref := "CoastlineRulerModel") (k := 11) hx hb hB inB_RX8 hown hI rfl (by decide) m_1542 (fun _ h9 => h9) ev1 dX8_outputByte_4 ?_
  refine lv_iconst (v := (1 : Int32)) hx hb dX8_outputByte_7 (by decide) ?_
  refine lv_isub hx hb dX8_outputByte_8 ?_
  obtain ⟨v2, ev2, hq⟩ := b_s hq
  refine gr_i (g_runS (As := [.int a1, .int (0 : Int32), .int (v1 - (1 : Int32))]) (rest := [.ref a0]) hC (c_X8_inRange l V g D cT f n a1 (0 : Int32) (v1 - (1 : Int32)) v2 ev2) k_X8_inRange m_1634 rfl rfl ⟨Nat.le_of_ble_eq_true rfl, Nat.le_of_ble_eq_true rfl⟩ hI rfl hl.1 rfl (Nat.le_of_ble_eq_true rfl) dX8_outputByte_9 ⟨by decide, by decide⟩) hI (fun H locs hI => ?_)
  obtain ⟨v3, ev3, hq⟩ := b_s hq
  refine gw_i (g_runV (As := [.int v2]) (rest := []) (ci := 10) hC (c_X8_lacks l V g D cT f n a0 v2 v3 ev3) k_X8_lacks m_1637 rfl rfl ⟨Nat.le_of_ble_eq_true rfl, Nat.le_of_ble_eq_true rfl⟩ hI rfl rfl (h_me_eq ev3).1 rfl hl.1 rfl (Nat.le_of_ble_eq_true rfl) dX8_outputByte_12 ⟨by decide, by decide⟩) hI (fun H locs hI => ?_)
  refine lv_if_eq (tgt := 22) hx hb dX8_outputByte_15 (by decide) (fun c4 => ?_) (fun c4 => ?_)
  · replace hq := i_t c4 hq
    refine lv_aload_n hx hb dX8_outputByte_22 rfl (lv_at hl 0 rfl) ?_
    obtain ⟨v5, ev5, hq⟩ := b_s hq
    refine fa_gr (own := RX8) (ref := "CoastlineRulerModel") (k := 10) hx hb hB inB_RX8 hown hI rfl (by decide) m_1541 (fun _ h9 => h9) ev5 dX8_outputByte_23 ?_
    refine lv_iload_n hx hb dX8_outputByte_26 rfl (lv_at hl 1 rfl) ?_
    obtain ⟨v6, ev6, hq⟩ := b_s hq
    refine fa_li hx hb hI ev6 dX8_outputByte_27 ?_
    exact ge_Wi hx hb hlocks hr rfl hI (congrArg (fun z => z.1) (Option.some.inj hq)) (congrArg (fun z => z.2) (Option.some.inj hq)) dX8_outputByte_28
  · replace hq := i_f c4 hq
    refine lv_iconst (v := (0 : Int32)) hx hb dX8_outputByte_18 (by decide) ?_
    refine lv_goto (tgt := 28) hx hb dX8_outputByte_19 (by decide) ?_
    exact ge_Wi hx hb hlocks hr rfl hI (congrArg (fun z => z.1) (Option.some.inj hq)) (congrArg (fun z => z.2) (Option.some.inj hq)) dX8_outputByte_28

abbrev rm_X8_undoableCount : Room := { frames := 2, cells := 0, slots := 0, locals := 120 }
theorem k_X8_undoableCount : g_CV yX8_undoableCount cX8_undoableCount 1 (some .int) 0 := ⟨⟨m_2049, m_14, by decide +kernel⟩, m_2047, m_2048⟩
set_option maxHeartbeats 4000000 in
set_option maxRecDepth 100000 in
theorem c_X8_undoableCount (l : Launch) (V : Nat → Nat) (g : GH) (D : va_G) (cT : Nat → ClassId) (f : GH) (n : Nat) (a0 : Nat) (o : Int32 × GH) (hq : p_X8_undoableCount V g f a0 = some o) : Met l yX8_undoableCount (Cond.code yX8_undoableCount cX8_undoableCount 1 (some .int) :: g_B) rm_X8_undoableCount (va_Pc [.ref a0] (g_I V g D cT f n)) (g_Wi V D cT o.1 o.2 n) 0 0 (g_A V) := by
  refine g_begin (own := RX8) [.ref a0] [(0, .ref a0)] (g_A V) (fun _ h => h) (by decide) rfl (Nat.le_of_ble_eq_true rfl) rfl ?_
  intro p e s m args below meth c hx hb hr hlocks hin hC hI ls hl
  obtain ⟨hx, hb, hml, hown, hB⟩ := id hC
  obtain ⟨H, hH⟩ : ∃ H, H = s.heap := ⟨_, rfl⟩
  obtain ⟨locs, hlocs⟩ : ∃ L : List Loc, L = [] := ⟨_, rfl⟩
  rw [← hH, ← hlocs] at hI ⊢
  clear hH hlocs
  unfold p_X8_undoableCount at hq
  replace hq := (h_me_eq hq).2
  refine lv_aload_n hx hb dX8_undoableCount_0 rfl (lv_at hl 0 rfl) ?_
  refine lv_iconst (v := (0 : Int32)) hx hb dX8_undoableCount_1 (by decide) ?_
  obtain ⟨f1, ef1, hq⟩ := b_s hq
  refine fa_pt (own := RX8) (ref := "CoastlineRulerModel") (k := 7) hx hb hB inB_RX8 tyX8_ok nmX8 hown hI rfl (by decide) m_1538 (fun _ h9 => h9) (by decide) rfl rfl ef1 dX8_undoableCount_2 (fun H locs hI => ?_)
  refine lv_aload_n hx hb dX8_undoableCount_5 rfl (lv_at hl 0 rfl) ?_
  obtain ⟨v2, ev2, hq⟩ := b_s hq
  refine fa_gi (own := RX8) (ref := "CoastlineRulerModel") (k := 6) hx hb hB inB_RX8 hown hI rfl (by decide) m_1537 (fun _ h9 => h9) ev2 dX8_undoableCount_6 ?_
  exact ge_Wi hx hb hlocks hr rfl hI (congrArg (fun z => z.1) (Option.some.inj hq)) (congrArg (fun z => z.2) (Option.some.inj hq)) dX8_undoableCount_9

abbrev rm_X8_undo : Room := { frames := 3, cells := 0, slots := 0, locals := 143 }
theorem k_X8_undo : g_CV yX8_undo cX8_undo 1 (some .int) 0 := ⟨⟨m_2053, m_14, by decide +kernel⟩, m_2051, m_2052⟩
set_option maxHeartbeats 4000000 in
set_option maxRecDepth 100000 in
theorem c_X8_undo (l : Launch) (V : Nat → Nat) (g : GH) (D : va_G) (cT : Nat → ClassId) (f : GH) (n : Nat) (a0 : Nat) (o : Int32 × GH) (hq : p_X8_undo V g f a0 = some o) : Met l yX8_undo (Cond.code yX8_undo cX8_undo 1 (some .int) :: g_B) rm_X8_undo (va_Pc [.ref a0] (g_I V g D cT f n)) (g_Wi V D cT o.1 o.2 n) 0 0 (g_A V) := by
  refine g_begin (own := RX8) [.ref a0] [(0, .ref a0)] (g_A V) (fun _ h => h) (by decide) rfl (Nat.le_of_ble_eq_true rfl) rfl ?_
  intro p e s m args below meth c hx hb hr hlocks hin hC hI ls hl
  obtain ⟨hx, hb, hml, hown, hB⟩ := id hC
  obtain ⟨H, hH⟩ : ∃ H, H = s.heap := ⟨_, rfl⟩
  obtain ⟨locs, hlocs⟩ : ∃ L : List Loc, L = [] := ⟨_, rfl⟩
  rw [← hH, ← hlocs] at hI ⊢
  clear hH hlocs
  unfold p_X8_undo at hq
  replace hq := (h_me_eq hq).2
  refine lv_aload_n hx hb dX8_undo_0 rfl (lv_at hl 0 rfl) ?_
  refine lv_aload_n hx hb dX8_undo_1 rfl (lv_at hl 0 rfl) ?_
  obtain ⟨v1, ev1, hq⟩ := b_s hq
  refine fa_gi (own := RX8) (ref := "CoastlineRulerModel") (k := 6) hx hb hB inB_RX8 hown hI rfl (by decide) m_1537 (fun _ h9 => h9) ev1 dX8_undo_2 ?_
  have hj13 : ∀ (x0 : Nat) (t0 : Int32) (t1 : Nat) (f : GH) (H : Heap) (locs : List Loc) (ls : Array Slot), g_at (g_A V) V g D cT f n s H locs → lv_has ls 1 [(0, .ref x0)] → p_X8_undo_j13 V g x0 t0 t1 f = some o → W p l e rm_X8_undo s m args below meth c H locs 0 0 (MQ below (g_Wi V D cT o.1 o.2 n) args s 0 0 (g_A V)) (F0 m 13 ls [.int t0, .ref t1]) := by
    intro x0 t0 t1 f H locs ls hI hl hq
    unfold p_X8_undo_j13 at hq
    obtain ⟨v2, ev2, hq⟩ := b_s hq
    refine gw_i (g_runV (As := [.int t0]) (rest := []) (ci := 10) hC (c_X8_lacks l V g D cT f n t1 t0 v2 ev2) k_X8_lacks m_1637 rfl rfl ⟨Nat.le_of_ble_eq_true rfl, Nat.le_of_ble_eq_true rfl⟩ hI rfl rfl (h_me_eq ev2).1 rfl hl.1 rfl (Nat.le_of_ble_eq_true rfl) dX8_undo_13 ⟨by decide, by decide⟩) hI (fun H locs hI => ?_)
    refine lv_if_eq (tgt := 21) hx hb dX8_undo_16 (by decide) (fun c3 => ?_) (fun c3 => ?_)
    · replace hq := i_t c3 hq
      refine lv_aload_n hx hb dX8_undo_21 rfl (lv_at hl 0 rfl) ?_
      refine lv_dup hx hb dX8_undo_22 rfl ?_
      obtain ⟨v4, ev4, hq⟩ := b_s hq
      refine fa_gi (own := RX8) (ref := "CoastlineRulerModel") (k := 6) hx hb hB inB_RX8 hown hI rfl (by decide) m_1537 (fun _ h9 => h9) ev4 dX8_undo_23 ?_
      refine lv_iconst (v := (1 : Int32)) hx hb dX8_undo_26 (by decide) ?_
      refine lv_isub hx hb dX8_undo_27 ?_
      obtain ⟨f5, ef5, hq⟩ := b_s hq
      refine fa_pt (own := RX8) (ref := "CoastlineRulerModel") (k := 6) hx hb hB inB_RX8 tyX8_ok nmX8 hown hI rfl (by decide) m_1537 (fun _ h9 => h9) (by decide) rfl rfl ef5 dX8_undo_28 (fun H locs hI => ?_)
      refine lv_aload_n hx hb dX8_undo_31 rfl (lv_at hl 0 rfl) ?_
      obtain ⟨v6, ev6, hq⟩ := b_s hq
      refine fa_gr (own := RX8) (ref := "CoastlineRulerModel") (k := 4) hx hb hB inB_RX8 hown hI rfl (by decide) m_1535 (fun _ h9 => h9) ev6 dX8_undo_32 ?_
      refine lv_aload_n hx hb dX8_undo_35 rfl (lv_at hl 0 rfl) ?_
      obtain ⟨v7, ev7, hq⟩ := b_s hq
      refine fa_gi (own := RX8) (ref := "CoastlineRulerModel") (k := 6) hx hb hB inB_RX8 hown hI rfl (by decide) m_1537 (fun _ h9 => h9) ev7 dX8_undo_36 ?_
      refine lv_aload_n hx hb dX8_undo_39 rfl (lv_at hl 0 rfl) ?_
      obtain ⟨v8, ev8, hq⟩ := b_s hq
      refine fa_gr (own := RX8) (ref := "CoastlineRulerModel") (k := 0) hx hb hB inB_RX8 hown hI rfl (by decide) m_1531 (fun _ h9 => h9) ev8 dX8_undo_40 ?_
      refine lv_iconst (v := (0 : Int32)) hx hb dX8_undo_43 (by decide) ?_
      obtain ⟨v9, ev9, hq⟩ := b_s hq
      refine gw_v (g_runS (As := [.ref v6, .int v7, .ref v8, .int (0 : Int32)]) (rest := []) hC (c_X8_copy l V g D cT f5 n v6 v7 v8 (0 : Int32) v9 ev9) k_X8_copy m_1944 rfl rfl ⟨Nat.le_of_ble_eq_true rfl, Nat.le_of_ble_eq_true rfl⟩ hI rfl hl.1 rfl (Nat.le_of_ble_eq_true rfl) dX8_undo_44 ⟨by decide, by decide⟩) hI (fun H locs hI => ?_)
      refine lv_aload_n hx hb dX8_undo_47 rfl (lv_at hl 0 rfl) ?_
      obtain ⟨v10, ev10, hq⟩ := b_s hq
      refine fa_gi (own := RX8) (ref := "CoastlineRulerModel") (k := 6) hx hb hB inB_RX8 hown hI rfl (by decide) m_1537 (fun _ h9 => h9) ev10 dX8_undo_48 ?_
      exact ge_Wi hx hb hlocks hr rfl hI (congrArg (fun z => z.1) (Option.some.inj hq)) (congrArg (fun z => z.2) (Option.some.inj hq)) dX8_undo_51
    · replace hq := i_f c3 hq
      refine lv_iconst (v := (0 : Int32)) hx hb dX8_undo_19 (by decide) ?_
      exact ge_Wi hx hb hlocks hr rfl hI (congrArg (fun z => z.1) (Option.some.inj hq)) (congrArg (fun z => z.2) (Option.some.inj hq)) dX8_undo_20
  refine lv_if_le (tgt := 12) hx hb dX8_undo_5 (by decide) (fun c11 => ?_) (fun c11 => ?_)
  · replace hq := i_t c11 hq
    refine lv_iconst (v := (0 : Int32)) hx hb dX8_undo_12 (by decide) ?_
    exact hj13 a0 (0 : Int32) a0 f H locs ls hI (lv_sub hl [0] rfl) hq
  · replace hq := i_f c11 hq
    refine lv_iconst (v := (1 : Int32)) hx hb dX8_undo_8 (by decide) ?_
    refine lv_goto (tgt := 13) hx hb dX8_undo_9 (by decide) ?_
    exact hj13 a0 (1 : Int32) a0 f H locs ls hI (lv_sub hl [0] rfl) hq

abbrev rm_X8_saveSnapshot : Room := { frames := 3, cells := 0, slots := 0, locals := 143 }
theorem k_X8_saveSnapshot : g_CV yX8_saveSnapshot cX8_saveSnapshot 1 none 0 := ⟨⟨m_2057, m_14, by decide +kernel⟩, m_2055, m_2056⟩
set_option maxHeartbeats 4000000 in
set_option maxRecDepth 100000 in
theorem c_X8_saveSnapshot (l : Launch) (V : Nat → Nat) (g : GH) (D : va_G) (cT : Nat → ClassId) (f : GH) (n : Nat) (a0 : Nat) (o : GH) (hq : p_X8_saveSnapshot V g f a0 = some o) : Met l yX8_saveSnapshot (Cond.code yX8_saveSnapshot cX8_saveSnapshot 1 none :: g_B) rm_X8_saveSnapshot (va_Pc [.ref a0] (g_I V g D cT f n)) (g_Wv V D cT o n) 0 0 (g_A V) := by
  refine g_begin (own := RX8) [.ref a0] [(0, .ref a0)] (g_A V) (fun _ h => h) (by decide) rfl (Nat.le_of_ble_eq_true rfl) rfl ?_
  intro p e s m args below meth c hx hb hr hlocks hin hC hI ls hl
  obtain ⟨hx, hb, hml, hown, hB⟩ := id hC
  obtain ⟨H, hH⟩ : ∃ H, H = s.heap := ⟨_, rfl⟩
  obtain ⟨locs, hlocs⟩ : ∃ L : List Loc, L = [] := ⟨_, rfl⟩
  rw [← hH, ← hlocs] at hI ⊢
  clear hH hlocs
  unfold p_X8_saveSnapshot at hq
  replace hq := (h_me_eq hq).2
  refine lv_aload_n hx hb dX8_saveSnapshot_0 rfl (lv_at hl 0 rfl) ?_
  refine lv_iconst (v := (0 : Int32)) hx hb dX8_saveSnapshot_1 (by decide) ?_
  obtain ⟨f1, ef1, hq⟩ := b_s hq
  refine fa_pt (own := RX8) (ref := "CoastlineRulerModel") (k := 7) hx hb hB inB_RX8 tyX8_ok nmX8 hown hI rfl (by decide) m_1538 (fun _ h9 => h9) (by decide) rfl rfl ef1 dX8_saveSnapshot_2 (fun H locs hI => ?_)
  refine lv_aload_n hx hb dX8_saveSnapshot_5 rfl (lv_at hl 0 rfl) ?_
  obtain ⟨v2, ev2, hq⟩ := b_s hq
  refine fa_gr (own := RX8) (ref := "CoastlineRulerModel") (k := 0) hx hb hB inB_RX8 hown hI rfl (by decide) m_1531 (fun _ h9 => h9) ev2 dX8_saveSnapshot_6 ?_
  refine lv_iconst (v := (0 : Int32)) hx hb dX8_saveSnapshot_9 (by decide) ?_
  refine lv_aload_n hx hb dX8_saveSnapshot_10 rfl (lv_at hl 0 rfl) ?_
  obtain ⟨v3, ev3, hq⟩ := b_s hq
  refine fa_gr (own := RX8) (ref := "CoastlineRulerModel") (k := 3) hx hb hB inB_RX8 hown hI rfl (by decide) m_1534 (fun _ h9 => h9) ev3 dX8_saveSnapshot_11 ?_
  refine lv_iconst (v := (0 : Int32)) hx hb dX8_saveSnapshot_14 (by decide) ?_
  obtain ⟨v4, ev4, hq⟩ := b_s hq
  refine gw_v (g_runS (As := [.ref v2, .int (0 : Int32), .ref v3, .int (0 : Int32)]) (rest := []) hC (c_X8_copy l V g D cT f1 n v2 (0 : Int32) v3 (0 : Int32) v4 ev4) k_X8_copy m_1944 rfl rfl ⟨Nat.le_of_ble_eq_true rfl, Nat.le_of_ble_eq_true rfl⟩ hI rfl hl.1 rfl (Nat.le_of_ble_eq_true rfl) dX8_saveSnapshot_15 ⟨by decide, by decide⟩) hI (fun H locs hI => ?_)
  refine lv_aload_n hx hb dX8_saveSnapshot_18 rfl (lv_at hl 0 rfl) ?_
  refine lv_iconst (v := (1 : Int32)) hx hb dX8_saveSnapshot_19 (by decide) ?_
  obtain ⟨f5, ef5, hq⟩ := b_s hq
  refine fa_pt (own := RX8) (ref := "CoastlineRulerModel") (k := 9) hx hb hB inB_RX8 tyX8_ok nmX8 hown hI rfl (by decide) m_1540 (fun _ h9 => h9) (by decide) (by decide +kernel) (by decide +kernel) ef5 dX8_saveSnapshot_20 (fun H locs hI => ?_)
  exact ge_Wv hx hb hlocks hr hI (Option.some.inj hq) dX8_saveSnapshot_23

abbrev rm_X8_restoreSnapshot : Room := { frames := 3, cells := 0, slots := 0, locals := 143 }
theorem k_X8_restoreSnapshot : g_CV yX8_restoreSnapshot cX8_restoreSnapshot 1 (some .int) 0 := ⟨⟨m_2061, m_14, by decide +kernel⟩, m_2059, m_2060⟩
set_option maxHeartbeats 4000000 in
set_option maxRecDepth 100000 in
theorem c_X8_restoreSnapshot (l : Launch) (V : Nat → Nat) (g : GH) (D : va_G) (cT : Nat → ClassId) (f : GH) (n : Nat) (a0 : Nat) (o : Int32 × GH) (hq : p_X8_restoreSnapshot V g f a0 = some o) : Met l yX8_restoreSnapshot (Cond.code yX8_restoreSnapshot cX8_restoreSnapshot 1 (some .int) :: g_B) rm_X8_restoreSnapshot (va_Pc [.ref a0] (g_I V g D cT f n)) (g_Wi V D cT o.1 o.2 n) 0 0 (g_A V) := by
  refine g_begin (own := RX8) [.ref a0] [(0, .ref a0)] (g_A V) (fun _ h => h) (by decide) rfl (Nat.le_of_ble_eq_true rfl) rfl ?_
  intro p e s m args below meth c hx hb hr hlocks hin hC hI ls hl
  obtain ⟨hx, hb, hml, hown, hB⟩ := id hC
  obtain ⟨H, hH⟩ : ∃ H, H = s.heap := ⟨_, rfl⟩
  obtain ⟨locs, hlocs⟩ : ∃ L : List Loc, L = [] := ⟨_, rfl⟩
  rw [← hH, ← hlocs] at hI ⊢
  clear hH hlocs
  unfold p_X8_restoreSnapshot at hq
  replace hq := (h_me_eq hq).2
  refine lv_aload_n hx hb dX8_restoreSnapshot_0 rfl (lv_at hl 0 rfl) ?_
  refine lv_aload_n hx hb dX8_restoreSnapshot_1 rfl (lv_at hl 0 rfl) ?_
  obtain ⟨v1, ev1, hq⟩ := b_s hq
  refine fa_gi (own := RX8) (ref := "CoastlineRulerModel") (k := 9) hx hb hB inB_RX8 hown hI rfl (by decide) m_1540 (fun _ h9 => h9) ev1 dX8_restoreSnapshot_2 ?_
  obtain ⟨v2, ev2, hq⟩ := b_s hq
  refine gw_i (g_runV (As := [.int v1]) (rest := []) (ci := 10) hC (c_X8_lacks l V g D cT f n a0 v1 v2 ev2) k_X8_lacks m_1637 rfl rfl ⟨Nat.le_of_ble_eq_true rfl, Nat.le_of_ble_eq_true rfl⟩ hI rfl rfl (h_me_eq ev2).1 rfl hl.1 rfl (Nat.le_of_ble_eq_true rfl) dX8_restoreSnapshot_5 ⟨by decide, by decide⟩) hI (fun H locs hI => ?_)
  refine lv_if_eq (tgt := 13) hx hb dX8_restoreSnapshot_8 (by decide) (fun c3 => ?_) (fun c3 => ?_)
  · replace hq := i_t c3 hq
    refine lv_aload_n hx hb dX8_restoreSnapshot_13 rfl (lv_at hl 0 rfl) ?_
    obtain ⟨v4, ev4, hq⟩ := b_s hq
    refine fa_gr (own := RX8) (ref := "CoastlineRulerModel") (k := 3) hx hb hB inB_RX8 hown hI rfl (by decide) m_1534 (fun _ h9 => h9) ev4 dX8_restoreSnapshot_14 ?_
    refine lv_iconst (v := (0 : Int32)) hx hb dX8_restoreSnapshot_17 (by decide) ?_
    refine lv_aload_n hx hb dX8_restoreSnapshot_18 rfl (lv_at hl 0 rfl) ?_
    obtain ⟨v5, ev5, hq⟩ := b_s hq
    refine fa_gr (own := RX8) (ref := "CoastlineRulerModel") (k := 0) hx hb hB inB_RX8 hown hI rfl (by decide) m_1531 (fun _ h9 => h9) ev5 dX8_restoreSnapshot_19 ?_
    refine lv_iconst (v := (0 : Int32)) hx hb dX8_restoreSnapshot_22 (by decide) ?_
    obtain ⟨v6, ev6, hq⟩ := b_s hq
    refine gw_v (g_runS (As := [.ref v4, .int (0 : Int32), .ref v5, .int (0 : Int32)]) (rest := []) hC (c_X8_copy l V g D cT v2.2 n v4 (0 : Int32) v5 (0 : Int32) v6 ev6) k_X8_copy m_1944 rfl rfl ⟨Nat.le_of_ble_eq_true rfl, Nat.le_of_ble_eq_true rfl⟩ hI rfl hl.1 rfl (Nat.le_of_ble_eq_true rfl) dX8_restoreSnapshot_23 ⟨by decide, by decide⟩) hI (fun H locs hI => ?_)
    refine lv_aload_n hx hb dX8_restoreSnapshot_26 rfl (lv_at hl 0 rfl) ?_
    refine lv_iconst (v := (0 : Int32)) hx hb dX8_restoreSnapshot_27 (by decide) ?_
    obtain ⟨f7, ef7, hq⟩ := b_s hq
    refine fa_pt (own := RX8) (ref := "CoastlineRulerModel") (k := 6) hx hb hB inB_RX8 tyX8_ok nmX8 hown hI rfl (by decide) m_1537 (fun _ h9 => h9) (by decide) rfl rfl ef7 dX8_restoreSnapshot_28 (fun H locs hI => ?_)
    refine lv_aload_n hx hb dX8_restoreSnapshot_31 rfl (lv_at hl 0 rfl) ?_
    obtain ⟨v8, ev8, hq⟩ := b_s hq
    refine fa_gr (own := RX8) (ref := "CoastlineRulerModel") (k := 5) hx hb hB inB_RX8 hown hI rfl (by decide) m_1536 (fun _ h9 => h9) ev8 dX8_restoreSnapshot_32 ?_
    refine lv_iconst (v := (1 : Int32)) hx hb dX8_restoreSnapshot_35 (by decide) ?_
    obtain ⟨v9, ev9, hq⟩ := b_s hq
    refine fa_li hx hb hI ev9 dX8_restoreSnapshot_36 ?_
    exact ge_Wi hx hb hlocks hr rfl hI (congrArg (fun z => z.1) (Option.some.inj hq)) (congrArg (fun z => z.2) (Option.some.inj hq)) dX8_restoreSnapshot_37
  · replace hq := i_f c3 hq
    refine lv_iconst (v := (0 : Int32)) hx hb dX8_restoreSnapshot_11 (by decide) ?_
    exact ge_Wi hx hb hlocks hr rfl hI (congrArg (fun z => z.1) (Option.some.inj hq)) (congrArg (fun z => z.2) (Option.some.inj hq)) dX8_restoreSnapshot_12

abbrev rm_X8_appendText : Room := { frames := 2, cells := 0, slots := 0, locals := 120 }
theorem k_X8_appendText : g_CV yX8_appendText cX8_appendText 8 (some .int) 5 := ⟨⟨m_2065, m_14, by decide +kernel⟩, m_2063, m_2064⟩
set_option maxHeartbeats 4000000 in
set_option maxRecDepth 100000 in
theorem c_X8_appendText (l : Launch) (V : Nat → Nat) (g : GH) (D : va_G) (cT : Nat → ClassId) (f : GH) (n : Nat) (a0 : Nat) (a1 : Int32) (a2 : Int32) (a3 : Int32) (a4 : Int32) (a5 : Int32) (o : Int32 × GH) (hq : p_X8_appendText V g f a0 a1 a2 a3 a4 a5 = some o) : Met l yX8_appendText (Cond.code yX8_appendText cX8_appendText 8 (some .int) :: g_B) rm_X8_appendText (va_Pc [.ref a0, .int a1, .int a2, .int a3, .int a4, .int a5] (g_I V g D cT f n)) (g_Wi V D cT o.1 o.2 n) 0 0 (g_A V) := by
  refine g_begin (own := RX8) [.ref a0, .int a1, .int a2, .int a3, .int a4, .int a5] [(0, .ref a0), (1, .int a1), (2, .int a2), (3, .int a3), (4, .int a4), (5, .int a5)] (g_A V) (fun _ h => h) (by decide) rfl (Nat.le_of_ble_eq_true rfl) rfl ?_
  intro p e s m args below meth c hx hb hr hlocks hin hC hI ls hl
  obtain ⟨hx, hb, hml, hown, hB⟩ := id hC
  obtain ⟨H, hH⟩ : ∃ H, H = s.heap := ⟨_, rfl⟩
  obtain ⟨locs, hlocs⟩ : ∃ L : List Loc, L = [] := ⟨_, rfl⟩
  rw [← hH, ← hlocs] at hI ⊢
  clear hH hlocs
  unfold p_X8_appendText at hq
  replace hq := (h_me_eq hq).2
  refine lv_aload_n hx hb dX8_appendText_0 rfl (lv_at hl 0 rfl) ?_
  refine lv_iconst (v := (0 : Int32)) hx hb dX8_appendText_1 (by decide) ?_
  obtain ⟨f1, ef1, hq⟩ := b_s hq
  refine fa_pt (own := RX8) (ref := "CoastlineRulerModel") (k := 7) hx hb hB inB_RX8 tyX8_ok nmX8 hown hI rfl (by decide) m_1538 (fun _ h9 => h9) (by decide) rfl rfl ef1 dX8_appendText_2 (fun H locs hI => ?_)
  refine lv_aload_n hx hb dX8_appendText_5 rfl (lv_at hl 0 rfl) ?_
  obtain ⟨v2, ev2, hq⟩ := b_s hq
  refine fa_gi (own := RX8) (ref := "CoastlineRulerModel") (k := 13) hx hb hB inB_RX8 hown hI rfl (by decide) m_1544 (fun _ h9 => h9) ev2 dX8_appendText_6 ?_
  refine lv_bipush (v := (20 : Int32)) hx hb dX8_appendText_9 (by decide) ?_
  refine lv_iadd hx hb dX8_appendText_11 ?_
  refine lv_sipush (v := (700 : Int32)) hx hb dX8_appendText_12 (by decide) ?_
  refine lv_icmp_le (tgt := 20) hx hb dX8_appendText_15 (by decide) (fun c3 => ?_) (fun c3 => ?_)
  · replace hq := i_t c3 hq
    refine lv_iconst (v := (0 : Int32)) hx hb dX8_appendText_20 (by decide) ?_
    refine lv_istore (lv' := [(6, .int (0 : Int32)), (0, .ref a0), (1, .int a1), (2, .int a2), (3, .int a3), (4, .int a4), (5, .int a5)]) hx hb dX8_appendText_21 hl (by decide) rfl (fun ls hl => ?_)
    have hl23 : ∀ (K120 : Nat → GH → Option (Int32 × GH)) (hK120 : ∀ (x0 : Nat) (f : GH) (H : Heap) (locs : List Loc) (ls : Array Slot), g_at (g_A V) V g D cT f n s H locs → lv_has ls 8 [(0, .ref x0)] → K120 x0 f = some o → W p l e rm_X8_appendText s m args below meth c H locs 0 0 (MQ below (g_Wi V D cT o.1 o.2 n) args s 0 0 (g_A V)) (F0 m 120 ls [])) (N : Nat) (x0 : Nat) (x1 : Int32) (x2 : Int32) (x3 : Int32) (x4 : Int32) (x5 : Int32) (x6 : Int32) (f : GH) (H : Heap) (locs : List Loc) (ls : Array Slot), g_at (g_A V) V g D cT f n s H locs → lv_has ls 8 [(0, .ref x0), (1, .int x1), (2, .int x2), (3, .int x3), (4, .int x4), (5, .int x5), (6, .int x6)] → p_X8_appendText_l23 V g K120 N x0 x1 x2 x3 x4 x5 x6 f = some o → W p l e rm_X8_appendText s m args below meth c H locs 0 0 (MQ below (g_Wi V D cT o.1 o.2 n) args s 0 0 (g_A V)) (F0 m 23 ls []) := by
      intro K120 hK120 N
      induction N with
      | zero =>
        intro x0 x1 x2 x3 x4 x5 x6 f H locs ls hI hl hq
        rw [p_X8_appendText_l23] at hq
        cases hq
      | succ N ih =>
        intro x0 x1 x2 x3 x4 x5 x6 f H locs ls hI hl hq
        rw [p_X8_appendText_l23] at hq
        refine lv_iload hx hb dX8_appendText_23 (lv_at hl 6 rfl) ?_
        refine lv_bipush (v := (20 : Int32)) hx hb dX8_appendText_25 (by decide) ?_
        refine lv_icmp_ge (tgt := 120) hx hb dX8_appendText_27 (by decide) (fun c4 => ?_) (fun c4 => ?_)
        · replace hq := i_t c4 hq
          exact hK120 x0 f H locs ls hI (lv_sub hl [0] rfl) hq
        · replace hq := i_f c4 hq
          refine lv_iload hx hb dX8_appendText_30 (lv_at hl 6 rfl) ?_
          refine lv_iconst (v := (4 : Int32)) hx hb dX8_appendText_32 (by decide) ?_
          have hj76 : ∀ (x0 : Nat) (x1 : Int32) (x2 : Int32) (x3 : Int32) (x4 : Int32) (x5 : Int32) (x6 : Int32) (t0 : Int32) (f : GH) (H : Heap) (locs : List Loc) (ls : Array Slot), g_at (g_A V) V g D cT f n s H locs → lv_has ls 8 [(0, .ref x0), (1, .int x1), (2, .int x2), (3, .int x3), (4, .int x4), (5, .int x5), (6, .int x6)] → p_X8_appendText_j76 V g (p_X8_appendText_l23 V g K120 N) x0 x1 x2 x3 x4 x5 x6 t0 f = some o → W p l e rm_X8_appendText s m args below meth c H locs 0 0 (MQ below (g_Wi V D cT o.1 o.2 n) args s 0 0 (g_A V)) (F0 m 76 ls [.int t0]) := by
            intro x0 x1 x2 x3 x4 x5 x6 t0 f H locs ls hI hl hq
            unfold p_X8_appendText_j76 at hq
            refine lv_istore (lv' := [(7, .int t0), (0, .ref x0), (1, .int x1), (2, .int x2), (3, .int x3), (4, .int x4), (5, .int x5), (6, .int x6)]) hx hb dX8_appendText_76 hl (by decide) rfl (fun ls hl => ?_)
            refine lv_aload_n hx hb dX8_appendText_78 rfl (lv_at hl 1 rfl) ?_
            obtain ⟨v5, ev5, hq⟩ := b_s hq
            refine fa_gr (own := RX8) (ref := "CoastlineRulerModel") (k := 12) hx hb hB inB_RX8 hown hI rfl (by decide) m_1543 (fun _ h9 => h9) ev5 dX8_appendText_79 ?_
            refine lv_aload_n hx hb dX8_appendText_82 rfl (lv_at hl 1 rfl) ?_
            obtain ⟨v6, ev6, hq⟩ := b_s hq
            refine fa_gi (own := RX8) (ref := "CoastlineRulerModel") (k := 13) hx hb hB inB_RX8 hown hI rfl (by decide) m_1544 (fun _ h9 => h9) ev6 dX8_appendText_83 ?_
            refine lv_iload hx hb dX8_appendText_86 (lv_at hl 0 rfl) ?_
            refine lv_bipush (v := (24 : Int32)) hx hb dX8_appendText_88 (by decide) ?_
            refine lv_bipush (v := (8 : Int32)) hx hb dX8_appendText_90 (by decide) ?_
            refine lv_iload hx hb dX8_appendText_92 (lv_at hl 7 rfl) ?_
            refine lv_iconst (v := (4 : Int32)) hx hb dX8_appendText_94 (by decide) ?_
            refine lv_irem hx hb dX8_appendText_95 (by decide) ?_
            refine lv_imul hx hb dX8_appendText_96 ?_
            refine lv_isub hx hb dX8_appendText_97 ?_
            refine lv_ishr hx hb dX8_appendText_98 ?_
            refine lv_sipush (v := (255 : Int32)) hx hb dX8_appendText_99 (by decide) ?_
            refine lv_iand hx hb dX8_appendText_102 ?_
            obtain ⟨f7, ef7, hq⟩ := b_s hq
            refine fa_si hx hb hI ef7 dX8_appendText_103 (fun H locs hI => ?_)
            refine lv_aload_n hx hb dX8_appendText_104 rfl (lv_at hl 1 rfl) ?_
            refine lv_dup hx hb dX8_appendText_105 rfl ?_
            obtain ⟨v8, ev8, hq⟩ := b_s hq
            refine fa_gi (own := RX8) (ref := "CoastlineRulerModel") (k := 13) hx hb hB inB_RX8 hown hI rfl (by decide) m_1544 (fun _ h9 => h9) ev8 dX8_appendText_106 ?_
            refine lv_iconst (v := (1 : Int32)) hx hb dX8_appendText_109 (by decide) ?_
            refine lv_iadd hx hb dX8_appendText_110 ?_
            obtain ⟨f9, ef9, hq⟩ := b_s hq
            refine fa_pt (own := RX8) (ref := "CoastlineRulerModel") (k := 13) hx hb hB inB_RX8 tyX8_ok nmX8 hown hI rfl (by decide) m_1544 (fun _ h9 => h9) (by decide) rfl rfl ef9 dX8_appendText_111 (fun H locs hI => ?_)
            refine lv_iinc (v := x6 + (1 : Int32)) (lv' := [(6, .int (x6 + (1 : Int32))), (7, .int t0), (0, .ref x0), (1, .int x1), (2, .int x2), (3, .int x3), (4, .int x4), (5, .int x5)]) hx hb dX8_appendText_114 hl (k := 7) rfl rfl (by decide) rfl (fun ls hl => ?_)
            refine lv_goto (tgt := 23) hx hb dX8_appendText_117 (by decide) ?_
            exact ih x0 x1 x2 x3 x4 x5 (x6 + (1 : Int32)) f9 H locs ls hI (lv_sub hl [2, 3, 4, 5, 6, 7, 0] rfl) hq
          refine lv_icmp_ge (tgt := 40) hx hb dX8_appendText_33 (by decide) (fun c10 => ?_) (fun c10 => ?_)
          · replace hq := i_t c10 hq
            refine lv_iload hx hb dX8_appendText_40 (lv_at hl 6 rfl) ?_
            refine lv_bipush (v := (8 : Int32)) hx hb dX8_appendText_42 (by decide) ?_
            refine lv_icmp_ge (tgt := 51) hx hb dX8_appendText_44 (by decide) (fun c11 => ?_) (fun c11 => ?_)
            · replace hq := i_t c11 hq
              refine lv_iload hx hb dX8_appendText_51 (lv_at hl 6 rfl) ?_
              refine lv_bipush (v := (12 : Int32)) hx hb dX8_appendText_53 (by decide) ?_
              refine lv_icmp_ge (tgt := 62) hx hb dX8_appendText_55 (by decide) (fun c12 => ?_) (fun c12 => ?_)
              · replace hq := i_t c12 hq
                refine lv_iload hx hb dX8_appendText_62 (lv_at hl 6 rfl) ?_
                refine lv_bipush (v := (16 : Int32)) hx hb dX8_appendText_64 (by decide) ?_
                refine lv_icmp_ge (tgt := 74) hx hb dX8_appendText_66 (by decide) (fun c13 => ?_) (fun c13 => ?_)
                · replace hq := i_t c13 hq
                  refine lv_iload hx hb dX8_appendText_74 (lv_at hl 5 rfl) ?_
                  exact hj76 x0 x1 x2 x3 x4 x5 x6 x5 f H locs ls hI (lv_sub hl [0, 1, 2, 3, 4, 5, 6] rfl) hq
                · replace hq := i_f c13 hq
                  refine lv_iload hx hb dX8_appendText_69 (lv_at hl 4 rfl) ?_
                  refine lv_goto (tgt := 76) hx hb dX8_appendText_71 (by decide) ?_
                  exact hj76 x0 x1 x2 x3 x4 x5 x6 x4 f H locs ls hI (lv_sub hl [0, 1, 2, 3, 4, 5, 6] rfl) hq
              · replace hq := i_f c12 hq
                refine lv_iload_n hx hb dX8_appendText_58 rfl (lv_at hl 3 rfl) ?_
                refine lv_goto (tgt := 76) hx hb dX8_appendText_59 (by decide) ?_
                exact hj76 x0 x1 x2 x3 x4 x5 x6 x3 f H locs ls hI (lv_sub hl [0, 1, 2, 3, 4, 5, 6] rfl) hq
            · replace hq := i_f c11 hq
              refine lv_iload_n hx hb dX8_appendText_47 rfl (lv_at hl 2 rfl) ?_
              refine lv_goto (tgt := 76) hx hb dX8_appendText_48 (by decide) ?_
              exact hj76 x0 x1 x2 x3 x4 x5 x6 x2 f H locs ls hI (lv_sub hl [0, 1, 2, 3, 4, 5, 6] rfl) hq
          · replace hq := i_f c10 hq
            refine lv_iload_n hx hb dX8_appendText_36 rfl (lv_at hl 1 rfl) ?_
            refine lv_goto (tgt := 76) hx hb dX8_appendText_37 (by decide) ?_
            exact hj76 x0 x1 x2 x3 x4 x5 x6 x1 f H locs ls hI (lv_sub hl [0, 1, 2, 3, 4, 5, 6] rfl) hq
    refine hl23 _ ?_ FU a0 a1 a2 a3 a4 a5 (0 : Int32) f1 H locs ls hI (lv_sub hl [1, 2, 3, 4, 5, 6, 0] rfl) hq
    · intro x0 f H locs ls hI hl hq
      refine lv_aload_n hx hb dX8_appendText_120 rfl (lv_at hl 0 rfl) ?_
      obtain ⟨v14, ev14, hq⟩ := b_s hq
      refine fa_gi (own := RX8) (ref := "CoastlineRulerModel") (k := 13) hx hb hB inB_RX8 hown hI rfl (by decide) m_1544 (fun _ h9 => h9) ev14 dX8_appendText_121 ?_
      exact ge_Wi hx hb hlocks hr rfl hI (congrArg (fun z => z.1) (Option.some.inj hq)) (congrArg (fun z => z.2) (Option.some.inj hq)) dX8_appendText_124
  · replace hq := i_f c3 hq
    refine lv_iconst (v := (-1 : Int32)) hx hb dX8_appendText_18 (by decide) ?_
    exact ge_Wi hx hb hlocks hr rfl hI (congrArg (fun z => z.1) (Option.some.inj hq)) (congrArg (fun z => z.2) (Option.some.inj hq)) dX8_appendText_19

abbrev rm_X8_errorOffset : Room := { frames := 2, cells := 0, slots := 0, locals := 120 }
theorem k_X8_errorOffset : g_CV yX8_errorOffset cX8_errorOffset 1 (some .int) 0 := ⟨⟨m_2069, m_14, by decide +kernel⟩, m_2067, m_2068⟩
set_option maxHeartbeats 4000000 in
set_option maxRecDepth 100000 in
theorem c_X8_errorOffset (l : Launch) (V : Nat → Nat) (g : GH) (D : va_G) (cT : Nat → ClassId) (f : GH) (n : Nat) (a0 : Nat) (o : Int32 × GH) (hq : p_X8_errorOffset V g f a0 = some o) : Met l yX8_errorOffset (Cond.code yX8_errorOffset cX8_errorOffset 1 (some .int) :: g_B) rm_X8_errorOffset (va_Pc [.ref a0] (g_I V g D cT f n)) (g_Wi V D cT o.1 o.2 n) 0 0 (g_A V) := by
  refine g_begin (own := RX8) [.ref a0] [(0, .ref a0)] (g_A V) (fun _ h => h) (by decide) rfl (Nat.le_of_ble_eq_true rfl) rfl ?_
  intro p e s m args below meth c hx hb hr hlocks hin hC hI ls hl
  obtain ⟨hx, hb, hml, hown, hB⟩ := id hC
  obtain ⟨H, hH⟩ : ∃ H, H = s.heap := ⟨_, rfl⟩
  obtain ⟨locs, hlocs⟩ : ∃ L : List Loc, L = [] := ⟨_, rfl⟩
  rw [← hH, ← hlocs] at hI ⊢
  clear hH hlocs
  unfold p_X8_errorOffset at hq
  replace hq := (h_me_eq hq).2
  refine lv_aload_n hx hb dX8_errorOffset_0 rfl (lv_at hl 0 rfl) ?_
  refine lv_iconst (v := (0 : Int32)) hx hb dX8_errorOffset_1 (by decide) ?_
  obtain ⟨f1, ef1, hq⟩ := b_s hq
  refine fa_pt (own := RX8) (ref := "CoastlineRulerModel") (k := 7) hx hb hB inB_RX8 tyX8_ok nmX8 hown hI rfl (by decide) m_1538 (fun _ h9 => h9) (by decide) rfl rfl ef1 dX8_errorOffset_2 (fun H locs hI => ?_)
  refine lv_aload_n hx hb dX8_errorOffset_5 rfl (lv_at hl 0 rfl) ?_
  obtain ⟨v2, ev2, hq⟩ := b_s hq
  refine fa_gi (own := RX8) (ref := "CoastlineRulerModel") (k := 20) hx hb hB inB_RX8 hown hI rfl (by decide) m_1551 (fun _ h9 => h9) ev2 dX8_errorOffset_6 ?_
  exact ge_Wi hx hb hlocks hr rfl hI (congrArg (fun z => z.1) (Option.some.inj hq)) (congrArg (fun z => z.2) (Option.some.inj hq)) dX8_errorOffset_9

abbrev rm_X8_byteAt : Room := { frames := 2, cells := 0, slots := 0, locals := 120 }
theorem k_X8_byteAt : g_CV yX8_byteAt cX8_byteAt 2 (some .int) 1 := ⟨⟨m_2093, m_14, by decide +kernel⟩, m_2092, ms_77⟩
set_option maxHeartbeats 4000000 in
set_option maxRecDepth 100000 in
theorem c_X8_byteAt (l : Launch) (V : Nat → Nat) (g : GH) (D : va_G) (cT : Nat → ClassId) (f : GH) (n : Nat) (a0 : Nat) (a1 : Int32) (o : Int32) (hq : p_X8_byteAt V g f a0 a1 = some o) : Met l yX8_byteAt (Cond.code yX8_byteAt cX8_byteAt 2 (some .int) :: g_B) rm_X8_byteAt (va_Pc [.ref a0, .int a1] (g_I V g D cT f n)) (g_Ri o n) 0 0 g_no := by
  refine g_begin (own := RX8) [.ref a0, .int a1] [(0, .ref a0), (1, .int a1)] g_no (fun _ h => h.elim) (by decide) rfl (Nat.le_of_ble_eq_true rfl) rfl ?_
  intro p e s m args below meth c hx hb hr hlocks hin hC hI ls hl
  obtain ⟨hx, hb, hml, hown, hB⟩ := id hC
  obtain ⟨H, hH⟩ : ∃ H, H = s.heap := ⟨_, rfl⟩
  obtain ⟨locs, hlocs⟩ : ∃ L : List Loc, L = [] := ⟨_, rfl⟩
  rw [← hH, ← hlocs] at hI ⊢
  clear hH hlocs
  unfold p_X8_byteAt at hq
  replace hq := (h_me_eq hq).2
  refine lv_iload_n hx hb dX8_byteAt_0 rfl (lv_at hl 1 rfl) ?_
  refine lv_aload_n hx hb dX8_byteAt_1 rfl (lv_at hl 0 rfl) ?_
  obtain ⟨v1, ev1, hq⟩ := b_s hq
  refine fa_gi (own := RX8) (ref := "CoastlineRulerModel") (k := 14) hx hb hB inB_RX8 hown hI rfl (by decide) m_1545 (fun _ h9 => h9) ev1 dX8_byteAt_2 ?_
  refine lv_icmp_ge (tgt := 17) hx hb dX8_byteAt_5 (by decide) (fun c2 => ?_) (fun c2 => ?_)
  · replace hq := i_t c2 hq
    refine lv_iconst (v := (-1 : Int32)) hx hb dX8_byteAt_17 (by decide) ?_
    exact ge_Ri hx hb hlocks hr rfl hI hq dX8_byteAt_18
  · replace hq := i_f c2 hq
    refine lv_aload_n hx hb dX8_byteAt_8 rfl (lv_at hl 0 rfl) ?_
    obtain ⟨v3, ev3, hq⟩ := b_s hq
    refine fa_gr (own := RX8) (ref := "CoastlineRulerModel") (k := 12) hx hb hB inB_RX8 hown hI rfl (by decide) m_1543 (fun _ h9 => h9) ev3 dX8_byteAt_9 ?_
    refine lv_iload_n hx hb dX8_byteAt_12 rfl (lv_at hl 1 rfl) ?_
    obtain ⟨v4, ev4, hq⟩ := b_s hq
    refine fa_li hx hb hI ev4 dX8_byteAt_13 ?_
    refine lv_goto (tgt := 18) hx hb dX8_byteAt_14 (by decide) ?_
    exact ge_Ri hx hb hlocks hr rfl hI hq dX8_byteAt_18

abbrev rm_X8_isLetter : Room := { frames := 3, cells := 0, slots := 0, locals := 141 }
theorem k_X8_isLetter : g_CV yX8_isLetter cX8_isLetter 2 (some .boolean) 1 := ⟨⟨m_2097, m_14, by decide +kernel⟩, m_2096, ms_78⟩
set_option maxHeartbeats 4000000 in
set_option maxRecDepth 100000 in
theorem c_X8_isLetter (l : Launch) (V : Nat → Nat) (g : GH) (D : va_G) (cT : Nat → ClassId) (f : GH) (n : Nat) (a0 : Nat) (a1 : Int32) (o : Int32) (hq : p_X8_isLetter V g f a0 a1 = some o) : Met l yX8_isLetter (Cond.code yX8_isLetter cX8_isLetter 2 (some .boolean) :: g_B) rm_X8_isLetter (va_Pc [.ref a0, .int a1] (g_I V g D cT f n)) (g_Ri o n) 0 0 g_no := by
  refine g_begin (own := RX8) [.ref a0, .int a1] [(0, .ref a0), (1, .int a1)] g_no (fun _ h => h.elim) (by decide) rfl (Nat.le_of_ble_eq_true rfl) rfl ?_
  intro p e s m args below meth c hx hb hr hlocks hin hC hI ls hl
  obtain ⟨hx, hb, hml, hown, hB⟩ := id hC
  obtain ⟨H, hH⟩ : ∃ H, H = s.heap := ⟨_, rfl⟩
  obtain ⟨locs, hlocs⟩ : ∃ L : List Loc, L = [] := ⟨_, rfl⟩
  rw [← hH, ← hlocs] at hI ⊢
  clear hH hlocs
  unfold p_X8_isLetter at hq
  replace hq := (h_me_eq hq).2
  refine lv_aload_n hx hb dX8_isLetter_0 rfl (lv_at hl 0 rfl) ?_
  refine lv_iload_n hx hb dX8_isLetter_1 rfl (lv_at hl 1 rfl) ?_
  obtain ⟨v1, ev1, hq⟩ := b_s hq
  refine gr_i (g_runV (As := [.int a1]) (rest := []) (ci := 10) hC (c_X8_byteAt l V g D cT f n a0 a1 v1 ev1) k_X8_byteAt m_2090 rfl rfl ⟨Nat.le_of_ble_eq_true rfl, Nat.le_of_ble_eq_true rfl⟩ hI rfl rfl (h_me_eq ev1).1 rfl hl.1 rfl (Nat.le_of_ble_eq_true rfl) dX8_isLetter_2 ⟨by decide, by decide⟩) hI (fun H locs hI => ?_)
  refine lv_bipush (v := (97 : Int32)) hx hb dX8_isLetter_5 (by decide) ?_
  refine lv_icmp_lt (tgt := 24) hx hb dX8_isLetter_7 (by decide) (fun c2 => ?_) (fun c2 => ?_)
  · replace hq := i_t c2 hq
    refine lv_iconst (v := (0 : Int32)) hx hb dX8_isLetter_24 (by decide) ?_
    exact ge_Ri hx hb hlocks hr (by decide +kernel) hI hq dX8_isLetter_25
  · replace hq := i_f c2 hq
    refine lv_aload_n hx hb dX8_isLetter_10 rfl (lv_at hl 0 rfl) ?_
    refine lv_iload_n hx hb dX8_isLetter_11 rfl (lv_at hl 1 rfl) ?_
    obtain ⟨v3, ev3, hq⟩ := b_s hq
    refine gr_i (g_runV (As := [.int a1]) (rest := []) (ci := 10) hC (c_X8_byteAt l V g D cT f n a0 a1 v3 ev3) k_X8_byteAt m_2090 rfl rfl ⟨Nat.le_of_ble_eq_true rfl, Nat.le_of_ble_eq_true rfl⟩ hI rfl rfl (h_me_eq ev3).1 rfl hl.1 rfl (Nat.le_of_ble_eq_true rfl) dX8_isLetter_12 ⟨by decide, by decide⟩) hI (fun H locs hI => ?_)
    refine lv_bipush (v := (122 : Int32)) hx hb dX8_isLetter_15 (by decide) ?_
    refine lv_icmp_gt (tgt := 24) hx hb dX8_isLetter_17 (by decide) (fun c4 => ?_) (fun c4 => ?_)
    · replace hq := i_t c4 hq
      refine lv_iconst (v := (0 : Int32)) hx hb dX8_isLetter_24 (by decide) ?_
      exact ge_Ri hx hb hlocks hr (by decide +kernel) hI hq dX8_isLetter_25
    · replace hq := i_f c4 hq
      refine lv_iconst (v := (1 : Int32)) hx hb dX8_isLetter_20 (by decide) ?_
      refine lv_goto (tgt := 25) hx hb dX8_isLetter_21 (by decide) ?_
      exact ge_Ri hx hb hlocks hr (by decide +kernel) hI hq dX8_isLetter_25

abbrev rm_X8_isDigit : Room := { frames := 3, cells := 0, slots := 0, locals := 141 }
theorem k_X8_isDigit : g_CV yX8_isDigit cX8_isDigit 2 (some .boolean) 1 := ⟨⟨m_2101, m_14, by decide +kernel⟩, m_2100, ms_79⟩
set_option maxHeartbeats 4000000 in
set_option maxRecDepth 100000 in
theorem c_X8_isDigit (l : Launch) (V : Nat → Nat) (g : GH) (D : va_G) (cT : Nat → ClassId) (f : GH) (n : Nat) (a0 : Nat) (a1 : Int32) (o : Int32) (hq : p_X8_isDigit V g f a0 a1 = some o) : Met l yX8_isDigit (Cond.code yX8_isDigit cX8_isDigit 2 (some .boolean) :: g_B) rm_X8_isDigit (va_Pc [.ref a0, .int a1] (g_I V g D cT f n)) (g_Ri o n) 0 0 g_no := by
  refine g_begin (own := RX8) [.ref a0, .int a1] [(0, .ref a0), (1, .int a1)] g_no (fun _ h => h.elim) (by decide) rfl (Nat.le_of_ble_eq_true rfl) rfl ?_
  intro p e s m args below meth c hx hb hr hlocks hin hC hI ls hl
  obtain ⟨hx, hb, hml, hown, hB⟩ := id hC
  obtain ⟨H, hH⟩ : ∃ H, H = s.heap := ⟨_, rfl⟩
  obtain ⟨locs, hlocs⟩ : ∃ L : List Loc, L = [] := ⟨_, rfl⟩
  rw [← hH, ← hlocs] at hI ⊢
  clear hH hlocs
  unfold p_X8_isDigit at hq
  replace hq := (h_me_eq hq).2
  refine lv_aload_n hx hb dX8_isDigit_0 rfl (lv_at hl 0 rfl) ?_
  refine lv_iload_n hx hb dX8_isDigit_1 rfl (lv_at hl 1 rfl) ?_
  obtain ⟨v1, ev1, hq⟩ := b_s hq
  refine gr_i (g_runV (As := [.int a1]) (rest := []) (ci := 10) hC (c_X8_byteAt l V g D cT f n a0 a1 v1 ev1) k_X8_byteAt m_2090 rfl rfl ⟨Nat.le_of_ble_eq_true rfl, Nat.le_of_ble_eq_true rfl⟩ hI rfl rfl (h_me_eq ev1).1 rfl hl.1 rfl (Nat.le_of_ble_eq_true rfl) dX8_isDigit_2 ⟨by decide, by decide⟩) hI (fun H locs hI => ?_)
  refine lv_bipush (v := (48 : Int32)) hx hb dX8_isDigit_5 (by decide) ?_
  refine lv_icmp_lt (tgt := 24) hx hb dX8_isDigit_7 (by decide) (fun c2 => ?_) (fun c2 => ?_)
  · replace hq := i_t c2 hq
    refine lv_iconst (v := (0 : Int32)) hx hb dX8_isDigit_24 (by decide) ?_
    exact ge_Ri hx hb hlocks hr (by decide +kernel) hI hq dX8_isDigit_25
  · replace hq := i_f c2 hq
    refine lv_aload_n hx hb dX8_isDigit_10 rfl (lv_at hl 0 rfl) ?_
    refine lv_iload_n hx hb dX8_isDigit_11 rfl (lv_at hl 1 rfl) ?_
    obtain ⟨v3, ev3, hq⟩ := b_s hq
    refine gr_i (g_runV (As := [.int a1]) (rest := []) (ci := 10) hC (c_X8_byteAt l V g D cT f n a0 a1 v3 ev3) k_X8_byteAt m_2090 rfl rfl ⟨Nat.le_of_ble_eq_true rfl, Nat.le_of_ble_eq_true rfl⟩ hI rfl rfl (h_me_eq ev3).1 rfl hl.1 rfl (Nat.le_of_ble_eq_true rfl) dX8_isDigit_12 ⟨by decide, by decide⟩) hI (fun H locs hI => ?_)
    refine lv_bipush (v := (57 : Int32)) hx hb dX8_isDigit_15 (by decide) ?_
    refine lv_icmp_gt (tgt := 24) hx hb dX8_isDigit_17 (by decide) (fun c4 => ?_) (fun c4 => ?_)
    · replace hq := i_t c4 hq
      refine lv_iconst (v := (0 : Int32)) hx hb dX8_isDigit_24 (by decide) ?_
      exact ge_Ri hx hb hlocks hr (by decide +kernel) hI hq dX8_isDigit_25
    · replace hq := i_f c4 hq
      refine lv_iconst (v := (1 : Int32)) hx hb dX8_isDigit_20 (by decide) ?_
      refine lv_goto (tgt := 25) hx hb dX8_isDigit_21 (by decide) ?_
      exact ge_Ri hx hb hlocks hr (by decide +kernel) hI hq dX8_isDigit_25

abbrev rm_X8_scan : Room := { frames := 4, cells := 0, slots := 0, locals := 162 }
theorem k_X8_scan : g_CV yX8_scan cX8_scan 1 none 0 := ⟨⟨m_2089, m_14, by decide +kernel⟩, m_2088, ms_76⟩
set_option maxHeartbeats 4000000 in
set_option maxRecDepth 100000 in
theorem c_X8_scan (l : Launch) (V : Nat → Nat) (g : GH) (D : va_G) (cT : Nat → ClassId) (f : GH) (n : Nat) (a0 : Nat) (o : GH) (hq : p_X8_scan V g f a0 = some o) : Met l yX8_scan (Cond.code yX8_scan cX8_scan 1 none :: g_B) rm_X8_scan (va_Pc [.ref a0] (g_I V g D cT f n)) (g_Wv V D cT o n) 0 0 (g_A V) := by
  refine g_begin (own := RX8) [.ref a0] [(0, .ref a0)] (g_A V) (fun _ h => h) (by decide) rfl (Nat.le_of_ble_eq_true rfl) rfl ?_
  intro p e s m args below meth c hx hb hr hlocks hin hC hI ls hl
  obtain ⟨hx, hb, hml, hown, hB⟩ := id hC
  obtain ⟨H, hH⟩ : ∃ H, H = s.heap := ⟨_, rfl⟩
  obtain ⟨locs, hlocs⟩ : ∃ L : List Loc, L = [] := ⟨_, rfl⟩
  rw [← hH, ← hlocs] at hI ⊢
  clear hH hlocs
  unfold p_X8_scan at hq
  replace hq := (h_me_eq hq).2
  have hl0 : ∀ (K39 : Nat → GH → Option GH) (hK39 : ∀ (x0 : Nat) (f : GH) (H : Heap) (locs : List Loc) (ls : Array Slot), g_at (g_A V) V g D cT f n s H locs → lv_has ls 1 [(0, .ref x0)] → K39 x0 f = some o → W p l e rm_X8_scan s m args below meth c H locs 0 0 (MQ below (g_Wv V D cT o n) args s 0 0 (g_A V)) (F0 m 39 ls [])) (N : Nat) (x0 : Nat) (f : GH) (H : Heap) (locs : List Loc) (ls : Array Slot), g_at (g_A V) V g D cT f n s H locs → lv_has ls 1 [(0, .ref x0)] → p_X8_scan_l0 V g K39 N x0 f = some o → W p l e rm_X8_scan s m args below meth c H locs 0 0 (MQ below (g_Wv V D cT o n) args s 0 0 (g_A V)) (F0 m 0 ls []) := by
    intro K39 hK39 N
    induction N with
    | zero =>
      intro x0 f H locs ls hI hl hq
      rw [p_X8_scan_l0] at hq
      cases hq
    | succ N ih =>
      intro x0 f H locs ls hI hl hq
      rw [p_X8_scan_l0] at hq
      refine lv_aload_n hx hb dX8_scan_0 rfl (lv_at hl 0 rfl) ?_
      refine lv_aload_n hx hb dX8_scan_1 rfl (lv_at hl 0 rfl) ?_
      obtain ⟨v1, ev1, hq⟩ := b_s hq
      refine fa_gi (own := RX8) (ref := "CoastlineRulerModel") (k := 15) hx hb hB inB_RX8 hown hI rfl (by decide) m_1546 (fun _ h9 => h9) ev1 dX8_scan_2 ?_
      obtain ⟨v2, ev2, hq⟩ := b_s hq
      refine gr_i (g_runV (As := [.int v1]) (rest := []) (ci := 10) hC (c_X8_byteAt l V g D cT f n x0 v1 v2 ev2) k_X8_byteAt m_2090 rfl rfl ⟨Nat.le_of_ble_eq_true rfl, Nat.le_of_ble_eq_true rfl⟩ hI rfl rfl (h_me_eq ev2).1 rfl hl.1 rfl (Nat.le_of_ble_eq_true rfl) dX8_scan_5 ⟨by decide, by decide⟩) hI (fun H locs hI => ?_)
      refine lv_bipush (v := (32 : Int32)) hx hb dX8_scan_8 (by decide) ?_
      refine lv_icmp_eq (tgt := 26) hx hb dX8_scan_10 (by decide) (fun c3 => ?_) (fun c3 => ?_)
      · replace hq := i_t c3 hq
        refine lv_aload_n hx hb dX8_scan_26 rfl (lv_at hl 0 rfl) ?_
        refine lv_dup hx hb dX8_scan_27 rfl ?_
        obtain ⟨v4, ev4, hq⟩ := b_s hq
        refine fa_gi (own := RX8) (ref := "CoastlineRulerModel") (k := 15) hx hb hB inB_RX8 hown hI rfl (by decide) m_1546 (fun _ h9 => h9) ev4 dX8_scan_28 ?_
        refine lv_iconst (v := (1 : Int32)) hx hb dX8_scan_31 (by decide) ?_
        refine lv_iadd hx hb dX8_scan_32 ?_
        obtain ⟨f5, ef5, hq⟩ := b_s hq
        refine fa_pt (own := RX8) (ref := "CoastlineRulerModel") (k := 15) hx hb hB inB_RX8 tyX8_ok nmX8 hown hI rfl (by decide) m_1546 (fun _ h9 => h9) (by decide) rfl rfl ef5 dX8_scan_33 (fun H locs hI => ?_)
        refine lv_goto (tgt := 0) hx hb dX8_scan_36 (by decide) ?_
        exact ih x0 f5 H locs ls hI (lv_sub hl [0] rfl) hq
      · replace hq := i_f c3 hq
        refine lv_aload_n hx hb dX8_scan_13 rfl (lv_at hl 0 rfl) ?_
        refine lv_aload_n hx hb dX8_scan_14 rfl (lv_at hl 0 rfl) ?_
        obtain ⟨v6, ev6, hq⟩ := b_s hq
        refine fa_gi (own := RX8) (ref := "CoastlineRulerModel") (k := 15) hx hb hB inB_RX8 hown hI rfl (by decide) m_1546 (fun _ h9 => h9) ev6 dX8_scan_15 ?_
        obtain ⟨v7, ev7, hq⟩ := b_s hq
        refine gr_i (g_runV (As := [.int v6]) (rest := []) (ci := 10) hC (c_X8_byteAt l V g D cT f n x0 v6 v7 ev7) k_X8_byteAt m_2090 rfl rfl ⟨Nat.le_of_ble_eq_true rfl, Nat.le_of_ble_eq_true rfl⟩ hI rfl rfl (h_me_eq ev7).1 rfl hl.1 rfl (Nat.le_of_ble_eq_true rfl) dX8_scan_18 ⟨by decide, by decide⟩) hI (fun H locs hI => ?_)
        refine lv_bipush (v := (10 : Int32)) hx hb dX8_scan_21 (by decide) ?_
        refine lv_icmp_ne (tgt := 39) hx hb dX8_scan_23 (by decide) (fun c8 => ?_) (fun c8 => ?_)
        · replace hq := i_f c8 hq
          exact hK39 x0 f H locs ls hI (lv_sub hl [0] rfl) hq
        · replace hq := i_t c8 hq
          refine lv_aload_n hx hb dX8_scan_26 rfl (lv_at hl 0 rfl) ?_
          refine lv_dup hx hb dX8_scan_27 rfl ?_
          obtain ⟨v9, ev9, hq⟩ := b_s hq
          refine fa_gi (own := RX8) (ref := "CoastlineRulerModel") (k := 15) hx hb hB inB_RX8 hown hI rfl (by decide) m_1546 (fun _ h9 => h9) ev9 dX8_scan_28 ?_
          refine lv_iconst (v := (1 : Int32)) hx hb dX8_scan_31 (by decide) ?_
          refine lv_iadd hx hb dX8_scan_32 ?_
          obtain ⟨f10, ef10, hq⟩ := b_s hq
          refine fa_pt (own := RX8) (ref := "CoastlineRulerModel") (k := 15) hx hb hB inB_RX8 tyX8_ok nmX8 hown hI rfl (by decide) m_1546 (fun _ h9 => h9) (by decide) rfl rfl ef10 dX8_scan_33 (fun H locs hI => ?_)
          refine lv_goto (tgt := 0) hx hb dX8_scan_36 (by decide) ?_
          exact ih x0 f10 H locs ls hI (lv_sub hl [0] rfl) hq
  refine hl0 _ ?_ FU a0 f H locs ls hI (lv_sub hl [0] rfl) hq
  · intro x0 f H locs ls hI hl hq
    refine lv_aload_n hx hb dX8_scan_39 rfl (lv_at hl 0 rfl) ?_
    refine lv_aload_n hx hb dX8_scan_40 rfl (lv_at hl 0 rfl) ?_
    obtain ⟨v11, ev11, hq⟩ := b_s hq
    refine fa_gi (own := RX8) (ref := "CoastlineRulerModel") (k := 15) hx hb hB inB_RX8 hown hI rfl (by decide) m_1546 (fun _ h9 => h9) ev11 dX8_scan_41 ?_
    obtain ⟨f12, ef12, hq⟩ := b_s hq
    refine fa_pt (own := RX8) (ref := "CoastlineRulerModel") (k := 16) hx hb hB inB_RX8 tyX8_ok nmX8 hown hI rfl (by decide) m_1547 (fun _ h9 => h9) (by decide) rfl rfl ef12 dX8_scan_44 (fun H locs hI => ?_)
    refine lv_aload_n hx hb dX8_scan_47 rfl (lv_at hl 0 rfl) ?_
    obtain ⟨v13, ev13, hq⟩ := b_s hq
    refine fa_gi (own := RX8) (ref := "CoastlineRulerModel") (k := 15) hx hb hB inB_RX8 hown hI rfl (by decide) m_1546 (fun _ h9 => h9) ev13 dX8_scan_48 ?_
    refine lv_aload_n hx hb dX8_scan_51 rfl (lv_at hl 0 rfl) ?_
    obtain ⟨v14, ev14, hq⟩ := b_s hq
    refine fa_gi (own := RX8) (ref := "CoastlineRulerModel") (k := 14) hx hb hB inB_RX8 hown hI rfl (by decide) m_1545 (fun _ h9 => h9) ev14 dX8_scan_52 ?_
    refine lv_icmp_lt (tgt := 66) hx hb dX8_scan_55 (by decide) (fun c15 => ?_) (fun c15 => ?_)
    · replace hq := i_t c15 hq
      refine lv_aload_n hx hb dX8_scan_66 rfl (lv_at hl 0 rfl) ?_
      refine lv_aload_n hx hb dX8_scan_67 rfl (lv_at hl 0 rfl) ?_
      obtain ⟨v16, ev16, hq⟩ := b_s hq
      refine fa_gi (own := RX8) (ref := "CoastlineRulerModel") (k := 15) hx hb hB inB_RX8 hown hI rfl (by decide) m_1546 (fun _ h9 => h9) ev16 dX8_scan_68 ?_
      obtain ⟨v17, ev17, hq⟩ := b_s hq
      refine gr_i (g_runV (As := [.int v16]) (rest := []) (ci := 10) hC (c_X8_isLetter l V g D cT f12 n x0 v16 v17 ev17) k_X8_isLetter m_2094 rfl rfl ⟨Nat.le_of_ble_eq_true rfl, Nat.le_of_ble_eq_true rfl⟩ hI rfl rfl (h_me_eq ev17).1 rfl hl.1 rfl (Nat.le_of_ble_eq_true rfl) dX8_scan_71 ⟨by decide, by decide⟩) hI (fun H locs hI => ?_)
      refine lv_if_eq (tgt := 109) hx hb dX8_scan_74 (by decide) (fun c18 => ?_) (fun c18 => ?_)
      · replace hq := i_t c18 hq
        refine lv_aload_n hx hb dX8_scan_109 rfl (lv_at hl 0 rfl) ?_
        refine lv_aload_n hx hb dX8_scan_110 rfl (lv_at hl 0 rfl) ?_
        obtain ⟨v19, ev19, hq⟩ := b_s hq
        refine fa_gi (own := RX8) (ref := "CoastlineRulerModel") (k := 15) hx hb hB inB_RX8 hown hI rfl (by decide) m_1546 (fun _ h9 => h9) ev19 dX8_scan_111 ?_
        obtain ⟨v20, ev20, hq⟩ := b_s hq
        refine gr_i (g_runV (As := [.int v19]) (rest := []) (ci := 10) hC (c_X8_isDigit l V g D cT f12 n x0 v19 v20 ev20) k_X8_isDigit m_2098 rfl rfl ⟨Nat.le_of_ble_eq_true rfl, Nat.le_of_ble_eq_true rfl⟩ hI rfl rfl (h_me_eq ev20).1 rfl hl.1 rfl (Nat.le_of_ble_eq_true rfl) dX8_scan_114 ⟨by decide, by decide⟩) hI (fun H locs hI => ?_)
        refine lv_if_eq (tgt := 152) hx hb dX8_scan_117 (by decide) (fun c21 => ?_) (fun c21 => ?_)
        · replace hq := i_t c21 hq
          refine lv_aload_n hx hb dX8_scan_152 rfl (lv_at hl 0 rfl) ?_
          refine lv_dup hx hb dX8_scan_153 rfl ?_
          obtain ⟨v22, ev22, hq⟩ := b_s hq
          refine fa_gi (own := RX8) (ref := "CoastlineRulerModel") (k := 15) hx hb hB inB_RX8 hown hI rfl (by decide) m_1546 (fun _ h9 => h9) ev22 dX8_scan_154 ?_
          refine lv_iconst (v := (1 : Int32)) hx hb dX8_scan_157 (by decide) ?_
          refine lv_iadd hx hb dX8_scan_158 ?_
          obtain ⟨f23, ef23, hq⟩ := b_s hq
          refine fa_pt (own := RX8) (ref := "CoastlineRulerModel") (k := 15) hx hb hB inB_RX8 tyX8_ok nmX8 hown hI rfl (by decide) m_1546 (fun _ h9 => h9) (by decide) rfl rfl ef23 dX8_scan_159 (fun H locs hI => ?_)
          refine lv_aload_n hx hb dX8_scan_162 rfl (lv_at hl 0 rfl) ?_
          refine lv_iconst (v := (3 : Int32)) hx hb dX8_scan_163 (by decide) ?_
          obtain ⟨f24, ef24, hq⟩ := b_s hq
          refine fa_pt (own := RX8) (ref := "CoastlineRulerModel") (k := 17) hx hb hB inB_RX8 tyX8_ok nmX8 hown hI rfl (by decide) m_1548 (fun _ h9 => h9) (by decide) rfl rfl ef24 dX8_scan_164 (fun H locs hI => ?_)
          exact ge_Wv hx hb hlocks hr hI (Option.some.inj hq) dX8_scan_167
        · replace hq := i_f c21 hq
          have hl120 : ∀ (K144 : Nat → GH → Option GH) (hK144 : ∀ (x0 : Nat) (f : GH) (H : Heap) (locs : List Loc) (ls : Array Slot), g_at (g_A V) V g D cT f n s H locs → lv_has ls 1 [(0, .ref x0)] → K144 x0 f = some o → W p l e rm_X8_scan s m args below meth c H locs 0 0 (MQ below (g_Wv V D cT o n) args s 0 0 (g_A V)) (F0 m 144 ls [])) (N : Nat) (x0 : Nat) (f : GH) (H : Heap) (locs : List Loc) (ls : Array Slot), g_at (g_A V) V g D cT f n s H locs → lv_has ls 1 [(0, .ref x0)] → p_X8_scan_l120 V g K144 N x0 f = some o → W p l e rm_X8_scan s m args below meth c H locs 0 0 (MQ below (g_Wv V D cT o n) args s 0 0 (g_A V)) (F0 m 120 ls []) := by
            intro K144 hK144 N
            induction N with
            | zero =>
              intro x0 f H locs ls hI hl hq
              rw [p_X8_scan_l120] at hq
              cases hq
            | succ N ih =>
              intro x0 f H locs ls hI hl hq
              rw [p_X8_scan_l120] at hq
              refine lv_aload_n hx hb dX8_scan_120 rfl (lv_at hl 0 rfl) ?_
              refine lv_aload_n hx hb dX8_scan_121 rfl (lv_at hl 0 rfl) ?_
              obtain ⟨v25, ev25, hq⟩ := b_s hq
              refine fa_gi (own := RX8) (ref := "CoastlineRulerModel") (k := 15) hx hb hB inB_RX8 hown hI rfl (by decide) m_1546 (fun _ h9 => h9) ev25 dX8_scan_122 ?_
              obtain ⟨v26, ev26, hq⟩ := b_s hq
              refine gr_i (g_runV (As := [.int v25]) (rest := []) (ci := 10) hC (c_X8_isDigit l V g D cT f n x0 v25 v26 ev26) k_X8_isDigit m_2098 rfl rfl ⟨Nat.le_of_ble_eq_true rfl, Nat.le_of_ble_eq_true rfl⟩ hI rfl rfl (h_me_eq ev26).1 rfl hl.1 rfl (Nat.le_of_ble_eq_true rfl) dX8_scan_125 ⟨by decide, by decide⟩) hI (fun H locs hI => ?_)
              refine lv_if_eq (tgt := 144) hx hb dX8_scan_128 (by decide) (fun c27 => ?_) (fun c27 => ?_)
              · replace hq := i_t c27 hq
                exact hK144 x0 f H locs ls hI (lv_sub hl [0] rfl) hq
              · replace hq := i_f c27 hq
                refine lv_aload_n hx hb dX8_scan_131 rfl (lv_at hl 0 rfl) ?_
                refine lv_dup hx hb dX8_scan_132 rfl ?_
                obtain ⟨v28, ev28, hq⟩ := b_s hq
                refine fa_gi (own := RX8) (ref := "CoastlineRulerModel") (k := 15) hx hb hB inB_RX8 hown hI rfl (by decide) m_1546 (fun _ h9 => h9) ev28 dX8_scan_133 ?_
                refine lv_iconst (v := (1 : Int32)) hx hb dX8_scan_136 (by decide) ?_
                refine lv_iadd hx hb dX8_scan_137 ?_
                obtain ⟨f29, ef29, hq⟩ := b_s hq
                refine fa_pt (own := RX8) (ref := "CoastlineRulerModel") (k := 15) hx hb hB inB_RX8 tyX8_ok nmX8 hown hI rfl (by decide) m_1546 (fun _ h9 => h9) (by decide) rfl rfl ef29 dX8_scan_138 (fun H locs hI => ?_)
                refine lv_goto (tgt := 120) hx hb dX8_scan_141 (by decide) ?_
                exact ih x0 f29 H locs ls hI (lv_sub hl [0] rfl) hq
          refine hl120 _ ?_ FU x0 f12 H locs ls hI (lv_sub hl [0] rfl) hq
          · intro x0 f H locs ls hI hl hq
            refine lv_aload_n hx hb dX8_scan_144 rfl (lv_at hl 0 rfl) ?_
            refine lv_iconst (v := (2 : Int32)) hx hb dX8_scan_145 (by decide) ?_
            obtain ⟨f30, ef30, hq⟩ := b_s hq
            refine fa_pt (own := RX8) (ref := "CoastlineRulerModel") (k := 17) hx hb hB inB_RX8 tyX8_ok nmX8 hown hI rfl (by decide) m_1548 (fun _ h9 => h9) (by decide) rfl rfl ef30 dX8_scan_146 (fun H locs hI => ?_)
            refine lv_goto (tgt := 167) hx hb dX8_scan_149 (by decide) ?_
            exact ge_Wv hx hb hlocks hr hI (Option.some.inj hq) dX8_scan_167
      · replace hq := i_f c18 hq
        have hl77 : ∀ (K101 : Nat → GH → Option GH) (hK101 : ∀ (x0 : Nat) (f : GH) (H : Heap) (locs : List Loc) (ls : Array Slot), g_at (g_A V) V g D cT f n s H locs → lv_has ls 1 [(0, .ref x0)] → K101 x0 f = some o → W p l e rm_X8_scan s m args below meth c H locs 0 0 (MQ below (g_Wv V D cT o n) args s 0 0 (g_A V)) (F0 m 101 ls [])) (N : Nat) (x0 : Nat) (f : GH) (H : Heap) (locs : List Loc) (ls : Array Slot), g_at (g_A V) V g D cT f n s H locs → lv_has ls 1 [(0, .ref x0)] → p_X8_scan_l77 V g K101 N x0 f = some o → W p l e rm_X8_scan s m args below meth c H locs 0 0 (MQ below (g_Wv V D cT o n) args s 0 0 (g_A V)) (F0 m 77 ls []) := by
          intro K101 hK101 N
          induction N with
          | zero =>
            intro x0 f H locs ls hI hl hq
            rw [p_X8_scan_l77] at hq
            cases hq
          | succ N ih =>
            intro x0 f H locs ls hI hl hq
            rw [p_X8_scan_l77] at hq
            refine lv_aload_n hx hb dX8_scan_77 rfl (lv_at hl 0 rfl) ?_
            refine lv_aload_n hx hb dX8_scan_78 rfl (lv_at hl 0 rfl) ?_
            obtain ⟨v31, ev31, hq⟩ := b_s hq
            refine fa_gi (own := RX8) (ref := "CoastlineRulerModel") (k := 15) hx hb hB inB_RX8 hown hI rfl (by decide) m_1546 (fun _ h9 => h9) ev31 dX8_scan_79 ?_
            obtain ⟨v32, ev32, hq⟩ := b_s hq
            refine gr_i (g_runV (As := [.int v31]) (rest := []) (ci := 10) hC (c_X8_isLetter l V g D cT f n x0 v31 v32 ev32) k_X8_isLetter m_2094 rfl rfl ⟨Nat.le_of_ble_eq_true rfl, Nat.le_of_ble_eq_true rfl⟩ hI rfl rfl (h_me_eq ev32).1 rfl hl.1 rfl (Nat.le_of_ble_eq_true rfl) dX8_scan_82 ⟨by decide, by decide⟩) hI (fun H locs hI => ?_)
            refine lv_if_eq (tgt := 101) hx hb dX8_scan_85 (by decide) (fun c33 => ?_) (fun c33 => ?_)
            · replace hq := i_t c33 hq
              exact hK101 x0 f H locs ls hI (lv_sub hl [0] rfl) hq
            · replace hq := i_f c33 hq
              refine lv_aload_n hx hb dX8_scan_88 rfl (lv_at hl 0 rfl) ?_
              refine lv_dup hx hb dX8_scan_89 rfl ?_
              obtain ⟨v34, ev34, hq⟩ := b_s hq
              refine fa_gi (own := RX8) (ref := "CoastlineRulerModel") (k := 15) hx hb hB inB_RX8 hown hI rfl (by decide) m_1546 (fun _ h9 => h9) ev34 dX8_scan_90 ?_
              refine lv_iconst (v := (1 : Int32)) hx hb dX8_scan_93 (by decide) ?_
              refine lv_iadd hx hb dX8_scan_94 ?_
              obtain ⟨f35, ef35, hq⟩ := b_s hq
              refine fa_pt (own := RX8) (ref := "CoastlineRulerModel") (k := 15) hx hb hB inB_RX8 tyX8_ok nmX8 hown hI rfl (by decide) m_1546 (fun _ h9 => h9) (by decide) rfl rfl ef35 dX8_scan_95 (fun H locs hI => ?_)
              refine lv_goto (tgt := 77) hx hb dX8_scan_98 (by decide) ?_
              exact ih x0 f35 H locs ls hI (lv_sub hl [0] rfl) hq
        refine hl77 _ ?_ FU x0 f12 H locs ls hI (lv_sub hl [0] rfl) hq
        · intro x0 f H locs ls hI hl hq
          refine lv_aload_n hx hb dX8_scan_101 rfl (lv_at hl 0 rfl) ?_
          refine lv_iconst (v := (1 : Int32)) hx hb dX8_scan_102 (by decide) ?_
          obtain ⟨f36, ef36, hq⟩ := b_s hq
          refine fa_pt (own := RX8) (ref := "CoastlineRulerModel") (k := 17) hx hb hB inB_RX8 tyX8_ok nmX8 hown hI rfl (by decide) m_1548 (fun _ h9 => h9) (by decide) rfl rfl ef36 dX8_scan_103 (fun H locs hI => ?_)
          refine lv_goto (tgt := 167) hx hb dX8_scan_106 (by decide) ?_
          exact ge_Wv hx hb hlocks hr hI (Option.some.inj hq) dX8_scan_167
    · replace hq := i_f c15 hq
      refine lv_aload_n hx hb dX8_scan_58 rfl (lv_at hl 0 rfl) ?_
      refine lv_iconst (v := (0 : Int32)) hx hb dX8_scan_59 (by decide) ?_
      obtain ⟨f37, ef37, hq⟩ := b_s hq
      refine fa_pt (own := RX8) (ref := "CoastlineRulerModel") (k := 17) hx hb hB inB_RX8 tyX8_ok nmX8 hown hI rfl (by decide) m_1548 (fun _ h9 => h9) (by decide) rfl rfl ef37 dX8_scan_60 (fun H locs hI => ?_)
      refine lv_goto (tgt := 167) hx hb dX8_scan_63 (by decide) ?_
      exact ge_Wv hx hb hlocks hr hI (Option.some.inj hq) dX8_scan_167


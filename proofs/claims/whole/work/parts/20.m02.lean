abbrev rm_X8_longestStick : Room := { frames := 6, cells := 0, slots := 0, locals := 212 }
theorem k_X8_longestStick : g_CV yX8_longestStick cX8_longestStick 6 (some .int) 2 := ⟨⟨m_1747, m_14, by decide +kernel⟩, m_1745, m_1746⟩
set_option maxHeartbeats 4000000 in
set_option maxRecDepth 100000 in
theorem c_X8_longestStick (l : Launch) (V : Nat → Nat) (g : GH) (D : va_G) (cT : Nat → ClassId) (f : GH) (n : Nat) (a0 : Nat) (a1 : Int32) (a2 : Int32) (o : Int32 × GH) (hq : p_X8_longestStick V g f a0 a1 a2 = some o) : Met l yX8_longestStick (Cond.code yX8_longestStick cX8_longestStick 6 (some .int) :: g_B) rm_X8_longestStick (va_Pc [.ref a0, .int a1, .int a2] (g_I V g D cT f n)) (g_Wi V D cT o.1 o.2 n) 0 0 (g_A V) := by
  refine g_begin (own := RX8) [.ref a0, .int a1, .int a2] [(0, .ref a0), (1, .int a1), (2, .int a2)] (g_A V) (fun _ h => h) (by decide) rfl (Nat.le_of_ble_eq_true rfl) rfl ?_
  intro p e s m args below meth c hx hb hr hlocks hin hC hI ls hl
  obtain ⟨hx, hb, hml, hown, hB⟩ := id hC
  obtain ⟨H, hH⟩ : ∃ H, H = s.heap := ⟨_, rfl⟩
  obtain ⟨locs, hlocs⟩ : ∃ L : List Loc, L = [] := ⟨_, rfl⟩
  rw [← hH, ← hlocs] at hI ⊢
  clear hH hlocs
  unfold p_X8_longestStick at hq
  replace hq := (h_me_eq hq).2
  refine lv_aload_n hx hb dX8_longestStick_0 rfl (lv_at hl 0 rfl) ?_
  refine lv_iload_n hx hb dX8_longestStick_1 rfl (lv_at hl 1 rfl) ?_
  refine lv_iload_n hx hb dX8_longestStick_2 rfl (lv_at hl 2 rfl) ?_
  obtain ⟨v1, ev1, hq⟩ := b_s hq
  refine gw_i (g_runV (As := [.int a1, .int a2]) (rest := []) (ci := 10) hC (c_X8_lacksLevel l V g D cT f n a0 a1 a2 v1 ev1) k_X8_lacksLevel m_1701 rfl rfl ⟨Nat.le_of_ble_eq_true rfl, Nat.le_of_ble_eq_true rfl⟩ hI rfl rfl (h_me_eq ev1).1 rfl hl.1 rfl (Nat.le_of_ble_eq_true rfl) dX8_longestStick_3 ⟨by decide, by decide⟩) hI (fun H locs hI => ?_)
  refine lv_if_eq (tgt := 11) hx hb dX8_longestStick_6 (by decide) (fun c2 => ?_) (fun c2 => ?_)
  · replace hq := i_t c2 hq
    refine lv_iconst (v := (0 : Int32)) hx hb dX8_longestStick_11 (by decide) ?_
    refine lv_istore_n (lv' := [(3, .int (0 : Int32)), (0, .ref a0), (1, .int a1), (2, .int a2)]) hx hb dX8_longestStick_12 rfl hl (by decide) rfl (fun ls hl => ?_)
    refine lv_iconst (v := (1 : Int32)) hx hb dX8_longestStick_13 (by decide) ?_
    refine lv_istore (lv' := [(4, .int (1 : Int32)), (3, .int (0 : Int32)), (0, .ref a0), (1, .int a1), (2, .int a2)]) hx hb dX8_longestStick_14 hl (by decide) rfl (fun ls hl => ?_)
    have hl16 : ∀ (K78 : Int32 → GH → Option (Int32 × GH)) (hK78 : ∀ (x3 : Int32) (f : GH) (H : Heap) (locs : List Loc) (ls : Array Slot), g_at (g_A V) V g D cT f n s H locs → lv_has ls 6 [(3, .int x3)] → K78 x3 f = some o → W p l e rm_X8_longestStick s m args below meth c H locs 0 0 (MQ below (g_Wi V D cT o.1 o.2 n) args s 0 0 (g_A V)) (F0 m 78 ls [])) (N : Nat) (x0 : Nat) (x1 : Int32) (x2 : Int32) (x3 : Int32) (x4 : Int32) (f : GH) (H : Heap) (locs : List Loc) (ls : Array Slot), g_at (g_A V) V g D cT f n s H locs → lv_has ls 6 [(0, .ref x0), (1, .int x1), (2, .int x2), (3, .int x3), (4, .int x4)] → p_X8_longestStick_l16 V g K78 N x0 x1 x2 x3 x4 f = some o → W p l e rm_X8_longestStick s m args below meth c H locs 0 0 (MQ below (g_Wi V D cT o.1 o.2 n) args s 0 0 (g_A V)) (F0 m 16 ls []) := by
      intro K78 hK78 N
      induction N with
      | zero =>
        intro x0 x1 x2 x3 x4 f H locs ls hI hl hq
        rw [p_X8_longestStick_l16] at hq
        cases hq
      | succ N ih =>
        intro x0 x1 x2 x3 x4 f H locs ls hI hl hq
        rw [p_X8_longestStick_l16] at hq
        refine lv_iload hx hb dX8_longestStick_16 (lv_at hl 4 rfl) ?_
        refine lv_aload_n hx hb dX8_longestStick_18 rfl (lv_at hl 0 rfl) ?_
        refine lv_iload_n hx hb dX8_longestStick_19 rfl (lv_at hl 1 rfl) ?_
        refine lv_iload_n hx hb dX8_longestStick_20 rfl (lv_at hl 2 rfl) ?_
        obtain ⟨v3, ev3, hq⟩ := b_s hq
        refine gr_i (g_runV (As := [.int x1, .int x2]) (rest := [.int x4]) (ci := 10) hC (c_X8_sticks l V g D cT f n x0 x1 x2 v3 ev3) k_X8_sticks m_1716 rfl rfl ⟨Nat.le_of_ble_eq_true rfl, Nat.le_of_ble_eq_true rfl⟩ hI rfl rfl (h_me_eq ev3).1 rfl hl.1 rfl (Nat.le_of_ble_eq_true rfl) dX8_longestStick_21 ⟨by decide, by decide⟩) hI (fun H locs hI => ?_)
        refine lv_icmp_ge (tgt := 78) hx hb dX8_longestStick_24 (by decide) (fun c4 => ?_) (fun c4 => ?_)
        · replace hq := i_t c4 hq
          exact hK78 x3 f H locs ls hI (lv_sub hl [3] rfl) hq
        · replace hq := i_f c4 hq
          refine lv_aload_n hx hb dX8_longestStick_27 rfl (lv_at hl 0 rfl) ?_
          refine lv_iload_n hx hb dX8_longestStick_28 rfl (lv_at hl 1 rfl) ?_
          refine lv_iload_n hx hb dX8_longestStick_29 rfl (lv_at hl 2 rfl) ?_
          refine lv_iload hx hb dX8_longestStick_30 (lv_at hl 4 rfl) ?_
          refine lv_aload_n hx hb dX8_longestStick_32 rfl (lv_at hl 0 rfl) ?_
          obtain ⟨v5, ev5, hq⟩ := b_s hq
          refine gr_i (g_runV (As := []) (rest := [.int x4, .int x2, .int x1, .ref x0]) (ci := 10) hC (c_X8_isKing l V g D cT f n x0 v5 ev5) k_X8_isKing m_1622 rfl rfl ⟨Nat.le_of_ble_eq_true rfl, Nat.le_of_ble_eq_true rfl⟩ hI rfl rfl (h_me_eq ev5).1 rfl hl.1 rfl (Nat.le_of_ble_eq_true rfl) dX8_longestStick_33 ⟨by decide, by decide⟩) hI (fun H locs hI => ?_)
          obtain ⟨v6, ev6, hq⟩ := b_s hq
          refine gr_i (g_runV (As := [.int x1, .int x2, .int x4, .int v5]) (rest := []) (ci := 10) hC (c_X8_lengthOf l V g D cT f n x0 x1 x2 x4 v5 v6 ev6) k_X8_lengthOf m_1720 rfl rfl ⟨Nat.le_of_ble_eq_true rfl, Nat.le_of_ble_eq_true rfl⟩ hI rfl rfl (h_me_eq ev6).1 rfl hl.1 rfl (Nat.le_of_ble_eq_true rfl) dX8_longestStick_36 ⟨by decide, by decide⟩) hI (fun H locs hI => ?_)
          refine lv_aload_n hx hb dX8_longestStick_39 rfl (lv_at hl 0 rfl) ?_
          refine lv_iload_n hx hb dX8_longestStick_40 rfl (lv_at hl 1 rfl) ?_
          refine lv_iload_n hx hb dX8_longestStick_41 rfl (lv_at hl 2 rfl) ?_
          refine lv_iload_n hx hb dX8_longestStick_42 rfl (lv_at hl 3 rfl) ?_
          refine lv_aload_n hx hb dX8_longestStick_43 rfl (lv_at hl 0 rfl) ?_
          obtain ⟨v7, ev7, hq⟩ := b_s hq
          refine gr_i (g_runV (As := []) (rest := [.int x3, .int x2, .int x1, .ref x0, .int v6]) (ci := 10) hC (c_X8_isKing l V g D cT f n x0 v7 ev7) k_X8_isKing m_1622 rfl rfl ⟨Nat.le_of_ble_eq_true rfl, Nat.le_of_ble_eq_true rfl⟩ hI rfl rfl (h_me_eq ev7).1 rfl hl.1 rfl (Nat.le_of_ble_eq_true rfl) dX8_longestStick_44 ⟨by decide, by decide⟩) hI (fun H locs hI => ?_)
          obtain ⟨v8, ev8, hq⟩ := b_s hq
          refine gr_i (g_runV (As := [.int x1, .int x2, .int x3, .int v7]) (rest := [.int v6]) (ci := 10) hC (c_X8_lengthOf l V g D cT f n x0 x1 x2 x3 v7 v8 ev8) k_X8_lengthOf m_1720 rfl rfl ⟨Nat.le_of_ble_eq_true rfl, Nat.le_of_ble_eq_true rfl⟩ hI rfl rfl (h_me_eq ev8).1 rfl hl.1 rfl (Nat.le_of_ble_eq_true rfl) dX8_longestStick_47 ⟨by decide, by decide⟩) hI (fun H locs hI => ?_)
          have hj58 : ∀ (x0 : Nat) (x1 : Int32) (x2 : Int32) (x3 : Int32) (x4 : Int32) (t0 : Int32) (f : GH) (H : Heap) (locs : List Loc) (ls : Array Slot), g_at (g_A V) V g D cT f n s H locs → lv_has ls 6 [(0, .ref x0), (1, .int x1), (2, .int x2), (3, .int x3), (4, .int x4)] → p_X8_longestStick_j58 V g (p_X8_longestStick_l16 V g K78 N) x0 x1 x2 x3 x4 t0 f = some o → W p l e rm_X8_longestStick s m args below meth c H locs 0 0 (MQ below (g_Wi V D cT o.1 o.2 n) args s 0 0 (g_A V)) (F0 m 58 ls [.int t0]) := by
            intro x0 x1 x2 x3 x4 t0 f H locs ls hI hl hq
            unfold p_X8_longestStick_j58 at hq
            refine lv_istore (lv' := [(5, .int t0), (0, .ref x0), (1, .int x1), (2, .int x2), (3, .int x3), (4, .int x4)]) hx hb dX8_longestStick_58 hl (by decide) rfl (fun ls hl => ?_)
            refine lv_iload hx hb dX8_longestStick_60 (lv_at hl 0 rfl) ?_
            refine lv_if_eq (tgt := 70) hx hb dX8_longestStick_62 (by decide) (fun c9 => ?_) (fun c9 => ?_)
            · replace hq := i_t c9 hq
              refine lv_iload_n hx hb dX8_longestStick_70 rfl (lv_at hl 4 rfl) ?_
              refine lv_istore_n (lv' := [(3, .int x3), (5, .int t0), (0, .ref x0), (1, .int x1), (2, .int x2), (4, .int x4)]) hx hb dX8_longestStick_71 rfl hl (by decide) rfl (fun ls hl => ?_)
              refine lv_iinc (v := x4 + (1 : Int32)) (lv' := [(4, .int (x4 + (1 : Int32))), (3, .int x3), (5, .int t0), (0, .ref x0), (1, .int x1), (2, .int x2)]) hx hb dX8_longestStick_72 hl (k := 5) rfl rfl (by decide) rfl (fun ls hl => ?_)
              refine lv_goto (tgt := 16) hx hb dX8_longestStick_75 (by decide) ?_
              exact ih x0 x1 x2 x3 (x4 + (1 : Int32)) f H locs ls hI (lv_sub hl [3, 4, 5, 1, 0] rfl) hq
            · replace hq := i_f c9 hq
              refine lv_iload hx hb dX8_longestStick_65 (lv_at hl 5 rfl) ?_
              refine lv_goto (tgt := 71) hx hb dX8_longestStick_67 (by decide) ?_
              refine lv_istore_n (lv' := [(3, .int x4), (5, .int t0), (0, .ref x0), (1, .int x1), (2, .int x2), (4, .int x4)]) hx hb dX8_longestStick_71 rfl hl (by decide) rfl (fun ls hl => ?_)
              refine lv_iinc (v := x4 + (1 : Int32)) (lv' := [(4, .int (x4 + (1 : Int32))), (3, .int x4), (5, .int t0), (0, .ref x0), (1, .int x1), (2, .int x2)]) hx hb dX8_longestStick_72 hl (k := 5) rfl rfl (by decide) rfl (fun ls hl => ?_)
              refine lv_goto (tgt := 16) hx hb dX8_longestStick_75 (by decide) ?_
              exact ih x0 x1 x2 x4 (x4 + (1 : Int32)) f H locs ls hI (lv_sub hl [3, 4, 5, 1, 0] rfl) hq
          refine lv_icmp_le (tgt := 57) hx hb dX8_longestStick_50 (by decide) (fun c10 => ?_) (fun c10 => ?_)
          · replace hq := i_t c10 hq
            refine lv_iconst (v := (0 : Int32)) hx hb dX8_longestStick_57 (by decide) ?_
            exact hj58 x0 x1 x2 x3 x4 (0 : Int32) f H locs ls hI (lv_sub hl [0, 1, 2, 3, 4] rfl) hq
          · replace hq := i_f c10 hq
            refine lv_iconst (v := (1 : Int32)) hx hb dX8_longestStick_53 (by decide) ?_
            refine lv_goto (tgt := 58) hx hb dX8_longestStick_54 (by decide) ?_
            exact hj58 x0 x1 x2 x3 x4 (1 : Int32) f H locs ls hI (lv_sub hl [0, 1, 2, 3, 4] rfl) hq
    refine hl16 _ ?_ FU a0 a1 a2 (0 : Int32) (1 : Int32) v1.2 H locs ls hI (lv_sub hl [2, 3, 4, 1, 0] rfl) hq
    · intro x3 f H locs ls hI hl hq
      refine lv_iload_n hx hb dX8_longestStick_78 rfl (lv_at hl 0 rfl) ?_
      exact ge_Wi hx hb hlocks hr rfl hI (congrArg (fun z => z.1) (Option.some.inj hq)) (congrArg (fun z => z.2) (Option.some.inj hq)) dX8_longestStick_79
  · replace hq := i_f c2 hq
    refine lv_iconst (v := (0 : Int32)) hx hb dX8_longestStick_9 (by decide) ?_
    exact ge_Wi hx hb hlocks hr rfl hI (congrArg (fun z => z.1) (Option.some.inj hq)) (congrArg (fun z => z.2) (Option.some.inj hq)) dX8_longestStick_10

abbrev rm_X8_gain : Room := { frames := 8, cells := 0, slots := 0, locals := 259 }
theorem k_X8_gain : g_CV yX8_gain cX8_gain 3 (some .int) 2 := ⟨⟨m_1758, m_14, by decide +kernel⟩, m_1757, ms_40⟩
set_option maxHeartbeats 4000000 in
set_option maxRecDepth 100000 in
theorem c_X8_gain (l : Launch) (V : Nat → Nat) (g : GH) (D : va_G) (cT : Nat → ClassId) (f : GH) (n : Nat) (a0 : Nat) (a1 : Int32) (a2 : Int32) (o : Int32) (hq : p_X8_gain V g f a0 a1 a2 = some o) : Met l yX8_gain (Cond.code yX8_gain cX8_gain 3 (some .int) :: g_B) rm_X8_gain (va_Pc [.ref a0, .int a1, .int a2] (g_I V g D cT f n)) (g_Ri o n) 0 0 g_no := by
  refine g_begin (own := RX8) [.ref a0, .int a1, .int a2] [(0, .ref a0), (1, .int a1), (2, .int a2)] g_no (fun _ h => h.elim) (by decide) rfl (Nat.le_of_ble_eq_true rfl) rfl ?_
  intro p e s m args below meth c hx hb hr hlocks hin hC hI ls hl
  obtain ⟨hx, hb, hml, hown, hB⟩ := id hC
  obtain ⟨H, hH⟩ : ∃ H, H = s.heap := ⟨_, rfl⟩
  obtain ⟨locs, hlocs⟩ : ∃ L : List Loc, L = [] := ⟨_, rfl⟩
  rw [← hH, ← hlocs] at hI ⊢
  clear hH hlocs
  unfold p_X8_gain at hq
  replace hq := (h_me_eq hq).2
  refine lv_aload_n hx hb dX8_gain_0 rfl (lv_at hl 0 rfl) ?_
  refine lv_iload_n hx hb dX8_gain_1 rfl (lv_at hl 1 rfl) ?_
  refine lv_iload_n hx hb dX8_gain_2 rfl (lv_at hl 2 rfl) ?_
  obtain ⟨v1, ev1, hq⟩ := b_s hq
  refine gr_i (g_runV (As := [.int a1, .int a2]) (rest := []) (ci := 10) hC (c_X8_lengthNow l V g D cT f n a0 a1 a2 v1 ev1) k_X8_lengthNow m_1708 rfl rfl ⟨Nat.le_of_ble_eq_true rfl, Nat.le_of_ble_eq_true rfl⟩ hI rfl rfl (h_me_eq ev1).1 rfl hl.1 rfl (Nat.le_of_ble_eq_true rfl) dX8_gain_3 ⟨by decide, by decide⟩) hI (fun H locs hI => ?_)
  refine lv_aload_n hx hb dX8_gain_6 rfl (lv_at hl 0 rfl) ?_
  refine lv_iload_n hx hb dX8_gain_7 rfl (lv_at hl 1 rfl) ?_
  refine lv_iload_n hx hb dX8_gain_8 rfl (lv_at hl 2 rfl) ?_
  refine lv_iconst (v := (1 : Int32)) hx hb dX8_gain_9 (by decide) ?_
  refine lv_iadd hx hb dX8_gain_10 ?_
  obtain ⟨v2, ev2, hq⟩ := b_s hq
  refine gr_i (g_runV (As := [.int a1, .int (a2 + (1 : Int32))]) (rest := [.int v1]) (ci := 10) hC (c_X8_lengthNow l V g D cT f n a0 a1 (a2 + (1 : Int32)) v2 ev2) k_X8_lengthNow m_1708 rfl rfl ⟨Nat.le_of_ble_eq_true rfl, Nat.le_of_ble_eq_true rfl⟩ hI rfl rfl (h_me_eq ev2).1 rfl hl.1 rfl (Nat.le_of_ble_eq_true rfl) dX8_gain_11 ⟨by decide, by decide⟩) hI (fun H locs hI => ?_)
  refine lv_isub hx hb dX8_gain_14 ?_
  exact ge_Ri hx hb hlocks hr rfl hI hq dX8_gain_15

abbrev rm_X8_isFine : Room := { frames := 3, cells := 0, slots := 0, locals := 142 }
theorem k_X8_isFine : g_CS yX8_isFine cX8_isFine 1 (some .boolean) 1 := ⟨⟨m_1754, m_14, by decide +kernel⟩, m_1753⟩
set_option maxHeartbeats 4000000 in
set_option maxRecDepth 100000 in
theorem c_X8_isFine (l : Launch) (V : Nat → Nat) (g : GH) (D : va_G) (cT : Nat → ClassId) (f : GH) (n : Nat) (a0 : Int32) (o : Int32) (hq : p_X8_isFine V g f a0 = some o) : Met l yX8_isFine (Cond.code yX8_isFine cX8_isFine 1 (some .boolean) :: g_B) rm_X8_isFine (va_Pc [.int a0] (g_I V g D cT f n)) (g_Ri o n) 0 0 g_no := by
  refine g_begin (own := RX8) [.int a0] [(0, .int a0)] g_no (fun _ h => h.elim) (by decide) rfl (Nat.le_of_ble_eq_true rfl) rfl ?_
  intro p e s m args below meth c hx hb hr hlocks hin hC hI ls hl
  obtain ⟨hx, hb, hml, hown, hB⟩ := id hC
  obtain ⟨H, hH⟩ : ∃ H, H = s.heap := ⟨_, rfl⟩
  obtain ⟨locs, hlocs⟩ : ∃ L : List Loc, L = [] := ⟨_, rfl⟩
  rw [← hH, ← hlocs] at hI ⊢
  clear hH hlocs
  unfold p_X8_isFine at hq
  refine lv_iload_n hx hb dX8_isFine_0 rfl (lv_at hl 0 rfl) ?_
  refine lv_iconst (v := (0 : Int32)) hx hb dX8_isFine_1 (by decide) ?_
  refine lv_bipush (v := (6 : Int32)) hx hb dX8_isFine_2 (by decide) ?_
  obtain ⟨v1, ev1, hq⟩ := b_s hq
  refine gr_i (g_runS (As := [.int a0, .int (0 : Int32), .int (6 : Int32)]) (rest := []) hC (c_X8_inRange l V g D cT f n a0 (0 : Int32) (6 : Int32) v1 ev1) k_X8_inRange m_1634 rfl rfl ⟨Nat.le_of_ble_eq_true rfl, Nat.le_of_ble_eq_true rfl⟩ hI rfl hl.1 rfl (Nat.le_of_ble_eq_true rfl) dX8_isFine_4 ⟨by decide, by decide⟩) hI (fun H locs hI => ?_)
  obtain ⟨_, ev2, hq⟩ := b_s hq
  exact ge_Ri hx hb hlocks hr (h_bz_eq ev2).2.1 hI hq dX8_isFine_7

abbrev rm_X8_lengthGain : Room := { frames := 9, cells := 0, slots := 0, locals := 281 }
theorem k_X8_lengthGain : g_CV yX8_lengthGain cX8_lengthGain 3 (some .int) 2 := ⟨⟨m_1751, m_14, by decide +kernel⟩, m_1749, m_1750⟩
set_option maxHeartbeats 4000000 in
set_option maxRecDepth 100000 in
theorem c_X8_lengthGain (l : Launch) (V : Nat → Nat) (g : GH) (D : va_G) (cT : Nat → ClassId) (f : GH) (n : Nat) (a0 : Nat) (a1 : Int32) (a2 : Int32) (o : Int32 × GH) (hq : p_X8_lengthGain V g f a0 a1 a2 = some o) : Met l yX8_lengthGain (Cond.code yX8_lengthGain cX8_lengthGain 3 (some .int) :: g_B) rm_X8_lengthGain (va_Pc [.ref a0, .int a1, .int a2] (g_I V g D cT f n)) (g_Wi V D cT o.1 o.2 n) 0 0 (g_A V) := by
  refine g_begin (own := RX8) [.ref a0, .int a1, .int a2] [(0, .ref a0), (1, .int a1), (2, .int a2)] (g_A V) (fun _ h => h) (by decide) rfl (Nat.le_of_ble_eq_true rfl) rfl ?_
  intro p e s m args below meth c hx hb hr hlocks hin hC hI ls hl
  obtain ⟨hx, hb, hml, hown, hB⟩ := id hC
  obtain ⟨H, hH⟩ : ∃ H, H = s.heap := ⟨_, rfl⟩
  obtain ⟨locs, hlocs⟩ : ∃ L : List Loc, L = [] := ⟨_, rfl⟩
  rw [← hH, ← hlocs] at hI ⊢
  clear hH hlocs
  unfold p_X8_lengthGain at hq
  replace hq := (h_me_eq hq).2
  refine lv_aload_n hx hb dX8_lengthGain_0 rfl (lv_at hl 0 rfl) ?_
  refine lv_aload_n hx hb dX8_lengthGain_1 rfl (lv_at hl 0 rfl) ?_
  refine lv_iload_n hx hb dX8_lengthGain_2 rfl (lv_at hl 1 rfl) ?_
  obtain ⟨v1, ev1, hq⟩ := b_s hq
  refine gr_i (g_runV (As := [.int a1]) (rest := [.ref a0]) (ci := 10) hC (c_X8_isCoast l V g D cT f n a0 a1 v1 ev1) k_X8_isCoast m_1630 rfl rfl ⟨Nat.le_of_ble_eq_true rfl, Nat.le_of_ble_eq_true rfl⟩ hI rfl rfl (h_me_eq ev1).1 rfl hl.1 rfl (Nat.le_of_ble_eq_true rfl) dX8_lengthGain_3 ⟨by decide, by decide⟩) hI (fun H locs hI => ?_)
  refine lv_iload_n hx hb dX8_lengthGain_6 rfl (lv_at hl 2 rfl) ?_
  obtain ⟨v2, ev2, hq⟩ := b_s hq
  refine gr_i (g_runS (As := [.int a2]) (rest := [.int v1, .ref a0]) hC (c_X8_isFine l V g D cT f n a2 v2 ev2) k_X8_isFine m_1752 rfl rfl ⟨Nat.le_of_ble_eq_true rfl, Nat.le_of_ble_eq_true rfl⟩ hI rfl hl.1 rfl (Nat.le_of_ble_eq_true rfl) dX8_lengthGain_7 ⟨by decide, by decide⟩) hI (fun H locs hI => ?_)
  obtain ⟨v3, ev3, hq⟩ := b_s hq
  refine gw_i (g_runV (As := [.int v1, .int v2]) (rest := []) (ci := 10) hC (c_X8_lacksBoth l V g D cT f n a0 v1 v2 v3 ev3) k_X8_lacksBoth m_1693 rfl rfl ⟨Nat.le_of_ble_eq_true rfl, Nat.le_of_ble_eq_true rfl⟩ hI rfl rfl (h_me_eq ev3).1 rfl hl.1 rfl (Nat.le_of_ble_eq_true rfl) dX8_lengthGain_10 ⟨by decide, by decide⟩) hI (fun H locs hI => ?_)
  refine lv_if_eq (tgt := 20) hx hb dX8_lengthGain_13 (by decide) (fun c4 => ?_) (fun c4 => ?_)
  · replace hq := i_t c4 hq
    refine lv_aload_n hx hb dX8_lengthGain_20 rfl (lv_at hl 0 rfl) ?_
    refine lv_iload_n hx hb dX8_lengthGain_21 rfl (lv_at hl 1 rfl) ?_
    refine lv_iload_n hx hb dX8_lengthGain_22 rfl (lv_at hl 2 rfl) ?_
    obtain ⟨v5, ev5, hq⟩ := b_s hq
    refine gr_i (g_runV (As := [.int a1, .int a2]) (rest := []) (ci := 10) hC (c_X8_gain l V g D cT v3.2 n a0 a1 a2 v5 ev5) k_X8_gain m_1755 rfl rfl ⟨Nat.le_of_ble_eq_true rfl, Nat.le_of_ble_eq_true rfl⟩ hI rfl rfl (h_me_eq ev5).1 rfl hl.1 rfl (Nat.le_of_ble_eq_true rfl) dX8_lengthGain_23 ⟨by decide, by decide⟩) hI (fun H locs hI => ?_)
    exact ge_Wi hx hb hlocks hr rfl hI (congrArg (fun z => z.1) (Option.some.inj hq)) (congrArg (fun z => z.2) (Option.some.inj hq)) dX8_lengthGain_26
  · replace hq := i_f c4 hq
    refine lv_iconst (v := (0 : Int32)) hx hb dX8_lengthGain_16 (by decide) ?_
    refine lv_goto (tgt := 26) hx hb dX8_lengthGain_17 (by decide) ?_
    exact ge_Wi hx hb hlocks hr rfl hI (congrArg (fun z => z.1) (Option.some.inj hq)) (congrArg (fun z => z.2) (Option.some.inj hq)) dX8_lengthGain_26

abbrev rm_X8_levelOfGreatestGain : Room := { frames := 9, cells := 0, slots := 0, locals := 281 }
theorem k_X8_levelOfGreatestGain : g_CV yX8_levelOfGreatestGain cX8_levelOfGreatestGain 4 (some .int) 1 := ⟨⟨m_1762, m_14, by decide +kernel⟩, m_1760, m_1761⟩
set_option maxHeartbeats 4000000 in
set_option maxRecDepth 100000 in
theorem c_X8_levelOfGreatestGain (l : Launch) (V : Nat → Nat) (g : GH) (D : va_G) (cT : Nat → ClassId) (f : GH) (n : Nat) (a0 : Nat) (a1 : Int32) (o : Int32 × GH) (hq : p_X8_levelOfGreatestGain V g f a0 a1 = some o) : Met l yX8_levelOfGreatestGain (Cond.code yX8_levelOfGreatestGain cX8_levelOfGreatestGain 4 (some .int) :: g_B) rm_X8_levelOfGreatestGain (va_Pc [.ref a0, .int a1] (g_I V g D cT f n)) (g_Wi V D cT o.1 o.2 n) 0 0 (g_A V) := by
  refine g_begin (own := RX8) [.ref a0, .int a1] [(0, .ref a0), (1, .int a1)] (g_A V) (fun _ h => h) (by decide) rfl (Nat.le_of_ble_eq_true rfl) rfl ?_
  intro p e s m args below meth c hx hb hr hlocks hin hC hI ls hl
  obtain ⟨hx, hb, hml, hown, hB⟩ := id hC
  obtain ⟨H, hH⟩ : ∃ H, H = s.heap := ⟨_, rfl⟩
  obtain ⟨locs, hlocs⟩ : ∃ L : List Loc, L = [] := ⟨_, rfl⟩
  rw [← hH, ← hlocs] at hI ⊢
  clear hH hlocs
  unfold p_X8_levelOfGreatestGain at hq
  replace hq := (h_me_eq hq).2
  refine lv_aload_n hx hb dX8_levelOfGreatestGain_0 rfl (lv_at hl 0 rfl) ?_
  refine lv_aload_n hx hb dX8_levelOfGreatestGain_1 rfl (lv_at hl 0 rfl) ?_
  refine lv_iload_n hx hb dX8_levelOfGreatestGain_2 rfl (lv_at hl 1 rfl) ?_
  obtain ⟨v1, ev1, hq⟩ := b_s hq
  refine gr_i (g_runV (As := [.int a1]) (rest := [.ref a0]) (ci := 10) hC (c_X8_isCoast l V g D cT f n a0 a1 v1 ev1) k_X8_isCoast m_1630 rfl rfl ⟨Nat.le_of_ble_eq_true rfl, Nat.le_of_ble_eq_true rfl⟩ hI rfl rfl (h_me_eq ev1).1 rfl hl.1 rfl (Nat.le_of_ble_eq_true rfl) dX8_levelOfGreatestGain_3 ⟨by decide, by decide⟩) hI (fun H locs hI => ?_)
  obtain ⟨v2, ev2, hq⟩ := b_s hq
  refine gw_i (g_runV (As := [.int v1]) (rest := []) (ci := 10) hC (c_X8_lacks l V g D cT f n a0 v1 v2 ev2) k_X8_lacks m_1637 rfl rfl ⟨Nat.le_of_ble_eq_true rfl, Nat.le_of_ble_eq_true rfl⟩ hI rfl rfl (h_me_eq ev2).1 rfl hl.1 rfl (Nat.le_of_ble_eq_true rfl) dX8_levelOfGreatestGain_6 ⟨by decide, by decide⟩) hI (fun H locs hI => ?_)
  refine lv_if_eq (tgt := 14) hx hb dX8_levelOfGreatestGain_9 (by decide) (fun c3 => ?_) (fun c3 => ?_)
  · replace hq := i_t c3 hq
    refine lv_iconst (v := (0 : Int32)) hx hb dX8_levelOfGreatestGain_14 (by decide) ?_
    refine lv_istore_n (lv' := [(2, .int (0 : Int32)), (0, .ref a0), (1, .int a1)]) hx hb dX8_levelOfGreatestGain_15 rfl hl (by decide) rfl (fun ls hl => ?_)
    refine lv_iconst (v := (1 : Int32)) hx hb dX8_levelOfGreatestGain_16 (by decide) ?_
    refine lv_istore_n (lv' := [(3, .int (1 : Int32)), (2, .int (0 : Int32)), (0, .ref a0), (1, .int a1)]) hx hb dX8_levelOfGreatestGain_17 rfl hl (by decide) rfl (fun ls hl => ?_)
    have hl18 : ∀ (K51 : Int32 → GH → Option (Int32 × GH)) (hK51 : ∀ (x2 : Int32) (f : GH) (H : Heap) (locs : List Loc) (ls : Array Slot), g_at (g_A V) V g D cT f n s H locs → lv_has ls 4 [(2, .int x2)] → K51 x2 f = some o → W p l e rm_X8_levelOfGreatestGain s m args below meth c H locs 0 0 (MQ below (g_Wi V D cT o.1 o.2 n) args s 0 0 (g_A V)) (F0 m 51 ls [])) (N : Nat) (x0 : Nat) (x1 : Int32) (x2 : Int32) (x3 : Int32) (f : GH) (H : Heap) (locs : List Loc) (ls : Array Slot), g_at (g_A V) V g D cT f n s H locs → lv_has ls 4 [(0, .ref x0), (1, .int x1), (2, .int x2), (3, .int x3)] → p_X8_levelOfGreatestGain_l18 V g K51 N x0 x1 x2 x3 f = some o → W p l e rm_X8_levelOfGreatestGain s m args below meth c H locs 0 0 (MQ below (g_Wi V D cT o.1 o.2 n) args s 0 0 (g_A V)) (F0 m 18 ls []) := by
      intro K51 hK51 N
      induction N with
      | zero =>
        intro x0 x1 x2 x3 f H locs ls hI hl hq
        rw [p_X8_levelOfGreatestGain_l18] at hq
        cases hq
      | succ N ih =>
        intro x0 x1 x2 x3 f H locs ls hI hl hq
        rw [p_X8_levelOfGreatestGain_l18] at hq
        refine lv_iload_n hx hb dX8_levelOfGreatestGain_18 rfl (lv_at hl 3 rfl) ?_
        refine lv_bipush (v := (7 : Int32)) hx hb dX8_levelOfGreatestGain_19 (by decide) ?_
        refine lv_icmp_ge (tgt := 51) hx hb dX8_levelOfGreatestGain_21 (by decide) (fun c4 => ?_) (fun c4 => ?_)
        · replace hq := i_t c4 hq
          exact hK51 x2 f H locs ls hI (lv_sub hl [2] rfl) hq
        · replace hq := i_f c4 hq
          refine lv_aload_n hx hb dX8_levelOfGreatestGain_24 rfl (lv_at hl 0 rfl) ?_
          refine lv_iload_n hx hb dX8_levelOfGreatestGain_25 rfl (lv_at hl 1 rfl) ?_
          refine lv_iload_n hx hb dX8_levelOfGreatestGain_26 rfl (lv_at hl 3 rfl) ?_
          obtain ⟨v5, ev5, hq⟩ := b_s hq
          refine gr_i (g_runV (As := [.int x1, .int x3]) (rest := []) (ci := 10) hC (c_X8_gain l V g D cT f n x0 x1 x3 v5 ev5) k_X8_gain m_1755 rfl rfl ⟨Nat.le_of_ble_eq_true rfl, Nat.le_of_ble_eq_true rfl⟩ hI rfl rfl (h_me_eq ev5).1 rfl hl.1 rfl (Nat.le_of_ble_eq_true rfl) dX8_levelOfGreatestGain_27 ⟨by decide, by decide⟩) hI (fun H locs hI => ?_)
          refine lv_aload_n hx hb dX8_levelOfGreatestGain_30 rfl (lv_at hl 0 rfl) ?_
          refine lv_iload_n hx hb dX8_levelOfGreatestGain_31 rfl (lv_at hl 1 rfl) ?_
          refine lv_iload_n hx hb dX8_levelOfGreatestGain_32 rfl (lv_at hl 2 rfl) ?_
          obtain ⟨v6, ev6, hq⟩ := b_s hq
          refine gr_i (g_runV (As := [.int x1, .int x2]) (rest := [.int v5]) (ci := 10) hC (c_X8_gain l V g D cT f n x0 x1 x2 v6 ev6) k_X8_gain m_1755 rfl rfl ⟨Nat.le_of_ble_eq_true rfl, Nat.le_of_ble_eq_true rfl⟩ hI rfl rfl (h_me_eq ev6).1 rfl hl.1 rfl (Nat.le_of_ble_eq_true rfl) dX8_levelOfGreatestGain_33 ⟨by decide, by decide⟩) hI (fun H locs hI => ?_)
          refine lv_icmp_le (tgt := 43) hx hb dX8_levelOfGreatestGain_36 (by decide) (fun c7 => ?_) (fun c7 => ?_)
          · replace hq := i_t c7 hq
            refine lv_iload_n hx hb dX8_levelOfGreatestGain_43 rfl (lv_at hl 2 rfl) ?_
            refine lv_istore_n (lv' := [(2, .int x2), (0, .ref x0), (1, .int x1), (3, .int x3)]) hx hb dX8_levelOfGreatestGain_44 rfl hl (by decide) rfl (fun ls hl => ?_)
            refine lv_iinc (v := x3 + (1 : Int32)) (lv' := [(3, .int (x3 + (1 : Int32))), (2, .int x2), (0, .ref x0), (1, .int x1)]) hx hb dX8_levelOfGreatestGain_45 hl (k := 3) rfl rfl (by decide) rfl (fun ls hl => ?_)
            refine lv_goto (tgt := 18) hx hb dX8_levelOfGreatestGain_48 (by decide) ?_
            exact ih x0 x1 x2 (x3 + (1 : Int32)) f H locs ls hI (lv_sub hl [2, 3, 1, 0] rfl) hq
          · replace hq := i_f c7 hq
            refine lv_iload_n hx hb dX8_levelOfGreatestGain_39 rfl (lv_at hl 3 rfl) ?_
            refine lv_goto (tgt := 44) hx hb dX8_levelOfGreatestGain_40 (by decide) ?_
            refine lv_istore_n (lv' := [(2, .int x3), (0, .ref x0), (1, .int x1), (3, .int x3)]) hx hb dX8_levelOfGreatestGain_44 rfl hl (by decide) rfl (fun ls hl => ?_)
            refine lv_iinc (v := x3 + (1 : Int32)) (lv' := [(3, .int (x3 + (1 : Int32))), (2, .int x3), (0, .ref x0), (1, .int x1)]) hx hb dX8_levelOfGreatestGain_45 hl (k := 3) rfl rfl (by decide) rfl (fun ls hl => ?_)
            refine lv_goto (tgt := 18) hx hb dX8_levelOfGreatestGain_48 (by decide) ?_
            exact ih x0 x1 x3 (x3 + (1 : Int32)) f H locs ls hI (lv_sub hl [2, 3, 1, 0] rfl) hq
    refine hl18 _ ?_ FU a0 a1 (0 : Int32) (1 : Int32) v2.2 H locs ls hI (lv_sub hl [2, 3, 1, 0] rfl) hq
    · intro x2 f H locs ls hI hl hq
      refine lv_iload_n hx hb dX8_levelOfGreatestGain_51 rfl (lv_at hl 0 rfl) ?_
      exact ge_Wi hx hb hlocks hr rfl hI (congrArg (fun z => z.1) (Option.some.inj hq)) (congrArg (fun z => z.2) (Option.some.inj hq)) dX8_levelOfGreatestGain_52
  · replace hq := i_f c3 hq
    refine lv_iconst (v := (0 : Int32)) hx hb dX8_levelOfGreatestGain_12 (by decide) ?_
    exact ge_Wi hx hb hlocks hr rfl hI (congrArg (fun z => z.1) (Option.some.inj hq)) (congrArg (fun z => z.2) (Option.some.inj hq)) dX8_levelOfGreatestGain_13

abbrev rm_X8_coarsest : Room := { frames := 8, cells := 0, slots := 0, locals := 259 }
theorem k_X8_coarsest : g_CV yX8_coarsest cX8_coarsest 4 (some .int) 2 := ⟨⟨m_1770, m_14, by decide +kernel⟩, m_1769, ms_41⟩
set_option maxHeartbeats 4000000 in
set_option maxRecDepth 100000 in
theorem c_X8_coarsest (l : Launch) (V : Nat → Nat) (g : GH) (D : va_G) (cT : Nat → ClassId) (f : GH) (n : Nat) (a0 : Nat) (a1 : Int32) (a2 : Int32) (o : Int32) (hq : p_X8_coarsest V g f a0 a1 a2 = some o) : Met l yX8_coarsest (Cond.code yX8_coarsest cX8_coarsest 4 (some .int) :: g_B) rm_X8_coarsest (va_Pc [.ref a0, .int a1, .int a2] (g_I V g D cT f n)) (g_Ri o n) 0 0 g_no := by
  refine g_begin (own := RX8) [.ref a0, .int a1, .int a2] [(0, .ref a0), (1, .int a1), (2, .int a2)] g_no (fun _ h => h.elim) (by decide) rfl (Nat.le_of_ble_eq_true rfl) rfl ?_
  intro p e s m args below meth c hx hb hr hlocks hin hC hI ls hl
  obtain ⟨hx, hb, hml, hown, hB⟩ := id hC
  obtain ⟨H, hH⟩ : ∃ H, H = s.heap := ⟨_, rfl⟩
  obtain ⟨locs, hlocs⟩ : ∃ L : List Loc, L = [] := ⟨_, rfl⟩
  rw [← hH, ← hlocs] at hI ⊢
  clear hH hlocs
  unfold p_X8_coarsest at hq
  replace hq := (h_me_eq hq).2
  refine lv_bipush (v := (7 : Int32)) hx hb dX8_coarsest_0 (by decide) ?_
  refine lv_istore_n (lv' := [(3, .int (7 : Int32)), (0, .ref a0), (1, .int a1), (2, .int a2)]) hx hb dX8_coarsest_2 rfl hl (by decide) rfl (fun ls hl => ?_)
  have hl3 : ∀ (K23 : Int32 → Option Int32) (hK23 : ∀ (x3 : Int32) (H : Heap) (locs : List Loc) (ls : Array Slot), g_at g_no V g D cT f n s H locs → lv_has ls 4 [(3, .int x3)] → K23 x3 = some o → W p l e rm_X8_coarsest s m args below meth c H locs 0 0 (MQ below (g_Ri o n) args s 0 0 g_no) (F0 m 23 ls [])) (N : Nat) (x0 : Nat) (x1 : Int32) (x2 : Int32) (x3 : Int32) (H : Heap) (locs : List Loc) (ls : Array Slot), g_at g_no V g D cT f n s H locs → lv_has ls 4 [(0, .ref x0), (1, .int x1), (2, .int x2), (3, .int x3)] → p_X8_coarsest_l3 V g f K23 N x0 x1 x2 x3 = some o → W p l e rm_X8_coarsest s m args below meth c H locs 0 0 (MQ below (g_Ri o n) args s 0 0 g_no) (F0 m 3 ls []) := by
    intro K23 hK23 N
    induction N with
    | zero =>
      intro x0 x1 x2 x3 H locs ls hI hl hq
      rw [p_X8_coarsest_l3] at hq
      cases hq
    | succ N ih =>
      intro x0 x1 x2 x3 H locs ls hI hl hq
      rw [p_X8_coarsest_l3] at hq
      refine lv_iload_n hx hb dX8_coarsest_3 rfl (lv_at hl 3 rfl) ?_
      refine lv_if_lt (tgt := 23) hx hb dX8_coarsest_4 (by decide) (fun c1 => ?_) (fun c1 => ?_)
      · replace hq := i_t c1 hq
        exact hK23 x3 H locs ls hI (lv_sub hl [3] rfl) hq
      · replace hq := i_f c1 hq
        refine lv_aload_n hx hb dX8_coarsest_7 rfl (lv_at hl 0 rfl) ?_
        refine lv_iload_n hx hb dX8_coarsest_8 rfl (lv_at hl 1 rfl) ?_
        refine lv_iload_n hx hb dX8_coarsest_9 rfl (lv_at hl 3 rfl) ?_
        obtain ⟨v2, ev2, hq⟩ := b_s hq
        refine gr_i (g_runV (As := [.int x1, .int x3]) (rest := []) (ci := 10) hC (c_X8_lengthNow l V g D cT f n x0 x1 x3 v2 ev2) k_X8_lengthNow m_1708 rfl rfl ⟨Nat.le_of_ble_eq_true rfl, Nat.le_of_ble_eq_true rfl⟩ hI rfl rfl (h_me_eq ev2).1 rfl hl.1 rfl (Nat.le_of_ble_eq_true rfl) dX8_coarsest_10 ⟨by decide, by decide⟩) hI (fun H locs hI => ?_)
        refine lv_iload_n hx hb dX8_coarsest_13 rfl (lv_at hl 2 rfl) ?_
        refine lv_icmp_ge (tgt := 23) hx hb dX8_coarsest_14 (by decide) (fun c3 => ?_) (fun c3 => ?_)
        · replace hq := i_t c3 hq
          exact hK23 x3 H locs ls hI (lv_sub hl [3] rfl) hq
        · replace hq := i_f c3 hq
          refine lv_iinc (v := x3 + (-1 : Int32)) (lv' := [(3, .int (x3 + (-1 : Int32))), (0, .ref x0), (1, .int x1), (2, .int x2)]) hx hb dX8_coarsest_17 hl (k := 3) rfl rfl (by decide) rfl (fun ls hl => ?_)
          refine lv_goto (tgt := 3) hx hb dX8_coarsest_20 (by decide) ?_
          exact ih x0 x1 x2 (x3 + (-1 : Int32)) H locs ls hI (lv_sub hl [1, 2, 3, 0] rfl) hq
  refine hl3 _ ?_ FU a0 a1 a2 (7 : Int32) H locs ls hI (lv_sub hl [1, 2, 3, 0] rfl) hq
  · intro x3 H locs ls hI hl hq
    refine lv_iload_n hx hb dX8_coarsest_23 rfl (lv_at hl 0 rfl) ?_
    exact ge_Ri hx hb hlocks hr rfl hI hq dX8_coarsest_24

abbrev rm_X8_coarsestLevelFor : Room := { frames := 9, cells := 0, slots := 0, locals := 282 }
theorem k_X8_coarsestLevelFor : g_CV yX8_coarsestLevelFor cX8_coarsestLevelFor 3 (some .int) 2 := ⟨⟨m_1766, m_14, by decide +kernel⟩, m_1764, m_1765⟩
set_option maxHeartbeats 4000000 in
set_option maxRecDepth 100000 in
theorem c_X8_coarsestLevelFor (l : Launch) (V : Nat → Nat) (g : GH) (D : va_G) (cT : Nat → ClassId) (f : GH) (n : Nat) (a0 : Nat) (a1 : Int32) (a2 : Int32) (o : Int32 × GH) (hq : p_X8_coarsestLevelFor V g f a0 a1 a2 = some o) : Met l yX8_coarsestLevelFor (Cond.code yX8_coarsestLevelFor cX8_coarsestLevelFor 3 (some .int) :: g_B) rm_X8_coarsestLevelFor (va_Pc [.ref a0, .int a1, .int a2] (g_I V g D cT f n)) (g_Wi V D cT o.1 o.2 n) 0 0 (g_A V) := by
  refine g_begin (own := RX8) [.ref a0, .int a1, .int a2] [(0, .ref a0), (1, .int a1), (2, .int a2)] (g_A V) (fun _ h => h) (by decide) rfl (Nat.le_of_ble_eq_true rfl) rfl ?_
  intro p e s m args below meth c hx hb hr hlocks hin hC hI ls hl
  obtain ⟨hx, hb, hml, hown, hB⟩ := id hC
  obtain ⟨H, hH⟩ : ∃ H, H = s.heap := ⟨_, rfl⟩
  obtain ⟨locs, hlocs⟩ : ∃ L : List Loc, L = [] := ⟨_, rfl⟩
  rw [← hH, ← hlocs] at hI ⊢
  clear hH hlocs
  unfold p_X8_coarsestLevelFor at hq
  replace hq := (h_me_eq hq).2
  refine lv_aload_n hx hb dX8_coarsestLevelFor_0 rfl (lv_at hl 0 rfl) ?_
  refine lv_aload_n hx hb dX8_coarsestLevelFor_1 rfl (lv_at hl 0 rfl) ?_
  refine lv_iload_n hx hb dX8_coarsestLevelFor_2 rfl (lv_at hl 1 rfl) ?_
  obtain ⟨v1, ev1, hq⟩ := b_s hq
  refine gr_i (g_runV (As := [.int a1]) (rest := [.ref a0]) (ci := 10) hC (c_X8_isCoast l V g D cT f n a0 a1 v1 ev1) k_X8_isCoast m_1630 rfl rfl ⟨Nat.le_of_ble_eq_true rfl, Nat.le_of_ble_eq_true rfl⟩ hI rfl rfl (h_me_eq ev1).1 rfl hl.1 rfl (Nat.le_of_ble_eq_true rfl) dX8_coarsestLevelFor_3 ⟨by decide, by decide⟩) hI (fun H locs hI => ?_)
  refine lv_iload_n hx hb dX8_coarsestLevelFor_6 rfl (lv_at hl 2 rfl) ?_
  have hj15 : ∀ (x0 : Nat) (x1 : Int32) (x2 : Int32) (t0 : Int32) (t1 : Int32) (t2 : Nat) (f : GH) (H : Heap) (locs : List Loc) (ls : Array Slot), g_at (g_A V) V g D cT f n s H locs → lv_has ls 3 [(0, .ref x0), (1, .int x1), (2, .int x2)] → p_X8_coarsestLevelFor_j15 V g x0 x1 x2 t0 t1 t2 f = some o → W p l e rm_X8_coarsestLevelFor s m args below meth c H locs 0 0 (MQ below (g_Wi V D cT o.1 o.2 n) args s 0 0 (g_A V)) (F0 m 15 ls [.int t0, .int t1, .ref t2]) := by
    intro x0 x1 x2 t0 t1 t2 f H locs ls hI hl hq
    unfold p_X8_coarsestLevelFor_j15 at hq
    obtain ⟨v2, ev2, hq⟩ := b_s hq
    refine gw_i (g_runV (As := [.int t1, .int t0]) (rest := []) (ci := 10) hC (c_X8_lacksBoth l V g D cT f n t2 t1 t0 v2 ev2) k_X8_lacksBoth m_1693 rfl rfl ⟨Nat.le_of_ble_eq_true rfl, Nat.le_of_ble_eq_true rfl⟩ hI rfl rfl (h_me_eq ev2).1 rfl hl.1 rfl (Nat.le_of_ble_eq_true rfl) dX8_coarsestLevelFor_15 ⟨by decide, by decide⟩) hI (fun H locs hI => ?_)
    refine lv_if_eq (tgt := 25) hx hb dX8_coarsestLevelFor_18 (by decide) (fun c3 => ?_) (fun c3 => ?_)
    · replace hq := i_t c3 hq
      refine lv_aload_n hx hb dX8_coarsestLevelFor_25 rfl (lv_at hl 0 rfl) ?_
      refine lv_iload_n hx hb dX8_coarsestLevelFor_26 rfl (lv_at hl 1 rfl) ?_
      refine lv_iload_n hx hb dX8_coarsestLevelFor_27 rfl (lv_at hl 2 rfl) ?_
      obtain ⟨v4, ev4, hq⟩ := b_s hq
      refine gr_i (g_runV (As := [.int x1, .int x2]) (rest := []) (ci := 10) hC (c_X8_coarsest l V g D cT v2.2 n x0 x1 x2 v4 ev4) k_X8_coarsest m_1767 rfl rfl ⟨Nat.le_of_ble_eq_true rfl, Nat.le_of_ble_eq_true rfl⟩ hI rfl rfl (h_me_eq ev4).1 rfl hl.1 rfl (Nat.le_of_ble_eq_true rfl) dX8_coarsestLevelFor_28 ⟨by decide, by decide⟩) hI (fun H locs hI => ?_)
      exact ge_Wi hx hb hlocks hr rfl hI (congrArg (fun z => z.1) (Option.some.inj hq)) (congrArg (fun z => z.2) (Option.some.inj hq)) dX8_coarsestLevelFor_31
    · replace hq := i_f c3 hq
      refine lv_iconst (v := (0 : Int32)) hx hb dX8_coarsestLevelFor_21 (by decide) ?_
      refine lv_goto (tgt := 31) hx hb dX8_coarsestLevelFor_22 (by decide) ?_
      exact ge_Wi hx hb hlocks hr rfl hI (congrArg (fun z => z.1) (Option.some.inj hq)) (congrArg (fun z => z.2) (Option.some.inj hq)) dX8_coarsestLevelFor_31
  refine lv_if_lt (tgt := 14) hx hb dX8_coarsestLevelFor_7 (by decide) (fun c5 => ?_) (fun c5 => ?_)
  · replace hq := i_t c5 hq
    refine lv_iconst (v := (0 : Int32)) hx hb dX8_coarsestLevelFor_14 (by decide) ?_
    exact hj15 a0 a1 a2 (0 : Int32) v1 a0 f H locs ls hI (lv_sub hl [0, 1, 2] rfl) hq
  · replace hq := i_f c5 hq
    refine lv_iconst (v := (1 : Int32)) hx hb dX8_coarsestLevelFor_10 (by decide) ?_
    refine lv_goto (tgt := 15) hx hb dX8_coarsestLevelFor_11 (by decide) ?_
    exact hj15 a0 a1 a2 (1 : Int32) v1 a0 f H locs ls hI (lv_sub hl [0, 1, 2] rfl) hq

abbrev rm_X8_coarsestExactLevel : Room := { frames := 9, cells := 0, slots := 0, locals := 282 }
theorem k_X8_coarsestExactLevel : g_CV yX8_coarsestExactLevel cX8_coarsestExactLevel 2 (some .int) 1 := ⟨⟨m_1774, m_14, by decide +kernel⟩, m_1772, m_1773⟩
set_option maxHeartbeats 4000000 in
set_option maxRecDepth 100000 in
theorem c_X8_coarsestExactLevel (l : Launch) (V : Nat → Nat) (g : GH) (D : va_G) (cT : Nat → ClassId) (f : GH) (n : Nat) (a0 : Nat) (a1 : Int32) (o : Int32 × GH) (hq : p_X8_coarsestExactLevel V g f a0 a1 = some o) : Met l yX8_coarsestExactLevel (Cond.code yX8_coarsestExactLevel cX8_coarsestExactLevel 2 (some .int) :: g_B) rm_X8_coarsestExactLevel (va_Pc [.ref a0, .int a1] (g_I V g D cT f n)) (g_Wi V D cT o.1 o.2 n) 0 0 (g_A V) := by
  refine g_begin (own := RX8) [.ref a0, .int a1] [(0, .ref a0), (1, .int a1)] (g_A V) (fun _ h => h) (by decide) rfl (Nat.le_of_ble_eq_true rfl) rfl ?_
  intro p e s m args below meth c hx hb hr hlocks hin hC hI ls hl
  obtain ⟨hx, hb, hml, hown, hB⟩ := id hC
  obtain ⟨H, hH⟩ : ∃ H, H = s.heap := ⟨_, rfl⟩
  obtain ⟨locs, hlocs⟩ : ∃ L : List Loc, L = [] := ⟨_, rfl⟩
  rw [← hH, ← hlocs] at hI ⊢
  clear hH hlocs
  unfold p_X8_coarsestExactLevel at hq
  replace hq := (h_me_eq hq).2
  refine lv_aload_n hx hb dX8_coarsestExactLevel_0 rfl (lv_at hl 0 rfl) ?_
  refine lv_aload_n hx hb dX8_coarsestExactLevel_1 rfl (lv_at hl 0 rfl) ?_
  refine lv_iload_n hx hb dX8_coarsestExactLevel_2 rfl (lv_at hl 1 rfl) ?_
  obtain ⟨v1, ev1, hq⟩ := b_s hq
  refine gr_i (g_runV (As := [.int a1]) (rest := [.ref a0]) (ci := 10) hC (c_X8_isCoast l V g D cT f n a0 a1 v1 ev1) k_X8_isCoast m_1630 rfl rfl ⟨Nat.le_of_ble_eq_true rfl, Nat.le_of_ble_eq_true rfl⟩ hI rfl rfl (h_me_eq ev1).1 rfl hl.1 rfl (Nat.le_of_ble_eq_true rfl) dX8_coarsestExactLevel_3 ⟨by decide, by decide⟩) hI (fun H locs hI => ?_)
  obtain ⟨v2, ev2, hq⟩ := b_s hq
  refine gw_i (g_runV (As := [.int v1]) (rest := []) (ci := 10) hC (c_X8_lacks l V g D cT f n a0 v1 v2 ev2) k_X8_lacks m_1637 rfl rfl ⟨Nat.le_of_ble_eq_true rfl, Nat.le_of_ble_eq_true rfl⟩ hI rfl rfl (h_me_eq ev2).1 rfl hl.1 rfl (Nat.le_of_ble_eq_true rfl) dX8_coarsestExactLevel_6 ⟨by decide, by decide⟩) hI (fun H locs hI => ?_)
  refine lv_if_eq (tgt := 16) hx hb dX8_coarsestExactLevel_9 (by decide) (fun c3 => ?_) (fun c3 => ?_)
  · replace hq := i_t c3 hq
    refine lv_aload_n hx hb dX8_coarsestExactLevel_16 rfl (lv_at hl 0 rfl) ?_
    refine lv_iload_n hx hb dX8_coarsestExactLevel_17 rfl (lv_at hl 1 rfl) ?_
    refine lv_aload_n hx hb dX8_coarsestExactLevel_18 rfl (lv_at hl 0 rfl) ?_
    refine lv_iload_n hx hb dX8_coarsestExactLevel_19 rfl (lv_at hl 1 rfl) ?_
    refine lv_iconst (v := (0 : Int32)) hx hb dX8_coarsestExactLevel_20 (by decide) ?_
    obtain ⟨v4, ev4, hq⟩ := b_s hq
    refine gr_i (g_runV (As := [.int a1, .int (0 : Int32)]) (rest := [.int a1, .ref a0]) (ci := 10) hC (c_X8_lengthNow l V g D cT v2.2 n a0 a1 (0 : Int32) v4 ev4) k_X8_lengthNow m_1708 rfl rfl ⟨Nat.le_of_ble_eq_true rfl, Nat.le_of_ble_eq_true rfl⟩ hI rfl rfl (h_me_eq ev4).1 rfl hl.1 rfl (Nat.le_of_ble_eq_true rfl) dX8_coarsestExactLevel_21 ⟨by decide, by decide⟩) hI (fun H locs hI => ?_)
    obtain ⟨v5, ev5, hq⟩ := b_s hq
    refine gr_i (g_runV (As := [.int a1, .int v4]) (rest := []) (ci := 10) hC (c_X8_coarsest l V g D cT v2.2 n a0 a1 v4 v5 ev5) k_X8_coarsest m_1767 rfl rfl ⟨Nat.le_of_ble_eq_true rfl, Nat.le_of_ble_eq_true rfl⟩ hI rfl rfl (h_me_eq ev5).1 rfl hl.1 rfl (Nat.le_of_ble_eq_true rfl) dX8_coarsestExactLevel_24 ⟨by decide, by decide⟩) hI (fun H locs hI => ?_)
    exact ge_Wi hx hb hlocks hr rfl hI (congrArg (fun z => z.1) (Option.some.inj hq)) (congrArg (fun z => z.2) (Option.some.inj hq)) dX8_coarsestExactLevel_27
  · replace hq := i_f c3 hq
    refine lv_iconst (v := (0 : Int32)) hx hb dX8_coarsestExactLevel_12 (by decide) ?_
    refine lv_goto (tgt := 27) hx hb dX8_coarsestExactLevel_13 (by decide) ?_
    exact ge_Wi hx hb hlocks hr rfl hI (congrArg (fun z => z.1) (Option.some.inj hq)) (congrArg (fun z => z.2) (Option.some.inj hq)) dX8_coarsestExactLevel_27

abbrev rm_X8_totalLength : Room := { frames := 8, cells := 0, slots := 0, locals := 259 }
theorem k_X8_totalLength : g_CV yX8_totalLength cX8_totalLength 4 (some .int) 1 := ⟨⟨m_1778, m_14, by decide +kernel⟩, m_1776, m_1777⟩
set_option maxHeartbeats 4000000 in
set_option maxRecDepth 100000 in
theorem c_X8_totalLength (l : Launch) (V : Nat → Nat) (g : GH) (D : va_G) (cT : Nat → ClassId) (f : GH) (n : Nat) (a0 : Nat) (a1 : Int32) (o : Int32 × GH) (hq : p_X8_totalLength V g f a0 a1 = some o) : Met l yX8_totalLength (Cond.code yX8_totalLength cX8_totalLength 4 (some .int) :: g_B) rm_X8_totalLength (va_Pc [.ref a0, .int a1] (g_I V g D cT f n)) (g_Wi V D cT o.1 o.2 n) 0 0 (g_A V) := by
  refine g_begin (own := RX8) [.ref a0, .int a1] [(0, .ref a0), (1, .int a1)] (g_A V) (fun _ h => h) (by decide) rfl (Nat.le_of_ble_eq_true rfl) rfl ?_
  intro p e s m args below meth c hx hb hr hlocks hin hC hI ls hl
  obtain ⟨hx, hb, hml, hown, hB⟩ := id hC
  obtain ⟨H, hH⟩ : ∃ H, H = s.heap := ⟨_, rfl⟩
  obtain ⟨locs, hlocs⟩ : ∃ L : List Loc, L = [] := ⟨_, rfl⟩
  rw [← hH, ← hlocs] at hI ⊢
  clear hH hlocs
  unfold p_X8_totalLength at hq
  replace hq := (h_me_eq hq).2
  refine lv_aload_n hx hb dX8_totalLength_0 rfl (lv_at hl 0 rfl) ?_
  refine lv_iload_n hx hb dX8_totalLength_1 rfl (lv_at hl 1 rfl) ?_
  obtain ⟨v1, ev1, hq⟩ := b_s hq
  refine gr_i (g_runS (As := [.int a1]) (rest := [.ref a0]) hC (c_X8_isLevel l V g D cT f n a1 v1 ev1) k_X8_isLevel m_1705 rfl rfl ⟨Nat.le_of_ble_eq_true rfl, Nat.le_of_ble_eq_true rfl⟩ hI rfl hl.1 rfl (Nat.le_of_ble_eq_true rfl) dX8_totalLength_2 ⟨by decide, by decide⟩) hI (fun H locs hI => ?_)
  obtain ⟨v2, ev2, hq⟩ := b_s hq
  refine gw_i (g_runV (As := [.int v1]) (rest := []) (ci := 10) hC (c_X8_lacks l V g D cT f n a0 v1 v2 ev2) k_X8_lacks m_1637 rfl rfl ⟨Nat.le_of_ble_eq_true rfl, Nat.le_of_ble_eq_true rfl⟩ hI rfl rfl (h_me_eq ev2).1 rfl hl.1 rfl (Nat.le_of_ble_eq_true rfl) dX8_totalLength_5 ⟨by decide, by decide⟩) hI (fun H locs hI => ?_)
  refine lv_if_eq (tgt := 13) hx hb dX8_totalLength_8 (by decide) (fun c3 => ?_) (fun c3 => ?_)
  · replace hq := i_t c3 hq
    refine lv_iconst (v := (0 : Int32)) hx hb dX8_totalLength_13 (by decide) ?_
    refine lv_istore_n (lv' := [(2, .int (0 : Int32)), (0, .ref a0), (1, .int a1)]) hx hb dX8_totalLength_14 rfl hl (by decide) rfl (fun ls hl => ?_)
    refine lv_iconst (v := (0 : Int32)) hx hb dX8_totalLength_15 (by decide) ?_
    refine lv_istore_n (lv' := [(3, .int (0 : Int32)), (2, .int (0 : Int32)), (0, .ref a0), (1, .int a1)]) hx hb dX8_totalLength_16 rfl hl (by decide) rfl (fun ls hl => ?_)
    have hl17 : ∀ (K42 : Int32 → GH → Option (Int32 × GH)) (hK42 : ∀ (x2 : Int32) (f : GH) (H : Heap) (locs : List Loc) (ls : Array Slot), g_at (g_A V) V g D cT f n s H locs → lv_has ls 4 [(2, .int x2)] → K42 x2 f = some o → W p l e rm_X8_totalLength s m args below meth c H locs 0 0 (MQ below (g_Wi V D cT o.1 o.2 n) args s 0 0 (g_A V)) (F0 m 42 ls [])) (N : Nat) (x0 : Nat) (x1 : Int32) (x2 : Int32) (x3 : Int32) (f : GH) (H : Heap) (locs : List Loc) (ls : Array Slot), g_at (g_A V) V g D cT f n s H locs → lv_has ls 4 [(0, .ref x0), (1, .int x1), (2, .int x2), (3, .int x3)] → p_X8_totalLength_l17 V g K42 N x0 x1 x2 x3 f = some o → W p l e rm_X8_totalLength s m args below meth c H locs 0 0 (MQ below (g_Wi V D cT o.1 o.2 n) args s 0 0 (g_A V)) (F0 m 17 ls []) := by
      intro K42 hK42 N
      induction N with
      | zero =>
        intro x0 x1 x2 x3 f H locs ls hI hl hq
        rw [p_X8_totalLength_l17] at hq
        cases hq
      | succ N ih =>
        intro x0 x1 x2 x3 f H locs ls hI hl hq
        rw [p_X8_totalLength_l17] at hq
        refine lv_iload_n hx hb dX8_totalLength_17 rfl (lv_at hl 3 rfl) ?_
        refine lv_aload_n hx hb dX8_totalLength_18 rfl (lv_at hl 0 rfl) ?_
        obtain ⟨v4, ev4, hq⟩ := b_s hq
        refine fa_gr (own := RX8) (ref := "CoastlineRulerModel") (k := 5) hx hb hB inB_RX8 hown hI rfl (by decide) m_1536 (fun _ h9 => h9) ev4 dX8_totalLength_19 ?_
        refine lv_iconst (v := (1 : Int32)) hx hb dX8_totalLength_22 (by decide) ?_
        obtain ⟨v5, ev5, hq⟩ := b_s hq
        refine fa_li hx hb hI ev5 dX8_totalLength_23 ?_
        refine lv_icmp_ge (tgt := 42) hx hb dX8_totalLength_24 (by decide) (fun c6 => ?_) (fun c6 => ?_)
        · replace hq := i_t c6 hq
          exact hK42 x2 f H locs ls hI (lv_sub hl [2] rfl) hq
        · replace hq := i_f c6 hq
          refine lv_iload_n hx hb dX8_totalLength_27 rfl (lv_at hl 2 rfl) ?_
          refine lv_aload_n hx hb dX8_totalLength_28 rfl (lv_at hl 0 rfl) ?_
          refine lv_iload_n hx hb dX8_totalLength_29 rfl (lv_at hl 3 rfl) ?_
          refine lv_iload_n hx hb dX8_totalLength_30 rfl (lv_at hl 1 rfl) ?_
          obtain ⟨v7, ev7, hq⟩ := b_s hq
          refine gr_i (g_runV (As := [.int x3, .int x1]) (rest := [.int x2]) (ci := 10) hC (c_X8_lengthNow l V g D cT f n x0 x3 x1 v7 ev7) k_X8_lengthNow m_1708 rfl rfl ⟨Nat.le_of_ble_eq_true rfl, Nat.le_of_ble_eq_true rfl⟩ hI rfl rfl (h_me_eq ev7).1 rfl hl.1 rfl (Nat.le_of_ble_eq_true rfl) dX8_totalLength_31 ⟨by decide, by decide⟩) hI (fun H locs hI => ?_)
          refine lv_iadd hx hb dX8_totalLength_34 ?_
          refine lv_istore_n (lv' := [(2, .int (x2 + v7)), (0, .ref x0), (1, .int x1), (3, .int x3)]) hx hb dX8_totalLength_35 rfl hl (by decide) rfl (fun ls hl => ?_)
          refine lv_iinc (v := x3 + (1 : Int32)) (lv' := [(3, .int (x3 + (1 : Int32))), (2, .int (x2 + v7)), (0, .ref x0), (1, .int x1)]) hx hb dX8_totalLength_36 hl (k := 3) rfl rfl (by decide) rfl (fun ls hl => ?_)
          refine lv_goto (tgt := 17) hx hb dX8_totalLength_39 (by decide) ?_
          exact ih x0 x1 (x2 + v7) (x3 + (1 : Int32)) f H locs ls hI (lv_sub hl [2, 3, 1, 0] rfl) hq
    refine hl17 _ ?_ FU a0 a1 (0 : Int32) (0 : Int32) v2.2 H locs ls hI (lv_sub hl [2, 3, 1, 0] rfl) hq
    · intro x2 f H locs ls hI hl hq
      refine lv_iload_n hx hb dX8_totalLength_42 rfl (lv_at hl 0 rfl) ?_
      exact ge_Wi hx hb hlocks hr rfl hI (congrArg (fun z => z.1) (Option.some.inj hq)) (congrArg (fun z => z.2) (Option.some.inj hq)) dX8_totalLength_43
  · replace hq := i_f c3 hq
    refine lv_iconst (v := (0 : Int32)) hx hb dX8_totalLength_11 (by decide) ?_
    exact ge_Wi hx hb hlocks hr rfl hI (congrArg (fun z => z.1) (Option.some.inj hq)) (congrArg (fun z => z.2) (Option.some.inj hq)) dX8_totalLength_12

abbrev rm_X8_longestCoast : Room := { frames := 8, cells := 0, slots := 0, locals := 259 }
theorem k_X8_longestCoast : g_CV yX8_longestCoast cX8_longestCoast 4 (some .int) 1 := ⟨⟨m_1782, m_14, by decide +kernel⟩, m_1780, m_1781⟩
set_option maxHeartbeats 4000000 in
set_option maxRecDepth 100000 in
theorem c_X8_longestCoast (l : Launch) (V : Nat → Nat) (g : GH) (D : va_G) (cT : Nat → ClassId) (f : GH) (n : Nat) (a0 : Nat) (a1 : Int32) (o : Int32 × GH) (hq : p_X8_longestCoast V g f a0 a1 = some o) : Met l yX8_longestCoast (Cond.code yX8_longestCoast cX8_longestCoast 4 (some .int) :: g_B) rm_X8_longestCoast (va_Pc [.ref a0, .int a1] (g_I V g D cT f n)) (g_Wi V D cT o.1 o.2 n) 0 0 (g_A V) := by
  refine g_begin (own := RX8) [.ref a0, .int a1] [(0, .ref a0), (1, .int a1)] (g_A V) (fun _ h => h) (by decide) rfl (Nat.le_of_ble_eq_true rfl) rfl ?_
  intro p e s m args below meth c hx hb hr hlocks hin hC hI ls hl
  obtain ⟨hx, hb, hml, hown, hB⟩ := id hC
  obtain ⟨H, hH⟩ : ∃ H, H = s.heap := ⟨_, rfl⟩
  obtain ⟨locs, hlocs⟩ : ∃ L : List Loc, L = [] := ⟨_, rfl⟩
  rw [← hH, ← hlocs] at hI ⊢
  clear hH hlocs
  unfold p_X8_longestCoast at hq
  replace hq := (h_me_eq hq).2
  refine lv_aload_n hx hb dX8_longestCoast_0 rfl (lv_at hl 0 rfl) ?_
  refine lv_iload_n hx hb dX8_longestCoast_1 rfl (lv_at hl 1 rfl) ?_
  obtain ⟨v1, ev1, hq⟩ := b_s hq
  refine gr_i (g_runS (As := [.int a1]) (rest := [.ref a0]) hC (c_X8_isLevel l V g D cT f n a1 v1 ev1) k_X8_isLevel m_1705 rfl rfl ⟨Nat.le_of_ble_eq_true rfl, Nat.le_of_ble_eq_true rfl⟩ hI rfl hl.1 rfl (Nat.le_of_ble_eq_true rfl) dX8_longestCoast_2 ⟨by decide, by decide⟩) hI (fun H locs hI => ?_)
  obtain ⟨v2, ev2, hq⟩ := b_s hq
  refine gw_i (g_runV (As := [.int v1]) (rest := []) (ci := 10) hC (c_X8_lacks l V g D cT f n a0 v1 v2 ev2) k_X8_lacks m_1637 rfl rfl ⟨Nat.le_of_ble_eq_true rfl, Nat.le_of_ble_eq_true rfl⟩ hI rfl rfl (h_me_eq ev2).1 rfl hl.1 rfl (Nat.le_of_ble_eq_true rfl) dX8_longestCoast_5 ⟨by decide, by decide⟩) hI (fun H locs hI => ?_)
  refine lv_if_eq (tgt := 13) hx hb dX8_longestCoast_8 (by decide) (fun c3 => ?_) (fun c3 => ?_)
  · replace hq := i_t c3 hq
    refine lv_iconst (v := (-1 : Int32)) hx hb dX8_longestCoast_13 (by decide) ?_
    refine lv_istore_n (lv' := [(2, .int (-1 : Int32)), (0, .ref a0), (1, .int a1)]) hx hb dX8_longestCoast_14 rfl hl (by decide) rfl (fun ls hl => ?_)
    refine lv_iconst (v := (0 : Int32)) hx hb dX8_longestCoast_15 (by decide) ?_
    refine lv_istore_n (lv' := [(3, .int (0 : Int32)), (2, .int (-1 : Int32)), (0, .ref a0), (1, .int a1)]) hx hb dX8_longestCoast_16 rfl hl (by decide) rfl (fun ls hl => ?_)
    have hl17 : ∀ (K59 : Int32 → GH → Option (Int32 × GH)) (hK59 : ∀ (x2 : Int32) (f : GH) (H : Heap) (locs : List Loc) (ls : Array Slot), g_at (g_A V) V g D cT f n s H locs → lv_has ls 4 [(2, .int x2)] → K59 x2 f = some o → W p l e rm_X8_longestCoast s m args below meth c H locs 0 0 (MQ below (g_Wi V D cT o.1 o.2 n) args s 0 0 (g_A V)) (F0 m 59 ls [])) (N : Nat) (x0 : Nat) (x1 : Int32) (x2 : Int32) (x3 : Int32) (f : GH) (H : Heap) (locs : List Loc) (ls : Array Slot), g_at (g_A V) V g D cT f n s H locs → lv_has ls 4 [(0, .ref x0), (1, .int x1), (2, .int x2), (3, .int x3)] → p_X8_longestCoast_l17 V g K59 N x0 x1 x2 x3 f = some o → W p l e rm_X8_longestCoast s m args below meth c H locs 0 0 (MQ below (g_Wi V D cT o.1 o.2 n) args s 0 0 (g_A V)) (F0 m 17 ls []) := by
      intro K59 hK59 N
      induction N with
      | zero =>
        intro x0 x1 x2 x3 f H locs ls hI hl hq
        rw [p_X8_longestCoast_l17] at hq
        cases hq
      | succ N ih =>
        intro x0 x1 x2 x3 f H locs ls hI hl hq
        rw [p_X8_longestCoast_l17] at hq
        refine lv_iload_n hx hb dX8_longestCoast_17 rfl (lv_at hl 3 rfl) ?_
        refine lv_aload_n hx hb dX8_longestCoast_18 rfl (lv_at hl 0 rfl) ?_
        obtain ⟨v4, ev4, hq⟩ := b_s hq
        refine fa_gr (own := RX8) (ref := "CoastlineRulerModel") (k := 5) hx hb hB inB_RX8 hown hI rfl (by decide) m_1536 (fun _ h9 => h9) ev4 dX8_longestCoast_19 ?_
        refine lv_iconst (v := (1 : Int32)) hx hb dX8_longestCoast_22 (by decide) ?_
        obtain ⟨v5, ev5, hq⟩ := b_s hq
        refine fa_li hx hb hI ev5 dX8_longestCoast_23 ?_
        refine lv_icmp_ge (tgt := 59) hx hb dX8_longestCoast_24 (by decide) (fun c6 => ?_) (fun c6 => ?_)
        · replace hq := i_t c6 hq
          exact hK59 x2 f H locs ls hI (lv_sub hl [2] rfl) hq
        · replace hq := i_f c6 hq
          refine lv_iload_n hx hb dX8_longestCoast_27 rfl (lv_at hl 2 rfl) ?_
          refine lv_iconst (v := (-1 : Int32)) hx hb dX8_longestCoast_28 (by decide) ?_
          refine lv_icmp_eq (tgt := 47) hx hb dX8_longestCoast_29 (by decide) (fun c7 => ?_) (fun c7 => ?_)
          · replace hq := i_t c7 hq
            refine lv_iload_n hx hb dX8_longestCoast_47 rfl (lv_at hl 3 rfl) ?_
            refine lv_goto (tgt := 52) hx hb dX8_longestCoast_48 (by decide) ?_
            refine lv_istore_n (lv' := [(2, .int x3), (0, .ref x0), (1, .int x1), (3, .int x3)]) hx hb dX8_longestCoast_52 rfl hl (by decide) rfl (fun ls hl => ?_)
            refine lv_iinc (v := x3 + (1 : Int32)) (lv' := [(3, .int (x3 + (1 : Int32))), (2, .int x3), (0, .ref x0), (1, .int x1)]) hx hb dX8_longestCoast_53 hl (k := 3) rfl rfl (by decide) rfl (fun ls hl => ?_)
            refine lv_goto (tgt := 17) hx hb dX8_longestCoast_56 (by decide) ?_
            exact ih x0 x1 x3 (x3 + (1 : Int32)) f H locs ls hI (lv_sub hl [2, 3, 1, 0] rfl) hq
          · replace hq := i_f c7 hq
            refine lv_aload_n hx hb dX8_longestCoast_32 rfl (lv_at hl 0 rfl) ?_
            refine lv_iload_n hx hb dX8_longestCoast_33 rfl (lv_at hl 3 rfl) ?_
            refine lv_iload_n hx hb dX8_longestCoast_34 rfl (lv_at hl 1 rfl) ?_
            obtain ⟨v8, ev8, hq⟩ := b_s hq
            refine gr_i (g_runV (As := [.int x3, .int x1]) (rest := []) (ci := 10) hC (c_X8_lengthNow l V g D cT f n x0 x3 x1 v8 ev8) k_X8_lengthNow m_1708 rfl rfl ⟨Nat.le_of_ble_eq_true rfl, Nat.le_of_ble_eq_true rfl⟩ hI rfl rfl (h_me_eq ev8).1 rfl hl.1 rfl (Nat.le_of_ble_eq_true rfl) dX8_longestCoast_35 ⟨by decide, by decide⟩) hI (fun H locs hI => ?_)
            refine lv_aload_n hx hb dX8_longestCoast_38 rfl (lv_at hl 0 rfl) ?_
            refine lv_iload_n hx hb dX8_longestCoast_39 rfl (lv_at hl 2 rfl) ?_
            refine lv_iload_n hx hb dX8_longestCoast_40 rfl (lv_at hl 1 rfl) ?_
            obtain ⟨v9, ev9, hq⟩ := b_s hq
            refine gr_i (g_runV (As := [.int x2, .int x1]) (rest := [.int v8]) (ci := 10) hC (c_X8_lengthNow l V g D cT f n x0 x2 x1 v9 ev9) k_X8_lengthNow m_1708 rfl rfl ⟨Nat.le_of_ble_eq_true rfl, Nat.le_of_ble_eq_true rfl⟩ hI rfl rfl (h_me_eq ev9).1 rfl hl.1 rfl (Nat.le_of_ble_eq_true rfl) dX8_longestCoast_41 ⟨by decide, by decide⟩) hI (fun H locs hI => ?_)
            refine lv_icmp_le (tgt := 51) hx hb dX8_longestCoast_44 (by decide) (fun c10 => ?_) (fun c10 => ?_)
            · replace hq := i_t c10 hq
              refine lv_iload_n hx hb dX8_longestCoast_51 rfl (lv_at hl 2 rfl) ?_
              refine lv_istore_n (lv' := [(2, .int x2), (0, .ref x0), (1, .int x1), (3, .int x3)]) hx hb dX8_longestCoast_52 rfl hl (by decide) rfl (fun ls hl => ?_)
              refine lv_iinc (v := x3 + (1 : Int32)) (lv' := [(3, .int (x3 + (1 : Int32))), (2, .int x2), (0, .ref x0), (1, .int x1)]) hx hb dX8_longestCoast_53 hl (k := 3) rfl rfl (by decide) rfl (fun ls hl => ?_)
              refine lv_goto (tgt := 17) hx hb dX8_longestCoast_56 (by decide) ?_
              exact ih x0 x1 x2 (x3 + (1 : Int32)) f H locs ls hI (lv_sub hl [2, 3, 1, 0] rfl) hq
            · replace hq := i_f c10 hq
              refine lv_iload_n hx hb dX8_longestCoast_47 rfl (lv_at hl 3 rfl) ?_
              refine lv_goto (tgt := 52) hx hb dX8_longestCoast_48 (by decide) ?_
              refine lv_istore_n (lv' := [(2, .int x3), (0, .ref x0), (1, .int x1), (3, .int x3)]) hx hb dX8_longestCoast_52 rfl hl (by decide) rfl (fun ls hl => ?_)
              refine lv_iinc (v := x3 + (1 : Int32)) (lv' := [(3, .int (x3 + (1 : Int32))), (2, .int x3), (0, .ref x0), (1, .int x1)]) hx hb dX8_longestCoast_53 hl (k := 3) rfl rfl (by decide) rfl (fun ls hl => ?_)
              refine lv_goto (tgt := 17) hx hb dX8_longestCoast_56 (by decide) ?_
              exact ih x0 x1 x3 (x3 + (1 : Int32)) f H locs ls hI (lv_sub hl [2, 3, 1, 0] rfl) hq
    refine hl17 _ ?_ FU a0 a1 (-1 : Int32) (0 : Int32) v2.2 H locs ls hI (lv_sub hl [2, 3, 1, 0] rfl) hq
    · intro x2 f H locs ls hI hl hq
      refine lv_iload_n hx hb dX8_longestCoast_59 rfl (lv_at hl 0 rfl) ?_
      exact ge_Wi hx hb hlocks hr rfl hI (congrArg (fun z => z.1) (Option.some.inj hq)) (congrArg (fun z => z.2) (Option.some.inj hq)) dX8_longestCoast_60
  · replace hq := i_f c3 hq
    refine lv_iconst (v := (0 : Int32)) hx hb dX8_longestCoast_11 (by decide) ?_
    exact ge_Wi hx hb hlocks hr rfl hI (congrArg (fun z => z.1) (Option.some.inj hq)) (congrArg (fun z => z.2) (Option.some.inj hq)) dX8_longestCoast_12

abbrev rm_X8_refinementRatio : Room := { frames := 8, cells := 0, slots := 0, locals := 259 }
theorem k_X8_refinementRatio : g_CV yX8_refinementRatio cX8_refinementRatio 4 (some .double) 2 := ⟨⟨m_1786, m_14, by decide +kernel⟩, m_1784, m_1785⟩
set_option maxHeartbeats 4000000 in
set_option maxRecDepth 100000 in
theorem c_X8_refinementRatio (l : Launch) (V : Nat → Nat) (g : GH) (D : va_G) (cT : Nat → ClassId) (f : GH) (n : Nat) (a0 : Nat) (a1 : Int32) (a2 : Int32) (o : UInt64 × GH) (hq : p_X8_refinementRatio V g f a0 a1 a2 = some o) : Met l yX8_refinementRatio (Cond.code yX8_refinementRatio cX8_refinementRatio 4 (some .double) :: g_B) rm_X8_refinementRatio (va_Pc [.ref a0, .int a1, .int a2] (g_I V g D cT f n)) (g_Wd V D cT o.1 o.2 n) 0 0 (g_A V) := by
  refine g_begin (own := RX8) [.ref a0, .int a1, .int a2] [(0, .ref a0), (1, .int a1), (2, .int a2)] (g_A V) (fun _ h => h) (by decide) rfl (Nat.le_of_ble_eq_true rfl) rfl ?_
  intro p e s m args below meth c hx hb hr hlocks hin hC hI ls hl
  obtain ⟨hx, hb, hml, hown, hB⟩ := id hC
  obtain ⟨H, hH⟩ : ∃ H, H = s.heap := ⟨_, rfl⟩
  obtain ⟨locs, hlocs⟩ : ∃ L : List Loc, L = [] := ⟨_, rfl⟩
  rw [← hH, ← hlocs] at hI ⊢
  clear hH hlocs
  unfold p_X8_refinementRatio at hq
  replace hq := (h_me_eq hq).2
  refine lv_aload_n hx hb dX8_refinementRatio_0 rfl (lv_at hl 0 rfl) ?_
  refine lv_aload_n hx hb dX8_refinementRatio_1 rfl (lv_at hl 0 rfl) ?_
  refine lv_iload_n hx hb dX8_refinementRatio_2 rfl (lv_at hl 1 rfl) ?_
  obtain ⟨v1, ev1, hq⟩ := b_s hq
  refine gr_i (g_runV (As := [.int a1]) (rest := [.ref a0]) (ci := 10) hC (c_X8_isCoast l V g D cT f n a0 a1 v1 ev1) k_X8_isCoast m_1630 rfl rfl ⟨Nat.le_of_ble_eq_true rfl, Nat.le_of_ble_eq_true rfl⟩ hI rfl rfl (h_me_eq ev1).1 rfl hl.1 rfl (Nat.le_of_ble_eq_true rfl) dX8_refinementRatio_3 ⟨by decide, by decide⟩) hI (fun H locs hI => ?_)
  refine lv_iload_n hx hb dX8_refinementRatio_6 rfl (lv_at hl 2 rfl) ?_
  obtain ⟨v2, ev2, hq⟩ := b_s hq
  refine gr_i (g_runS (As := [.int a2]) (rest := [.int v1, .ref a0]) hC (c_X8_isFine l V g D cT f n a2 v2 ev2) k_X8_isFine m_1752 rfl rfl ⟨Nat.le_of_ble_eq_true rfl, Nat.le_of_ble_eq_true rfl⟩ hI rfl hl.1 rfl (Nat.le_of_ble_eq_true rfl) dX8_refinementRatio_7 ⟨by decide, by decide⟩) hI (fun H locs hI => ?_)
  obtain ⟨v3, ev3, hq⟩ := b_s hq
  refine gw_i (g_runV (As := [.int v1, .int v2]) (rest := []) (ci := 10) hC (c_X8_lacksBoth l V g D cT f n a0 v1 v2 v3 ev3) k_X8_lacksBoth m_1693 rfl rfl ⟨Nat.le_of_ble_eq_true rfl, Nat.le_of_ble_eq_true rfl⟩ hI rfl rfl (h_me_eq ev3).1 rfl hl.1 rfl (Nat.le_of_ble_eq_true rfl) dX8_refinementRatio_10 ⟨by decide, by decide⟩) hI (fun H locs hI => ?_)
  refine lv_if_eq (tgt := 18) hx hb dX8_refinementRatio_13 (by decide) (fun c4 => ?_) (fun c4 => ?_)
  · replace hq := i_t c4 hq
    refine lv_aload_n hx hb dX8_refinementRatio_18 rfl (lv_at hl 0 rfl) ?_
    refine lv_iload_n hx hb dX8_refinementRatio_19 rfl (lv_at hl 1 rfl) ?_
    refine lv_iload_n hx hb dX8_refinementRatio_20 rfl (lv_at hl 2 rfl) ?_
    refine lv_iconst (v := (1 : Int32)) hx hb dX8_refinementRatio_21 (by decide) ?_
    refine lv_iadd hx hb dX8_refinementRatio_22 ?_
    obtain ⟨v5, ev5, hq⟩ := b_s hq
    refine gr_i (g_runV (As := [.int a1, .int (a2 + (1 : Int32))]) (rest := []) (ci := 10) hC (c_X8_lengthNow l V g D cT v3.2 n a0 a1 (a2 + (1 : Int32)) v5 ev5) k_X8_lengthNow m_1708 rfl rfl ⟨Nat.le_of_ble_eq_true rfl, Nat.le_of_ble_eq_true rfl⟩ hI rfl rfl (h_me_eq ev5).1 rfl hl.1 rfl (Nat.le_of_ble_eq_true rfl) dX8_refinementRatio_23 ⟨by decide, by decide⟩) hI (fun H locs hI => ?_)
    refine lv_istore_n (lv' := [(3, .int v5), (0, .ref a0), (1, .int a1), (2, .int a2)]) hx hb dX8_refinementRatio_26 rfl hl (by decide) rfl (fun ls hl => ?_)
    refine lv_iload_n hx hb dX8_refinementRatio_27 rfl (lv_at hl 0 rfl) ?_
    refine lv_if_ne (tgt := 35) hx hb dX8_refinementRatio_28 (by decide) (fun c6 => ?_) (fun c6 => ?_)
    · replace hq := i_f c6 hq
      refine lv_aload_n hx hb dX8_refinementRatio_35 rfl (lv_at hl 1 rfl) ?_
      refine lv_iload_n hx hb dX8_refinementRatio_36 rfl (lv_at hl 2 rfl) ?_
      refine lv_iload_n hx hb dX8_refinementRatio_37 rfl (lv_at hl 3 rfl) ?_
      obtain ⟨v7, ev7, hq⟩ := b_s hq
      refine gr_i (g_runV (As := [.int a1, .int a2]) (rest := []) (ci := 10) hC (c_X8_lengthNow l V g D cT v3.2 n a0 a1 a2 v7 ev7) k_X8_lengthNow m_1708 rfl rfl ⟨Nat.le_of_ble_eq_true rfl, Nat.le_of_ble_eq_true rfl⟩ hI rfl rfl (h_me_eq ev7).1 rfl hl.1 rfl (Nat.le_of_ble_eq_true rfl) dX8_refinementRatio_38 ⟨by decide, by decide⟩) hI (fun H locs hI => ?_)
      refine lv_i2d hx hb dX8_refinementRatio_41 ?_
      refine lv_iload_n hx hb dX8_refinementRatio_42 rfl (lv_at hl 0 rfl) ?_
      refine lv_i2d hx hb dX8_refinementRatio_43 ?_
      obtain ⟨v8, ev8, hq⟩ := b_s hq
      obtain ⟨rfl, nv8⟩ := h_ddiv_eq ev8
      refine lv_ddiv hx hb dX8_refinementRatio_44 nv8 ?_
      exact ge_Wd hx hb hlocks hr hI (congrArg (fun z => z.1) (Option.some.inj hq)) (congrArg (fun z => z.2) (Option.some.inj hq)) dX8_refinementRatio_45
    · replace hq := i_t c6 hq
      refine lv_dconst0 hx hb dX8_refinementRatio_31 ?_
      refine lv_goto (tgt := 45) hx hb dX8_refinementRatio_32 (by decide) ?_
      exact ge_Wd hx hb hlocks hr hI (congrArg (fun z => z.1) (Option.some.inj hq)) (congrArg (fun z => z.2) (Option.some.inj hq)) dX8_refinementRatio_45
  · replace hq := i_f c4 hq
    refine lv_dconst0 hx hb dX8_refinementRatio_16 ?_
    exact ge_Wd hx hb hlocks hr hI (congrArg (fun z => z.1) (Option.some.inj hq)) (congrArg (fun z => z.2) (Option.some.inj hq)) dX8_refinementRatio_17

abbrev rm_X8_meanStickLength : Room := { frames := 8, cells := 0, slots := 0, locals := 259 }
theorem k_X8_meanStickLength : g_CV yX8_meanStickLength cX8_meanStickLength 3 (some .float) 2 := ⟨⟨m_1790, m_14, by decide +kernel⟩, m_1788, m_1789⟩
set_option maxHeartbeats 4000000 in
set_option maxRecDepth 100000 in
theorem c_X8_meanStickLength (l : Launch) (V : Nat → Nat) (g : GH) (D : va_G) (cT : Nat → ClassId) (f : GH) (n : Nat) (a0 : Nat) (a1 : Int32) (a2 : Int32) (o : UInt32 × GH) (hq : p_X8_meanStickLength V g f a0 a1 a2 = some o) : Met l yX8_meanStickLength (Cond.code yX8_meanStickLength cX8_meanStickLength 3 (some .float) :: g_B) rm_X8_meanStickLength (va_Pc [.ref a0, .int a1, .int a2] (g_I V g D cT f n)) (g_Wf V D cT o.1 o.2 n) 0 0 (g_A V) := by
  refine g_begin (own := RX8) [.ref a0, .int a1, .int a2] [(0, .ref a0), (1, .int a1), (2, .int a2)] (g_A V) (fun _ h => h) (by decide) rfl (Nat.le_of_ble_eq_true rfl) rfl ?_
  intro p e s m args below meth c hx hb hr hlocks hin hC hI ls hl
  obtain ⟨hx, hb, hml, hown, hB⟩ := id hC
  obtain ⟨H, hH⟩ : ∃ H, H = s.heap := ⟨_, rfl⟩
  obtain ⟨locs, hlocs⟩ : ∃ L : List Loc, L = [] := ⟨_, rfl⟩
  rw [← hH, ← hlocs] at hI ⊢
  clear hH hlocs
  unfold p_X8_meanStickLength at hq
  replace hq := (h_me_eq hq).2
  refine lv_aload_n hx hb dX8_meanStickLength_0 rfl (lv_at hl 0 rfl) ?_
  refine lv_iload_n hx hb dX8_meanStickLength_1 rfl (lv_at hl 1 rfl) ?_
  refine lv_iload_n hx hb dX8_meanStickLength_2 rfl (lv_at hl 2 rfl) ?_
  obtain ⟨v1, ev1, hq⟩ := b_s hq
  refine gw_i (g_runV (As := [.int a1, .int a2]) (rest := []) (ci := 10) hC (c_X8_lacksLevel l V g D cT f n a0 a1 a2 v1 ev1) k_X8_lacksLevel m_1701 rfl rfl ⟨Nat.le_of_ble_eq_true rfl, Nat.le_of_ble_eq_true rfl⟩ hI rfl rfl (h_me_eq ev1).1 rfl hl.1 rfl (Nat.le_of_ble_eq_true rfl) dX8_meanStickLength_3 ⟨by decide, by decide⟩) hI (fun H locs hI => ?_)
  refine lv_if_eq (tgt := 13) hx hb dX8_meanStickLength_6 (by decide) (fun c2 => ?_) (fun c2 => ?_)
  · replace hq := i_t c2 hq
    refine lv_aload_n hx hb dX8_meanStickLength_13 rfl (lv_at hl 0 rfl) ?_
    refine lv_iload_n hx hb dX8_meanStickLength_14 rfl (lv_at hl 1 rfl) ?_
    refine lv_iload_n hx hb dX8_meanStickLength_15 rfl (lv_at hl 2 rfl) ?_
    obtain ⟨v3, ev3, hq⟩ := b_s hq
    refine gr_i (g_runV (As := [.int a1, .int a2]) (rest := []) (ci := 10) hC (c_X8_lengthNow l V g D cT v1.2 n a0 a1 a2 v3 ev3) k_X8_lengthNow m_1708 rfl rfl ⟨Nat.le_of_ble_eq_true rfl, Nat.le_of_ble_eq_true rfl⟩ hI rfl rfl (h_me_eq ev3).1 rfl hl.1 rfl (Nat.le_of_ble_eq_true rfl) dX8_meanStickLength_16 ⟨by decide, by decide⟩) hI (fun H locs hI => ?_)
    refine lv_i2f hx hb dX8_meanStickLength_19 ?_
    refine lv_aload_n hx hb dX8_meanStickLength_20 rfl (lv_at hl 0 rfl) ?_
    refine lv_iload_n hx hb dX8_meanStickLength_21 rfl (lv_at hl 1 rfl) ?_
    refine lv_iload_n hx hb dX8_meanStickLength_22 rfl (lv_at hl 2 rfl) ?_
    obtain ⟨v4, ev4, hq⟩ := b_s hq
    refine gr_i (g_runV (As := [.int a1, .int a2]) (rest := [.float (FP.i2f v3)]) (ci := 10) hC (c_X8_sticks l V g D cT v1.2 n a0 a1 a2 v4 ev4) k_X8_sticks m_1716 rfl rfl ⟨Nat.le_of_ble_eq_true rfl, Nat.le_of_ble_eq_true rfl⟩ hI rfl rfl (h_me_eq ev4).1 rfl hl.1 rfl (Nat.le_of_ble_eq_true rfl) dX8_meanStickLength_23 ⟨by decide, by decide⟩) hI (fun H locs hI => ?_)
    refine lv_i2f hx hb dX8_meanStickLength_26 ?_
    obtain ⟨v5, ev5, hq⟩ := b_s hq
    obtain ⟨rfl, nv5⟩ := h_fdiv_eq ev5
    refine lv_fdiv hx hb dX8_meanStickLength_27 nv5 ?_
    exact ge_Wf hx hb hlocks hr hI (congrArg (fun z => z.1) (Option.some.inj hq)) (congrArg (fun z => z.2) (Option.some.inj hq)) dX8_meanStickLength_28
  · replace hq := i_f c2 hq
    refine lv_fconst0 hx hb dX8_meanStickLength_9 ?_
    refine lv_goto (tgt := 28) hx hb dX8_meanStickLength_10 (by decide) ?_
    exact ge_Wf hx hb hlocks hr hI (congrArg (fun z => z.1) (Option.some.inj hq)) (congrArg (fun z => z.2) (Option.some.inj hq)) dX8_meanStickLength_28

abbrev rm_X8_next : Room := { frames := 4, cells := 0, slots := 0, locals := 161 }
theorem k_X8_next : g_CV yX8_next cX8_next 3 (some .int) 2 := ⟨⟨m_1806, m_14, by decide +kernel⟩, m_1805, ms_44⟩
set_option maxHeartbeats 4000000 in
set_option maxRecDepth 100000 in
theorem c_X8_next (l : Launch) (V : Nat → Nat) (g : GH) (D : va_G) (cT : Nat → ClassId) (f : GH) (n : Nat) (a0 : Nat) (a1 : Int32) (a2 : Int32) (o : Int32) (hq : p_X8_next V g f a0 a1 a2 = some o) : Met l yX8_next (Cond.code yX8_next cX8_next 3 (some .int) :: g_B) rm_X8_next (va_Pc [.ref a0, .int a1, .int a2] (g_I V g D cT f n)) (g_Ri o n) 0 0 g_no := by
  refine g_begin (own := RX8) [.ref a0, .int a1, .int a2] [(0, .ref a0), (1, .int a1), (2, .int a2)] g_no (fun _ h => h.elim) (by decide) rfl (Nat.le_of_ble_eq_true rfl) rfl ?_
  intro p e s m args below meth c hx hb hr hlocks hin hC hI ls hl
  obtain ⟨hx, hb, hml, hown, hB⟩ := id hC
  obtain ⟨H, hH⟩ : ∃ H, H = s.heap := ⟨_, rfl⟩
  obtain ⟨locs, hlocs⟩ : ∃ L : List Loc, L = [] := ⟨_, rfl⟩
  rw [← hH, ← hlocs] at hI ⊢
  clear hH hlocs
  unfold p_X8_next at hq
  replace hq := (h_me_eq hq).2
  refine lv_iload_n hx hb dX8_next_0 rfl (lv_at hl 2 rfl) ?_
  refine lv_iconst (v := (1 : Int32)) hx hb dX8_next_1 (by decide) ?_
  refine lv_iadd hx hb dX8_next_2 ?_
  refine lv_aload_n hx hb dX8_next_3 rfl (lv_at hl 0 rfl) ?_
  refine lv_iload_n hx hb dX8_next_4 rfl (lv_at hl 1 rfl) ?_
  obtain ⟨v1, ev1, hq⟩ := b_s hq
  refine gr_i (g_runV (As := [.int a1]) (rest := [.int (a2 + (1 : Int32))]) (ci := 10) hC (c_X8_count l V g D cT f n a0 a1 v1 ev1) k_X8_count m_1527 rfl rfl ⟨Nat.le_of_ble_eq_true rfl, Nat.le_of_ble_eq_true rfl⟩ hI rfl rfl (h_me_eq ev1).1 rfl hl.1 rfl (Nat.le_of_ble_eq_true rfl) dX8_next_5 ⟨by decide, by decide⟩) hI (fun H locs hI => ?_)
  refine lv_icmp_ge (tgt := 17) hx hb dX8_next_8 (by decide) (fun c2 => ?_) (fun c2 => ?_)
  · replace hq := i_t c2 hq
    refine lv_iconst (v := (0 : Int32)) hx hb dX8_next_17 (by decide) ?_
    exact ge_Ri hx hb hlocks hr rfl hI hq dX8_next_18
  · replace hq := i_f c2 hq
    refine lv_iload_n hx hb dX8_next_11 rfl (lv_at hl 2 rfl) ?_
    refine lv_iconst (v := (1 : Int32)) hx hb dX8_next_12 (by decide) ?_
    refine lv_iadd hx hb dX8_next_13 ?_
    refine lv_goto (tgt := 18) hx hb dX8_next_14 (by decide) ?_
    exact ge_Ri hx hb hlocks hr rfl hI hq dX8_next_18

abbrev rm_X8_signedArea : Room := { frames := 5, cells := 0, slots := 0, locals := 183 }
theorem k_X8_signedArea : g_CV yX8_signedArea cX8_signedArea 5 (some .int) 1 := ⟨⟨m_1802, m_14, by decide +kernel⟩, m_1801, ms_43⟩
set_option maxHeartbeats 4000000 in
set_option maxRecDepth 100000 in
theorem c_X8_signedArea (l : Launch) (V : Nat → Nat) (g : GH) (D : va_G) (cT : Nat → ClassId) (f : GH) (n : Nat) (a0 : Nat) (a1 : Int32) (o : Int32) (hq : p_X8_signedArea V g f a0 a1 = some o) : Met l yX8_signedArea (Cond.code yX8_signedArea cX8_signedArea 5 (some .int) :: g_B) rm_X8_signedArea (va_Pc [.ref a0, .int a1] (g_I V g D cT f n)) (g_Ri o n) 0 0 g_no := by
  refine g_begin (own := RX8) [.ref a0, .int a1] [(0, .ref a0), (1, .int a1)] g_no (fun _ h => h.elim) (by decide) rfl (Nat.le_of_ble_eq_true rfl) rfl ?_
  intro p e s m args below meth c hx hb hr hlocks hin hC hI ls hl
  obtain ⟨hx, hb, hml, hown, hB⟩ := id hC
  obtain ⟨H, hH⟩ : ∃ H, H = s.heap := ⟨_, rfl⟩
  obtain ⟨locs, hlocs⟩ : ∃ L : List Loc, L = [] := ⟨_, rfl⟩
  rw [← hH, ← hlocs] at hI ⊢
  clear hH hlocs
  unfold p_X8_signedArea at hq
  replace hq := (h_me_eq hq).2
  refine lv_iconst (v := (0 : Int32)) hx hb dX8_signedArea_0 (by decide) ?_
  refine lv_istore_n (lv' := [(2, .int (0 : Int32)), (0, .ref a0), (1, .int a1)]) hx hb dX8_signedArea_1 rfl hl (by decide) rfl (fun ls hl => ?_)
  refine lv_iconst (v := (0 : Int32)) hx hb dX8_signedArea_2 (by decide) ?_
  refine lv_istore_n (lv' := [(3, .int (0 : Int32)), (2, .int (0 : Int32)), (0, .ref a0), (1, .int a1)]) hx hb dX8_signedArea_3 rfl hl (by decide) rfl (fun ls hl => ?_)
  have hl4 : ∀ (K59 : Int32 → Option Int32) (hK59 : ∀ (x2 : Int32) (H : Heap) (locs : List Loc) (ls : Array Slot), g_at g_no V g D cT f n s H locs → lv_has ls 5 [(2, .int x2)] → K59 x2 = some o → W p l e rm_X8_signedArea s m args below meth c H locs 0 0 (MQ below (g_Ri o n) args s 0 0 g_no) (F0 m 59 ls [])) (N : Nat) (x0 : Nat) (x1 : Int32) (x2 : Int32) (x3 : Int32) (H : Heap) (locs : List Loc) (ls : Array Slot), g_at g_no V g D cT f n s H locs → lv_has ls 5 [(0, .ref x0), (1, .int x1), (2, .int x2), (3, .int x3)] → p_X8_signedArea_l4 V g f K59 N x0 x1 x2 x3 = some o → W p l e rm_X8_signedArea s m args below meth c H locs 0 0 (MQ below (g_Ri o n) args s 0 0 g_no) (F0 m 4 ls []) := by
    intro K59 hK59 N
    induction N with
    | zero =>
      intro x0 x1 x2 x3 H locs ls hI hl hq
      rw [p_X8_signedArea_l4] at hq
      cases hq
    | succ N ih =>
      intro x0 x1 x2 x3 H locs ls hI hl hq
      rw [p_X8_signedArea_l4] at hq
      refine lv_iload_n hx hb dX8_signedArea_4 rfl (lv_at hl 3 rfl) ?_
      refine lv_aload_n hx hb dX8_signedArea_5 rfl (lv_at hl 0 rfl) ?_
      refine lv_iload_n hx hb dX8_signedArea_6 rfl (lv_at hl 1 rfl) ?_
      obtain ⟨v1, ev1, hq⟩ := b_s hq
      refine gr_i (g_runV (As := [.int x1]) (rest := [.int x3]) (ci := 10) hC (c_X8_count l V g D cT f n x0 x1 v1 ev1) k_X8_count m_1527 rfl rfl ⟨Nat.le_of_ble_eq_true rfl, Nat.le_of_ble_eq_true rfl⟩ hI rfl rfl (h_me_eq ev1).1 rfl hl.1 rfl (Nat.le_of_ble_eq_true rfl) dX8_signedArea_7 ⟨by decide, by decide⟩) hI (fun H locs hI => ?_)
      refine lv_icmp_ge (tgt := 59) hx hb dX8_signedArea_10 (by decide) (fun c2 => ?_) (fun c2 => ?_)
      · replace hq := i_t c2 hq
        exact hK59 x2 H locs ls hI (lv_sub hl [2] rfl) hq
      · replace hq := i_f c2 hq
        refine lv_aload_n hx hb dX8_signedArea_13 rfl (lv_at hl 0 rfl) ?_
        refine lv_iload_n hx hb dX8_signedArea_14 rfl (lv_at hl 1 rfl) ?_
        refine lv_iload_n hx hb dX8_signedArea_15 rfl (lv_at hl 3 rfl) ?_
        obtain ⟨v3, ev3, hq⟩ := b_s hq
        refine gr_i (g_runV (As := [.int x1, .int x3]) (rest := []) (ci := 10) hC (c_X8_next l V g D cT f n x0 x1 x3 v3 ev3) k_X8_next m_1803 rfl rfl ⟨Nat.le_of_ble_eq_true rfl, Nat.le_of_ble_eq_true rfl⟩ hI rfl rfl (h_me_eq ev3).1 rfl hl.1 rfl (Nat.le_of_ble_eq_true rfl) dX8_signedArea_16 ⟨by decide, by decide⟩) hI (fun H locs hI => ?_)
        refine lv_istore (lv' := [(4, .int v3), (0, .ref x0), (1, .int x1), (2, .int x2), (3, .int x3)]) hx hb dX8_signedArea_19 hl (by decide) rfl (fun ls hl => ?_)
        refine lv_iload_n hx hb dX8_signedArea_21 rfl (lv_at hl 3 rfl) ?_
        refine lv_aload_n hx hb dX8_signedArea_22 rfl (lv_at hl 1 rfl) ?_
        refine lv_iload_n hx hb dX8_signedArea_23 rfl (lv_at hl 2 rfl) ?_
        refine lv_iload_n hx hb dX8_signedArea_24 rfl (lv_at hl 4 rfl) ?_
        obtain ⟨v4, ev4, hq⟩ := b_s hq
        refine gr_i (g_runV (As := [.int x1, .int x3]) (rest := [.int x2]) (ci := 10) hC (c_X8_x l V g D cT f n x0 x1 x3 v4 ev4) k_X8_x m_1657 rfl rfl ⟨Nat.le_of_ble_eq_true rfl, Nat.le_of_ble_eq_true rfl⟩ hI rfl rfl (h_me_eq ev4).1 rfl hl.1 rfl (Nat.le_of_ble_eq_true rfl) dX8_signedArea_25 ⟨by decide, by decide⟩) hI (fun H locs hI => ?_)
        refine lv_aload_n hx hb dX8_signedArea_28 rfl (lv_at hl 1 rfl) ?_
        refine lv_iload_n hx hb dX8_signedArea_29 rfl (lv_at hl 2 rfl) ?_
        refine lv_iload hx hb dX8_signedArea_30 (lv_at hl 0 rfl) ?_
        obtain ⟨v5, ev5, hq⟩ := b_s hq
        refine gr_i (g_runV (As := [.int x1, .int v3]) (rest := [.int v4, .int x2]) (ci := 10) hC (c_X8_y l V g D cT f n x0 x1 v3 v5 ev5) k_X8_y m_1665 rfl rfl ⟨Nat.le_of_ble_eq_true rfl, Nat.le_of_ble_eq_true rfl⟩ hI rfl rfl (h_me_eq ev5).1 rfl hl.1 rfl (Nat.le_of_ble_eq_true rfl) dX8_signedArea_32 ⟨by decide, by decide⟩) hI (fun H locs hI => ?_)
        refine lv_imul hx hb dX8_signedArea_35 ?_
        refine lv_aload_n hx hb dX8_signedArea_36 rfl (lv_at hl 1 rfl) ?_
        refine lv_iload_n hx hb dX8_signedArea_37 rfl (lv_at hl 2 rfl) ?_
        refine lv_iload hx hb dX8_signedArea_38 (lv_at hl 0 rfl) ?_
        obtain ⟨v6, ev6, hq⟩ := b_s hq
        refine gr_i (g_runV (As := [.int x1, .int v3]) (rest := [.int (v4 * v5), .int x2]) (ci := 10) hC (c_X8_x l V g D cT f n x0 x1 v3 v6 ev6) k_X8_x m_1657 rfl rfl ⟨Nat.le_of_ble_eq_true rfl, Nat.le_of_ble_eq_true rfl⟩ hI rfl rfl (h_me_eq ev6).1 rfl hl.1 rfl (Nat.le_of_ble_eq_true rfl) dX8_signedArea_40 ⟨by decide, by decide⟩) hI (fun H locs hI => ?_)
        refine lv_aload_n hx hb dX8_signedArea_43 rfl (lv_at hl 1 rfl) ?_
        refine lv_iload_n hx hb dX8_signedArea_44 rfl (lv_at hl 2 rfl) ?_
        refine lv_iload_n hx hb dX8_signedArea_45 rfl (lv_at hl 4 rfl) ?_
        obtain ⟨v7, ev7, hq⟩ := b_s hq
        refine gr_i (g_runV (As := [.int x1, .int x3]) (rest := [.int v6, .int (v4 * v5), .int x2]) (ci := 10) hC (c_X8_y l V g D cT f n x0 x1 x3 v7 ev7) k_X8_y m_1665 rfl rfl ⟨Nat.le_of_ble_eq_true rfl, Nat.le_of_ble_eq_true rfl⟩ hI rfl rfl (h_me_eq ev7).1 rfl hl.1 rfl (Nat.le_of_ble_eq_true rfl) dX8_signedArea_46 ⟨by decide, by decide⟩) hI (fun H locs hI => ?_)
        refine lv_imul hx hb dX8_signedArea_49 ?_
        refine lv_isub hx hb dX8_signedArea_50 ?_
        refine lv_iadd hx hb dX8_signedArea_51 ?_
        refine lv_istore_n (lv' := [(2, .int (x2 + ((v4 * v5) - (v6 * v7)))), (4, .int v3), (0, .ref x0), (1, .int x1), (3, .int x3)]) hx hb dX8_signedArea_52 rfl hl (by decide) rfl (fun ls hl => ?_)
        refine lv_iinc (v := x3 + (1 : Int32)) (lv' := [(3, .int (x3 + (1 : Int32))), (2, .int (x2 + ((v4 * v5) - (v6 * v7)))), (4, .int v3), (0, .ref x0), (1, .int x1)]) hx hb dX8_signedArea_53 hl (k := 4) rfl rfl (by decide) rfl (fun ls hl => ?_)
        refine lv_goto (tgt := 4) hx hb dX8_signedArea_56 (by decide) ?_
        exact ih x0 x1 (x2 + ((v4 * v5) - (v6 * v7))) (x3 + (1 : Int32)) H locs ls hI (lv_sub hl [3, 4, 1, 0] rfl) hq
  refine hl4 _ ?_ FU a0 a1 (0 : Int32) (0 : Int32) H locs ls hI (lv_sub hl [2, 3, 1, 0] rfl) hq
  · intro x2 H locs ls hI hl hq
    refine lv_iload_n hx hb dX8_signedArea_59 rfl (lv_at hl 0 rfl) ?_
    exact ge_Ri hx hb hlocks hr rfl hI hq dX8_signedArea_60

abbrev rm_X8_lacksIsland : Room := { frames := 4, cells := 0, slots := 0, locals := 163 }
theorem k_X8_lacksIsland : g_CV yX8_lacksIsland cX8_lacksIsland 2 (some .boolean) 1 := ⟨⟨m_1798, m_14, by decide +kernel⟩, m_1797, ms_42⟩
set_option maxHeartbeats 4000000 in
set_option maxRecDepth 100000 in
theorem c_X8_lacksIsland (l : Launch) (V : Nat → Nat) (g : GH) (D : va_G) (cT : Nat → ClassId) (f : GH) (n : Nat) (a0 : Nat) (a1 : Int32) (o : Int32 × GH) (hq : p_X8_lacksIsland V g f a0 a1 = some o) : Met l yX8_lacksIsland (Cond.code yX8_lacksIsland cX8_lacksIsland 2 (some .boolean) :: g_B) rm_X8_lacksIsland (va_Pc [.ref a0, .int a1] (g_I V g D cT f n)) (g_Wi V D cT o.1 o.2 n) 0 0 (g_A V) := by
  refine g_begin (own := RX8) [.ref a0, .int a1] [(0, .ref a0), (1, .int a1)] (g_A V) (fun _ h => h) (by decide) rfl (Nat.le_of_ble_eq_true rfl) rfl ?_
  intro p e s m args below meth c hx hb hr hlocks hin hC hI ls hl
  obtain ⟨hx, hb, hml, hown, hB⟩ := id hC
  obtain ⟨H, hH⟩ : ∃ H, H = s.heap := ⟨_, rfl⟩
  obtain ⟨locs, hlocs⟩ : ∃ L : List Loc, L = [] := ⟨_, rfl⟩
  rw [← hH, ← hlocs] at hI ⊢
  clear hH hlocs
  unfold p_X8_lacksIsland at hq
  replace hq := (h_me_eq hq).2
  refine lv_aload_n hx hb dX8_lacksIsland_0 rfl (lv_at hl 0 rfl) ?_
  refine lv_aload_n hx hb dX8_lacksIsland_1 rfl (lv_at hl 0 rfl) ?_
  refine lv_iload_n hx hb dX8_lacksIsland_2 rfl (lv_at hl 1 rfl) ?_
  obtain ⟨v1, ev1, hq⟩ := b_s hq
  refine gr_i (g_runV (As := [.int a1]) (rest := [.ref a0]) (ci := 10) hC (c_X8_isCoast l V g D cT f n a0 a1 v1 ev1) k_X8_isCoast m_1630 rfl rfl ⟨Nat.le_of_ble_eq_true rfl, Nat.le_of_ble_eq_true rfl⟩ hI rfl rfl (h_me_eq ev1).1 rfl hl.1 rfl (Nat.le_of_ble_eq_true rfl) dX8_lacksIsland_3 ⟨by decide, by decide⟩) hI (fun H locs hI => ?_)
  refine lv_aload_n hx hb dX8_lacksIsland_6 rfl (lv_at hl 0 rfl) ?_
  refine lv_iload_n hx hb dX8_lacksIsland_7 rfl (lv_at hl 1 rfl) ?_
  obtain ⟨v2, ev2, hq⟩ := b_s hq
  refine gr_i (g_runV (As := [.int a1]) (rest := [.int v1, .ref a0]) (ci := 10) hC (c_X8_isCoast l V g D cT f n a0 a1 v2 ev2) k_X8_isCoast m_1630 rfl rfl ⟨Nat.le_of_ble_eq_true rfl, Nat.le_of_ble_eq_true rfl⟩ hI rfl rfl (h_me_eq ev2).1 rfl hl.1 rfl (Nat.le_of_ble_eq_true rfl) dX8_lacksIsland_8 ⟨by decide, by decide⟩) hI (fun H locs hI => ?_)
  refine lv_if_eq (tgt := 26) hx hb dX8_lacksIsland_11 (by decide) (fun c3 => ?_) (fun c3 => ?_)
  · replace hq := i_t c3 hq
    refine lv_iconst (v := (0 : Int32)) hx hb dX8_lacksIsland_26 (by decide) ?_
    obtain ⟨v4, ev4, hq⟩ := b_s hq
    refine gw_i (g_runV (As := [.int v1, .int (0 : Int32)]) (rest := []) (ci := 10) hC (c_X8_lacksBoth l V g D cT f n a0 v1 (0 : Int32) v4 ev4) k_X8_lacksBoth m_1693 rfl rfl ⟨Nat.le_of_ble_eq_true rfl, Nat.le_of_ble_eq_true rfl⟩ hI rfl rfl (h_me_eq ev4).1 rfl hl.1 rfl (Nat.le_of_ble_eq_true rfl) dX8_lacksIsland_27 ⟨by decide, by decide⟩) hI (fun H locs hI => ?_)
    obtain ⟨_, ev5, hq⟩ := b_s hq
    exact ge_Wi hx hb hlocks hr (h_bz_eq ev5).2.1 hI (congrArg (fun z => z.1) (Option.some.inj hq)) (congrArg (fun z => z.2) (Option.some.inj hq)) dX8_lacksIsland_30
  · replace hq := i_f c3 hq
    refine lv_aload_n hx hb dX8_lacksIsland_14 rfl (lv_at hl 0 rfl) ?_
    refine lv_iload_n hx hb dX8_lacksIsland_15 rfl (lv_at hl 1 rfl) ?_
    obtain ⟨v6, ev6, hq⟩ := b_s hq
    refine gr_i (g_runV (As := [.int a1]) (rest := [.int v1, .ref a0]) (ci := 10) hC (c_X8_island l V g D cT f n a0 a1 v6 ev6) k_X8_island m_1641 rfl rfl ⟨Nat.le_of_ble_eq_true rfl, Nat.le_of_ble_eq_true rfl⟩ hI rfl rfl (h_me_eq ev6).1 rfl hl.1 rfl (Nat.le_of_ble_eq_true rfl) dX8_lacksIsland_16 ⟨by decide, by decide⟩) hI (fun H locs hI => ?_)
    refine lv_if_eq (tgt := 26) hx hb dX8_lacksIsland_19 (by decide) (fun c7 => ?_) (fun c7 => ?_)
    · replace hq := i_t c7 hq
      refine lv_iconst (v := (0 : Int32)) hx hb dX8_lacksIsland_26 (by decide) ?_
      obtain ⟨v8, ev8, hq⟩ := b_s hq
      refine gw_i (g_runV (As := [.int v1, .int (0 : Int32)]) (rest := []) (ci := 10) hC (c_X8_lacksBoth l V g D cT f n a0 v1 (0 : Int32) v8 ev8) k_X8_lacksBoth m_1693 rfl rfl ⟨Nat.le_of_ble_eq_true rfl, Nat.le_of_ble_eq_true rfl⟩ hI rfl rfl (h_me_eq ev8).1 rfl hl.1 rfl (Nat.le_of_ble_eq_true rfl) dX8_lacksIsland_27 ⟨by decide, by decide⟩) hI (fun H locs hI => ?_)
      obtain ⟨_, ev9, hq⟩ := b_s hq
      exact ge_Wi hx hb hlocks hr (h_bz_eq ev9).2.1 hI (congrArg (fun z => z.1) (Option.some.inj hq)) (congrArg (fun z => z.2) (Option.some.inj hq)) dX8_lacksIsland_30
    · replace hq := i_f c7 hq
      refine lv_iconst (v := (1 : Int32)) hx hb dX8_lacksIsland_22 (by decide) ?_
      refine lv_goto (tgt := 27) hx hb dX8_lacksIsland_23 (by decide) ?_
      obtain ⟨v10, ev10, hq⟩ := b_s hq
      refine gw_i (g_runV (As := [.int v1, .int (1 : Int32)]) (rest := []) (ci := 10) hC (c_X8_lacksBoth l V g D cT f n a0 v1 (1 : Int32) v10 ev10) k_X8_lacksBoth m_1693 rfl rfl ⟨Nat.le_of_ble_eq_true rfl, Nat.le_of_ble_eq_true rfl⟩ hI rfl rfl (h_me_eq ev10).1 rfl hl.1 rfl (Nat.le_of_ble_eq_true rfl) dX8_lacksIsland_27 ⟨by decide, by decide⟩) hI (fun H locs hI => ?_)
      obtain ⟨_, ev11, hq⟩ := b_s hq
      exact ge_Wi hx hb hlocks hr (h_bz_eq ev11).2.1 hI (congrArg (fun z => z.1) (Option.some.inj hq)) (congrArg (fun z => z.2) (Option.some.inj hq)) dX8_lacksIsland_30

abbrev rm_X8_doubledArea : Room := { frames := 6, cells := 0, slots := 0, locals := 207 }
theorem k_X8_doubledArea : g_CV yX8_doubledArea cX8_doubledArea 2 (some .int) 1 := ⟨⟨m_1794, m_14, by decide +kernel⟩, m_1792, m_1793⟩
set_option maxHeartbeats 4000000 in
set_option maxRecDepth 100000 in
theorem c_X8_doubledArea (l : Launch) (V : Nat → Nat) (g : GH) (D : va_G) (cT : Nat → ClassId) (f : GH) (n : Nat) (a0 : Nat) (a1 : Int32) (o : Int32 × GH) (hq : p_X8_doubledArea V g f a0 a1 = some o) : Met l yX8_doubledArea (Cond.code yX8_doubledArea cX8_doubledArea 2 (some .int) :: g_B) rm_X8_doubledArea (va_Pc [.ref a0, .int a1] (g_I V g D cT f n)) (g_Wi V D cT o.1 o.2 n) 0 0 (g_A V) := by
  refine g_begin (own := RX8) [.ref a0, .int a1] [(0, .ref a0), (1, .int a1)] (g_A V) (fun _ h => h) (by decide) rfl (Nat.le_of_ble_eq_true rfl) rfl ?_
  intro p e s m args below meth c hx hb hr hlocks hin hC hI ls hl
  obtain ⟨hx, hb, hml, hown, hB⟩ := id hC
  obtain ⟨H, hH⟩ : ∃ H, H = s.heap := ⟨_, rfl⟩
  obtain ⟨locs, hlocs⟩ : ∃ L : List Loc, L = [] := ⟨_, rfl⟩
  rw [← hH, ← hlocs] at hI ⊢
  clear hH hlocs
  unfold p_X8_doubledArea at hq
  replace hq := (h_me_eq hq).2
  refine lv_aload_n hx hb dX8_doubledArea_0 rfl (lv_at hl 0 rfl) ?_
  refine lv_iload_n hx hb dX8_doubledArea_1 rfl (lv_at hl 1 rfl) ?_
  obtain ⟨v1, ev1, hq⟩ := b_s hq
  refine gw_i (g_runV (As := [.int a1]) (rest := []) (ci := 10) hC (c_X8_lacksIsland l V g D cT f n a0 a1 v1 ev1) k_X8_lacksIsland m_1795 rfl rfl ⟨Nat.le_of_ble_eq_true rfl, Nat.le_of_ble_eq_true rfl⟩ hI rfl rfl (h_me_eq ev1).1 rfl hl.1 rfl (Nat.le_of_ble_eq_true rfl) dX8_doubledArea_2 ⟨by decide, by decide⟩) hI (fun H locs hI => ?_)
  refine lv_if_eq (tgt := 12) hx hb dX8_doubledArea_5 (by decide) (fun c2 => ?_) (fun c2 => ?_)
  · replace hq := i_t c2 hq
    refine lv_aload_n hx hb dX8_doubledArea_12 rfl (lv_at hl 0 rfl) ?_
    refine lv_iload_n hx hb dX8_doubledArea_13 rfl (lv_at hl 1 rfl) ?_
    obtain ⟨v3, ev3, hq⟩ := b_s hq
    refine gr_i (g_runV (As := [.int a1]) (rest := []) (ci := 10) hC (c_X8_signedArea l V g D cT v1.2 n a0 a1 v3 ev3) k_X8_signedArea m_1799 rfl rfl ⟨Nat.le_of_ble_eq_true rfl, Nat.le_of_ble_eq_true rfl⟩ hI rfl rfl (h_me_eq ev3).1 rfl hl.1 rfl (Nat.le_of_ble_eq_true rfl) dX8_doubledArea_14 ⟨by decide, by decide⟩) hI (fun H locs hI => ?_)
    obtain ⟨v4, ev4, hq⟩ := b_s hq
    refine gr_i (g_runS (As := [.int v3]) (rest := []) hC (c_X8_sizeOf l V g D cT v1.2 n v3 v4 ev4) k_X8_sizeOf m_1680 rfl rfl ⟨Nat.le_of_ble_eq_true rfl, Nat.le_of_ble_eq_true rfl⟩ hI rfl hl.1 rfl (Nat.le_of_ble_eq_true rfl) dX8_doubledArea_17 ⟨by decide, by decide⟩) hI (fun H locs hI => ?_)
    exact ge_Wi hx hb hlocks hr rfl hI (congrArg (fun z => z.1) (Option.some.inj hq)) (congrArg (fun z => z.2) (Option.some.inj hq)) dX8_doubledArea_20
  · replace hq := i_f c2 hq
    refine lv_iconst (v := (0 : Int32)) hx hb dX8_doubledArea_8 (by decide) ?_
    refine lv_goto (tgt := 20) hx hb dX8_doubledArea_9 (by decide) ?_
    exact ge_Wi hx hb hlocks hr rfl hI (congrArg (fun z => z.1) (Option.some.inj hq)) (congrArg (fun z => z.2) (Option.some.inj hq)) dX8_doubledArea_20

abbrev rm_X8_isCounterclockwise : Room := { frames := 6, cells := 0, slots := 0, locals := 207 }
theorem k_X8_isCounterclockwise : g_CV yX8_isCounterclockwise cX8_isCounterclockwise 2 (some .boolean) 1 := ⟨⟨m_1810, m_14, by decide +kernel⟩, m_1808, m_1809⟩
set_option maxHeartbeats 4000000 in
set_option maxRecDepth 100000 in
theorem c_X8_isCounterclockwise (l : Launch) (V : Nat → Nat) (g : GH) (D : va_G) (cT : Nat → ClassId) (f : GH) (n : Nat) (a0 : Nat) (a1 : Int32) (o : Int32 × GH) (hq : p_X8_isCounterclockwise V g f a0 a1 = some o) : Met l yX8_isCounterclockwise (Cond.code yX8_isCounterclockwise cX8_isCounterclockwise 2 (some .boolean) :: g_B) rm_X8_isCounterclockwise (va_Pc [.ref a0, .int a1] (g_I V g D cT f n)) (g_Wi V D cT o.1 o.2 n) 0 0 (g_A V) := by
  refine g_begin (own := RX8) [.ref a0, .int a1] [(0, .ref a0), (1, .int a1)] (g_A V) (fun _ h => h) (by decide) rfl (Nat.le_of_ble_eq_true rfl) rfl ?_
  intro p e s m args below meth c hx hb hr hlocks hin hC hI ls hl
  obtain ⟨hx, hb, hml, hown, hB⟩ := id hC
  obtain ⟨H, hH⟩ : ∃ H, H = s.heap := ⟨_, rfl⟩
  obtain ⟨locs, hlocs⟩ : ∃ L : List Loc, L = [] := ⟨_, rfl⟩
  rw [← hH, ← hlocs] at hI ⊢
  clear hH hlocs
  unfold p_X8_isCounterclockwise at hq
  replace hq := (h_me_eq hq).2
  refine lv_aload_n hx hb dX8_isCounterclockwise_0 rfl (lv_at hl 0 rfl) ?_
  refine lv_iload_n hx hb dX8_isCounterclockwise_1 rfl (lv_at hl 1 rfl) ?_
  obtain ⟨v1, ev1, hq⟩ := b_s hq
  refine gw_i (g_runV (As := [.int a1]) (rest := []) (ci := 10) hC (c_X8_lacksIsland l V g D cT f n a0 a1 v1 ev1) k_X8_lacksIsland m_1795 rfl rfl ⟨Nat.le_of_ble_eq_true rfl, Nat.le_of_ble_eq_true rfl⟩ hI rfl rfl (h_me_eq ev1).1 rfl hl.1 rfl (Nat.le_of_ble_eq_true rfl) dX8_isCounterclockwise_2 ⟨by decide, by decide⟩) hI (fun H locs hI => ?_)
  refine lv_if_ne (tgt := 20) hx hb dX8_isCounterclockwise_5 (by decide) (fun c2 => ?_) (fun c2 => ?_)
  · replace hq := i_f c2 hq
    refine lv_iconst (v := (0 : Int32)) hx hb dX8_isCounterclockwise_20 (by decide) ?_
    exact ge_Wi hx hb hlocks hr (by decide +kernel) hI (congrArg (fun z => z.1) (Option.some.inj hq)) (congrArg (fun z => z.2) (Option.some.inj hq)) dX8_isCounterclockwise_21
  · replace hq := i_t c2 hq
    refine lv_aload_n hx hb dX8_isCounterclockwise_8 rfl (lv_at hl 0 rfl) ?_
    refine lv_iload_n hx hb dX8_isCounterclockwise_9 rfl (lv_at hl 1 rfl) ?_
    obtain ⟨v3, ev3, hq⟩ := b_s hq
    refine gr_i (g_runV (As := [.int a1]) (rest := []) (ci := 10) hC (c_X8_signedArea l V g D cT v1.2 n a0 a1 v3 ev3) k_X8_signedArea m_1799 rfl rfl ⟨Nat.le_of_ble_eq_true rfl, Nat.le_of_ble_eq_true rfl⟩ hI rfl rfl (h_me_eq ev3).1 rfl hl.1 rfl (Nat.le_of_ble_eq_true rfl) dX8_isCounterclockwise_10 ⟨by decide, by decide⟩) hI (fun H locs hI => ?_)
    refine lv_if_le (tgt := 20) hx hb dX8_isCounterclockwise_13 (by decide) (fun c4 => ?_) (fun c4 => ?_)
    · replace hq := i_t c4 hq
      refine lv_iconst (v := (0 : Int32)) hx hb dX8_isCounterclockwise_20 (by decide) ?_
      exact ge_Wi hx hb hlocks hr (by decide +kernel) hI (congrArg (fun z => z.1) (Option.some.inj hq)) (congrArg (fun z => z.2) (Option.some.inj hq)) dX8_isCounterclockwise_21
    · replace hq := i_f c4 hq
      refine lv_iconst (v := (1 : Int32)) hx hb dX8_isCounterclockwise_16 (by decide) ?_
      refine lv_goto (tgt := 21) hx hb dX8_isCounterclockwise_17 (by decide) ?_
      exact ge_Wi hx hb hlocks hr (by decide +kernel) hI (congrArg (fun z => z.1) (Option.some.inj hq)) (congrArg (fun z => z.2) (Option.some.inj hq)) dX8_isCounterclockwise_21

abbrev rm_X8_isBetween : Room := { frames := 3, cells := 0, slots := 0, locals := 141 }
theorem k_X8_isBetween : g_CS yX8_isBetween cX8_isBetween 3 (some .boolean) 3 := ⟨⟨m_1825, m_14, by decide +kernel⟩, m_1824⟩
set_option maxHeartbeats 4000000 in
set_option maxRecDepth 100000 in
theorem c_X8_isBetween (l : Launch) (V : Nat → Nat) (g : GH) (D : va_G) (cT : Nat → ClassId) (f : GH) (n : Nat) (a0 : Int32) (a1 : Int32) (a2 : Int32) (o : Int32) (hq : p_X8_isBetween V g f a0 a1 a2 = some o) : Met l yX8_isBetween (Cond.code yX8_isBetween cX8_isBetween 3 (some .boolean) :: g_B) rm_X8_isBetween (va_Pc [.int a0, .int a1, .int a2] (g_I V g D cT f n)) (g_Ri o n) 0 0 g_no := by
  refine g_begin (own := RX8) [.int a0, .int a1, .int a2] [(0, .int a0), (1, .int a1), (2, .int a2)] g_no (fun _ h => h.elim) (by decide) rfl (Nat.le_of_ble_eq_true rfl) rfl ?_
  intro p e s m args below meth c hx hb hr hlocks hin hC hI ls hl
  obtain ⟨hx, hb, hml, hown, hB⟩ := id hC
  obtain ⟨H, hH⟩ : ∃ H, H = s.heap := ⟨_, rfl⟩
  obtain ⟨locs, hlocs⟩ : ∃ L : List Loc, L = [] := ⟨_, rfl⟩
  rw [← hH, ← hlocs] at hI ⊢
  clear hH hlocs
  unfold p_X8_isBetween at hq
  refine lv_iload_n hx hb dX8_isBetween_0 rfl (lv_at hl 0 rfl) ?_
  refine lv_iload_n hx hb dX8_isBetween_1 rfl (lv_at hl 1 rfl) ?_
  refine lv_iload_n hx hb dX8_isBetween_2 rfl (lv_at hl 2 rfl) ?_
  obtain ⟨v1, ev1, hq⟩ := b_s hq
  refine gr_i (g_runS (As := [.int a1, .int a2]) (rest := [.int a0]) hC (c_X8_least l V g D cT f n a1 a2 v1 ev1) k_X8_least m_1826 rfl rfl ⟨Nat.le_of_ble_eq_true rfl, Nat.le_of_ble_eq_true rfl⟩ hI rfl hl.1 rfl (Nat.le_of_ble_eq_true rfl) dX8_isBetween_3 ⟨by decide, by decide⟩) hI (fun H locs hI => ?_)
  refine lv_icmp_lt (tgt := 26) hx hb dX8_isBetween_6 (by decide) (fun c2 => ?_) (fun c2 => ?_)
  · replace hq := i_t c2 hq
    refine lv_iconst (v := (0 : Int32)) hx hb dX8_isBetween_26 (by decide) ?_
    exact ge_Ri hx hb hlocks hr (by decide +kernel) hI hq dX8_isBetween_27
  · replace hq := i_f c2 hq
    refine lv_iload_n hx hb dX8_isBetween_9 rfl (lv_at hl 0 rfl) ?_
    refine lv_iload_n hx hb dX8_isBetween_10 rfl (lv_at hl 1 rfl) ?_
    refine lv_iload_n hx hb dX8_isBetween_11 rfl (lv_at hl 2 rfl) ?_
    refine lv_iadd hx hb dX8_isBetween_12 ?_
    refine lv_iload_n hx hb dX8_isBetween_13 rfl (lv_at hl 1 rfl) ?_
    refine lv_iload_n hx hb dX8_isBetween_14 rfl (lv_at hl 2 rfl) ?_
    obtain ⟨v3, ev3, hq⟩ := b_s hq
    refine gr_i (g_runS (As := [.int a1, .int a2]) (rest := [.int (a1 + a2), .int a0]) hC (c_X8_least l V g D cT f n a1 a2 v3 ev3) k_X8_least m_1826 rfl rfl ⟨Nat.le_of_ble_eq_true rfl, Nat.le_of_ble_eq_true rfl⟩ hI rfl hl.1 rfl (Nat.le_of_ble_eq_true rfl) dX8_isBetween_15 ⟨by decide, by decide⟩) hI (fun H locs hI => ?_)
    refine lv_isub hx hb dX8_isBetween_18 ?_
    refine lv_icmp_gt (tgt := 26) hx hb dX8_isBetween_19 (by decide) (fun c4 => ?_) (fun c4 => ?_)
    · replace hq := i_t c4 hq
      refine lv_iconst (v := (0 : Int32)) hx hb dX8_isBetween_26 (by decide) ?_
      exact ge_Ri hx hb hlocks hr (by decide +kernel) hI hq dX8_isBetween_27
    · replace hq := i_f c4 hq
      refine lv_iconst (v := (1 : Int32)) hx hb dX8_isBetween_22 (by decide) ?_
      refine lv_goto (tgt := 27) hx hb dX8_isBetween_23 (by decide) ?_
      exact ge_Ri hx hb hlocks hr (by decide +kernel) hI hq dX8_isBetween_27

abbrev rm_X8_turn : Room := { frames := 5, cells := 0, slots := 0, locals := 183 }
theorem k_X8_turn : g_CV yX8_turn cX8_turn 8 (some .int) 4 := ⟨⟨m_1832, m_14, by decide +kernel⟩, m_1831, ms_47⟩
set_option maxHeartbeats 4000000 in
set_option maxRecDepth 100000 in
theorem c_X8_turn (l : Launch) (V : Nat → Nat) (g : GH) (D : va_G) (cT : Nat → ClassId) (f : GH) (n : Nat) (a0 : Nat) (a1 : Int32) (a2 : Int32) (a3 : Int32) (a4 : Int32) (o : Int32) (hq : p_X8_turn V g f a0 a1 a2 a3 a4 = some o) : Met l yX8_turn (Cond.code yX8_turn cX8_turn 8 (some .int) :: g_B) rm_X8_turn (va_Pc [.ref a0, .int a1, .int a2, .int a3, .int a4] (g_I V g D cT f n)) (g_Ri o n) 0 0 g_no := by
  refine g_begin (own := RX8) [.ref a0, .int a1, .int a2, .int a3, .int a4] [(0, .ref a0), (1, .int a1), (2, .int a2), (3, .int a3), (4, .int a4)] g_no (fun _ h => h.elim) (by decide) rfl (Nat.le_of_ble_eq_true rfl) rfl ?_
  intro p e s m args below meth c hx hb hr hlocks hin hC hI ls hl
  obtain ⟨hx, hb, hml, hown, hB⟩ := id hC
  obtain ⟨H, hH⟩ : ∃ H, H = s.heap := ⟨_, rfl⟩
  obtain ⟨locs, hlocs⟩ : ∃ L : List Loc, L = [] := ⟨_, rfl⟩
  rw [← hH, ← hlocs] at hI ⊢
  clear hH hlocs
  unfold p_X8_turn at hq
  replace hq := (h_me_eq hq).2
  refine lv_aload_n hx hb dX8_turn_0 rfl (lv_at hl 0 rfl) ?_
  refine lv_iload_n hx hb dX8_turn_1 rfl (lv_at hl 1 rfl) ?_
  refine lv_iload_n hx hb dX8_turn_2 rfl (lv_at hl 2 rfl) ?_
  obtain ⟨v1, ev1, hq⟩ := b_s hq
  refine gr_i (g_runV (As := [.int a1, .int a2]) (rest := []) (ci := 10) hC (c_X8_next l V g D cT f n a0 a1 a2 v1 ev1) k_X8_next m_1803 rfl rfl ⟨Nat.le_of_ble_eq_true rfl, Nat.le_of_ble_eq_true rfl⟩ hI rfl rfl (h_me_eq ev1).1 rfl hl.1 rfl (Nat.le_of_ble_eq_true rfl) dX8_turn_3 ⟨by decide, by decide⟩) hI (fun H locs hI => ?_)
  refine lv_istore (lv' := [(5, .int v1), (0, .ref a0), (1, .int a1), (2, .int a2), (3, .int a3), (4, .int a4)]) hx hb dX8_turn_6 hl (by decide) rfl (fun ls hl => ?_)
  refine lv_aload_n hx hb dX8_turn_8 rfl (lv_at hl 1 rfl) ?_
  refine lv_iload_n hx hb dX8_turn_9 rfl (lv_at hl 2 rfl) ?_
  refine lv_iload hx hb dX8_turn_10 (lv_at hl 0 rfl) ?_
  obtain ⟨v2, ev2, hq⟩ := b_s hq
  refine gr_i (g_runV (As := [.int a1, .int v1]) (rest := []) (ci := 10) hC (c_X8_x l V g D cT f n a0 a1 v1 v2 ev2) k_X8_x m_1657 rfl rfl ⟨Nat.le_of_ble_eq_true rfl, Nat.le_of_ble_eq_true rfl⟩ hI rfl rfl (h_me_eq ev2).1 rfl hl.1 rfl (Nat.le_of_ble_eq_true rfl) dX8_turn_12 ⟨by decide, by decide⟩) hI (fun H locs hI => ?_)
  refine lv_aload_n hx hb dX8_turn_15 rfl (lv_at hl 1 rfl) ?_
  refine lv_iload_n hx hb dX8_turn_16 rfl (lv_at hl 2 rfl) ?_
  refine lv_iload_n hx hb dX8_turn_17 rfl (lv_at hl 3 rfl) ?_
  obtain ⟨v3, ev3, hq⟩ := b_s hq
  refine gr_i (g_runV (As := [.int a1, .int a2]) (rest := [.int v2]) (ci := 10) hC (c_X8_x l V g D cT f n a0 a1 a2 v3 ev3) k_X8_x m_1657 rfl rfl ⟨Nat.le_of_ble_eq_true rfl, Nat.le_of_ble_eq_true rfl⟩ hI rfl rfl (h_me_eq ev3).1 rfl hl.1 rfl (Nat.le_of_ble_eq_true rfl) dX8_turn_18 ⟨by decide, by decide⟩) hI (fun H locs hI => ?_)
  refine lv_isub hx hb dX8_turn_21 ?_
  refine lv_istore (lv' := [(6, .int (v2 - v3)), (5, .int v1), (0, .ref a0), (1, .int a1), (2, .int a2), (3, .int a3), (4, .int a4)]) hx hb dX8_turn_22 hl (by decide) rfl (fun ls hl => ?_)
  refine lv_aload_n hx hb dX8_turn_24 rfl (lv_at hl 2 rfl) ?_
  refine lv_iload_n hx hb dX8_turn_25 rfl (lv_at hl 3 rfl) ?_
  refine lv_iload hx hb dX8_turn_26 (lv_at hl 1 rfl) ?_
  obtain ⟨v4, ev4, hq⟩ := b_s hq
  refine gr_i (g_runV (As := [.int a1, .int v1]) (rest := []) (ci := 10) hC (c_X8_y l V g D cT f n a0 a1 v1 v4 ev4) k_X8_y m_1665 rfl rfl ⟨Nat.le_of_ble_eq_true rfl, Nat.le_of_ble_eq_true rfl⟩ hI rfl rfl (h_me_eq ev4).1 rfl hl.1 rfl (Nat.le_of_ble_eq_true rfl) dX8_turn_28 ⟨by decide, by decide⟩) hI (fun H locs hI => ?_)
  refine lv_aload_n hx hb dX8_turn_31 rfl (lv_at hl 2 rfl) ?_
  refine lv_iload_n hx hb dX8_turn_32 rfl (lv_at hl 3 rfl) ?_
  refine lv_iload_n hx hb dX8_turn_33 rfl (lv_at hl 4 rfl) ?_
  obtain ⟨v5, ev5, hq⟩ := b_s hq
  refine gr_i (g_runV (As := [.int a1, .int a2]) (rest := [.int v4]) (ci := 10) hC (c_X8_y l V g D cT f n a0 a1 a2 v5 ev5) k_X8_y m_1665 rfl rfl ⟨Nat.le_of_ble_eq_true rfl, Nat.le_of_ble_eq_true rfl⟩ hI rfl rfl (h_me_eq ev5).1 rfl hl.1 rfl (Nat.le_of_ble_eq_true rfl) dX8_turn_34 ⟨by decide, by decide⟩) hI (fun H locs hI => ?_)
  refine lv_isub hx hb dX8_turn_37 ?_
  refine lv_istore (lv' := [(7, .int (v4 - v5)), (6, .int (v2 - v3)), (5, .int v1), (0, .ref a0), (1, .int a1), (2, .int a2), (3, .int a3), (4, .int a4)]) hx hb dX8_turn_38 hl (by decide) rfl (fun ls hl => ?_)
  refine lv_iload hx hb dX8_turn_40 (lv_at hl 1 rfl) ?_
  refine lv_iload hx hb dX8_turn_42 (lv_at hl 7 rfl) ?_
  refine lv_aload_n hx hb dX8_turn_44 rfl (lv_at hl 3 rfl) ?_
  refine lv_iload_n hx hb dX8_turn_45 rfl (lv_at hl 4 rfl) ?_
  refine lv_iload_n hx hb dX8_turn_46 rfl (lv_at hl 5 rfl) ?_
  obtain ⟨v6, ev6, hq⟩ := b_s hq
  refine gr_i (g_runV (As := [.int a1, .int a2]) (rest := [.int a4, .int (v2 - v3)]) (ci := 10) hC (c_X8_y l V g D cT f n a0 a1 a2 v6 ev6) k_X8_y m_1665 rfl rfl ⟨Nat.le_of_ble_eq_true rfl, Nat.le_of_ble_eq_true rfl⟩ hI rfl rfl (h_me_eq ev6).1 rfl hl.1 rfl (Nat.le_of_ble_eq_true rfl) dX8_turn_47 ⟨by decide, by decide⟩) hI (fun H locs hI => ?_)
  refine lv_isub hx hb dX8_turn_50 ?_
  refine lv_imul hx hb dX8_turn_51 ?_
  refine lv_iload hx hb dX8_turn_52 (lv_at hl 0 rfl) ?_
  refine lv_iload_n hx hb dX8_turn_54 rfl (lv_at hl 6 rfl) ?_
  refine lv_aload_n hx hb dX8_turn_55 rfl (lv_at hl 3 rfl) ?_
  refine lv_iload_n hx hb dX8_turn_56 rfl (lv_at hl 4 rfl) ?_
  refine lv_iload_n hx hb dX8_turn_57 rfl (lv_at hl 5 rfl) ?_
  obtain ⟨v7, ev7, hq⟩ := b_s hq
  refine gr_i (g_runV (As := [.int a1, .int a2]) (rest := [.int a3, .int (v4 - v5), .int ((v2 - v3) * (a4 - v6))]) (ci := 10) hC (c_X8_x l V g D cT f n a0 a1 a2 v7 ev7) k_X8_x m_1657 rfl rfl ⟨Nat.le_of_ble_eq_true rfl, Nat.le_of_ble_eq_true rfl⟩ hI rfl rfl (h_me_eq ev7).1 rfl hl.1 rfl (Nat.le_of_ble_eq_true rfl) dX8_turn_58 ⟨by decide, by decide⟩) hI (fun H locs hI => ?_)
  refine lv_isub hx hb dX8_turn_61 ?_
  refine lv_imul hx hb dX8_turn_62 ?_
  refine lv_isub hx hb dX8_turn_63 ?_
  exact ge_Ri hx hb hlocks hr rfl hI hq dX8_turn_64


abbrev rm_X8_isOn : Room := { frames := 6, cells := 0, slots := 0, locals := 210 }
theorem k_X8_isOn : g_CV yX8_isOn cX8_isOn 7 (some .boolean) 4 := ⟨⟨m_1822, m_14, by decide +kernel⟩, m_1821, ms_46⟩
set_option maxHeartbeats 4000000 in
set_option maxRecDepth 100000 in
theorem c_X8_isOn (l : Launch) (V : Nat → Nat) (g : GH) (D : va_G) (cT : Nat → ClassId) (f : GH) (n : Nat) (a0 : Nat) (a1 : Int32) (a2 : Int32) (a3 : Int32) (a4 : Int32) (o : Int32) (hq : p_X8_isOn V g f a0 a1 a2 a3 a4 = some o) : Met l yX8_isOn (Cond.code yX8_isOn cX8_isOn 7 (some .boolean) :: g_B) rm_X8_isOn (va_Pc [.ref a0, .int a1, .int a2, .int a3, .int a4] (g_I V g D cT f n)) (g_Ri o n) 0 0 g_no := by
  refine g_begin (own := RX8) [.ref a0, .int a1, .int a2, .int a3, .int a4] [(0, .ref a0), (1, .int a1), (2, .int a2), (3, .int a3), (4, .int a4)] g_no (fun _ h => h.elim) (by decide) rfl (Nat.le_of_ble_eq_true rfl) rfl ?_
  intro p e s m args below meth c hx hb hr hlocks hin hC hI ls hl
  obtain ⟨hx, hb, hml, hown, hB⟩ := id hC
  obtain ⟨H, hH⟩ : ∃ H, H = s.heap := ⟨_, rfl⟩
  obtain ⟨locs, hlocs⟩ : ∃ L : List Loc, L = [] := ⟨_, rfl⟩
  rw [← hH, ← hlocs] at hI ⊢
  clear hH hlocs
  unfold p_X8_isOn at hq
  replace hq := (h_me_eq hq).2
  refine lv_aload_n hx hb dX8_isOn_0 rfl (lv_at hl 0 rfl) ?_
  refine lv_iload_n hx hb dX8_isOn_1 rfl (lv_at hl 1 rfl) ?_
  refine lv_iload_n hx hb dX8_isOn_2 rfl (lv_at hl 2 rfl) ?_
  obtain ⟨v1, ev1, hq⟩ := b_s hq
  refine gr_i (g_runV (As := [.int a1, .int a2]) (rest := []) (ci := 10) hC (c_X8_next l V g D cT f n a0 a1 a2 v1 ev1) k_X8_next m_1803 rfl rfl ⟨Nat.le_of_ble_eq_true rfl, Nat.le_of_ble_eq_true rfl⟩ hI rfl rfl (h_me_eq ev1).1 rfl hl.1 rfl (Nat.le_of_ble_eq_true rfl) dX8_isOn_3 ⟨by decide, by decide⟩) hI (fun H locs hI => ?_)
  refine lv_istore (lv' := [(5, .int v1), (0, .ref a0), (1, .int a1), (2, .int a2), (3, .int a3), (4, .int a4)]) hx hb dX8_isOn_6 hl (by decide) rfl (fun ls hl => ?_)
  refine lv_iload_n hx hb dX8_isOn_8 rfl (lv_at hl 4 rfl) ?_
  refine lv_aload_n hx hb dX8_isOn_9 rfl (lv_at hl 1 rfl) ?_
  refine lv_iload_n hx hb dX8_isOn_10 rfl (lv_at hl 2 rfl) ?_
  refine lv_iload_n hx hb dX8_isOn_11 rfl (lv_at hl 3 rfl) ?_
  obtain ⟨v2, ev2, hq⟩ := b_s hq
  refine gr_i (g_runV (As := [.int a1, .int a2]) (rest := [.int a3]) (ci := 10) hC (c_X8_x l V g D cT f n a0 a1 a2 v2 ev2) k_X8_x m_1657 rfl rfl ⟨Nat.le_of_ble_eq_true rfl, Nat.le_of_ble_eq_true rfl⟩ hI rfl rfl (h_me_eq ev2).1 rfl hl.1 rfl (Nat.le_of_ble_eq_true rfl) dX8_isOn_12 ⟨by decide, by decide⟩) hI (fun H locs hI => ?_)
  refine lv_aload_n hx hb dX8_isOn_15 rfl (lv_at hl 1 rfl) ?_
  refine lv_iload_n hx hb dX8_isOn_16 rfl (lv_at hl 2 rfl) ?_
  refine lv_iload hx hb dX8_isOn_17 (lv_at hl 0 rfl) ?_
  obtain ⟨v3, ev3, hq⟩ := b_s hq
  refine gr_i (g_runV (As := [.int a1, .int v1]) (rest := [.int v2, .int a3]) (ci := 10) hC (c_X8_x l V g D cT f n a0 a1 v1 v3 ev3) k_X8_x m_1657 rfl rfl ⟨Nat.le_of_ble_eq_true rfl, Nat.le_of_ble_eq_true rfl⟩ hI rfl rfl (h_me_eq ev3).1 rfl hl.1 rfl (Nat.le_of_ble_eq_true rfl) dX8_isOn_19 ⟨by decide, by decide⟩) hI (fun H locs hI => ?_)
  obtain ⟨v4, ev4, hq⟩ := b_s hq
  refine gr_i (g_runS (As := [.int a3, .int v2, .int v3]) (rest := []) hC (c_X8_isBetween l V g D cT f n a3 v2 v3 v4 ev4) k_X8_isBetween m_1823 rfl rfl ⟨Nat.le_of_ble_eq_true rfl, Nat.le_of_ble_eq_true rfl⟩ hI rfl hl.1 rfl (Nat.le_of_ble_eq_true rfl) dX8_isOn_22 ⟨by decide, by decide⟩) hI (fun H locs hI => ?_)
  have hj54 : ∀ (x0 : Nat) (x1 : Int32) (x2 : Int32) (x3 : Int32) (x4 : Int32) (t0 : Int32) (H : Heap) (locs : List Loc) (ls : Array Slot), g_at g_no V g D cT f n s H locs → lv_has ls 7 [(0, .ref x0), (1, .int x1), (2, .int x2), (3, .int x3), (4, .int x4)] → p_X8_isOn_j54 V g f x0 x1 x2 x3 x4 t0 = some o → W p l e rm_X8_isOn s m args below meth c H locs 0 0 (MQ below (g_Ri o n) args s 0 0 g_no) (F0 m 54 ls [.int t0]) := by
    intro x0 x1 x2 x3 x4 t0 H locs ls hI hl hq
    unfold p_X8_isOn_j54 at hq
    refine lv_istore (lv' := [(6, .int t0), (0, .ref x0), (1, .int x1), (2, .int x2), (3, .int x3), (4, .int x4)]) hx hb dX8_isOn_54 hl (by decide) rfl (fun ls hl => ?_)
    refine lv_iload hx hb dX8_isOn_56 (lv_at hl 0 rfl) ?_
    refine lv_if_eq (tgt := 77) hx hb dX8_isOn_58 (by decide) (fun c5 => ?_) (fun c5 => ?_)
    · replace hq := i_t c5 hq
      refine lv_iconst (v := (0 : Int32)) hx hb dX8_isOn_77 (by decide) ?_
      exact ge_Ri hx hb hlocks hr (by decide +kernel) hI hq dX8_isOn_78
    · replace hq := i_f c5 hq
      refine lv_aload_n hx hb dX8_isOn_61 rfl (lv_at hl 1 rfl) ?_
      refine lv_iload_n hx hb dX8_isOn_62 rfl (lv_at hl 2 rfl) ?_
      refine lv_iload_n hx hb dX8_isOn_63 rfl (lv_at hl 3 rfl) ?_
      refine lv_iload_n hx hb dX8_isOn_64 rfl (lv_at hl 4 rfl) ?_
      refine lv_iload hx hb dX8_isOn_65 (lv_at hl 5 rfl) ?_
      obtain ⟨v6, ev6, hq⟩ := b_s hq
      refine gr_i (g_runV (As := [.int x1, .int x2, .int x3, .int x4]) (rest := []) (ci := 10) hC (c_X8_turn l V g D cT f n x0 x1 x2 x3 x4 v6 ev6) k_X8_turn m_1829 rfl rfl ⟨Nat.le_of_ble_eq_true rfl, Nat.le_of_ble_eq_true rfl⟩ hI rfl rfl (h_me_eq ev6).1 rfl hl.1 rfl (Nat.le_of_ble_eq_true rfl) dX8_isOn_67 ⟨by decide, by decide⟩) hI (fun H locs hI => ?_)
      refine lv_if_ne (tgt := 77) hx hb dX8_isOn_70 (by decide) (fun c7 => ?_) (fun c7 => ?_)
      · replace hq := i_f c7 hq
        refine lv_iconst (v := (0 : Int32)) hx hb dX8_isOn_77 (by decide) ?_
        exact ge_Ri hx hb hlocks hr (by decide +kernel) hI hq dX8_isOn_78
      · replace hq := i_t c7 hq
        refine lv_iconst (v := (1 : Int32)) hx hb dX8_isOn_73 (by decide) ?_
        refine lv_goto (tgt := 78) hx hb dX8_isOn_74 (by decide) ?_
        exact ge_Ri hx hb hlocks hr (by decide +kernel) hI hq dX8_isOn_78
  have hj53 : ∀ (x0 : Nat) (x1 : Int32) (x2 : Int32) (x3 : Int32) (x4 : Int32) (H : Heap) (locs : List Loc) (ls : Array Slot), g_at g_no V g D cT f n s H locs → lv_has ls 7 [(0, .ref x0), (1, .int x1), (2, .int x2), (3, .int x3), (4, .int x4)] → p_X8_isOn_j53 V g f (p_X8_isOn_j54 V g f) x0 x1 x2 x3 x4 = some o → W p l e rm_X8_isOn s m args below meth c H locs 0 0 (MQ below (g_Ri o n) args s 0 0 g_no) (F0 m 53 ls []) := by
    intro x0 x1 x2 x3 x4 H locs ls hI hl hq
    unfold p_X8_isOn_j53 at hq
    refine lv_iconst (v := (0 : Int32)) hx hb dX8_isOn_53 (by decide) ?_
    exact hj54 x0 x1 x2 x3 x4 (0 : Int32) H locs ls hI (lv_sub hl [0, 1, 2, 3, 4] rfl) hq
  refine lv_if_eq (tgt := 53) hx hb dX8_isOn_25 (by decide) (fun c8 => ?_) (fun c8 => ?_)
  · replace hq := i_t c8 hq
    exact hj53 a0 a1 a2 a3 a4 H locs ls hI (lv_sub hl [1, 2, 3, 4, 5] rfl) hq
  · replace hq := i_f c8 hq
    refine lv_iload hx hb dX8_isOn_28 (lv_at hl 5 rfl) ?_
    refine lv_aload_n hx hb dX8_isOn_30 rfl (lv_at hl 1 rfl) ?_
    refine lv_iload_n hx hb dX8_isOn_31 rfl (lv_at hl 2 rfl) ?_
    refine lv_iload_n hx hb dX8_isOn_32 rfl (lv_at hl 3 rfl) ?_
    obtain ⟨v9, ev9, hq⟩ := b_s hq
    refine gr_i (g_runV (As := [.int a1, .int a2]) (rest := [.int a4]) (ci := 10) hC (c_X8_y l V g D cT f n a0 a1 a2 v9 ev9) k_X8_y m_1665 rfl rfl ⟨Nat.le_of_ble_eq_true rfl, Nat.le_of_ble_eq_true rfl⟩ hI rfl rfl (h_me_eq ev9).1 rfl hl.1 rfl (Nat.le_of_ble_eq_true rfl) dX8_isOn_33 ⟨by decide, by decide⟩) hI (fun H locs hI => ?_)
    refine lv_aload_n hx hb dX8_isOn_36 rfl (lv_at hl 1 rfl) ?_
    refine lv_iload_n hx hb dX8_isOn_37 rfl (lv_at hl 2 rfl) ?_
    refine lv_iload hx hb dX8_isOn_38 (lv_at hl 0 rfl) ?_
    obtain ⟨v10, ev10, hq⟩ := b_s hq
    refine gr_i (g_runV (As := [.int a1, .int v1]) (rest := [.int v9, .int a4]) (ci := 10) hC (c_X8_y l V g D cT f n a0 a1 v1 v10 ev10) k_X8_y m_1665 rfl rfl ⟨Nat.le_of_ble_eq_true rfl, Nat.le_of_ble_eq_true rfl⟩ hI rfl rfl (h_me_eq ev10).1 rfl hl.1 rfl (Nat.le_of_ble_eq_true rfl) dX8_isOn_40 ⟨by decide, by decide⟩) hI (fun H locs hI => ?_)
    obtain ⟨v11, ev11, hq⟩ := b_s hq
    refine gr_i (g_runS (As := [.int a4, .int v9, .int v10]) (rest := []) hC (c_X8_isBetween l V g D cT f n a4 v9 v10 v11 ev11) k_X8_isBetween m_1823 rfl rfl ⟨Nat.le_of_ble_eq_true rfl, Nat.le_of_ble_eq_true rfl⟩ hI rfl hl.1 rfl (Nat.le_of_ble_eq_true rfl) dX8_isOn_43 ⟨by decide, by decide⟩) hI (fun H locs hI => ?_)
    refine lv_if_eq (tgt := 53) hx hb dX8_isOn_46 (by decide) (fun c12 => ?_) (fun c12 => ?_)
    · replace hq := i_t c12 hq
      exact hj53 a0 a1 a2 a3 a4 H locs ls hI (lv_sub hl [1, 2, 3, 4, 5] rfl) hq
    · replace hq := i_f c12 hq
      refine lv_iconst (v := (1 : Int32)) hx hb dX8_isOn_49 (by decide) ?_
      refine lv_goto (tgt := 54) hx hb dX8_isOn_50 (by decide) ?_
      exact hj54 a0 a1 a2 a3 a4 (1 : Int32) H locs ls hI (lv_sub hl [1, 2, 3, 4, 5] rfl) hq

abbrev rm_X8_isCrossed : Room := { frames := 6, cells := 0, slots := 0, locals := 210 }
theorem k_X8_isCrossed : g_CV yX8_isCrossed cX8_isCrossed 8 (some .boolean) 4 := ⟨⟨m_1836, m_14, by decide +kernel⟩, m_1835, ms_48⟩
set_option maxHeartbeats 4000000 in
set_option maxRecDepth 100000 in
theorem c_X8_isCrossed (l : Launch) (V : Nat → Nat) (g : GH) (D : va_G) (cT : Nat → ClassId) (f : GH) (n : Nat) (a0 : Nat) (a1 : Int32) (a2 : Int32) (a3 : Int32) (a4 : Int32) (o : Int32) (hq : p_X8_isCrossed V g f a0 a1 a2 a3 a4 = some o) : Met l yX8_isCrossed (Cond.code yX8_isCrossed cX8_isCrossed 8 (some .boolean) :: g_B) rm_X8_isCrossed (va_Pc [.ref a0, .int a1, .int a2, .int a3, .int a4] (g_I V g D cT f n)) (g_Ri o n) 0 0 g_no := by
  refine g_begin (own := RX8) [.ref a0, .int a1, .int a2, .int a3, .int a4] [(0, .ref a0), (1, .int a1), (2, .int a2), (3, .int a3), (4, .int a4)] g_no (fun _ h => h.elim) (by decide) rfl (Nat.le_of_ble_eq_true rfl) rfl ?_
  intro p e s m args below meth c hx hb hr hlocks hin hC hI ls hl
  obtain ⟨hx, hb, hml, hown, hB⟩ := id hC
  obtain ⟨H, hH⟩ : ∃ H, H = s.heap := ⟨_, rfl⟩
  obtain ⟨locs, hlocs⟩ : ∃ L : List Loc, L = [] := ⟨_, rfl⟩
  rw [← hH, ← hlocs] at hI ⊢
  clear hH hlocs
  unfold p_X8_isCrossed at hq
  replace hq := (h_me_eq hq).2
  refine lv_aload_n hx hb dX8_isCrossed_0 rfl (lv_at hl 0 rfl) ?_
  refine lv_iload_n hx hb dX8_isCrossed_1 rfl (lv_at hl 1 rfl) ?_
  refine lv_iload_n hx hb dX8_isCrossed_2 rfl (lv_at hl 2 rfl) ?_
  obtain ⟨v1, ev1, hq⟩ := b_s hq
  refine gr_i (g_runV (As := [.int a1, .int a2]) (rest := []) (ci := 10) hC (c_X8_y l V g D cT f n a0 a1 a2 v1 ev1) k_X8_y m_1665 rfl rfl ⟨Nat.le_of_ble_eq_true rfl, Nat.le_of_ble_eq_true rfl⟩ hI rfl rfl (h_me_eq ev1).1 rfl hl.1 rfl (Nat.le_of_ble_eq_true rfl) dX8_isCrossed_3 ⟨by decide, by decide⟩) hI (fun H locs hI => ?_)
  refine lv_iload hx hb dX8_isCrossed_6 (lv_at hl 4 rfl) ?_
  have hj16 : ∀ (x0 : Nat) (x1 : Int32) (x2 : Int32) (x3 : Int32) (x4 : Int32) (t0 : Int32) (H : Heap) (locs : List Loc) (ls : Array Slot), g_at g_no V g D cT f n s H locs → lv_has ls 8 [(0, .ref x0), (1, .int x1), (2, .int x2), (3, .int x3), (4, .int x4)] → p_X8_isCrossed_j16 V g f x0 x1 x2 x3 x4 t0 = some o → W p l e rm_X8_isCrossed s m args below meth c H locs 0 0 (MQ below (g_Ri o n) args s 0 0 g_no) (F0 m 16 ls [.int t0]) := by
    intro x0 x1 x2 x3 x4 t0 H locs ls hI hl hq
    unfold p_X8_isCrossed_j16 at hq
    refine lv_istore (lv' := [(5, .int t0), (0, .ref x0), (1, .int x1), (2, .int x2), (3, .int x3), (4, .int x4)]) hx hb dX8_isCrossed_16 hl (by decide) rfl (fun ls hl => ?_)
    refine lv_aload_n hx hb dX8_isCrossed_18 rfl (lv_at hl 1 rfl) ?_
    refine lv_iload_n hx hb dX8_isCrossed_19 rfl (lv_at hl 2 rfl) ?_
    refine lv_aload_n hx hb dX8_isCrossed_20 rfl (lv_at hl 1 rfl) ?_
    refine lv_iload_n hx hb dX8_isCrossed_21 rfl (lv_at hl 2 rfl) ?_
    refine lv_iload_n hx hb dX8_isCrossed_22 rfl (lv_at hl 3 rfl) ?_
    obtain ⟨v2, ev2, hq⟩ := b_s hq
    refine gr_i (g_runV (As := [.int x1, .int x2]) (rest := [.int x1, .ref x0]) (ci := 10) hC (c_X8_next l V g D cT f n x0 x1 x2 v2 ev2) k_X8_next m_1803 rfl rfl ⟨Nat.le_of_ble_eq_true rfl, Nat.le_of_ble_eq_true rfl⟩ hI rfl rfl (h_me_eq ev2).1 rfl hl.1 rfl (Nat.le_of_ble_eq_true rfl) dX8_isCrossed_23 ⟨by decide, by decide⟩) hI (fun H locs hI => ?_)
    obtain ⟨v3, ev3, hq⟩ := b_s hq
    refine gr_i (g_runV (As := [.int x1, .int v2]) (rest := []) (ci := 10) hC (c_X8_y l V g D cT f n x0 x1 v2 v3 ev3) k_X8_y m_1665 rfl rfl ⟨Nat.le_of_ble_eq_true rfl, Nat.le_of_ble_eq_true rfl⟩ hI rfl rfl (h_me_eq ev3).1 rfl hl.1 rfl (Nat.le_of_ble_eq_true rfl) dX8_isCrossed_26 ⟨by decide, by decide⟩) hI (fun H locs hI => ?_)
    refine lv_iload hx hb dX8_isCrossed_29 (lv_at hl 5 rfl) ?_
    have hj39 : ∀ (x0 : Nat) (x1 : Int32) (x2 : Int32) (x3 : Int32) (x4 : Int32) (x5 : Int32) (t0 : Int32) (H : Heap) (locs : List Loc) (ls : Array Slot), g_at g_no V g D cT f n s H locs → lv_has ls 8 [(0, .ref x0), (1, .int x1), (2, .int x2), (3, .int x3), (4, .int x4), (5, .int x5)] → p_X8_isCrossed_j39 V g f x0 x1 x2 x3 x4 x5 t0 = some o → W p l e rm_X8_isCrossed s m args below meth c H locs 0 0 (MQ below (g_Ri o n) args s 0 0 g_no) (F0 m 39 ls [.int t0]) := by
      intro x0 x1 x2 x3 x4 x5 t0 H locs ls hI hl hq
      unfold p_X8_isCrossed_j39 at hq
      refine lv_istore (lv' := [(6, .int t0), (0, .ref x0), (1, .int x1), (2, .int x2), (3, .int x3), (4, .int x4), (5, .int x5)]) hx hb dX8_isCrossed_39 hl (by decide) rfl (fun ls hl => ?_)
      refine lv_aload_n hx hb dX8_isCrossed_41 rfl (lv_at hl 1 rfl) ?_
      refine lv_iload_n hx hb dX8_isCrossed_42 rfl (lv_at hl 2 rfl) ?_
      refine lv_iload_n hx hb dX8_isCrossed_43 rfl (lv_at hl 3 rfl) ?_
      refine lv_iload_n hx hb dX8_isCrossed_44 rfl (lv_at hl 4 rfl) ?_
      refine lv_iload hx hb dX8_isCrossed_45 (lv_at hl 5 rfl) ?_
      obtain ⟨v4, ev4, hq⟩ := b_s hq
      refine gr_i (g_runV (As := [.int x1, .int x2, .int x3, .int x4]) (rest := []) (ci := 10) hC (c_X8_turn l V g D cT f n x0 x1 x2 x3 x4 v4 ev4) k_X8_turn m_1829 rfl rfl ⟨Nat.le_of_ble_eq_true rfl, Nat.le_of_ble_eq_true rfl⟩ hI rfl rfl (h_me_eq ev4).1 rfl hl.1 rfl (Nat.le_of_ble_eq_true rfl) dX8_isCrossed_47 ⟨by decide, by decide⟩) hI (fun H locs hI => ?_)
      refine lv_istore (lv' := [(7, .int v4), (6, .int t0), (0, .ref x0), (1, .int x1), (2, .int x2), (3, .int x3), (4, .int x4), (5, .int x5)]) hx hb dX8_isCrossed_50 hl (by decide) rfl (fun ls hl => ?_)
      refine lv_iload hx hb dX8_isCrossed_52 (lv_at hl 7 rfl) ?_
      refine lv_iload hx hb dX8_isCrossed_54 (lv_at hl 1 rfl) ?_
      refine lv_icmp_eq (tgt := 81) hx hb dX8_isCrossed_56 (by decide) (fun c5 => ?_) (fun c5 => ?_)
      · replace hq := i_t c5 hq
        refine lv_iconst (v := (0 : Int32)) hx hb dX8_isCrossed_81 (by decide) ?_
        exact ge_Ri hx hb hlocks hr (by decide +kernel) hI hq dX8_isCrossed_82
      · replace hq := i_f c5 hq
        refine lv_iload hx hb dX8_isCrossed_59 (lv_at hl 1 rfl) ?_
        refine lv_if_eq (tgt := 72) hx hb dX8_isCrossed_61 (by decide) (fun c6 => ?_) (fun c6 => ?_)
        · replace hq := i_t c6 hq
          refine lv_iload hx hb dX8_isCrossed_72 (lv_at hl 0 rfl) ?_
          refine lv_if_ge (tgt := 81) hx hb dX8_isCrossed_74 (by decide) (fun c7 => ?_) (fun c7 => ?_)
          · replace hq := i_t c7 hq
            refine lv_iconst (v := (0 : Int32)) hx hb dX8_isCrossed_81 (by decide) ?_
            exact ge_Ri hx hb hlocks hr (by decide +kernel) hI hq dX8_isCrossed_82
          · replace hq := i_f c7 hq
            refine lv_iconst (v := (1 : Int32)) hx hb dX8_isCrossed_77 (by decide) ?_
            refine lv_goto (tgt := 82) hx hb dX8_isCrossed_78 (by decide) ?_
            exact ge_Ri hx hb hlocks hr (by decide +kernel) hI hq dX8_isCrossed_82
        · replace hq := i_f c6 hq
          refine lv_iload hx hb dX8_isCrossed_64 (lv_at hl 0 rfl) ?_
          refine lv_if_le (tgt := 81) hx hb dX8_isCrossed_66 (by decide) (fun c8 => ?_) (fun c8 => ?_)
          · replace hq := i_t c8 hq
            refine lv_iconst (v := (0 : Int32)) hx hb dX8_isCrossed_81 (by decide) ?_
            exact ge_Ri hx hb hlocks hr (by decide +kernel) hI hq dX8_isCrossed_82
          · replace hq := i_f c8 hq
            refine lv_goto (tgt := 77) hx hb dX8_isCrossed_69 (by decide) ?_
            refine lv_iconst (v := (1 : Int32)) hx hb dX8_isCrossed_77 (by decide) ?_
            refine lv_goto (tgt := 82) hx hb dX8_isCrossed_78 (by decide) ?_
            exact ge_Ri hx hb hlocks hr (by decide +kernel) hI hq dX8_isCrossed_82
    refine lv_icmp_le (tgt := 38) hx hb dX8_isCrossed_31 (by decide) (fun c9 => ?_) (fun c9 => ?_)
    · replace hq := i_t c9 hq
      refine lv_iconst (v := (0 : Int32)) hx hb dX8_isCrossed_38 (by decide) ?_
      exact hj39 x0 x1 x2 x3 x4 t0 (0 : Int32) H locs ls hI (lv_sub hl [1, 2, 3, 4, 5, 0] rfl) hq
    · replace hq := i_f c9 hq
      refine lv_iconst (v := (1 : Int32)) hx hb dX8_isCrossed_34 (by decide) ?_
      refine lv_goto (tgt := 39) hx hb dX8_isCrossed_35 (by decide) ?_
      exact hj39 x0 x1 x2 x3 x4 t0 (1 : Int32) H locs ls hI (lv_sub hl [1, 2, 3, 4, 5, 0] rfl) hq
  refine lv_icmp_le (tgt := 15) hx hb dX8_isCrossed_8 (by decide) (fun c10 => ?_) (fun c10 => ?_)
  · replace hq := i_t c10 hq
    refine lv_iconst (v := (0 : Int32)) hx hb dX8_isCrossed_15 (by decide) ?_
    exact hj16 a0 a1 a2 a3 a4 (0 : Int32) H locs ls hI (lv_sub hl [0, 1, 2, 3, 4] rfl) hq
  · replace hq := i_f c10 hq
    refine lv_iconst (v := (1 : Int32)) hx hb dX8_isCrossed_11 (by decide) ?_
    refine lv_goto (tgt := 16) hx hb dX8_isCrossed_12 (by decide) ?_
    exact hj16 a0 a1 a2 a3 a4 (1 : Int32) H locs ls hI (lv_sub hl [0, 1, 2, 3, 4] rfl) hq

abbrev rm_X8_holds : Room := { frames := 7, cells := 0, slots := 0, locals := 237 }
theorem k_X8_holds : g_CV yX8_holds cX8_holds 6 (some .boolean) 3 := ⟨⟨m_1818, m_14, by decide +kernel⟩, m_1817, ms_45⟩
set_option maxHeartbeats 4000000 in
set_option maxRecDepth 100000 in
theorem c_X8_holds (l : Launch) (V : Nat → Nat) (g : GH) (D : va_G) (cT : Nat → ClassId) (f : GH) (n : Nat) (a0 : Nat) (a1 : Int32) (a2 : Int32) (a3 : Int32) (o : Int32) (hq : p_X8_holds V g f a0 a1 a2 a3 = some o) : Met l yX8_holds (Cond.code yX8_holds cX8_holds 6 (some .boolean) :: g_B) rm_X8_holds (va_Pc [.ref a0, .int a1, .int a2, .int a3] (g_I V g D cT f n)) (g_Ri o n) 0 0 g_no := by
  refine g_begin (own := RX8) [.ref a0, .int a1, .int a2, .int a3] [(0, .ref a0), (1, .int a1), (2, .int a2), (3, .int a3)] g_no (fun _ h => h.elim) (by decide) rfl (Nat.le_of_ble_eq_true rfl) rfl ?_
  intro p e s m args below meth c hx hb hr hlocks hin hC hI ls hl
  obtain ⟨hx, hb, hml, hown, hB⟩ := id hC
  obtain ⟨H, hH⟩ : ∃ H, H = s.heap := ⟨_, rfl⟩
  obtain ⟨locs, hlocs⟩ : ∃ L : List Loc, L = [] := ⟨_, rfl⟩
  rw [← hH, ← hlocs] at hI ⊢
  clear hH hlocs
  unfold p_X8_holds at hq
  replace hq := (h_me_eq hq).2
  refine lv_iconst (v := (0 : Int32)) hx hb dX8_holds_0 (by decide) ?_
  refine lv_istore (lv' := [(4, .int (0 : Int32)), (0, .ref a0), (1, .int a1), (2, .int a2), (3, .int a3)]) hx hb dX8_holds_1 hl (by decide) rfl (fun ls hl => ?_)
  refine lv_iconst (v := (0 : Int32)) hx hb dX8_holds_3 (by decide) ?_
  refine lv_istore (lv' := [(5, .int (0 : Int32)), (4, .int (0 : Int32)), (0, .ref a0), (1, .int a1), (2, .int a2), (3, .int a3)]) hx hb dX8_holds_4 hl (by decide) rfl (fun ls hl => ?_)
  have hl6 : ∀ (K28 : Option Int32) (hK28 : ∀  (H : Heap) (locs : List Loc) (ls : Array Slot), g_at g_no V g D cT f n s H locs → lv_has ls 6 [] → K28  = some o → W p l e rm_X8_holds s m args below meth c H locs 0 0 (MQ below (g_Ri o n) args s 0 0 g_no) (F0 m 28 ls [])) (K50 : Int32 → Option Int32) (hK50 : ∀ (x4 : Int32) (H : Heap) (locs : List Loc) (ls : Array Slot), g_at g_no V g D cT f n s H locs → lv_has ls 6 [(4, .int x4)] → K50 x4 = some o → W p l e rm_X8_holds s m args below meth c H locs 0 0 (MQ below (g_Ri o n) args s 0 0 g_no) (F0 m 50 ls [])) (N : Nat) (x0 : Nat) (x1 : Int32) (x2 : Int32) (x3 : Int32) (x4 : Int32) (x5 : Int32) (H : Heap) (locs : List Loc) (ls : Array Slot), g_at g_no V g D cT f n s H locs → lv_has ls 6 [(0, .ref x0), (1, .int x1), (2, .int x2), (3, .int x3), (4, .int x4), (5, .int x5)] → p_X8_holds_l6 V g f K28 K50 N x0 x1 x2 x3 x4 x5 = some o → W p l e rm_X8_holds s m args below meth c H locs 0 0 (MQ below (g_Ri o n) args s 0 0 g_no) (F0 m 6 ls []) := by
    intro K28 hK28 K50 hK50 N
    induction N with
    | zero =>
      intro x0 x1 x2 x3 x4 x5 H locs ls hI hl hq
      rw [p_X8_holds_l6] at hq
      cases hq
    | succ N ih =>
      intro x0 x1 x2 x3 x4 x5 H locs ls hI hl hq
      rw [p_X8_holds_l6] at hq
      refine lv_iload hx hb dX8_holds_6 (lv_at hl 5 rfl) ?_
      refine lv_aload_n hx hb dX8_holds_8 rfl (lv_at hl 0 rfl) ?_
      refine lv_iload_n hx hb dX8_holds_9 rfl (lv_at hl 1 rfl) ?_
      obtain ⟨v1, ev1, hq⟩ := b_s hq
      refine gr_i (g_runV (As := [.int x1]) (rest := [.int x5]) (ci := 10) hC (c_X8_count l V g D cT f n x0 x1 v1 ev1) k_X8_count m_1527 rfl rfl ⟨Nat.le_of_ble_eq_true rfl, Nat.le_of_ble_eq_true rfl⟩ hI rfl rfl (h_me_eq ev1).1 rfl hl.1 rfl (Nat.le_of_ble_eq_true rfl) dX8_holds_10 ⟨by decide, by decide⟩) hI (fun H locs hI => ?_)
      refine lv_icmp_ge (tgt := 50) hx hb dX8_holds_13 (by decide) (fun c2 => ?_) (fun c2 => ?_)
      · replace hq := i_t c2 hq
        exact hK50 x4 H locs ls hI (lv_sub hl [4] rfl) hq
      · replace hq := i_f c2 hq
        refine lv_aload_n hx hb dX8_holds_16 rfl (lv_at hl 0 rfl) ?_
        refine lv_iload_n hx hb dX8_holds_17 rfl (lv_at hl 1 rfl) ?_
        refine lv_iload hx hb dX8_holds_18 (lv_at hl 5 rfl) ?_
        refine lv_iload_n hx hb dX8_holds_20 rfl (lv_at hl 2 rfl) ?_
        refine lv_iload_n hx hb dX8_holds_21 rfl (lv_at hl 3 rfl) ?_
        obtain ⟨v3, ev3, hq⟩ := b_s hq
        refine gr_i (g_runV (As := [.int x1, .int x5, .int x2, .int x3]) (rest := []) (ci := 10) hC (c_X8_isOn l V g D cT f n x0 x1 x5 x2 x3 v3 ev3) k_X8_isOn m_1819 rfl rfl ⟨Nat.le_of_ble_eq_true rfl, Nat.le_of_ble_eq_true rfl⟩ hI rfl rfl (h_me_eq ev3).1 rfl hl.1 rfl (Nat.le_of_ble_eq_true rfl) dX8_holds_22 ⟨by decide, by decide⟩) hI (fun H locs hI => ?_)
        refine lv_if_eq (tgt := 30) hx hb dX8_holds_25 (by decide) (fun c4 => ?_) (fun c4 => ?_)
        · replace hq := i_t c4 hq
          refine lv_iload hx hb dX8_holds_30 (lv_at hl 4 rfl) ?_
          refine lv_aload_n hx hb dX8_holds_32 rfl (lv_at hl 0 rfl) ?_
          refine lv_iload_n hx hb dX8_holds_33 rfl (lv_at hl 1 rfl) ?_
          refine lv_iload hx hb dX8_holds_34 (lv_at hl 5 rfl) ?_
          refine lv_iload_n hx hb dX8_holds_36 rfl (lv_at hl 2 rfl) ?_
          refine lv_iload_n hx hb dX8_holds_37 rfl (lv_at hl 3 rfl) ?_
          obtain ⟨v5, ev5, hq⟩ := b_s hq
          refine gr_i (g_runV (As := [.int x1, .int x5, .int x2, .int x3]) (rest := [.int x4]) (ci := 10) hC (c_X8_isCrossed l V g D cT f n x0 x1 x5 x2 x3 v5 ev5) k_X8_isCrossed m_1833 rfl rfl ⟨Nat.le_of_ble_eq_true rfl, Nat.le_of_ble_eq_true rfl⟩ hI rfl rfl (h_me_eq ev5).1 rfl hl.1 rfl (Nat.le_of_ble_eq_true rfl) dX8_holds_38 ⟨by decide, by decide⟩) hI (fun H locs hI => ?_)
          refine lv_ixor hx hb dX8_holds_41 ?_
          refine lv_istore (lv' := [(4, .int (x4 ^^^ v5)), (0, .ref x0), (1, .int x1), (2, .int x2), (3, .int x3), (5, .int x5)]) hx hb dX8_holds_42 hl (by decide) rfl (fun ls hl => ?_)
          refine lv_iinc (v := x5 + (1 : Int32)) (lv' := [(5, .int (x5 + (1 : Int32))), (4, .int (x4 ^^^ v5)), (0, .ref x0), (1, .int x1), (2, .int x2), (3, .int x3)]) hx hb dX8_holds_44 hl (k := 5) rfl rfl (by decide) rfl (fun ls hl => ?_)
          refine lv_goto (tgt := 6) hx hb dX8_holds_47 (by decide) ?_
          exact ih x0 x1 x2 x3 (x4 ^^^ v5) (x5 + (1 : Int32)) H locs ls hI (lv_sub hl [2, 3, 4, 5, 1, 0] rfl) hq
        · replace hq := i_f c4 hq
          exact hK28  H locs ls hI (lv_sub hl [] rfl) hq
  refine hl6 _ ?_ _ ?_ FU a0 a1 a2 a3 (0 : Int32) (0 : Int32) H locs ls hI (lv_sub hl [2, 3, 4, 5, 1, 0] rfl) hq
  · intro  H locs ls hI hl hq
    refine lv_iconst (v := (1 : Int32)) hx hb dX8_holds_28 (by decide) ?_
    exact ge_Ri hx hb hlocks hr (by decide +kernel) hI hq dX8_holds_29
  · intro x4 H locs ls hI hl hq
    refine lv_iload hx hb dX8_holds_50 (lv_at hl 0 rfl) ?_
    obtain ⟨_, ev6, hq⟩ := b_s hq
    exact ge_Ri hx hb hlocks hr (h_bz_eq ev6).2.1 hI hq dX8_holds_52

abbrev rm_X8_contains : Room := { frames := 8, cells := 0, slots := 0, locals := 262 }
theorem k_X8_contains : g_CV yX8_contains cX8_contains 4 (some .boolean) 3 := ⟨⟨m_1814, m_14, by decide +kernel⟩, m_1812, m_1813⟩
set_option maxHeartbeats 4000000 in
set_option maxRecDepth 100000 in
theorem c_X8_contains (l : Launch) (V : Nat → Nat) (g : GH) (D : va_G) (cT : Nat → ClassId) (f : GH) (n : Nat) (a0 : Nat) (a1 : Int32) (a2 : Int32) (a3 : Int32) (o : Int32 × GH) (hq : p_X8_contains V g f a0 a1 a2 a3 = some o) : Met l yX8_contains (Cond.code yX8_contains cX8_contains 4 (some .boolean) :: g_B) rm_X8_contains (va_Pc [.ref a0, .int a1, .int a2, .int a3] (g_I V g D cT f n)) (g_Wi V D cT o.1 o.2 n) 0 0 (g_A V) := by
  refine g_begin (own := RX8) [.ref a0, .int a1, .int a2, .int a3] [(0, .ref a0), (1, .int a1), (2, .int a2), (3, .int a3)] (g_A V) (fun _ h => h) (by decide) rfl (Nat.le_of_ble_eq_true rfl) rfl ?_
  intro p e s m args below meth c hx hb hr hlocks hin hC hI ls hl
  obtain ⟨hx, hb, hml, hown, hB⟩ := id hC
  obtain ⟨H, hH⟩ : ∃ H, H = s.heap := ⟨_, rfl⟩
  obtain ⟨locs, hlocs⟩ : ∃ L : List Loc, L = [] := ⟨_, rfl⟩
  rw [← hH, ← hlocs] at hI ⊢
  clear hH hlocs
  unfold p_X8_contains at hq
  replace hq := (h_me_eq hq).2
  refine lv_aload_n hx hb dX8_contains_0 rfl (lv_at hl 0 rfl) ?_
  refine lv_iload_n hx hb dX8_contains_1 rfl (lv_at hl 1 rfl) ?_
  obtain ⟨v1, ev1, hq⟩ := b_s hq
  refine gw_i (g_runV (As := [.int a1]) (rest := []) (ci := 10) hC (c_X8_lacksIsland l V g D cT f n a0 a1 v1 ev1) k_X8_lacksIsland m_1795 rfl rfl ⟨Nat.le_of_ble_eq_true rfl, Nat.le_of_ble_eq_true rfl⟩ hI rfl rfl (h_me_eq ev1).1 rfl hl.1 rfl (Nat.le_of_ble_eq_true rfl) dX8_contains_2 ⟨by decide, by decide⟩) hI (fun H locs hI => ?_)
  refine lv_if_eq (tgt := 10) hx hb dX8_contains_5 (by decide) (fun c2 => ?_) (fun c2 => ?_)
  · replace hq := i_t c2 hq
    refine lv_iload_n hx hb dX8_contains_10 rfl (lv_at hl 2 rfl) ?_
    refine lv_iload_n hx hb dX8_contains_11 rfl (lv_at hl 3 rfl) ?_
    obtain ⟨v3, ev3, hq⟩ := b_s hq
    refine gr_i (g_runS (As := [.int a2, .int a3]) (rest := []) hC (c_X8_isPosition l V g D cT v1.2 n a2 a3 v3 ev3) k_X8_isPosition m_1687 rfl rfl ⟨Nat.le_of_ble_eq_true rfl, Nat.le_of_ble_eq_true rfl⟩ hI rfl hl.1 rfl (Nat.le_of_ble_eq_true rfl) dX8_contains_12 ⟨by decide, by decide⟩) hI (fun H locs hI => ?_)
    refine lv_if_ne (tgt := 25) hx hb dX8_contains_15 (by decide) (fun c4 => ?_) (fun c4 => ?_)
    · replace hq := i_f c4 hq
      refine lv_aload_n hx hb dX8_contains_25 rfl (lv_at hl 0 rfl) ?_
      refine lv_iload_n hx hb dX8_contains_26 rfl (lv_at hl 1 rfl) ?_
      refine lv_iload_n hx hb dX8_contains_27 rfl (lv_at hl 2 rfl) ?_
      refine lv_iload_n hx hb dX8_contains_28 rfl (lv_at hl 3 rfl) ?_
      obtain ⟨v5, ev5, hq⟩ := b_s hq
      refine gr_i (g_runV (As := [.int a1, .int a2, .int a3]) (rest := []) (ci := 10) hC (c_X8_holds l V g D cT v1.2 n a0 a1 a2 a3 v5 ev5) k_X8_holds m_1815 rfl rfl ⟨Nat.le_of_ble_eq_true rfl, Nat.le_of_ble_eq_true rfl⟩ hI rfl rfl (h_me_eq ev5).1 rfl hl.1 rfl (Nat.le_of_ble_eq_true rfl) dX8_contains_29 ⟨by decide, by decide⟩) hI (fun H locs hI => ?_)
      obtain ⟨_, ev6, hq⟩ := b_s hq
      exact ge_Wi hx hb hlocks hr (h_bz_eq ev6).2.1 hI (congrArg (fun z => z.1) (Option.some.inj hq)) (congrArg (fun z => z.2) (Option.some.inj hq)) dX8_contains_32
    · replace hq := i_t c4 hq
      refine lv_aload_n hx hb dX8_contains_18 rfl (lv_at hl 0 rfl) ?_
      refine lv_iconst (v := (3 : Int32)) hx hb dX8_contains_19 (by decide) ?_
      obtain ⟨f7, ef7, hq⟩ := b_s hq
      refine fa_pt (own := RX8) (ref := "CoastlineRulerModel") (k := 7) hx hb hB inB_RX8 tyX8_ok nmX8 hown hI rfl (by decide) m_1538 (fun _ h9 => h9) (by decide) rfl rfl ef7 dX8_contains_20 (fun H locs hI => ?_)
      refine lv_iconst (v := (0 : Int32)) hx hb dX8_contains_23 (by decide) ?_
      exact ge_Wi hx hb hlocks hr (by decide +kernel) hI (congrArg (fun z => z.1) (Option.some.inj hq)) (congrArg (fun z => z.2) (Option.some.inj hq)) dX8_contains_24
  · replace hq := i_f c2 hq
    refine lv_iconst (v := (0 : Int32)) hx hb dX8_contains_8 (by decide) ?_
    exact ge_Wi hx hb hlocks hr (by decide +kernel) hI (congrArg (fun z => z.1) (Option.some.inj hq)) (congrArg (fun z => z.2) (Option.some.inj hq)) dX8_contains_9

abbrev rm_X8_surrounds : Room := { frames := 8, cells := 0, slots := 0, locals := 262 }
theorem k_X8_surrounds : g_CV yX8_surrounds cX8_surrounds 4 (some .boolean) 2 := ⟨⟨m_1844, m_14, by decide +kernel⟩, m_1843, ms_49⟩
set_option maxHeartbeats 4000000 in
set_option maxRecDepth 100000 in
theorem c_X8_surrounds (l : Launch) (V : Nat → Nat) (g : GH) (D : va_G) (cT : Nat → ClassId) (f : GH) (n : Nat) (a0 : Nat) (a1 : Int32) (a2 : Int32) (o : Int32) (hq : p_X8_surrounds V g f a0 a1 a2 = some o) : Met l yX8_surrounds (Cond.code yX8_surrounds cX8_surrounds 4 (some .boolean) :: g_B) rm_X8_surrounds (va_Pc [.ref a0, .int a1, .int a2] (g_I V g D cT f n)) (g_Ri o n) 0 0 g_no := by
  refine g_begin (own := RX8) [.ref a0, .int a1, .int a2] [(0, .ref a0), (1, .int a1), (2, .int a2)] g_no (fun _ h => h.elim) (by decide) rfl (Nat.le_of_ble_eq_true rfl) rfl ?_
  intro p e s m args below meth c hx hb hr hlocks hin hC hI ls hl
  obtain ⟨hx, hb, hml, hown, hB⟩ := id hC
  obtain ⟨H, hH⟩ : ∃ H, H = s.heap := ⟨_, rfl⟩
  obtain ⟨locs, hlocs⟩ : ∃ L : List Loc, L = [] := ⟨_, rfl⟩
  rw [← hH, ← hlocs] at hI ⊢
  clear hH hlocs
  unfold p_X8_surrounds at hq
  replace hq := (h_me_eq hq).2
  refine lv_iload_n hx hb dX8_surrounds_0 rfl (lv_at hl 1 rfl) ?_
  refine lv_iload_n hx hb dX8_surrounds_1 rfl (lv_at hl 2 rfl) ?_
  refine lv_icmp_eq (tgt := 13) hx hb dX8_surrounds_2 (by decide) (fun c1 => ?_) (fun c1 => ?_)
  · replace hq := i_t c1 hq
    refine lv_iconst (v := (0 : Int32)) hx hb dX8_surrounds_13 (by decide) ?_
    exact ge_Ri hx hb hlocks hr (by decide +kernel) hI hq dX8_surrounds_14
  · replace hq := i_f c1 hq
    refine lv_aload_n hx hb dX8_surrounds_5 rfl (lv_at hl 0 rfl) ?_
    refine lv_iload_n hx hb dX8_surrounds_6 rfl (lv_at hl 1 rfl) ?_
    obtain ⟨v2, ev2, hq⟩ := b_s hq
    refine gr_i (g_runV (As := [.int a1]) (rest := []) (ci := 10) hC (c_X8_island l V g D cT f n a0 a1 v2 ev2) k_X8_island m_1641 rfl rfl ⟨Nat.le_of_ble_eq_true rfl, Nat.le_of_ble_eq_true rfl⟩ hI rfl rfl (h_me_eq ev2).1 rfl hl.1 rfl (Nat.le_of_ble_eq_true rfl) dX8_surrounds_7 ⟨by decide, by decide⟩) hI (fun H locs hI => ?_)
    refine lv_if_ne (tgt := 15) hx hb dX8_surrounds_10 (by decide) (fun c3 => ?_) (fun c3 => ?_)
    · replace hq := i_f c3 hq
      refine lv_iconst (v := (0 : Int32)) hx hb dX8_surrounds_15 (by decide) ?_
      refine lv_istore_n (lv' := [(3, .int (0 : Int32)), (0, .ref a0), (1, .int a1), (2, .int a2)]) hx hb dX8_surrounds_16 rfl hl (by decide) rfl (fun ls hl => ?_)
      have hl17 : ∀ (K46 : Option Int32) (hK46 : ∀  (H : Heap) (locs : List Loc) (ls : Array Slot), g_at g_no V g D cT f n s H locs → lv_has ls 4 [] → K46  = some o → W p l e rm_X8_surrounds s m args below meth c H locs 0 0 (MQ below (g_Ri o n) args s 0 0 g_no) (F0 m 46 ls [])) (K54 : Option Int32) (hK54 : ∀  (H : Heap) (locs : List Loc) (ls : Array Slot), g_at g_no V g D cT f n s H locs → lv_has ls 4 [] → K54  = some o → W p l e rm_X8_surrounds s m args below meth c H locs 0 0 (MQ below (g_Ri o n) args s 0 0 g_no) (F0 m 54 ls [])) (N : Nat) (x0 : Nat) (x1 : Int32) (x2 : Int32) (x3 : Int32) (H : Heap) (locs : List Loc) (ls : Array Slot), g_at g_no V g D cT f n s H locs → lv_has ls 4 [(0, .ref x0), (1, .int x1), (2, .int x2), (3, .int x3)] → p_X8_surrounds_l17 V g f K46 K54 N x0 x1 x2 x3 = some o → W p l e rm_X8_surrounds s m args below meth c H locs 0 0 (MQ below (g_Ri o n) args s 0 0 g_no) (F0 m 17 ls []) := by
        intro K46 hK46 K54 hK54 N
        induction N with
        | zero =>
          intro x0 x1 x2 x3 H locs ls hI hl hq
          rw [p_X8_surrounds_l17] at hq
          cases hq
        | succ N ih =>
          intro x0 x1 x2 x3 H locs ls hI hl hq
          rw [p_X8_surrounds_l17] at hq
          refine lv_iload_n hx hb dX8_surrounds_17 rfl (lv_at hl 3 rfl) ?_
          refine lv_aload_n hx hb dX8_surrounds_18 rfl (lv_at hl 0 rfl) ?_
          refine lv_iload_n hx hb dX8_surrounds_19 rfl (lv_at hl 2 rfl) ?_
          obtain ⟨v4, ev4, hq⟩ := b_s hq
          refine gr_i (g_runV (As := [.int x2]) (rest := [.int x3]) (ci := 10) hC (c_X8_count l V g D cT f n x0 x2 v4 ev4) k_X8_count m_1527 rfl rfl ⟨Nat.le_of_ble_eq_true rfl, Nat.le_of_ble_eq_true rfl⟩ hI rfl rfl (h_me_eq ev4).1 rfl hl.1 rfl (Nat.le_of_ble_eq_true rfl) dX8_surrounds_20 ⟨by decide, by decide⟩) hI (fun H locs hI => ?_)
          refine lv_icmp_ge (tgt := 54) hx hb dX8_surrounds_23 (by decide) (fun c5 => ?_) (fun c5 => ?_)
          · replace hq := i_t c5 hq
            exact hK54  H locs ls hI (lv_sub hl [] rfl) hq
          · replace hq := i_f c5 hq
            refine lv_aload_n hx hb dX8_surrounds_26 rfl (lv_at hl 0 rfl) ?_
            refine lv_iload_n hx hb dX8_surrounds_27 rfl (lv_at hl 1 rfl) ?_
            refine lv_aload_n hx hb dX8_surrounds_28 rfl (lv_at hl 0 rfl) ?_
            refine lv_iload_n hx hb dX8_surrounds_29 rfl (lv_at hl 2 rfl) ?_
            refine lv_iload_n hx hb dX8_surrounds_30 rfl (lv_at hl 3 rfl) ?_
            obtain ⟨v6, ev6, hq⟩ := b_s hq
            refine gr_i (g_runV (As := [.int x2, .int x3]) (rest := [.int x1, .ref x0]) (ci := 10) hC (c_X8_x l V g D cT f n x0 x2 x3 v6 ev6) k_X8_x m_1657 rfl rfl ⟨Nat.le_of_ble_eq_true rfl, Nat.le_of_ble_eq_true rfl⟩ hI rfl rfl (h_me_eq ev6).1 rfl hl.1 rfl (Nat.le_of_ble_eq_true rfl) dX8_surrounds_31 ⟨by decide, by decide⟩) hI (fun H locs hI => ?_)
            refine lv_aload_n hx hb dX8_surrounds_34 rfl (lv_at hl 0 rfl) ?_
            refine lv_iload_n hx hb dX8_surrounds_35 rfl (lv_at hl 2 rfl) ?_
            refine lv_iload_n hx hb dX8_surrounds_36 rfl (lv_at hl 3 rfl) ?_
            obtain ⟨v7, ev7, hq⟩ := b_s hq
            refine gr_i (g_runV (As := [.int x2, .int x3]) (rest := [.int v6, .int x1, .ref x0]) (ci := 10) hC (c_X8_y l V g D cT f n x0 x2 x3 v7 ev7) k_X8_y m_1665 rfl rfl ⟨Nat.le_of_ble_eq_true rfl, Nat.le_of_ble_eq_true rfl⟩ hI rfl rfl (h_me_eq ev7).1 rfl hl.1 rfl (Nat.le_of_ble_eq_true rfl) dX8_surrounds_37 ⟨by decide, by decide⟩) hI (fun H locs hI => ?_)
            obtain ⟨v8, ev8, hq⟩ := b_s hq
            refine gr_i (g_runV (As := [.int x1, .int v6, .int v7]) (rest := []) (ci := 10) hC (c_X8_holds l V g D cT f n x0 x1 v6 v7 v8 ev8) k_X8_holds m_1815 rfl rfl ⟨Nat.le_of_ble_eq_true rfl, Nat.le_of_ble_eq_true rfl⟩ hI rfl rfl (h_me_eq ev8).1 rfl hl.1 rfl (Nat.le_of_ble_eq_true rfl) dX8_surrounds_40 ⟨by decide, by decide⟩) hI (fun H locs hI => ?_)
            refine lv_if_ne (tgt := 48) hx hb dX8_surrounds_43 (by decide) (fun c9 => ?_) (fun c9 => ?_)
            · replace hq := i_f c9 hq
              refine lv_iinc (v := x3 + (1 : Int32)) (lv' := [(3, .int (x3 + (1 : Int32))), (0, .ref x0), (1, .int x1), (2, .int x2)]) hx hb dX8_surrounds_48 hl (k := 3) rfl rfl (by decide) rfl (fun ls hl => ?_)
              refine lv_goto (tgt := 17) hx hb dX8_surrounds_51 (by decide) ?_
              exact ih x0 x1 x2 (x3 + (1 : Int32)) H locs ls hI (lv_sub hl [1, 2, 3, 0] rfl) hq
            · replace hq := i_t c9 hq
              exact hK46  H locs ls hI (lv_sub hl [] rfl) hq
      refine hl17 _ ?_ _ ?_ FU a0 a1 a2 (0 : Int32) H locs ls hI (lv_sub hl [1, 2, 3, 0] rfl) hq
      · intro  H locs ls hI hl hq
        refine lv_iconst (v := (0 : Int32)) hx hb dX8_surrounds_46 (by decide) ?_
        exact ge_Ri hx hb hlocks hr (by decide +kernel) hI hq dX8_surrounds_47
      · intro  H locs ls hI hl hq
        refine lv_iconst (v := (1 : Int32)) hx hb dX8_surrounds_54 (by decide) ?_
        exact ge_Ri hx hb hlocks hr (by decide +kernel) hI hq dX8_surrounds_55
    · replace hq := i_t c3 hq
      refine lv_iconst (v := (0 : Int32)) hx hb dX8_surrounds_13 (by decide) ?_
      exact ge_Ri hx hb hlocks hr (by decide +kernel) hI hq dX8_surrounds_14

abbrev rm_X8_encloses : Room := { frames := 9, cells := 0, slots := 0, locals := 285 }
theorem k_X8_encloses : g_CV yX8_encloses cX8_encloses 4 (some .boolean) 2 := ⟨⟨m_1840, m_14, by decide +kernel⟩, m_1838, m_1839⟩
set_option maxHeartbeats 4000000 in
set_option maxRecDepth 100000 in
theorem c_X8_encloses (l : Launch) (V : Nat → Nat) (g : GH) (D : va_G) (cT : Nat → ClassId) (f : GH) (n : Nat) (a0 : Nat) (a1 : Int32) (a2 : Int32) (o : Int32 × GH) (hq : p_X8_encloses V g f a0 a1 a2 = some o) : Met l yX8_encloses (Cond.code yX8_encloses cX8_encloses 4 (some .boolean) :: g_B) rm_X8_encloses (va_Pc [.ref a0, .int a1, .int a2] (g_I V g D cT f n)) (g_Wi V D cT o.1 o.2 n) 0 0 (g_A V) := by
  refine g_begin (own := RX8) [.ref a0, .int a1, .int a2] [(0, .ref a0), (1, .int a1), (2, .int a2)] (g_A V) (fun _ h => h) (by decide) rfl (Nat.le_of_ble_eq_true rfl) rfl ?_
  intro p e s m args below meth c hx hb hr hlocks hin hC hI ls hl
  obtain ⟨hx, hb, hml, hown, hB⟩ := id hC
  obtain ⟨H, hH⟩ : ∃ H, H = s.heap := ⟨_, rfl⟩
  obtain ⟨locs, hlocs⟩ : ∃ L : List Loc, L = [] := ⟨_, rfl⟩
  rw [← hH, ← hlocs] at hI ⊢
  clear hH hlocs
  unfold p_X8_encloses at hq
  replace hq := (h_me_eq hq).2
  refine lv_aload_n hx hb dX8_encloses_0 rfl (lv_at hl 0 rfl) ?_
  refine lv_iload_n hx hb dX8_encloses_1 rfl (lv_at hl 1 rfl) ?_
  obtain ⟨v1, ev1, hq⟩ := b_s hq
  refine gr_i (g_runV (As := [.int a1]) (rest := []) (ci := 10) hC (c_X8_isCoast l V g D cT f n a0 a1 v1 ev1) k_X8_isCoast m_1630 rfl rfl ⟨Nat.le_of_ble_eq_true rfl, Nat.le_of_ble_eq_true rfl⟩ hI rfl rfl (h_me_eq ev1).1 rfl hl.1 rfl (Nat.le_of_ble_eq_true rfl) dX8_encloses_2 ⟨by decide, by decide⟩) hI (fun H locs hI => ?_)
  have hj21 : ∀ (x0 : Nat) (x1 : Int32) (x2 : Int32) (t0 : Int32) (f : GH) (H : Heap) (locs : List Loc) (ls : Array Slot), g_at (g_A V) V g D cT f n s H locs → lv_has ls 4 [(0, .ref x0), (1, .int x1), (2, .int x2)] → p_X8_encloses_j21 V g x0 x1 x2 t0 f = some o → W p l e rm_X8_encloses s m args below meth c H locs 0 0 (MQ below (g_Wi V D cT o.1 o.2 n) args s 0 0 (g_A V)) (F0 m 21 ls [.int t0]) := by
    intro x0 x1 x2 t0 f H locs ls hI hl hq
    unfold p_X8_encloses_j21 at hq
    refine lv_istore_n (lv' := [(3, .int t0), (0, .ref x0), (1, .int x1), (2, .int x2)]) hx hb dX8_encloses_21 rfl hl (by decide) rfl (fun ls hl => ?_)
    refine lv_aload_n hx hb dX8_encloses_22 rfl (lv_at hl 1 rfl) ?_
    refine lv_iload_n hx hb dX8_encloses_23 rfl (lv_at hl 0 rfl) ?_
    refine lv_iload_n hx hb dX8_encloses_24 rfl (lv_at hl 0 rfl) ?_
    have hj41 : ∀ (x0 : Nat) (x1 : Int32) (x2 : Int32) (t0 : Int32) (t1 : Int32) (t2 : Nat) (f : GH) (H : Heap) (locs : List Loc) (ls : Array Slot), g_at (g_A V) V g D cT f n s H locs → lv_has ls 4 [(0, .ref x0), (1, .int x1), (2, .int x2)] → p_X8_encloses_j41 V g x0 x1 x2 t0 t1 t2 f = some o → W p l e rm_X8_encloses s m args below meth c H locs 0 0 (MQ below (g_Wi V D cT o.1 o.2 n) args s 0 0 (g_A V)) (F0 m 41 ls [.int t0, .int t1, .ref t2]) := by
      intro x0 x1 x2 t0 t1 t2 f H locs ls hI hl hq
      unfold p_X8_encloses_j41 at hq
      obtain ⟨v2, ev2, hq⟩ := b_s hq
      refine gw_i (g_runV (As := [.int t1, .int t0]) (rest := []) (ci := 10) hC (c_X8_lacksBoth l V g D cT f n t2 t1 t0 v2 ev2) k_X8_lacksBoth m_1693 rfl rfl ⟨Nat.le_of_ble_eq_true rfl, Nat.le_of_ble_eq_true rfl⟩ hI rfl rfl (h_me_eq ev2).1 rfl hl.1 rfl (Nat.le_of_ble_eq_true rfl) dX8_encloses_41 ⟨by decide, by decide⟩) hI (fun H locs hI => ?_)
      refine lv_if_ne (tgt := 60) hx hb dX8_encloses_44 (by decide) (fun c3 => ?_) (fun c3 => ?_)
      · replace hq := i_f c3 hq
        refine lv_iconst (v := (0 : Int32)) hx hb dX8_encloses_60 (by decide) ?_
        exact ge_Wi hx hb hlocks hr (by decide +kernel) hI (congrArg (fun z => z.1) (Option.some.inj hq)) (congrArg (fun z => z.2) (Option.some.inj hq)) dX8_encloses_61
      · replace hq := i_t c3 hq
        refine lv_aload_n hx hb dX8_encloses_47 rfl (lv_at hl 0 rfl) ?_
        refine lv_iload_n hx hb dX8_encloses_48 rfl (lv_at hl 1 rfl) ?_
        refine lv_iload_n hx hb dX8_encloses_49 rfl (lv_at hl 2 rfl) ?_
        obtain ⟨v4, ev4, hq⟩ := b_s hq
        refine gr_i (g_runV (As := [.int x1, .int x2]) (rest := []) (ci := 10) hC (c_X8_surrounds l V g D cT v2.2 n x0 x1 x2 v4 ev4) k_X8_surrounds m_1841 rfl rfl ⟨Nat.le_of_ble_eq_true rfl, Nat.le_of_ble_eq_true rfl⟩ hI rfl rfl (h_me_eq ev4).1 rfl hl.1 rfl (Nat.le_of_ble_eq_true rfl) dX8_encloses_50 ⟨by decide, by decide⟩) hI (fun H locs hI => ?_)
        refine lv_if_eq (tgt := 60) hx hb dX8_encloses_53 (by decide) (fun c5 => ?_) (fun c5 => ?_)
        · replace hq := i_t c5 hq
          refine lv_iconst (v := (0 : Int32)) hx hb dX8_encloses_60 (by decide) ?_
          exact ge_Wi hx hb hlocks hr (by decide +kernel) hI (congrArg (fun z => z.1) (Option.some.inj hq)) (congrArg (fun z => z.2) (Option.some.inj hq)) dX8_encloses_61
        · replace hq := i_f c5 hq
          refine lv_iconst (v := (1 : Int32)) hx hb dX8_encloses_56 (by decide) ?_
          refine lv_goto (tgt := 61) hx hb dX8_encloses_57 (by decide) ?_
          exact ge_Wi hx hb hlocks hr (by decide +kernel) hI (congrArg (fun z => z.1) (Option.some.inj hq)) (congrArg (fun z => z.2) (Option.some.inj hq)) dX8_encloses_61
    have hj40 : ∀ (x0 : Nat) (x1 : Int32) (x2 : Int32) (t0 : Int32) (t1 : Nat) (f : GH) (H : Heap) (locs : List Loc) (ls : Array Slot), g_at (g_A V) V g D cT f n s H locs → lv_has ls 4 [(0, .ref x0), (1, .int x1), (2, .int x2)] → p_X8_encloses_j40 V g (p_X8_encloses_j41 V g) x0 x1 x2 t0 t1 f = some o → W p l e rm_X8_encloses s m args below meth c H locs 0 0 (MQ below (g_Wi V D cT o.1 o.2 n) args s 0 0 (g_A V)) (F0 m 40 ls [.int t0, .ref t1]) := by
      intro x0 x1 x2 t0 t1 f H locs ls hI hl hq
      unfold p_X8_encloses_j40 at hq
      refine lv_iconst (v := (0 : Int32)) hx hb dX8_encloses_40 (by decide) ?_
      exact hj41 x0 x1 x2 (0 : Int32) t0 t1 f H locs ls hI (lv_sub hl [0, 1, 2] rfl) hq
    refine lv_if_eq (tgt := 40) hx hb dX8_encloses_25 (by decide) (fun c6 => ?_) (fun c6 => ?_)
    · replace hq := i_t c6 hq
      exact hj40 x0 x1 x2 t0 x0 f H locs ls hI (lv_sub hl [1, 2, 3] rfl) hq
    · replace hq := i_f c6 hq
      refine lv_aload_n hx hb dX8_encloses_28 rfl (lv_at hl 1 rfl) ?_
      refine lv_iload_n hx hb dX8_encloses_29 rfl (lv_at hl 2 rfl) ?_
      obtain ⟨v7, ev7, hq⟩ := b_s hq
      refine gr_i (g_runV (As := [.int x1]) (rest := [.int t0, .ref x0]) (ci := 10) hC (c_X8_island l V g D cT f n x0 x1 v7 ev7) k_X8_island m_1641 rfl rfl ⟨Nat.le_of_ble_eq_true rfl, Nat.le_of_ble_eq_true rfl⟩ hI rfl rfl (h_me_eq ev7).1 rfl hl.1 rfl (Nat.le_of_ble_eq_true rfl) dX8_encloses_30 ⟨by decide, by decide⟩) hI (fun H locs hI => ?_)
      refine lv_if_eq (tgt := 40) hx hb dX8_encloses_33 (by decide) (fun c8 => ?_) (fun c8 => ?_)
      · replace hq := i_t c8 hq
        exact hj40 x0 x1 x2 t0 x0 f H locs ls hI (lv_sub hl [1, 2, 3] rfl) hq
      · replace hq := i_f c8 hq
        refine lv_iconst (v := (1 : Int32)) hx hb dX8_encloses_36 (by decide) ?_
        refine lv_goto (tgt := 41) hx hb dX8_encloses_37 (by decide) ?_
        exact hj41 x0 x1 x2 (1 : Int32) t0 x0 f H locs ls hI (lv_sub hl [1, 2, 3] rfl) hq
  have hj20 : ∀ (x0 : Nat) (x1 : Int32) (x2 : Int32) (f : GH) (H : Heap) (locs : List Loc) (ls : Array Slot), g_at (g_A V) V g D cT f n s H locs → lv_has ls 4 [(0, .ref x0), (1, .int x1), (2, .int x2)] → p_X8_encloses_j20 V g (p_X8_encloses_j21 V g) x0 x1 x2 f = some o → W p l e rm_X8_encloses s m args below meth c H locs 0 0 (MQ below (g_Wi V D cT o.1 o.2 n) args s 0 0 (g_A V)) (F0 m 20 ls []) := by
    intro x0 x1 x2 f H locs ls hI hl hq
    unfold p_X8_encloses_j20 at hq
    refine lv_iconst (v := (0 : Int32)) hx hb dX8_encloses_20 (by decide) ?_
    exact hj21 x0 x1 x2 (0 : Int32) f H locs ls hI (lv_sub hl [0, 1, 2] rfl) hq
  refine lv_if_eq (tgt := 20) hx hb dX8_encloses_5 (by decide) (fun c9 => ?_) (fun c9 => ?_)
  · replace hq := i_t c9 hq
    exact hj20 a0 a1 a2 f H locs ls hI (lv_sub hl [0, 1, 2] rfl) hq
  · replace hq := i_f c9 hq
    refine lv_aload_n hx hb dX8_encloses_8 rfl (lv_at hl 0 rfl) ?_
    refine lv_iload_n hx hb dX8_encloses_9 rfl (lv_at hl 2 rfl) ?_
    obtain ⟨v10, ev10, hq⟩ := b_s hq
    refine gr_i (g_runV (As := [.int a2]) (rest := []) (ci := 10) hC (c_X8_isCoast l V g D cT f n a0 a2 v10 ev10) k_X8_isCoast m_1630 rfl rfl ⟨Nat.le_of_ble_eq_true rfl, Nat.le_of_ble_eq_true rfl⟩ hI rfl rfl (h_me_eq ev10).1 rfl hl.1 rfl (Nat.le_of_ble_eq_true rfl) dX8_encloses_10 ⟨by decide, by decide⟩) hI (fun H locs hI => ?_)
    refine lv_if_eq (tgt := 20) hx hb dX8_encloses_13 (by decide) (fun c11 => ?_) (fun c11 => ?_)
    · replace hq := i_t c11 hq
      exact hj20 a0 a1 a2 f H locs ls hI (lv_sub hl [0, 1, 2] rfl) hq
    · replace hq := i_f c11 hq
      refine lv_iconst (v := (1 : Int32)) hx hb dX8_encloses_16 (by decide) ?_
      refine lv_goto (tgt := 21) hx hb dX8_encloses_17 (by decide) ?_
      exact hj21 a0 a1 a2 (1 : Int32) f H locs ls hI (lv_sub hl [0, 1, 2] rfl) hq

abbrev rm_X8_innermostIslandAround : Room := { frames := 9, cells := 0, slots := 0, locals := 285 }
theorem k_X8_innermostIslandAround : g_CV yX8_innermostIslandAround cX8_innermostIslandAround 5 (some .int) 1 := ⟨⟨m_1848, m_14, by decide +kernel⟩, m_1846, m_1847⟩
set_option maxHeartbeats 4000000 in
set_option maxRecDepth 100000 in
theorem c_X8_innermostIslandAround (l : Launch) (V : Nat → Nat) (g : GH) (D : va_G) (cT : Nat → ClassId) (f : GH) (n : Nat) (a0 : Nat) (a1 : Int32) (o : Int32 × GH) (hq : p_X8_innermostIslandAround V g f a0 a1 = some o) : Met l yX8_innermostIslandAround (Cond.code yX8_innermostIslandAround cX8_innermostIslandAround 5 (some .int) :: g_B) rm_X8_innermostIslandAround (va_Pc [.ref a0, .int a1] (g_I V g D cT f n)) (g_Wi V D cT o.1 o.2 n) 0 0 (g_A V) := by
  refine g_begin (own := RX8) [.ref a0, .int a1] [(0, .ref a0), (1, .int a1)] (g_A V) (fun _ h => h) (by decide) rfl (Nat.le_of_ble_eq_true rfl) rfl ?_
  intro p e s m args below meth c hx hb hr hlocks hin hC hI ls hl
  obtain ⟨hx, hb, hml, hown, hB⟩ := id hC
  obtain ⟨H, hH⟩ : ∃ H, H = s.heap := ⟨_, rfl⟩
  obtain ⟨locs, hlocs⟩ : ∃ L : List Loc, L = [] := ⟨_, rfl⟩
  rw [← hH, ← hlocs] at hI ⊢
  clear hH hlocs
  unfold p_X8_innermostIslandAround at hq
  replace hq := (h_me_eq hq).2
  refine lv_aload_n hx hb dX8_innermostIslandAround_0 rfl (lv_at hl 0 rfl) ?_
  refine lv_aload_n hx hb dX8_innermostIslandAround_1 rfl (lv_at hl 0 rfl) ?_
  refine lv_iload_n hx hb dX8_innermostIslandAround_2 rfl (lv_at hl 1 rfl) ?_
  obtain ⟨v1, ev1, hq⟩ := b_s hq
  refine gr_i (g_runV (As := [.int a1]) (rest := [.ref a0]) (ci := 10) hC (c_X8_isCoast l V g D cT f n a0 a1 v1 ev1) k_X8_isCoast m_1630 rfl rfl ⟨Nat.le_of_ble_eq_true rfl, Nat.le_of_ble_eq_true rfl⟩ hI rfl rfl (h_me_eq ev1).1 rfl hl.1 rfl (Nat.le_of_ble_eq_true rfl) dX8_innermostIslandAround_3 ⟨by decide, by decide⟩) hI (fun H locs hI => ?_)
  obtain ⟨v2, ev2, hq⟩ := b_s hq
  refine gw_i (g_runV (As := [.int v1]) (rest := []) (ci := 10) hC (c_X8_lacks l V g D cT f n a0 v1 v2 ev2) k_X8_lacks m_1637 rfl rfl ⟨Nat.le_of_ble_eq_true rfl, Nat.le_of_ble_eq_true rfl⟩ hI rfl rfl (h_me_eq ev2).1 rfl hl.1 rfl (Nat.le_of_ble_eq_true rfl) dX8_innermostIslandAround_6 ⟨by decide, by decide⟩) hI (fun H locs hI => ?_)
  refine lv_if_eq (tgt := 14) hx hb dX8_innermostIslandAround_9 (by decide) (fun c3 => ?_) (fun c3 => ?_)
  · replace hq := i_t c3 hq
    refine lv_iconst (v := (-1 : Int32)) hx hb dX8_innermostIslandAround_14 (by decide) ?_
    refine lv_istore_n (lv' := [(2, .int (-1 : Int32)), (0, .ref a0), (1, .int a1)]) hx hb dX8_innermostIslandAround_15 rfl hl (by decide) rfl (fun ls hl => ?_)
    refine lv_iconst (v := (0 : Int32)) hx hb dX8_innermostIslandAround_16 (by decide) ?_
    refine lv_istore_n (lv' := [(3, .int (0 : Int32)), (2, .int (-1 : Int32)), (0, .ref a0), (1, .int a1)]) hx hb dX8_innermostIslandAround_17 rfl hl (by decide) rfl (fun ls hl => ?_)
    have hl18 : ∀ (K85 : Int32 → GH → Option (Int32 × GH)) (hK85 : ∀ (x2 : Int32) (f : GH) (H : Heap) (locs : List Loc) (ls : Array Slot), g_at (g_A V) V g D cT f n s H locs → lv_has ls 5 [(2, .int x2)] → K85 x2 f = some o → W p l e rm_X8_innermostIslandAround s m args below meth c H locs 0 0 (MQ below (g_Wi V D cT o.1 o.2 n) args s 0 0 (g_A V)) (F0 m 85 ls [])) (N : Nat) (x0 : Nat) (x1 : Int32) (x2 : Int32) (x3 : Int32) (f : GH) (H : Heap) (locs : List Loc) (ls : Array Slot), g_at (g_A V) V g D cT f n s H locs → lv_has ls 5 [(0, .ref x0), (1, .int x1), (2, .int x2), (3, .int x3)] → p_X8_innermostIslandAround_l18 V g K85 N x0 x1 x2 x3 f = some o → W p l e rm_X8_innermostIslandAround s m args below meth c H locs 0 0 (MQ below (g_Wi V D cT o.1 o.2 n) args s 0 0 (g_A V)) (F0 m 18 ls []) := by
      intro K85 hK85 N
      induction N with
      | zero =>
        intro x0 x1 x2 x3 f H locs ls hI hl hq
        rw [p_X8_innermostIslandAround_l18] at hq
        cases hq
      | succ N ih =>
        intro x0 x1 x2 x3 f H locs ls hI hl hq
        rw [p_X8_innermostIslandAround_l18] at hq
        refine lv_iload_n hx hb dX8_innermostIslandAround_18 rfl (lv_at hl 3 rfl) ?_
        refine lv_aload_n hx hb dX8_innermostIslandAround_19 rfl (lv_at hl 0 rfl) ?_
        obtain ⟨v4, ev4, hq⟩ := b_s hq
        refine fa_gr (own := RX8) (ref := "CoastlineRulerModel") (k := 5) hx hb hB inB_RX8 hown hI rfl (by decide) m_1536 (fun _ h9 => h9) ev4 dX8_innermostIslandAround_20 ?_
        refine lv_iconst (v := (1 : Int32)) hx hb dX8_innermostIslandAround_23 (by decide) ?_
        obtain ⟨v5, ev5, hq⟩ := b_s hq
        refine fa_li hx hb hI ev5 dX8_innermostIslandAround_24 ?_
        refine lv_icmp_ge (tgt := 85) hx hb dX8_innermostIslandAround_25 (by decide) (fun c6 => ?_) (fun c6 => ?_)
        · replace hq := i_t c6 hq
          exact hK85 x2 f H locs ls hI (lv_sub hl [2] rfl) hq
        · replace hq := i_f c6 hq
          refine lv_aload_n hx hb dX8_innermostIslandAround_28 rfl (lv_at hl 0 rfl) ?_
          refine lv_iload_n hx hb dX8_innermostIslandAround_29 rfl (lv_at hl 3 rfl) ?_
          refine lv_iload_n hx hb dX8_innermostIslandAround_30 rfl (lv_at hl 1 rfl) ?_
          obtain ⟨v7, ev7, hq⟩ := b_s hq
          refine gr_i (g_runV (As := [.int x3, .int x1]) (rest := []) (ci := 10) hC (c_X8_surrounds l V g D cT f n x0 x3 x1 v7 ev7) k_X8_surrounds m_1841 rfl rfl ⟨Nat.le_of_ble_eq_true rfl, Nat.le_of_ble_eq_true rfl⟩ hI rfl rfl (h_me_eq ev7).1 rfl hl.1 rfl (Nat.le_of_ble_eq_true rfl) dX8_innermostIslandAround_31 ⟨by decide, by decide⟩) hI (fun H locs hI => ?_)
          have hj66 : ∀ (x0 : Nat) (x1 : Int32) (x2 : Int32) (x3 : Int32) (t0 : Int32) (f : GH) (H : Heap) (locs : List Loc) (ls : Array Slot), g_at (g_A V) V g D cT f n s H locs → lv_has ls 5 [(0, .ref x0), (1, .int x1), (2, .int x2), (3, .int x3)] → p_X8_innermostIslandAround_j66 V g (p_X8_innermostIslandAround_l18 V g K85 N) x0 x1 x2 x3 t0 f = some o → W p l e rm_X8_innermostIslandAround s m args below meth c H locs 0 0 (MQ below (g_Wi V D cT o.1 o.2 n) args s 0 0 (g_A V)) (F0 m 66 ls [.int t0]) := by
            intro x0 x1 x2 x3 t0 f H locs ls hI hl hq
            unfold p_X8_innermostIslandAround_j66 at hq
            refine lv_istore (lv' := [(4, .int t0), (0, .ref x0), (1, .int x1), (2, .int x2), (3, .int x3)]) hx hb dX8_innermostIslandAround_66 hl (by decide) rfl (fun ls hl => ?_)
            refine lv_iload hx hb dX8_innermostIslandAround_68 (lv_at hl 0 rfl) ?_
            refine lv_if_eq (tgt := 77) hx hb dX8_innermostIslandAround_70 (by decide) (fun c8 => ?_) (fun c8 => ?_)
            · replace hq := i_t c8 hq
              refine lv_iload_n hx hb dX8_innermostIslandAround_77 rfl (lv_at hl 3 rfl) ?_
              refine lv_istore_n (lv' := [(2, .int x2), (4, .int t0), (0, .ref x0), (1, .int x1), (3, .int x3)]) hx hb dX8_innermostIslandAround_78 rfl hl (by decide) rfl (fun ls hl => ?_)
              refine lv_iinc (v := x3 + (1 : Int32)) (lv' := [(3, .int (x3 + (1 : Int32))), (2, .int x2), (4, .int t0), (0, .ref x0), (1, .int x1)]) hx hb dX8_innermostIslandAround_79 hl (k := 4) rfl rfl (by decide) rfl (fun ls hl => ?_)
              refine lv_goto (tgt := 18) hx hb dX8_innermostIslandAround_82 (by decide) ?_
              exact ih x0 x1 x2 (x3 + (1 : Int32)) f H locs ls hI (lv_sub hl [3, 4, 1, 0] rfl) hq
            · replace hq := i_f c8 hq
              refine lv_iload_n hx hb dX8_innermostIslandAround_73 rfl (lv_at hl 4 rfl) ?_
              refine lv_goto (tgt := 78) hx hb dX8_innermostIslandAround_74 (by decide) ?_
              refine lv_istore_n (lv' := [(2, .int x3), (4, .int t0), (0, .ref x0), (1, .int x1), (3, .int x3)]) hx hb dX8_innermostIslandAround_78 rfl hl (by decide) rfl (fun ls hl => ?_)
              refine lv_iinc (v := x3 + (1 : Int32)) (lv' := [(3, .int (x3 + (1 : Int32))), (2, .int x3), (4, .int t0), (0, .ref x0), (1, .int x1)]) hx hb dX8_innermostIslandAround_79 hl (k := 4) rfl rfl (by decide) rfl (fun ls hl => ?_)
              refine lv_goto (tgt := 18) hx hb dX8_innermostIslandAround_82 (by decide) ?_
              exact ih x0 x1 x3 (x3 + (1 : Int32)) f H locs ls hI (lv_sub hl [3, 4, 1, 0] rfl) hq
          have hj65 : ∀ (x0 : Nat) (x1 : Int32) (x2 : Int32) (x3 : Int32) (f : GH) (H : Heap) (locs : List Loc) (ls : Array Slot), g_at (g_A V) V g D cT f n s H locs → lv_has ls 5 [(0, .ref x0), (1, .int x1), (2, .int x2), (3, .int x3)] → p_X8_innermostIslandAround_j65 V g (p_X8_innermostIslandAround_j66 V g (p_X8_innermostIslandAround_l18 V g K85 N)) x0 x1 x2 x3 f = some o → W p l e rm_X8_innermostIslandAround s m args below meth c H locs 0 0 (MQ below (g_Wi V D cT o.1 o.2 n) args s 0 0 (g_A V)) (F0 m 65 ls []) := by
            intro x0 x1 x2 x3 f H locs ls hI hl hq
            unfold p_X8_innermostIslandAround_j65 at hq
            refine lv_iconst (v := (0 : Int32)) hx hb dX8_innermostIslandAround_65 (by decide) ?_
            exact hj66 x0 x1 x2 x3 (0 : Int32) f H locs ls hI (lv_sub hl [0, 1, 2, 3] rfl) hq
          refine lv_if_eq (tgt := 65) hx hb dX8_innermostIslandAround_34 (by decide) (fun c9 => ?_) (fun c9 => ?_)
          · replace hq := i_t c9 hq
            exact hj65 x0 x1 x2 x3 f H locs ls hI (lv_sub hl [0, 1, 2, 3] rfl) hq
          · replace hq := i_f c9 hq
            refine lv_iload_n hx hb dX8_innermostIslandAround_37 rfl (lv_at hl 2 rfl) ?_
            refine lv_iconst (v := (-1 : Int32)) hx hb dX8_innermostIslandAround_38 (by decide) ?_
            refine lv_icmp_eq (tgt := 61) hx hb dX8_innermostIslandAround_39 (by decide) (fun c10 => ?_) (fun c10 => ?_)
            · replace hq := i_t c10 hq
              refine lv_iconst (v := (1 : Int32)) hx hb dX8_innermostIslandAround_61 (by decide) ?_
              refine lv_goto (tgt := 66) hx hb dX8_innermostIslandAround_62 (by decide) ?_
              exact hj66 x0 x1 x2 x3 (1 : Int32) f H locs ls hI (lv_sub hl [0, 1, 2, 3] rfl) hq
            · replace hq := i_f c10 hq
              refine lv_aload_n hx hb dX8_innermostIslandAround_42 rfl (lv_at hl 0 rfl) ?_
              refine lv_iload_n hx hb dX8_innermostIslandAround_43 rfl (lv_at hl 3 rfl) ?_
              obtain ⟨v11, ev11, hq⟩ := b_s hq
              refine gr_i (g_runV (As := [.int x3]) (rest := []) (ci := 10) hC (c_X8_signedArea l V g D cT f n x0 x3 v11 ev11) k_X8_signedArea m_1799 rfl rfl ⟨Nat.le_of_ble_eq_true rfl, Nat.le_of_ble_eq_true rfl⟩ hI rfl rfl (h_me_eq ev11).1 rfl hl.1 rfl (Nat.le_of_ble_eq_true rfl) dX8_innermostIslandAround_44 ⟨by decide, by decide⟩) hI (fun H locs hI => ?_)
              obtain ⟨v12, ev12, hq⟩ := b_s hq
              refine gr_i (g_runS (As := [.int v11]) (rest := []) hC (c_X8_sizeOf l V g D cT f n v11 v12 ev12) k_X8_sizeOf m_1680 rfl rfl ⟨Nat.le_of_ble_eq_true rfl, Nat.le_of_ble_eq_true rfl⟩ hI rfl hl.1 rfl (Nat.le_of_ble_eq_true rfl) dX8_innermostIslandAround_47 ⟨by decide, by decide⟩) hI (fun H locs hI => ?_)
              refine lv_aload_n hx hb dX8_innermostIslandAround_50 rfl (lv_at hl 0 rfl) ?_
              refine lv_iload_n hx hb dX8_innermostIslandAround_51 rfl (lv_at hl 2 rfl) ?_
              obtain ⟨v13, ev13, hq⟩ := b_s hq
              refine gr_i (g_runV (As := [.int x2]) (rest := [.int v12]) (ci := 10) hC (c_X8_signedArea l V g D cT f n x0 x2 v13 ev13) k_X8_signedArea m_1799 rfl rfl ⟨Nat.le_of_ble_eq_true rfl, Nat.le_of_ble_eq_true rfl⟩ hI rfl rfl (h_me_eq ev13).1 rfl hl.1 rfl (Nat.le_of_ble_eq_true rfl) dX8_innermostIslandAround_52 ⟨by decide, by decide⟩) hI (fun H locs hI => ?_)
              obtain ⟨v14, ev14, hq⟩ := b_s hq
              refine gr_i (g_runS (As := [.int v13]) (rest := [.int v12]) hC (c_X8_sizeOf l V g D cT f n v13 v14 ev14) k_X8_sizeOf m_1680 rfl rfl ⟨Nat.le_of_ble_eq_true rfl, Nat.le_of_ble_eq_true rfl⟩ hI rfl hl.1 rfl (Nat.le_of_ble_eq_true rfl) dX8_innermostIslandAround_55 ⟨by decide, by decide⟩) hI (fun H locs hI => ?_)
              refine lv_icmp_ge (tgt := 65) hx hb dX8_innermostIslandAround_58 (by decide) (fun c15 => ?_) (fun c15 => ?_)
              · replace hq := i_t c15 hq
                exact hj65 x0 x1 x2 x3 f H locs ls hI (lv_sub hl [0, 1, 2, 3] rfl) hq
              · replace hq := i_f c15 hq
                refine lv_iconst (v := (1 : Int32)) hx hb dX8_innermostIslandAround_61 (by decide) ?_
                refine lv_goto (tgt := 66) hx hb dX8_innermostIslandAround_62 (by decide) ?_
                exact hj66 x0 x1 x2 x3 (1 : Int32) f H locs ls hI (lv_sub hl [0, 1, 2, 3] rfl) hq
    refine hl18 _ ?_ FU a0 a1 (-1 : Int32) (0 : Int32) v2.2 H locs ls hI (lv_sub hl [2, 3, 1, 0] rfl) hq
    · intro x2 f H locs ls hI hl hq
      refine lv_iload_n hx hb dX8_innermostIslandAround_85 rfl (lv_at hl 0 rfl) ?_
      exact ge_Wi hx hb hlocks hr rfl hI (congrArg (fun z => z.1) (Option.some.inj hq)) (congrArg (fun z => z.2) (Option.some.inj hq)) dX8_innermostIslandAround_86
  · replace hq := i_f c3 hq
    refine lv_iconst (v := (0 : Int32)) hx hb dX8_innermostIslandAround_12 (by decide) ?_
    exact ge_Wi hx hb hlocks hr rfl hI (congrArg (fun z => z.1) (Option.some.inj hq)) (congrArg (fun z => z.2) (Option.some.inj hq)) dX8_innermostIslandAround_13

abbrev rm_X8_ringDepth : Room := { frames := 9, cells := 0, slots := 0, locals := 285 }
theorem k_X8_ringDepth : g_CV yX8_ringDepth cX8_ringDepth 4 (some .int) 1 := ⟨⟨m_1852, m_14, by decide +kernel⟩, m_1850, m_1851⟩
set_option maxHeartbeats 4000000 in
set_option maxRecDepth 100000 in
theorem c_X8_ringDepth (l : Launch) (V : Nat → Nat) (g : GH) (D : va_G) (cT : Nat → ClassId) (f : GH) (n : Nat) (a0 : Nat) (a1 : Int32) (o : Int32 × GH) (hq : p_X8_ringDepth V g f a0 a1 = some o) : Met l yX8_ringDepth (Cond.code yX8_ringDepth cX8_ringDepth 4 (some .int) :: g_B) rm_X8_ringDepth (va_Pc [.ref a0, .int a1] (g_I V g D cT f n)) (g_Wi V D cT o.1 o.2 n) 0 0 (g_A V) := by
  refine g_begin (own := RX8) [.ref a0, .int a1] [(0, .ref a0), (1, .int a1)] (g_A V) (fun _ h => h) (by decide) rfl (Nat.le_of_ble_eq_true rfl) rfl ?_
  intro p e s m args below meth c hx hb hr hlocks hin hC hI ls hl
  obtain ⟨hx, hb, hml, hown, hB⟩ := id hC
  obtain ⟨H, hH⟩ : ∃ H, H = s.heap := ⟨_, rfl⟩
  obtain ⟨locs, hlocs⟩ : ∃ L : List Loc, L = [] := ⟨_, rfl⟩
  rw [← hH, ← hlocs] at hI ⊢
  clear hH hlocs
  unfold p_X8_ringDepth at hq
  replace hq := (h_me_eq hq).2
  refine lv_aload_n hx hb dX8_ringDepth_0 rfl (lv_at hl 0 rfl) ?_
  refine lv_aload_n hx hb dX8_ringDepth_1 rfl (lv_at hl 0 rfl) ?_
  refine lv_iload_n hx hb dX8_ringDepth_2 rfl (lv_at hl 1 rfl) ?_
  obtain ⟨v1, ev1, hq⟩ := b_s hq
  refine gr_i (g_runV (As := [.int a1]) (rest := [.ref a0]) (ci := 10) hC (c_X8_isCoast l V g D cT f n a0 a1 v1 ev1) k_X8_isCoast m_1630 rfl rfl ⟨Nat.le_of_ble_eq_true rfl, Nat.le_of_ble_eq_true rfl⟩ hI rfl rfl (h_me_eq ev1).1 rfl hl.1 rfl (Nat.le_of_ble_eq_true rfl) dX8_ringDepth_3 ⟨by decide, by decide⟩) hI (fun H locs hI => ?_)
  obtain ⟨v2, ev2, hq⟩ := b_s hq
  refine gw_i (g_runV (As := [.int v1]) (rest := []) (ci := 10) hC (c_X8_lacks l V g D cT f n a0 v1 v2 ev2) k_X8_lacks m_1637 rfl rfl ⟨Nat.le_of_ble_eq_true rfl, Nat.le_of_ble_eq_true rfl⟩ hI rfl rfl (h_me_eq ev2).1 rfl hl.1 rfl (Nat.le_of_ble_eq_true rfl) dX8_ringDepth_6 ⟨by decide, by decide⟩) hI (fun H locs hI => ?_)
  refine lv_if_eq (tgt := 14) hx hb dX8_ringDepth_9 (by decide) (fun c3 => ?_) (fun c3 => ?_)
  · replace hq := i_t c3 hq
    refine lv_iconst (v := (0 : Int32)) hx hb dX8_ringDepth_14 (by decide) ?_
    refine lv_istore_n (lv' := [(2, .int (0 : Int32)), (0, .ref a0), (1, .int a1)]) hx hb dX8_ringDepth_15 rfl hl (by decide) rfl (fun ls hl => ?_)
    refine lv_iconst (v := (0 : Int32)) hx hb dX8_ringDepth_16 (by decide) ?_
    refine lv_istore_n (lv' := [(3, .int (0 : Int32)), (2, .int (0 : Int32)), (0, .ref a0), (1, .int a1)]) hx hb dX8_ringDepth_17 rfl hl (by decide) rfl (fun ls hl => ?_)
    have hl18 : ∀ (K51 : Int32 → GH → Option (Int32 × GH)) (hK51 : ∀ (x2 : Int32) (f : GH) (H : Heap) (locs : List Loc) (ls : Array Slot), g_at (g_A V) V g D cT f n s H locs → lv_has ls 4 [(2, .int x2)] → K51 x2 f = some o → W p l e rm_X8_ringDepth s m args below meth c H locs 0 0 (MQ below (g_Wi V D cT o.1 o.2 n) args s 0 0 (g_A V)) (F0 m 51 ls [])) (N : Nat) (x0 : Nat) (x1 : Int32) (x2 : Int32) (x3 : Int32) (f : GH) (H : Heap) (locs : List Loc) (ls : Array Slot), g_at (g_A V) V g D cT f n s H locs → lv_has ls 4 [(0, .ref x0), (1, .int x1), (2, .int x2), (3, .int x3)] → p_X8_ringDepth_l18 V g K51 N x0 x1 x2 x3 f = some o → W p l e rm_X8_ringDepth s m args below meth c H locs 0 0 (MQ below (g_Wi V D cT o.1 o.2 n) args s 0 0 (g_A V)) (F0 m 18 ls []) := by
      intro K51 hK51 N
      induction N with
      | zero =>
        intro x0 x1 x2 x3 f H locs ls hI hl hq
        rw [p_X8_ringDepth_l18] at hq
        cases hq
      | succ N ih =>
        intro x0 x1 x2 x3 f H locs ls hI hl hq
        rw [p_X8_ringDepth_l18] at hq
        refine lv_iload_n hx hb dX8_ringDepth_18 rfl (lv_at hl 3 rfl) ?_
        refine lv_aload_n hx hb dX8_ringDepth_19 rfl (lv_at hl 0 rfl) ?_
        obtain ⟨v4, ev4, hq⟩ := b_s hq
        refine fa_gr (own := RX8) (ref := "CoastlineRulerModel") (k := 5) hx hb hB inB_RX8 hown hI rfl (by decide) m_1536 (fun _ h9 => h9) ev4 dX8_ringDepth_20 ?_
        refine lv_iconst (v := (1 : Int32)) hx hb dX8_ringDepth_23 (by decide) ?_
        obtain ⟨v5, ev5, hq⟩ := b_s hq
        refine fa_li hx hb hI ev5 dX8_ringDepth_24 ?_
        refine lv_icmp_ge (tgt := 51) hx hb dX8_ringDepth_25 (by decide) (fun c6 => ?_) (fun c6 => ?_)
        · replace hq := i_t c6 hq
          exact hK51 x2 f H locs ls hI (lv_sub hl [2] rfl) hq
        · replace hq := i_f c6 hq
          refine lv_iload_n hx hb dX8_ringDepth_28 rfl (lv_at hl 2 rfl) ?_
          refine lv_aload_n hx hb dX8_ringDepth_29 rfl (lv_at hl 0 rfl) ?_
          refine lv_iload_n hx hb dX8_ringDepth_30 rfl (lv_at hl 3 rfl) ?_
          refine lv_iload_n hx hb dX8_ringDepth_31 rfl (lv_at hl 1 rfl) ?_
          obtain ⟨v7, ev7, hq⟩ := b_s hq
          refine gr_i (g_runV (As := [.int x3, .int x1]) (rest := [.int x2]) (ci := 10) hC (c_X8_surrounds l V g D cT f n x0 x3 x1 v7 ev7) k_X8_surrounds m_1841 rfl rfl ⟨Nat.le_of_ble_eq_true rfl, Nat.le_of_ble_eq_true rfl⟩ hI rfl rfl (h_me_eq ev7).1 rfl hl.1 rfl (Nat.le_of_ble_eq_true rfl) dX8_ringDepth_32 ⟨by decide, by decide⟩) hI (fun H locs hI => ?_)
          refine lv_if_eq (tgt := 42) hx hb dX8_ringDepth_35 (by decide) (fun c8 => ?_) (fun c8 => ?_)
          · replace hq := i_t c8 hq
            refine lv_iconst (v := (0 : Int32)) hx hb dX8_ringDepth_42 (by decide) ?_
            refine lv_iadd hx hb dX8_ringDepth_43 ?_
            refine lv_istore_n (lv' := [(2, .int (x2 + (0 : Int32))), (0, .ref x0), (1, .int x1), (3, .int x3)]) hx hb dX8_ringDepth_44 rfl hl (by decide) rfl (fun ls hl => ?_)
            refine lv_iinc (v := x3 + (1 : Int32)) (lv' := [(3, .int (x3 + (1 : Int32))), (2, .int (x2 + (0 : Int32))), (0, .ref x0), (1, .int x1)]) hx hb dX8_ringDepth_45 hl (k := 3) rfl rfl (by decide) rfl (fun ls hl => ?_)
            refine lv_goto (tgt := 18) hx hb dX8_ringDepth_48 (by decide) ?_
            exact ih x0 x1 (x2 + (0 : Int32)) (x3 + (1 : Int32)) f H locs ls hI (lv_sub hl [2, 3, 1, 0] rfl) hq
          · replace hq := i_f c8 hq
            refine lv_iconst (v := (1 : Int32)) hx hb dX8_ringDepth_38 (by decide) ?_
            refine lv_goto (tgt := 43) hx hb dX8_ringDepth_39 (by decide) ?_
            refine lv_iadd hx hb dX8_ringDepth_43 ?_
            refine lv_istore_n (lv' := [(2, .int (x2 + (1 : Int32))), (0, .ref x0), (1, .int x1), (3, .int x3)]) hx hb dX8_ringDepth_44 rfl hl (by decide) rfl (fun ls hl => ?_)
            refine lv_iinc (v := x3 + (1 : Int32)) (lv' := [(3, .int (x3 + (1 : Int32))), (2, .int (x2 + (1 : Int32))), (0, .ref x0), (1, .int x1)]) hx hb dX8_ringDepth_45 hl (k := 3) rfl rfl (by decide) rfl (fun ls hl => ?_)
            refine lv_goto (tgt := 18) hx hb dX8_ringDepth_48 (by decide) ?_
            exact ih x0 x1 (x2 + (1 : Int32)) (x3 + (1 : Int32)) f H locs ls hI (lv_sub hl [2, 3, 1, 0] rfl) hq
    refine hl18 _ ?_ FU a0 a1 (0 : Int32) (0 : Int32) v2.2 H locs ls hI (lv_sub hl [2, 3, 1, 0] rfl) hq
    · intro x2 f H locs ls hI hl hq
      refine lv_iload_n hx hb dX8_ringDepth_51 rfl (lv_at hl 0 rfl) ?_
      exact ge_Wi hx hb hlocks hr rfl hI (congrArg (fun z => z.1) (Option.some.inj hq)) (congrArg (fun z => z.2) (Option.some.inj hq)) dX8_ringDepth_52
  · replace hq := i_f c3 hq
    refine lv_iconst (v := (0 : Int32)) hx hb dX8_ringDepth_12 (by decide) ?_
    exact ge_Wi hx hb hlocks hr rfl hI (congrArg (fun z => z.1) (Option.some.inj hq)) (congrArg (fun z => z.2) (Option.some.inj hq)) dX8_ringDepth_13

abbrev rm_X8_box : Room := { frames := 4, cells := 0, slots := 0, locals := 161 }
theorem k_X8_box : g_CV yX8_box cX8_box 7 (some .int) 2 := ⟨⟨m_1860, m_14, by decide +kernel⟩, m_1859, ms_50⟩
set_option maxHeartbeats 4000000 in
set_option maxRecDepth 100000 in
theorem c_X8_box (l : Launch) (V : Nat → Nat) (g : GH) (D : va_G) (cT : Nat → ClassId) (f : GH) (n : Nat) (a0 : Nat) (a1 : Int32) (a2 : Int32) (o : Int32) (hq : p_X8_box V g f a0 a1 a2 = some o) : Met l yX8_box (Cond.code yX8_box cX8_box 7 (some .int) :: g_B) rm_X8_box (va_Pc [.ref a0, .int a1, .int a2] (g_I V g D cT f n)) (g_Ri o n) 0 0 g_no := by
  refine g_begin (own := RX8) [.ref a0, .int a1, .int a2] [(0, .ref a0), (1, .int a1), (2, .int a2)] g_no (fun _ h => h.elim) (by decide) rfl (Nat.le_of_ble_eq_true rfl) rfl ?_
  intro p e s m args below meth c hx hb hr hlocks hin hC hI ls hl
  obtain ⟨hx, hb, hml, hown, hB⟩ := id hC
  obtain ⟨H, hH⟩ : ∃ H, H = s.heap := ⟨_, rfl⟩
  obtain ⟨locs, hlocs⟩ : ∃ L : List Loc, L = [] := ⟨_, rfl⟩
  rw [← hH, ← hlocs] at hI ⊢
  clear hH hlocs
  unfold p_X8_box at hq
  replace hq := (h_me_eq hq).2
  refine lv_sipush (v := (1000 : Int32)) hx hb dX8_box_0 (by decide) ?_
  refine lv_istore_n (lv' := [(3, .int (1000 : Int32)), (0, .ref a0), (1, .int a1), (2, .int a2)]) hx hb dX8_box_3 rfl hl (by decide) rfl (fun ls hl => ?_)
  refine lv_sipush (v := (-1000 : Int32)) hx hb dX8_box_4 (by decide) ?_
  refine lv_istore (lv' := [(4, .int (-1000 : Int32)), (3, .int (1000 : Int32)), (0, .ref a0), (1, .int a1), (2, .int a2)]) hx hb dX8_box_7 hl (by decide) rfl (fun ls hl => ?_)
  refine lv_iconst (v := (0 : Int32)) hx hb dX8_box_9 (by decide) ?_
  refine lv_istore (lv' := [(5, .int (0 : Int32)), (4, .int (-1000 : Int32)), (3, .int (1000 : Int32)), (0, .ref a0), (1, .int a1), (2, .int a2)]) hx hb dX8_box_10 hl (by decide) rfl (fun ls hl => ?_)
  have hl12 : ∀ (K77 : Int32 → Int32 → Option Int32) (hK77 : ∀ (x3 : Int32) (x4 : Int32) (H : Heap) (locs : List Loc) (ls : Array Slot), g_at g_no V g D cT f n s H locs → lv_has ls 7 [(3, .int x3), (4, .int x4)] → K77 x3 x4 = some o → W p l e rm_X8_box s m args below meth c H locs 0 0 (MQ below (g_Ri o n) args s 0 0 g_no) (F0 m 77 ls [])) (N : Nat) (x0 : Nat) (x1 : Int32) (x2 : Int32) (x3 : Int32) (x4 : Int32) (x5 : Int32) (H : Heap) (locs : List Loc) (ls : Array Slot), g_at g_no V g D cT f n s H locs → lv_has ls 7 [(0, .ref x0), (1, .int x1), (2, .int x2), (3, .int x3), (4, .int x4), (5, .int x5)] → p_X8_box_l12 V g f K77 N x0 x1 x2 x3 x4 x5 = some o → W p l e rm_X8_box s m args below meth c H locs 0 0 (MQ below (g_Ri o n) args s 0 0 g_no) (F0 m 12 ls []) := by
    intro K77 hK77 N
    induction N with
    | zero =>
      intro x0 x1 x2 x3 x4 x5 H locs ls hI hl hq
      rw [p_X8_box_l12] at hq
      cases hq
    | succ N ih =>
      intro x0 x1 x2 x3 x4 x5 H locs ls hI hl hq
      rw [p_X8_box_l12] at hq
      refine lv_iload hx hb dX8_box_12 (lv_at hl 5 rfl) ?_
      refine lv_aload_n hx hb dX8_box_14 rfl (lv_at hl 0 rfl) ?_
      refine lv_iload_n hx hb dX8_box_15 rfl (lv_at hl 1 rfl) ?_
      obtain ⟨v1, ev1, hq⟩ := b_s hq
      refine gr_i (g_runV (As := [.int x1]) (rest := [.int x5]) (ci := 10) hC (c_X8_count l V g D cT f n x0 x1 v1 ev1) k_X8_count m_1527 rfl rfl ⟨Nat.le_of_ble_eq_true rfl, Nat.le_of_ble_eq_true rfl⟩ hI rfl rfl (h_me_eq ev1).1 rfl hl.1 rfl (Nat.le_of_ble_eq_true rfl) dX8_box_16 ⟨by decide, by decide⟩) hI (fun H locs hI => ?_)
      refine lv_icmp_ge (tgt := 77) hx hb dX8_box_19 (by decide) (fun c2 => ?_) (fun c2 => ?_)
      · replace hq := i_t c2 hq
        exact hK77 x3 x4 H locs ls hI (lv_sub hl [3, 4] rfl) hq
      · replace hq := i_f c2 hq
        refine lv_aload_n hx hb dX8_box_22 rfl (lv_at hl 0 rfl) ?_
        obtain ⟨v3, ev3, hq⟩ := b_s hq
        refine fa_gr (own := RX8) (ref := "CoastlineRulerModel") (k := 5) hx hb hB inB_RX8 hown hI rfl (by decide) m_1536 (fun _ h9 => h9) ev3 dX8_box_23 ?_
        refine lv_iload_n hx hb dX8_box_26 rfl (lv_at hl 1 rfl) ?_
        obtain ⟨v4, ev4, hq⟩ := b_s hq
        refine gr_i (g_runS (As := [.int x1]) (rest := [.ref v3]) hC (c_X8_at l V g D cT f n x1 v4 ev4) k_X8_at m_1515 rfl rfl ⟨Nat.le_of_ble_eq_true rfl, Nat.le_of_ble_eq_true rfl⟩ hI rfl hl.1 rfl (Nat.le_of_ble_eq_true rfl) dX8_box_27 ⟨by decide, by decide⟩) hI (fun H locs hI => ?_)
        refine lv_iconst (v := (2 : Int32)) hx hb dX8_box_30 (by decide) ?_
        refine lv_iadd hx hb dX8_box_31 ?_
        refine lv_iconst (v := (2 : Int32)) hx hb dX8_box_32 (by decide) ?_
        refine lv_iload hx hb dX8_box_33 (lv_at hl 5 rfl) ?_
        refine lv_imul hx hb dX8_box_35 ?_
        refine lv_iadd hx hb dX8_box_36 ?_
        refine lv_iload_n hx hb dX8_box_37 rfl (lv_at hl 2 rfl) ?_
        refine lv_iadd hx hb dX8_box_38 ?_
        obtain ⟨v5, ev5, hq⟩ := b_s hq
        refine fa_li hx hb hI ev5 dX8_box_39 ?_
        refine lv_istore (lv' := [(6, .int v5), (0, .ref x0), (1, .int x1), (2, .int x2), (3, .int x3), (4, .int x4), (5, .int x5)]) hx hb dX8_box_40 hl (by decide) rfl (fun ls hl => ?_)
        refine lv_iload hx hb dX8_box_42 (lv_at hl 0 rfl) ?_
        refine lv_iload_n hx hb dX8_box_44 rfl (lv_at hl 4 rfl) ?_
        have hj54 : ∀ (x0 : Nat) (x1 : Int32) (x2 : Int32) (x4 : Int32) (x5 : Int32) (x6 : Int32) (t0 : Int32) (H : Heap) (locs : List Loc) (ls : Array Slot), g_at g_no V g D cT f n s H locs → lv_has ls 7 [(0, .ref x0), (1, .int x1), (2, .int x2), (4, .int x4), (5, .int x5), (6, .int x6)] → p_X8_box_j54 V g f (p_X8_box_l12 V g f K77 N) x0 x1 x2 x4 x5 x6 t0 = some o → W p l e rm_X8_box s m args below meth c H locs 0 0 (MQ below (g_Ri o n) args s 0 0 g_no) (F0 m 54 ls [.int t0]) := by
          intro x0 x1 x2 x4 x5 x6 t0 H locs ls hI hl hq
          unfold p_X8_box_j54 at hq
          refine lv_istore_n (lv' := [(3, .int t0), (0, .ref x0), (1, .int x1), (2, .int x2), (4, .int x4), (5, .int x5), (6, .int x6)]) hx hb dX8_box_54 rfl hl (by decide) rfl (fun ls hl => ?_)
          refine lv_iload hx hb dX8_box_55 (lv_at hl 6 rfl) ?_
          refine lv_iload hx hb dX8_box_57 (lv_at hl 4 rfl) ?_
          refine lv_icmp_le (tgt := 67) hx hb dX8_box_59 (by decide) (fun c6 => ?_) (fun c6 => ?_)
          · replace hq := i_t c6 hq
            refine lv_iload hx hb dX8_box_67 (lv_at hl 4 rfl) ?_
            refine lv_istore (lv' := [(4, .int x4), (3, .int t0), (0, .ref x0), (1, .int x1), (2, .int x2), (5, .int x5), (6, .int x6)]) hx hb dX8_box_69 hl (by decide) rfl (fun ls hl => ?_)
            refine lv_iinc (v := x5 + (1 : Int32)) (lv' := [(5, .int (x5 + (1 : Int32))), (4, .int x4), (3, .int t0), (0, .ref x0), (1, .int x1), (2, .int x2), (6, .int x6)]) hx hb dX8_box_71 hl (k := 5) rfl rfl (by decide) rfl (fun ls hl => ?_)
            refine lv_goto (tgt := 12) hx hb dX8_box_74 (by decide) ?_
            exact ih x0 x1 x2 t0 x4 (x5 + (1 : Int32)) H locs ls hI (lv_sub hl [3, 4, 5, 2, 1, 0] rfl) hq
          · replace hq := i_f c6 hq
            refine lv_iload hx hb dX8_box_62 (lv_at hl 6 rfl) ?_
            refine lv_goto (tgt := 69) hx hb dX8_box_64 (by decide) ?_
            refine lv_istore (lv' := [(4, .int x6), (3, .int t0), (0, .ref x0), (1, .int x1), (2, .int x2), (5, .int x5), (6, .int x6)]) hx hb dX8_box_69 hl (by decide) rfl (fun ls hl => ?_)
            refine lv_iinc (v := x5 + (1 : Int32)) (lv' := [(5, .int (x5 + (1 : Int32))), (4, .int x6), (3, .int t0), (0, .ref x0), (1, .int x1), (2, .int x2), (6, .int x6)]) hx hb dX8_box_71 hl (k := 5) rfl rfl (by decide) rfl (fun ls hl => ?_)
            refine lv_goto (tgt := 12) hx hb dX8_box_74 (by decide) ?_
            exact ih x0 x1 x2 t0 x6 (x5 + (1 : Int32)) H locs ls hI (lv_sub hl [3, 4, 5, 2, 1, 0] rfl) hq
        refine lv_icmp_ge (tgt := 53) hx hb dX8_box_45 (by decide) (fun c7 => ?_) (fun c7 => ?_)
        · replace hq := i_t c7 hq
          refine lv_iload_n hx hb dX8_box_53 rfl (lv_at hl 4 rfl) ?_
          exact hj54 x0 x1 x2 x4 x5 v5 x3 H locs ls hI (lv_sub hl [1, 2, 3, 5, 6, 0] rfl) hq
        · replace hq := i_f c7 hq
          refine lv_iload hx hb dX8_box_48 (lv_at hl 0 rfl) ?_
          refine lv_goto (tgt := 54) hx hb dX8_box_50 (by decide) ?_
          exact hj54 x0 x1 x2 x4 x5 v5 v5 H locs ls hI (lv_sub hl [1, 2, 3, 5, 6, 0] rfl) hq
  refine hl12 _ ?_ FU a0 a1 a2 (1000 : Int32) (-1000 : Int32) (0 : Int32) H locs ls hI (lv_sub hl [3, 4, 5, 2, 1, 0] rfl) hq
  · intro x3 x4 H locs ls hI hl hq
    refine lv_iload hx hb dX8_box_77 (lv_at hl 1 rfl) ?_
    refine lv_iload_n hx hb dX8_box_79 rfl (lv_at hl 0 rfl) ?_
    refine lv_isub hx hb dX8_box_80 ?_
    exact ge_Ri hx hb hlocks hr rfl hI hq dX8_box_81

abbrev rm_X8_boxWidth : Room := { frames := 5, cells := 0, slots := 0, locals := 187 }
theorem k_X8_boxWidth : g_CV yX8_boxWidth cX8_boxWidth 2 (some .int) 1 := ⟨⟨m_1856, m_14, by decide +kernel⟩, m_1854, m_1855⟩
set_option maxHeartbeats 4000000 in
set_option maxRecDepth 100000 in
theorem c_X8_boxWidth (l : Launch) (V : Nat → Nat) (g : GH) (D : va_G) (cT : Nat → ClassId) (f : GH) (n : Nat) (a0 : Nat) (a1 : Int32) (o : Int32 × GH) (hq : p_X8_boxWidth V g f a0 a1 = some o) : Met l yX8_boxWidth (Cond.code yX8_boxWidth cX8_boxWidth 2 (some .int) :: g_B) rm_X8_boxWidth (va_Pc [.ref a0, .int a1] (g_I V g D cT f n)) (g_Wi V D cT o.1 o.2 n) 0 0 (g_A V) := by
  refine g_begin (own := RX8) [.ref a0, .int a1] [(0, .ref a0), (1, .int a1)] (g_A V) (fun _ h => h) (by decide) rfl (Nat.le_of_ble_eq_true rfl) rfl ?_
  intro p e s m args below meth c hx hb hr hlocks hin hC hI ls hl
  obtain ⟨hx, hb, hml, hown, hB⟩ := id hC
  obtain ⟨H, hH⟩ : ∃ H, H = s.heap := ⟨_, rfl⟩
  obtain ⟨locs, hlocs⟩ : ∃ L : List Loc, L = [] := ⟨_, rfl⟩
  rw [← hH, ← hlocs] at hI ⊢
  clear hH hlocs
  unfold p_X8_boxWidth at hq
  replace hq := (h_me_eq hq).2
  refine lv_aload_n hx hb dX8_boxWidth_0 rfl (lv_at hl 0 rfl) ?_
  refine lv_aload_n hx hb dX8_boxWidth_1 rfl (lv_at hl 0 rfl) ?_
  refine lv_iload_n hx hb dX8_boxWidth_2 rfl (lv_at hl 1 rfl) ?_
  obtain ⟨v1, ev1, hq⟩ := b_s hq
  refine gr_i (g_runV (As := [.int a1]) (rest := [.ref a0]) (ci := 10) hC (c_X8_isCoast l V g D cT f n a0 a1 v1 ev1) k_X8_isCoast m_1630 rfl rfl ⟨Nat.le_of_ble_eq_true rfl, Nat.le_of_ble_eq_true rfl⟩ hI rfl rfl (h_me_eq ev1).1 rfl hl.1 rfl (Nat.le_of_ble_eq_true rfl) dX8_boxWidth_3 ⟨by decide, by decide⟩) hI (fun H locs hI => ?_)
  obtain ⟨v2, ev2, hq⟩ := b_s hq
  refine gw_i (g_runV (As := [.int v1]) (rest := []) (ci := 10) hC (c_X8_lacks l V g D cT f n a0 v1 v2 ev2) k_X8_lacks m_1637 rfl rfl ⟨Nat.le_of_ble_eq_true rfl, Nat.le_of_ble_eq_true rfl⟩ hI rfl rfl (h_me_eq ev2).1 rfl hl.1 rfl (Nat.le_of_ble_eq_true rfl) dX8_boxWidth_6 ⟨by decide, by decide⟩) hI (fun H locs hI => ?_)
  refine lv_if_eq (tgt := 16) hx hb dX8_boxWidth_9 (by decide) (fun c3 => ?_) (fun c3 => ?_)
  · replace hq := i_t c3 hq
    refine lv_aload_n hx hb dX8_boxWidth_16 rfl (lv_at hl 0 rfl) ?_
    refine lv_iload_n hx hb dX8_boxWidth_17 rfl (lv_at hl 1 rfl) ?_
    refine lv_iconst (v := (0 : Int32)) hx hb dX8_boxWidth_18 (by decide) ?_
    obtain ⟨v4, ev4, hq⟩ := b_s hq
    refine gr_i (g_runV (As := [.int a1, .int (0 : Int32)]) (rest := []) (ci := 10) hC (c_X8_box l V g D cT v2.2 n a0 a1 (0 : Int32) v4 ev4) k_X8_box m_1857 rfl rfl ⟨Nat.le_of_ble_eq_true rfl, Nat.le_of_ble_eq_true rfl⟩ hI rfl rfl (h_me_eq ev4).1 rfl hl.1 rfl (Nat.le_of_ble_eq_true rfl) dX8_boxWidth_19 ⟨by decide, by decide⟩) hI (fun H locs hI => ?_)
    exact ge_Wi hx hb hlocks hr rfl hI (congrArg (fun z => z.1) (Option.some.inj hq)) (congrArg (fun z => z.2) (Option.some.inj hq)) dX8_boxWidth_22
  · replace hq := i_f c3 hq
    refine lv_iconst (v := (0 : Int32)) hx hb dX8_boxWidth_12 (by decide) ?_
    refine lv_goto (tgt := 22) hx hb dX8_boxWidth_13 (by decide) ?_
    exact ge_Wi hx hb hlocks hr rfl hI (congrArg (fun z => z.1) (Option.some.inj hq)) (congrArg (fun z => z.2) (Option.some.inj hq)) dX8_boxWidth_22

abbrev rm_X8_boxHeight : Room := { frames := 5, cells := 0, slots := 0, locals := 187 }
theorem k_X8_boxHeight : g_CV yX8_boxHeight cX8_boxHeight 2 (some .int) 1 := ⟨⟨m_1864, m_14, by decide +kernel⟩, m_1862, m_1863⟩
set_option maxHeartbeats 4000000 in
set_option maxRecDepth 100000 in
theorem c_X8_boxHeight (l : Launch) (V : Nat → Nat) (g : GH) (D : va_G) (cT : Nat → ClassId) (f : GH) (n : Nat) (a0 : Nat) (a1 : Int32) (o : Int32 × GH) (hq : p_X8_boxHeight V g f a0 a1 = some o) : Met l yX8_boxHeight (Cond.code yX8_boxHeight cX8_boxHeight 2 (some .int) :: g_B) rm_X8_boxHeight (va_Pc [.ref a0, .int a1] (g_I V g D cT f n)) (g_Wi V D cT o.1 o.2 n) 0 0 (g_A V) := by
  refine g_begin (own := RX8) [.ref a0, .int a1] [(0, .ref a0), (1, .int a1)] (g_A V) (fun _ h => h) (by decide) rfl (Nat.le_of_ble_eq_true rfl) rfl ?_
  intro p e s m args below meth c hx hb hr hlocks hin hC hI ls hl
  obtain ⟨hx, hb, hml, hown, hB⟩ := id hC
  obtain ⟨H, hH⟩ : ∃ H, H = s.heap := ⟨_, rfl⟩
  obtain ⟨locs, hlocs⟩ : ∃ L : List Loc, L = [] := ⟨_, rfl⟩
  rw [← hH, ← hlocs] at hI ⊢
  clear hH hlocs
  unfold p_X8_boxHeight at hq
  replace hq := (h_me_eq hq).2
  refine lv_aload_n hx hb dX8_boxHeight_0 rfl (lv_at hl 0 rfl) ?_
  refine lv_aload_n hx hb dX8_boxHeight_1 rfl (lv_at hl 0 rfl) ?_
  refine lv_iload_n hx hb dX8_boxHeight_2 rfl (lv_at hl 1 rfl) ?_
  obtain ⟨v1, ev1, hq⟩ := b_s hq
  refine gr_i (g_runV (As := [.int a1]) (rest := [.ref a0]) (ci := 10) hC (c_X8_isCoast l V g D cT f n a0 a1 v1 ev1) k_X8_isCoast m_1630 rfl rfl ⟨Nat.le_of_ble_eq_true rfl, Nat.le_of_ble_eq_true rfl⟩ hI rfl rfl (h_me_eq ev1).1 rfl hl.1 rfl (Nat.le_of_ble_eq_true rfl) dX8_boxHeight_3 ⟨by decide, by decide⟩) hI (fun H locs hI => ?_)
  obtain ⟨v2, ev2, hq⟩ := b_s hq
  refine gw_i (g_runV (As := [.int v1]) (rest := []) (ci := 10) hC (c_X8_lacks l V g D cT f n a0 v1 v2 ev2) k_X8_lacks m_1637 rfl rfl ⟨Nat.le_of_ble_eq_true rfl, Nat.le_of_ble_eq_true rfl⟩ hI rfl rfl (h_me_eq ev2).1 rfl hl.1 rfl (Nat.le_of_ble_eq_true rfl) dX8_boxHeight_6 ⟨by decide, by decide⟩) hI (fun H locs hI => ?_)
  refine lv_if_eq (tgt := 16) hx hb dX8_boxHeight_9 (by decide) (fun c3 => ?_) (fun c3 => ?_)
  · replace hq := i_t c3 hq
    refine lv_aload_n hx hb dX8_boxHeight_16 rfl (lv_at hl 0 rfl) ?_
    refine lv_iload_n hx hb dX8_boxHeight_17 rfl (lv_at hl 1 rfl) ?_
    refine lv_iconst (v := (1 : Int32)) hx hb dX8_boxHeight_18 (by decide) ?_
    obtain ⟨v4, ev4, hq⟩ := b_s hq
    refine gr_i (g_runV (As := [.int a1, .int (1 : Int32)]) (rest := []) (ci := 10) hC (c_X8_box l V g D cT v2.2 n a0 a1 (1 : Int32) v4 ev4) k_X8_box m_1857 rfl rfl ⟨Nat.le_of_ble_eq_true rfl, Nat.le_of_ble_eq_true rfl⟩ hI rfl rfl (h_me_eq ev4).1 rfl hl.1 rfl (Nat.le_of_ble_eq_true rfl) dX8_boxHeight_19 ⟨by decide, by decide⟩) hI (fun H locs hI => ?_)
    exact ge_Wi hx hb hlocks hr rfl hI (congrArg (fun z => z.1) (Option.some.inj hq)) (congrArg (fun z => z.2) (Option.some.inj hq)) dX8_boxHeight_22
  · replace hq := i_f c3 hq
    refine lv_iconst (v := (0 : Int32)) hx hb dX8_boxHeight_12 (by decide) ?_
    refine lv_goto (tgt := 22) hx hb dX8_boxHeight_13 (by decide) ?_
    exact ge_Wi hx hb hlocks hr rfl hI (congrArg (fun z => z.1) (Option.some.inj hq)) (congrArg (fun z => z.2) (Option.some.inj hq)) dX8_boxHeight_22

abbrev rm_X8_foldedCount : Room := { frames := 4, cells := 0, slots := 0, locals := 161 }
theorem k_X8_foldedCount : g_CV yX8_foldedCount cX8_foldedCount 2 (some .int) 1 := ⟨⟨m_1879, m_14, by decide +kernel⟩, m_1878, ms_52⟩
set_option maxHeartbeats 4000000 in
set_option maxRecDepth 100000 in
theorem c_X8_foldedCount (l : Launch) (V : Nat → Nat) (g : GH) (D : va_G) (cT : Nat → ClassId) (f : GH) (n : Nat) (a0 : Nat) (a1 : Int32) (o : Int32) (hq : p_X8_foldedCount V g f a0 a1 = some o) : Met l yX8_foldedCount (Cond.code yX8_foldedCount cX8_foldedCount 2 (some .int) :: g_B) rm_X8_foldedCount (va_Pc [.ref a0, .int a1] (g_I V g D cT f n)) (g_Ri o n) 0 0 g_no := by
  refine g_begin (own := RX8) [.ref a0, .int a1] [(0, .ref a0), (1, .int a1)] g_no (fun _ h => h.elim) (by decide) rfl (Nat.le_of_ble_eq_true rfl) rfl ?_
  intro p e s m args below meth c hx hb hr hlocks hin hC hI ls hl
  obtain ⟨hx, hb, hml, hown, hB⟩ := id hC
  obtain ⟨H, hH⟩ : ∃ H, H = s.heap := ⟨_, rfl⟩
  obtain ⟨locs, hlocs⟩ : ∃ L : List Loc, L = [] := ⟨_, rfl⟩
  rw [← hH, ← hlocs] at hI ⊢
  clear hH hlocs
  unfold p_X8_foldedCount at hq
  replace hq := (h_me_eq hq).2
  refine lv_aload_n hx hb dX8_foldedCount_0 rfl (lv_at hl 0 rfl) ?_
  refine lv_iload_n hx hb dX8_foldedCount_1 rfl (lv_at hl 1 rfl) ?_
  obtain ⟨v1, ev1, hq⟩ := b_s hq
  refine gr_i (g_runV (As := [.int a1]) (rest := []) (ci := 10) hC (c_X8_island l V g D cT f n a0 a1 v1 ev1) k_X8_island m_1641 rfl rfl ⟨Nat.le_of_ble_eq_true rfl, Nat.le_of_ble_eq_true rfl⟩ hI rfl rfl (h_me_eq ev1).1 rfl hl.1 rfl (Nat.le_of_ble_eq_true rfl) dX8_foldedCount_2 ⟨by decide, by decide⟩) hI (fun H locs hI => ?_)
  refine lv_if_eq (tgt := 18) hx hb dX8_foldedCount_5 (by decide) (fun c2 => ?_) (fun c2 => ?_)
  · replace hq := i_t c2 hq
    refine lv_iconst (v := (2 : Int32)) hx hb dX8_foldedCount_18 (by decide) ?_
    refine lv_aload_n hx hb dX8_foldedCount_19 rfl (lv_at hl 0 rfl) ?_
    refine lv_iload_n hx hb dX8_foldedCount_20 rfl (lv_at hl 1 rfl) ?_
    obtain ⟨v3, ev3, hq⟩ := b_s hq
    refine gr_i (g_runV (As := [.int a1]) (rest := [.int (2 : Int32)]) (ci := 10) hC (c_X8_count l V g D cT f n a0 a1 v3 ev3) k_X8_count m_1527 rfl rfl ⟨Nat.le_of_ble_eq_true rfl, Nat.le_of_ble_eq_true rfl⟩ hI rfl rfl (h_me_eq ev3).1 rfl hl.1 rfl (Nat.le_of_ble_eq_true rfl) dX8_foldedCount_21 ⟨by decide, by decide⟩) hI (fun H locs hI => ?_)
    refine lv_imul hx hb dX8_foldedCount_24 ?_
    refine lv_iconst (v := (1 : Int32)) hx hb dX8_foldedCount_25 (by decide) ?_
    refine lv_isub hx hb dX8_foldedCount_26 ?_
    exact ge_Ri hx hb hlocks hr rfl hI hq dX8_foldedCount_27
  · replace hq := i_f c2 hq
    refine lv_iconst (v := (2 : Int32)) hx hb dX8_foldedCount_8 (by decide) ?_
    refine lv_aload_n hx hb dX8_foldedCount_9 rfl (lv_at hl 0 rfl) ?_
    refine lv_iload_n hx hb dX8_foldedCount_10 rfl (lv_at hl 1 rfl) ?_
    obtain ⟨v4, ev4, hq⟩ := b_s hq
    refine gr_i (g_runV (As := [.int a1]) (rest := [.int (2 : Int32)]) (ci := 10) hC (c_X8_count l V g D cT f n a0 a1 v4 ev4) k_X8_count m_1527 rfl rfl ⟨Nat.le_of_ble_eq_true rfl, Nat.le_of_ble_eq_true rfl⟩ hI rfl rfl (h_me_eq ev4).1 rfl hl.1 rfl (Nat.le_of_ble_eq_true rfl) dX8_foldedCount_11 ⟨by decide, by decide⟩) hI (fun H locs hI => ?_)
    refine lv_imul hx hb dX8_foldedCount_14 ?_
    refine lv_goto (tgt := 27) hx hb dX8_foldedCount_15 (by decide) ?_
    exact ge_Ri hx hb hlocks hr rfl hI hq dX8_foldedCount_27

abbrev rm_X8_layMiddle : Room := { frames := 5, cells := 0, slots := 0, locals := 183 }
theorem k_X8_layMiddle : g_CV yX8_layMiddle cX8_layMiddle 11 (some .boolean) 3 := ⟨⟨m_1887, m_14, by decide +kernel⟩, m_1886, ms_54⟩
set_option maxHeartbeats 4000000 in
set_option maxRecDepth 100000 in
theorem c_X8_layMiddle (l : Launch) (V : Nat → Nat) (g : GH) (D : va_G) (cT : Nat → ClassId) (f : GH) (n : Nat) (a0 : Nat) (a1 : Int32) (a2 : Int32) (a3 : Int32) (o : Int32 × GH) (hq : p_X8_layMiddle V g f a0 a1 a2 a3 = some o) : Met l yX8_layMiddle (Cond.code yX8_layMiddle cX8_layMiddle 11 (some .boolean) :: g_B) rm_X8_layMiddle (va_Pc [.ref a0, .int a1, .int a2, .int a3] (g_I V g D cT f n)) (g_Wi V D cT o.1 o.2 n) 0 0 (g_A V) := by
  refine g_begin (own := RX8) [.ref a0, .int a1, .int a2, .int a3] [(0, .ref a0), (1, .int a1), (2, .int a2), (3, .int a3)] (g_A V) (fun _ h => h) (by decide) rfl (Nat.le_of_ble_eq_true rfl) rfl ?_
  intro p e s m args below meth c hx hb hr hlocks hin hC hI ls hl
  obtain ⟨hx, hb, hml, hown, hB⟩ := id hC
  obtain ⟨H, hH⟩ : ∃ H, H = s.heap := ⟨_, rfl⟩
  obtain ⟨locs, hlocs⟩ : ∃ L : List Loc, L = [] := ⟨_, rfl⟩
  rw [← hH, ← hlocs] at hI ⊢
  clear hH hlocs
  unfold p_X8_layMiddle at hq
  replace hq := (h_me_eq hq).2
  refine lv_aload_n hx hb dX8_layMiddle_0 rfl (lv_at hl 0 rfl) ?_
  refine lv_iload_n hx hb dX8_layMiddle_1 rfl (lv_at hl 1 rfl) ?_
  refine lv_iload_n hx hb dX8_layMiddle_2 rfl (lv_at hl 2 rfl) ?_
  obtain ⟨v1, ev1, hq⟩ := b_s hq
  refine gr_i (g_runV (As := [.int a1, .int a2]) (rest := []) (ci := 10) hC (c_X8_next l V g D cT f n a0 a1 a2 v1 ev1) k_X8_next m_1803 rfl rfl ⟨Nat.le_of_ble_eq_true rfl, Nat.le_of_ble_eq_true rfl⟩ hI rfl rfl (h_me_eq ev1).1 rfl hl.1 rfl (Nat.le_of_ble_eq_true rfl) dX8_layMiddle_3 ⟨by decide, by decide⟩) hI (fun H locs hI => ?_)
  refine lv_istore (lv' := [(4, .int v1), (0, .ref a0), (1, .int a1), (2, .int a2), (3, .int a3)]) hx hb dX8_layMiddle_6 hl (by decide) rfl (fun ls hl => ?_)
  refine lv_aload_n hx hb dX8_layMiddle_8 rfl (lv_at hl 1 rfl) ?_
  refine lv_iload_n hx hb dX8_layMiddle_9 rfl (lv_at hl 2 rfl) ?_
  refine lv_iload hx hb dX8_layMiddle_10 (lv_at hl 0 rfl) ?_
  obtain ⟨v2, ev2, hq⟩ := b_s hq
  refine gr_i (g_runV (As := [.int a1, .int v1]) (rest := []) (ci := 10) hC (c_X8_x l V g D cT f n a0 a1 v1 v2 ev2) k_X8_x m_1657 rfl rfl ⟨Nat.le_of_ble_eq_true rfl, Nat.le_of_ble_eq_true rfl⟩ hI rfl rfl (h_me_eq ev2).1 rfl hl.1 rfl (Nat.le_of_ble_eq_true rfl) dX8_layMiddle_12 ⟨by decide, by decide⟩) hI (fun H locs hI => ?_)
  refine lv_aload_n hx hb dX8_layMiddle_15 rfl (lv_at hl 1 rfl) ?_
  refine lv_iload_n hx hb dX8_layMiddle_16 rfl (lv_at hl 2 rfl) ?_
  refine lv_iload_n hx hb dX8_layMiddle_17 rfl (lv_at hl 3 rfl) ?_
  obtain ⟨v3, ev3, hq⟩ := b_s hq
  refine gr_i (g_runV (As := [.int a1, .int a2]) (rest := [.int v2]) (ci := 10) hC (c_X8_x l V g D cT f n a0 a1 a2 v3 ev3) k_X8_x m_1657 rfl rfl ⟨Nat.le_of_ble_eq_true rfl, Nat.le_of_ble_eq_true rfl⟩ hI rfl rfl (h_me_eq ev3).1 rfl hl.1 rfl (Nat.le_of_ble_eq_true rfl) dX8_layMiddle_18 ⟨by decide, by decide⟩) hI (fun H locs hI => ?_)
  refine lv_isub hx hb dX8_layMiddle_21 ?_
  refine lv_istore (lv' := [(5, .int (v2 - v3)), (4, .int v1), (0, .ref a0), (1, .int a1), (2, .int a2), (3, .int a3)]) hx hb dX8_layMiddle_22 hl (by decide) rfl (fun ls hl => ?_)
  refine lv_aload_n hx hb dX8_layMiddle_24 rfl (lv_at hl 2 rfl) ?_
  refine lv_iload_n hx hb dX8_layMiddle_25 rfl (lv_at hl 3 rfl) ?_
  refine lv_iload hx hb dX8_layMiddle_26 (lv_at hl 1 rfl) ?_
  obtain ⟨v4, ev4, hq⟩ := b_s hq
  refine gr_i (g_runV (As := [.int a1, .int v1]) (rest := []) (ci := 10) hC (c_X8_y l V g D cT f n a0 a1 v1 v4 ev4) k_X8_y m_1665 rfl rfl ⟨Nat.le_of_ble_eq_true rfl, Nat.le_of_ble_eq_true rfl⟩ hI rfl rfl (h_me_eq ev4).1 rfl hl.1 rfl (Nat.le_of_ble_eq_true rfl) dX8_layMiddle_28 ⟨by decide, by decide⟩) hI (fun H locs hI => ?_)
  refine lv_aload_n hx hb dX8_layMiddle_31 rfl (lv_at hl 2 rfl) ?_
  refine lv_iload_n hx hb dX8_layMiddle_32 rfl (lv_at hl 3 rfl) ?_
  refine lv_iload_n hx hb dX8_layMiddle_33 rfl (lv_at hl 4 rfl) ?_
  obtain ⟨v5, ev5, hq⟩ := b_s hq
  refine gr_i (g_runV (As := [.int a1, .int a2]) (rest := [.int v4]) (ci := 10) hC (c_X8_y l V g D cT f n a0 a1 a2 v5 ev5) k_X8_y m_1665 rfl rfl ⟨Nat.le_of_ble_eq_true rfl, Nat.le_of_ble_eq_true rfl⟩ hI rfl rfl (h_me_eq ev5).1 rfl hl.1 rfl (Nat.le_of_ble_eq_true rfl) dX8_layMiddle_34 ⟨by decide, by decide⟩) hI (fun H locs hI => ?_)
  refine lv_isub hx hb dX8_layMiddle_37 ?_
  refine lv_istore (lv' := [(6, .int (v4 - v5)), (5, .int (v2 - v3)), (4, .int v1), (0, .ref a0), (1, .int a1), (2, .int a2), (3, .int a3)]) hx hb dX8_layMiddle_38 hl (by decide) rfl (fun ls hl => ?_)
  refine lv_aload_n hx hb dX8_layMiddle_40 rfl (lv_at hl 3 rfl) ?_
  refine lv_iload_n hx hb dX8_layMiddle_41 rfl (lv_at hl 4 rfl) ?_
  refine lv_iload_n hx hb dX8_layMiddle_42 rfl (lv_at hl 5 rfl) ?_
  obtain ⟨v6, ev6, hq⟩ := b_s hq
  refine gr_i (g_runV (As := [.int a1, .int a2]) (rest := []) (ci := 10) hC (c_X8_x l V g D cT f n a0 a1 a2 v6 ev6) k_X8_x m_1657 rfl rfl ⟨Nat.le_of_ble_eq_true rfl, Nat.le_of_ble_eq_true rfl⟩ hI rfl rfl (h_me_eq ev6).1 rfl hl.1 rfl (Nat.le_of_ble_eq_true rfl) dX8_layMiddle_43 ⟨by decide, by decide⟩) hI (fun H locs hI => ?_)
  refine lv_aload_n hx hb dX8_layMiddle_46 rfl (lv_at hl 3 rfl) ?_
  refine lv_iload_n hx hb dX8_layMiddle_47 rfl (lv_at hl 4 rfl) ?_
  refine lv_iload hx hb dX8_layMiddle_48 (lv_at hl 2 rfl) ?_
  obtain ⟨v7, ev7, hq⟩ := b_s hq
  refine gr_i (g_runV (As := [.int a1, .int v1]) (rest := [.int v6]) (ci := 10) hC (c_X8_x l V g D cT f n a0 a1 v1 v7 ev7) k_X8_x m_1657 rfl rfl ⟨Nat.le_of_ble_eq_true rfl, Nat.le_of_ble_eq_true rfl⟩ hI rfl rfl (h_me_eq ev7).1 rfl hl.1 rfl (Nat.le_of_ble_eq_true rfl) dX8_layMiddle_50 ⟨by decide, by decide⟩) hI (fun H locs hI => ?_)
  refine lv_iadd hx hb dX8_layMiddle_53 ?_
  refine lv_iconst (v := (1 : Int32)) hx hb dX8_layMiddle_54 (by decide) ?_
  refine lv_ishr hx hb dX8_layMiddle_55 ?_
  refine lv_istore (lv' := [(7, .int ((v6 + v7) >>> ((1 : Int32) &&& 31))), (6, .int (v4 - v5)), (5, .int (v2 - v3)), (4, .int v1), (0, .ref a0), (1, .int a1), (2, .int a2), (3, .int a3)]) hx hb dX8_layMiddle_56 hl (by decide) rfl (fun ls hl => ?_)
  refine lv_aload_n hx hb dX8_layMiddle_58 rfl (lv_at hl 4 rfl) ?_
  refine lv_iload_n hx hb dX8_layMiddle_59 rfl (lv_at hl 5 rfl) ?_
  refine lv_iload_n hx hb dX8_layMiddle_60 rfl (lv_at hl 6 rfl) ?_
  obtain ⟨v8, ev8, hq⟩ := b_s hq
  refine gr_i (g_runV (As := [.int a1, .int a2]) (rest := []) (ci := 10) hC (c_X8_y l V g D cT f n a0 a1 a2 v8 ev8) k_X8_y m_1665 rfl rfl ⟨Nat.le_of_ble_eq_true rfl, Nat.le_of_ble_eq_true rfl⟩ hI rfl rfl (h_me_eq ev8).1 rfl hl.1 rfl (Nat.le_of_ble_eq_true rfl) dX8_layMiddle_61 ⟨by decide, by decide⟩) hI (fun H locs hI => ?_)
  refine lv_aload_n hx hb dX8_layMiddle_64 rfl (lv_at hl 4 rfl) ?_
  refine lv_iload_n hx hb dX8_layMiddle_65 rfl (lv_at hl 5 rfl) ?_
  refine lv_iload hx hb dX8_layMiddle_66 (lv_at hl 3 rfl) ?_
  obtain ⟨v9, ev9, hq⟩ := b_s hq
  refine gr_i (g_runV (As := [.int a1, .int v1]) (rest := [.int v8]) (ci := 10) hC (c_X8_y l V g D cT f n a0 a1 v1 v9 ev9) k_X8_y m_1665 rfl rfl ⟨Nat.le_of_ble_eq_true rfl, Nat.le_of_ble_eq_true rfl⟩ hI rfl rfl (h_me_eq ev9).1 rfl hl.1 rfl (Nat.le_of_ble_eq_true rfl) dX8_layMiddle_68 ⟨by decide, by decide⟩) hI (fun H locs hI => ?_)
  refine lv_iadd hx hb dX8_layMiddle_71 ?_
  refine lv_iconst (v := (1 : Int32)) hx hb dX8_layMiddle_72 (by decide) ?_
  refine lv_ishr hx hb dX8_layMiddle_73 ?_
  refine lv_istore (lv' := [(8, .int ((v8 + v9) >>> ((1 : Int32) &&& 31))), (7, .int ((v6 + v7) >>> ((1 : Int32) &&& 31))), (6, .int (v4 - v5)), (5, .int (v2 - v3)), (4, .int v1), (0, .ref a0), (1, .int a1), (2, .int a2), (3, .int a3)]) hx hb dX8_layMiddle_74 hl (by decide) rfl (fun ls hl => ?_)
  refine lv_iload_n hx hb dX8_layMiddle_76 rfl (lv_at hl 7 rfl) ?_
  refine lv_iconst (v := (2 : Int32)) hx hb dX8_layMiddle_77 (by decide) ?_
  refine lv_irem hx hb dX8_layMiddle_78 (by decide) ?_
  have hj88 : ∀ (x0 : Nat) (x2 : Int32) (x5 : Int32) (x6 : Int32) (x7 : Int32) (x8 : Int32) (t0 : Int32) (f : GH) (H : Heap) (locs : List Loc) (ls : Array Slot), g_at (g_A V) V g D cT f n s H locs → lv_has ls 11 [(0, .ref x0), (2, .int x2), (5, .int x5), (6, .int x6), (7, .int x7), (8, .int x8)] → p_X8_layMiddle_j88 V g x0 x2 x5 x6 x7 x8 t0 f = some o → W p l e rm_X8_layMiddle s m args below meth c H locs 0 0 (MQ below (g_Wi V D cT o.1 o.2 n) args s 0 0 (g_A V)) (F0 m 88 ls [.int t0]) := by
    intro x0 x2 x5 x6 x7 x8 t0 f H locs ls hI hl hq
    unfold p_X8_layMiddle_j88 at hq
    refine lv_istore (lv' := [(9, .int t0), (0, .ref x0), (2, .int x2), (5, .int x5), (6, .int x6), (7, .int x7), (8, .int x8)]) hx hb dX8_layMiddle_88 hl (by decide) rfl (fun ls hl => ?_)
    refine lv_iload hx hb dX8_layMiddle_90 (lv_at hl 3 rfl) ?_
    obtain ⟨v10, ev10, hq⟩ := b_s hq
    refine gr_i (g_runS (As := [.int x5]) (rest := []) hC (c_X8_sizeOf l V g D cT f n x5 v10 ev10) k_X8_sizeOf m_1680 rfl rfl ⟨Nat.le_of_ble_eq_true rfl, Nat.le_of_ble_eq_true rfl⟩ hI rfl hl.1 rfl (Nat.le_of_ble_eq_true rfl) dX8_layMiddle_92 ⟨by decide, by decide⟩) hI (fun H locs hI => ?_)
    refine lv_iload hx hb dX8_layMiddle_95 (lv_at hl 4 rfl) ?_
    obtain ⟨v11, ev11, hq⟩ := b_s hq
    refine gr_i (g_runS (As := [.int x6]) (rest := [.int v10]) hC (c_X8_sizeOf l V g D cT f n x6 v11 ev11) k_X8_sizeOf m_1680 rfl rfl ⟨Nat.le_of_ble_eq_true rfl, Nat.le_of_ble_eq_true rfl⟩ hI rfl hl.1 rfl (Nat.le_of_ble_eq_true rfl) dX8_layMiddle_97 ⟨by decide, by decide⟩) hI (fun H locs hI => ?_)
    have hj108 : ∀ (x0 : Nat) (x2 : Int32) (x7 : Int32) (x8 : Int32) (x9 : Int32) (t0 : Int32) (f : GH) (H : Heap) (locs : List Loc) (ls : Array Slot), g_at (g_A V) V g D cT f n s H locs → lv_has ls 11 [(0, .ref x0), (2, .int x2), (7, .int x7), (8, .int x8), (9, .int x9)] → p_X8_layMiddle_j108 V g x0 x2 x7 x8 x9 t0 f = some o → W p l e rm_X8_layMiddle s m args below meth c H locs 0 0 (MQ below (g_Wi V D cT o.1 o.2 n) args s 0 0 (g_A V)) (F0 m 108 ls [.int t0]) := by
      intro x0 x2 x7 x8 x9 t0 f H locs ls hI hl hq
      unfold p_X8_layMiddle_j108 at hq
      refine lv_istore (lv' := [(10, .int t0), (0, .ref x0), (2, .int x2), (7, .int x7), (8, .int x8), (9, .int x9)]) hx hb dX8_layMiddle_108 hl (by decide) rfl (fun ls hl => ?_)
      refine lv_aload_n hx hb dX8_layMiddle_110 rfl (lv_at hl 1 rfl) ?_
      refine lv_bipush (v := (6 : Int32)) hx hb dX8_layMiddle_111 (by decide) ?_
      refine lv_iconst (v := (2 : Int32)) hx hb dX8_layMiddle_113 (by decide) ?_
      refine lv_iload_n hx hb dX8_layMiddle_114 rfl (lv_at hl 2 rfl) ?_
      refine lv_imul hx hb dX8_layMiddle_115 ?_
      refine lv_iconst (v := (1 : Int32)) hx hb dX8_layMiddle_116 (by decide) ?_
      refine lv_iadd hx hb dX8_layMiddle_117 ?_
      refine lv_iload hx hb dX8_layMiddle_118 (lv_at hl 0 rfl) ?_
      have hj133 : ∀ (x7 : Int32) (x8 : Int32) (x9 : Int32) (x10 : Int32) (t0 : Int32) (t1 : Int32) (t2 : Int32) (t3 : Nat) (f : GH) (H : Heap) (locs : List Loc) (ls : Array Slot), g_at (g_A V) V g D cT f n s H locs → lv_has ls 11 [(7, .int x7), (8, .int x8), (9, .int x9), (10, .int x10)] → p_X8_layMiddle_j133 V g x7 x8 x9 x10 t0 t1 t2 t3 f = some o → W p l e rm_X8_layMiddle s m args below meth c H locs 0 0 (MQ below (g_Wi V D cT o.1 o.2 n) args s 0 0 (g_A V)) (F0 m 133 ls [.int t0, .int t1, .int t2, .ref t3]) := by
        intro x7 x8 x9 x10 t0 t1 t2 t3 f H locs ls hI hl hq
        unfold p_X8_layMiddle_j133 at hq
        refine lv_iload hx hb dX8_layMiddle_133 (lv_at hl 3 rfl) ?_
        have hj148 : ∀ (x7 : Int32) (x8 : Int32) (x9 : Int32) (x10 : Int32) (t0 : Int32) (t1 : Int32) (t2 : Int32) (t3 : Int32) (t4 : Nat) (f : GH) (H : Heap) (locs : List Loc) (ls : Array Slot), g_at (g_A V) V g D cT f n s H locs → lv_has ls 11 [(7, .int x7), (8, .int x8), (9, .int x9), (10, .int x10)] → p_X8_layMiddle_j148 V g x7 x8 x9 x10 t0 t1 t2 t3 t4 f = some o → W p l e rm_X8_layMiddle s m args below meth c H locs 0 0 (MQ below (g_Wi V D cT o.1 o.2 n) args s 0 0 (g_A V)) (F0 m 148 ls [.int t0, .int t1, .int t2, .int t3, .ref t4]) := by
          intro x7 x8 x9 x10 t0 t1 t2 t3 t4 f H locs ls hI hl hq
          unfold p_X8_layMiddle_j148 at hq
          obtain ⟨v12, ev12, hq⟩ := b_s hq
          refine gw_v (g_runV (As := [.int t3, .int t2, .int t1, .int t0]) (rest := []) (ci := 10) hC (c_X8_layPoint l V g D cT f n t4 t3 t2 t1 t0 v12 ev12) k_X8_layPoint m_1880 rfl rfl ⟨Nat.le_of_ble_eq_true rfl, Nat.le_of_ble_eq_true rfl⟩ hI rfl rfl (h_me_eq ev12).1 rfl hl.1 rfl (Nat.le_of_ble_eq_true rfl) dX8_layMiddle_148 ⟨by decide, by decide⟩) hI (fun H locs hI => ?_)
          refine lv_iload hx hb dX8_layMiddle_151 (lv_at hl 3 rfl) ?_
          have hj166 : ∀ (x8 : Int32) (x9 : Int32) (x10 : Int32) (t0 : Int32) (f : GH) (H : Heap) (locs : List Loc) (ls : Array Slot), g_at (g_A V) V g D cT f n s H locs → lv_has ls 11 [(8, .int x8), (9, .int x9), (10, .int x10)] → p_X8_layMiddle_j166 V g x8 x9 x10 t0 f = some o → W p l e rm_X8_layMiddle s m args below meth c H locs 0 0 (MQ below (g_Wi V D cT o.1 o.2 n) args s 0 0 (g_A V)) (F0 m 166 ls [.int t0]) := by
            intro x8 x9 x10 t0 f H locs ls hI hl hq
            unfold p_X8_layMiddle_j166 at hq
            refine lv_iload hx hb dX8_layMiddle_166 (lv_at hl 2 rfl) ?_
            refine lv_if_eq (tgt := 179) hx hb dX8_layMiddle_168 (by decide) (fun c13 => ?_) (fun c13 => ?_)
            · replace hq := i_t c13 hq
              refine lv_iload hx hb dX8_layMiddle_179 (lv_at hl 0 rfl) ?_
              obtain ⟨v14, ev14, hq⟩ := b_s hq
              refine gr_i (g_runS (As := [.int t0, .int x8]) (rest := []) hC (c_X8_isPosition l V g D cT f n t0 x8 v14 ev14) k_X8_isPosition m_1687 rfl rfl ⟨Nat.le_of_ble_eq_true rfl, Nat.le_of_ble_eq_true rfl⟩ hI rfl hl.1 rfl (Nat.le_of_ble_eq_true rfl) dX8_layMiddle_181 ⟨by decide, by decide⟩) hI (fun H locs hI => ?_)
              obtain ⟨_, ev15, hq⟩ := b_s hq
              exact ge_Wi hx hb hlocks hr (h_bz_eq ev15).2.1 hI (congrArg (fun z => z.1) (Option.some.inj hq)) (congrArg (fun z => z.2) (Option.some.inj hq)) dX8_layMiddle_184
            · replace hq := i_f c13 hq
              refine lv_iload hx hb dX8_layMiddle_171 (lv_at hl 0 rfl) ?_
              refine lv_iload hx hb dX8_layMiddle_173 (lv_at hl 1 rfl) ?_
              refine lv_iadd hx hb dX8_layMiddle_175 ?_
              refine lv_goto (tgt := 181) hx hb dX8_layMiddle_176 (by decide) ?_
              obtain ⟨v16, ev16, hq⟩ := b_s hq
              refine gr_i (g_runS (As := [.int t0, .int (x8 + x9)]) (rest := []) hC (c_X8_isPosition l V g D cT f n t0 (x8 + x9) v16 ev16) k_X8_isPosition m_1687 rfl rfl ⟨Nat.le_of_ble_eq_true rfl, Nat.le_of_ble_eq_true rfl⟩ hI rfl hl.1 rfl (Nat.le_of_ble_eq_true rfl) dX8_layMiddle_181 ⟨by decide, by decide⟩) hI (fun H locs hI => ?_)
              obtain ⟨_, ev17, hq⟩ := b_s hq
              exact ge_Wi hx hb hlocks hr (h_bz_eq ev17).2.1 hI (congrArg (fun z => z.1) (Option.some.inj hq)) (congrArg (fun z => z.2) (Option.some.inj hq)) dX8_layMiddle_184
          refine lv_if_eq (tgt := 161) hx hb dX8_layMiddle_153 (by decide) (fun c18 => ?_) (fun c18 => ?_)
          · replace hq := i_t c18 hq
            refine lv_iload hx hb dX8_layMiddle_161 (lv_at hl 0 rfl) ?_
            refine lv_iload hx hb dX8_layMiddle_163 (lv_at hl 2 rfl) ?_
            refine lv_iadd hx hb dX8_layMiddle_165 ?_
            exact hj166 x8 x9 x10 (x7 + x9) v12 H locs ls hI (lv_sub hl [1, 2, 3] rfl) hq
          · replace hq := i_f c18 hq
            refine lv_iload hx hb dX8_layMiddle_156 (lv_at hl 0 rfl) ?_
            refine lv_goto (tgt := 166) hx hb dX8_layMiddle_158 (by decide) ?_
            exact hj166 x8 x9 x10 x7 v12 H locs ls hI (lv_sub hl [1, 2, 3] rfl) hq
        refine lv_if_eq (tgt := 146) hx hb dX8_layMiddle_135 (by decide) (fun c19 => ?_) (fun c19 => ?_)
        · replace hq := i_t c19 hq
          refine lv_iload hx hb dX8_layMiddle_146 (lv_at hl 1 rfl) ?_
          exact hj148 x7 x8 x9 x10 x8 t0 t1 t2 t3 f H locs ls hI (lv_sub hl [0, 1, 2, 3] rfl) hq
        · replace hq := i_f c19 hq
          refine lv_iload hx hb dX8_layMiddle_138 (lv_at hl 1 rfl) ?_
          refine lv_iload hx hb dX8_layMiddle_140 (lv_at hl 2 rfl) ?_
          refine lv_iadd hx hb dX8_layMiddle_142 ?_
          refine lv_goto (tgt := 148) hx hb dX8_layMiddle_143 (by decide) ?_
          exact hj148 x7 x8 x9 x10 (x8 + x9) t0 t1 t2 t3 f H locs ls hI (lv_sub hl [0, 1, 2, 3] rfl) hq
      refine lv_if_eq (tgt := 128) hx hb dX8_layMiddle_120 (by decide) (fun c20 => ?_) (fun c20 => ?_)
      · replace hq := i_t c20 hq
        refine lv_iload hx hb dX8_layMiddle_128 (lv_at hl 3 rfl) ?_
        refine lv_iload hx hb dX8_layMiddle_130 (lv_at hl 5 rfl) ?_
        refine lv_iadd hx hb dX8_layMiddle_132 ?_
        exact hj133 x7 x8 x9 t0 (x7 + x9) (((2 : Int32) * x2) + (1 : Int32)) (6 : Int32) x0 f H locs ls hI (lv_sub hl [3, 4, 5, 0] rfl) hq
      · replace hq := i_f c20 hq
        refine lv_iload hx hb dX8_layMiddle_123 (lv_at hl 3 rfl) ?_
        refine lv_goto (tgt := 133) hx hb dX8_layMiddle_125 (by decide) ?_
        exact hj133 x7 x8 x9 t0 x7 (((2 : Int32) * x2) + (1 : Int32)) (6 : Int32) x0 f H locs ls hI (lv_sub hl [3, 4, 5, 0] rfl) hq
    refine lv_icmp_lt (tgt := 107) hx hb dX8_layMiddle_100 (by decide) (fun c21 => ?_) (fun c21 => ?_)
    · replace hq := i_t c21 hq
      refine lv_iconst (v := (0 : Int32)) hx hb dX8_layMiddle_107 (by decide) ?_
      exact hj108 x0 x2 x7 x8 t0 (0 : Int32) f H locs ls hI (lv_sub hl [1, 2, 5, 6, 0] rfl) hq
    · replace hq := i_f c21 hq
      refine lv_iconst (v := (1 : Int32)) hx hb dX8_layMiddle_103 (by decide) ?_
      refine lv_goto (tgt := 108) hx hb dX8_layMiddle_104 (by decide) ?_
      exact hj108 x0 x2 x7 x8 t0 (1 : Int32) f H locs ls hI (lv_sub hl [1, 2, 5, 6, 0] rfl) hq
  refine lv_if_ne (tgt := 86) hx hb dX8_layMiddle_79 (by decide) (fun c22 => ?_) (fun c22 => ?_)
  · replace hq := i_f c22 hq
    refine lv_iload_n hx hb dX8_layMiddle_86 rfl (lv_at hl 8 rfl) ?_
    refine lv_ineg hx hb dX8_layMiddle_87 ?_
    exact hj88 a0 a2 (v2 - v3) (v4 - v5) ((v6 + v7) >>> ((1 : Int32) &&& 31)) ((v8 + v9) >>> ((1 : Int32) &&& 31)) (-a3) f H locs ls hI (lv_sub hl [5, 7, 3, 2, 1, 0] rfl) hq
  · replace hq := i_t c22 hq
    refine lv_iload_n hx hb dX8_layMiddle_82 rfl (lv_at hl 8 rfl) ?_
    refine lv_goto (tgt := 88) hx hb dX8_layMiddle_83 (by decide) ?_
    exact hj88 a0 a2 (v2 - v3) (v4 - v5) ((v6 + v7) >>> ((1 : Int32) &&& 31)) ((v8 + v9) >>> ((1 : Int32) &&& 31)) a3 f H locs ls hI (lv_sub hl [5, 7, 3, 2, 1, 0] rfl) hq


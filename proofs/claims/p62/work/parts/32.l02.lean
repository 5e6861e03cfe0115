abbrev rm_L_at : Room := { frames := 2, cells := 0, slots := 0, locals := 120 }
theorem k_L_at : g_CS yL_at cL_at 5 (some .int) 3 := ⟨⟨m_992, m_0, by decide +kernel⟩, m_991⟩
set_option maxHeartbeats 4000000 in
set_option maxRecDepth 100000 in
theorem c_L_at (l : Launch) (hl0 : l.stackTraces = false) (V : Nat → Nat) (g : GH) (D : va_G) (cT : Nat → ClassId) (f : GH) (n : Nat) (a0 : Nat) (a1 : Int32) (a2 : Int32) (o : Int32) (hq : p_L_at V g f a0 a1 a2 = some o) : Met l yL_at (Cond.code yL_at cL_at 5 (some .int) :: g_B) rm_L_at (va_Pc [.ref a0, .int a1, .int a2] (g_I V g D cT f n)) (g_Ri o n) 0 0 g_no := by
  refine g_begin (own := RL) [.ref a0, .int a1, .int a2] [(0, .ref a0), (1, .int a1), (2, .int a2)] g_no (fun _ h => h.elim) (by decide) rfl (Nat.le_of_ble_eq_true rfl) rfl ?_
  intro p e s m args below meth c hx hb hr hlocks hin hC hI ls hl
  obtain ⟨hx, hb, hml, hown, hB⟩ := id hC
  obtain ⟨H, hH⟩ : ∃ H, H = s.heap := ⟨_, rfl⟩
  obtain ⟨locs, hlocs⟩ : ∃ L : List Loc, L = [] := ⟨_, rfl⟩
  rw [← hH, ← hlocs] at hI ⊢
  clear hH hlocs
  unfold p_L_at at hq
  refine lv_iconst (v := (5 : Int32)) hx hb dL_at_0 (by decide) ?_
  refine lv_istore_n (lv' := [(3, .int (5 : Int32)), (0, .ref a0), (1, .int a1), (2, .int a2)]) hx hb dL_at_1 rfl hl (by decide) rfl (fun ls hl => ?_)
  refine lv_iconst (v := (0 : Int32)) hx hb dL_at_2 (by decide) ?_
  refine lv_istore (lv' := [(4, .int (0 : Int32)), (3, .int (5 : Int32)), (0, .ref a0), (1, .int a1), (2, .int a2)]) hx hb dL_at_3 hl (by decide) rfl (fun ls hl => ?_)
  have hl5 : ∀ (K29 : Int32 → Int32 → Option Int32) (hK29 : ∀ (x2 : Int32) (x3 : Int32) (H : Heap) (locs : List Loc) (ls : Array Slot), g_at g_no V g D cT f n s H locs → lv_has ls 5 [(2, .int x2), (3, .int x3)] → K29 x2 x3 = some o → W p l e rm_L_at s m args below meth c H locs 0 0 (MQ below (g_Ri o n) args s 0 0 g_no) (F0 m 29 ls [])) (N : Nat) (x0 : Nat) (x1 : Int32) (x2 : Int32) (x3 : Int32) (x4 : Int32) (H : Heap) (locs : List Loc) (ls : Array Slot), g_at g_no V g D cT f n s H locs → lv_has ls 5 [(0, .ref x0), (1, .int x1), (2, .int x2), (3, .int x3), (4, .int x4)] → p_L_at_l5 V g f K29 N x0 x1 x2 x3 x4 = some o → W p l e rm_L_at s m args below meth c H locs 0 0 (MQ below (g_Ri o n) args s 0 0 g_no) (F0 m 5 ls []) := by
    intro K29 hK29 N
    induction N with
    | zero =>
      intro x0 x1 x2 x3 x4 H locs ls hI hl hq
      rw [p_L_at_l5] at hq
      cases hq
    | succ N ih =>
      intro x0 x1 x2 x3 x4 H locs ls hI hl hq
      rw [p_L_at_l5] at hq
      refine lv_iload hx hb dL_at_5 (lv_at hl 4 rfl) ?_
      refine lv_iload_n hx hb dL_at_7 rfl (lv_at hl 1 rfl) ?_
      refine lv_icmp_ge (tgt := 29) hx hb dL_at_8 (by decide) (fun c1 => ?_) (fun c1 => ?_)
      · replace hq := i_t c1 hq
        exact hK29 x2 x3 H locs ls hI (lv_sub hl [2, 3] rfl) hq
      · replace hq := i_f c1 hq
        refine lv_iload_n hx hb dL_at_11 rfl (lv_at hl 3 rfl) ?_
        refine lv_iconst (v := (2 : Int32)) hx hb dL_at_12 (by decide) ?_
        refine lv_iconst (v := (2 : Int32)) hx hb dL_at_13 (by decide) ?_
        refine lv_aload_n hx hb dL_at_14 rfl (lv_at hl 0 rfl) ?_
        refine lv_iload_n hx hb dL_at_15 rfl (lv_at hl 3 rfl) ?_
        refine lv_iconst (v := (1 : Int32)) hx hb dL_at_16 (by decide) ?_
        refine lv_iadd hx hb dL_at_17 ?_
        obtain ⟨v2, ev2, hq⟩ := b_s hq
        refine fa_li hx hb hI ev2 dL_at_18 ?_
        refine lv_imul hx hb dL_at_19 ?_
        refine lv_iadd hx hb dL_at_20 ?_
        refine lv_iadd hx hb dL_at_21 ?_
        refine lv_istore_n (lv' := [(3, .int (x3 + ((2 : Int32) + ((2 : Int32) * v2)))), (0, .ref x0), (1, .int x1), (2, .int x2), (4, .int x4)]) hx hb dL_at_22 rfl hl (by decide) rfl (fun ls hl => ?_)
        refine lv_iinc (v := x4 + (1 : Int32)) (lv' := [(4, .int (x4 + (1 : Int32))), (3, .int (x3 + ((2 : Int32) + ((2 : Int32) * v2)))), (0, .ref x0), (1, .int x1), (2, .int x2)]) hx hb dL_at_23 hl (k := 4) rfl rfl (by decide) rfl (fun ls hl => ?_)
        refine lv_goto (tgt := 5) hx hb dL_at_26 (by decide) ?_
        exact ih x0 x1 x2 (x3 + ((2 : Int32) + ((2 : Int32) * v2))) (x4 + (1 : Int32)) H locs ls hI (lv_sub hl [2, 3, 4, 1, 0] rfl) hq
  refine hl5 _ ?_ FU a0 a1 a2 (5 : Int32) (0 : Int32) H locs ls hI (lv_sub hl [2, 3, 4, 1, 0] rfl) hq
  · intro x2 x3 H locs ls hI hl hq
    refine lv_iload_n hx hb dL_at_29 rfl (lv_at hl 1 rfl) ?_
    refine lv_iconst (v := (2 : Int32)) hx hb dL_at_30 (by decide) ?_
    refine lv_iadd hx hb dL_at_31 ?_
    refine lv_iconst (v := (2 : Int32)) hx hb dL_at_32 (by decide) ?_
    refine lv_iload_n hx hb dL_at_33 rfl (lv_at hl 0 rfl) ?_
    refine lv_imul hx hb dL_at_34 ?_
    refine lv_iadd hx hb dL_at_35 ?_
    exact ge_Ri hx hb hlocks hr rfl hI hq dL_at_36

abbrev rm_L_isFold : Room := { frames := 12, cells := 16, slots := 3284, locals := 299 }
theorem k_L_isFold : g_CS yL_isFold cL_isFold 11 (some .boolean) 3 := ⟨⟨m_850, m_0, by decide +kernel⟩, m_849⟩
set_option maxHeartbeats 4000000 in
set_option maxRecDepth 100000 in
theorem c_L_isFold (l : Launch) (hl0 : l.stackTraces = false) (V : Nat → Nat) (g : GH) (D : va_G) (cT : Nat → ClassId) (f : GH) (n : Nat) (a0 : Nat) (a1 : Int32) (a2 : Int32) (o : Int32 × GH × Nat) (hq : p_L_isFold V g f n a0 a1 a2 = some o) : Met l yL_isFold (Cond.code yL_isFold cL_isFold 11 (some .boolean) :: g_B) rm_L_isFold (va_Pc [.ref a0, .int a1, .int a2] (g_I V g D cT f n)) (g_Wi V D cT o.1 o.2.1 o.2.2) 16 3284 (g_A V) := by
  refine g_begin (own := RL) [.ref a0, .int a1, .int a2] [(0, .ref a0), (1, .int a1), (2, .int a2)] (g_A V) (fun _ h => h) (by decide) rfl (Nat.le_of_ble_eq_true rfl) rfl ?_
  intro p e s m args below meth c hx hb hr hlocks hin hC hI ls hl
  obtain ⟨hx, hb, hml, hown, hB⟩ := id hC
  obtain ⟨H, hH⟩ : ∃ H, H = s.heap := ⟨_, rfl⟩
  obtain ⟨locs, hlocs⟩ : ∃ L : List Loc, L = [] := ⟨_, rfl⟩
  rw [← hH, ← hlocs] at hI ⊢
  clear hH hlocs
  unfold p_L_isFold at hq
  refine lv_iload_n hx hb dL_isFold_0 rfl (lv_at hl 2 rfl) ?_
  refine lv_bipush (v := (101 : Int32)) hx hb dL_isFold_1 (by decide) ?_
  obtain ⟨v1, ev1, hq⟩ := b_s hq
  refine gr0_i (g_runS (As := [.int a2, .int (101 : Int32)]) (rest := []) hC (c_L_most l hl0 V g D cT f n a2 (101 : Int32) v1 ev1) k_L_most m_544 rfl rfl ⟨Nat.le_of_ble_eq_true rfl, Nat.le_of_ble_eq_true rfl⟩ hI rfl hl.1 rfl (Nat.le_of_ble_eq_true rfl) dL_isFold_3 ⟨by decide, by decide⟩) hI (fun H locs hI => ?_)
  refine lv_bipush (v := (50 : Int32)) hx hb dL_isFold_6 (by decide) ?_
  refine lv_isub hx hb dL_isFold_8 ?_
  refine lv_istore_n (lv' := [(3, .int (v1 - (50 : Int32))), (0, .ref a0), (1, .int a1), (2, .int a2)]) hx hb dL_isFold_9 rfl hl (by decide) rfl (fun ls hl => ?_)
  refine lv_aload_n hx hb dL_isFold_10 rfl (lv_at hl 1 rfl) ?_
  refine lv_iload_n hx hb dL_isFold_11 rfl (lv_at hl 2 rfl) ?_
  refine lv_iload_n hx hb dL_isFold_12 rfl (lv_at hl 0 rfl) ?_
  obtain ⟨v2, ev2, hq⟩ := b_s hq
  refine gx0_i (g_runVX (As := [.int a1, .int (v1 - (50 : Int32))]) (rest := []) (ci := 9) hC (c_X7_foldObstacle l hl0 V g D cT f n a0 a1 (v1 - (50 : Int32)) (.inr v2) (h_nt_eq ev2)) k_X7_foldObstacle m_851 rfl rfl ⟨Nat.le_of_ble_eq_true rfl, Nat.le_of_ble_eq_true rfl⟩ hI rfl rfl (h_me_eq (h_nt_eq ev2)).1 rfl hl.1 rfl (Nat.le_of_ble_eq_true rfl) dL_isFold_13 ⟨by decide, by decide⟩) hI (fun H locs hI => ?_)
  refine lv_istore (lv' := [(4, .int v2), (3, .int (v1 - (50 : Int32))), (0, .ref a0), (1, .int a1), (2, .int a2)]) hx hb dL_isFold_16 hl (by decide) rfl (fun ls hl => ?_)
  refine lv_aload_n hx hb dL_isFold_18 rfl (lv_at hl 2 rfl) ?_
  refine lv_iload_n hx hb dL_isFold_19 rfl (lv_at hl 3 rfl) ?_
  obtain ⟨v3, ev3, hq⟩ := b_s hq
  refine gx0_i (g_runVX (As := [.int a1]) (rest := []) (ci := 9) hC (c_X7_pointCount l hl0 V g D cT f n a0 a1 (.inr v3) (h_nt_eq ev3)) k_X7_pointCount m_573 rfl rfl ⟨Nat.le_of_ble_eq_true rfl, Nat.le_of_ble_eq_true rfl⟩ hI rfl rfl (h_me_eq (h_nt_eq ev3)).1 rfl hl.1 rfl (Nat.le_of_ble_eq_true rfl) dL_isFold_20 ⟨by decide, by decide⟩) hI (fun H locs hI => ?_)
  refine lv_istore (lv' := [(5, .int v3), (4, .int v2), (3, .int (v1 - (50 : Int32))), (0, .ref a0), (1, .int a1), (2, .int a2)]) hx hb dL_isFold_23 hl (by decide) rfl (fun ls hl => ?_)
  refine lv_aload_n hx hb dL_isFold_25 rfl (lv_at hl 3 rfl) ?_
  refine lv_iload_n hx hb dL_isFold_26 rfl (lv_at hl 4 rfl) ?_
  obtain ⟨v4, ev4, hq⟩ := b_s hq
  refine gx0_i (g_runVX (As := [.int a1]) (rest := []) (ci := 9) hC (c_X7_isIsland l hl0 V g D cT f n a0 a1 (.inr v4) (h_nt_eq ev4)) k_X7_isIsland m_613 rfl rfl ⟨Nat.le_of_ble_eq_true rfl, Nat.le_of_ble_eq_true rfl⟩ hI rfl rfl (h_me_eq (h_nt_eq ev4)).1 rfl hl.1 rfl (Nat.le_of_ble_eq_true rfl) dL_isFold_27 ⟨by decide, by decide⟩) hI (fun H locs hI => ?_)
  have hj46 : ∀ (x0 : Nat) (x1 : Int32) (x3 : Int32) (x4 : Int32) (x5 : Int32) (t0 : Int32) (f : GH) (n : Nat) (H : Heap) (locs : List Loc) (ls : Array Slot), g_at (g_A V) V g D cT f n s H locs → lv_has ls 11 [(0, .ref x0), (1, .int x1), (3, .int x3), (4, .int x4), (5, .int x5)] → p_L_isFold_j46 V g x0 x1 x3 x4 x5 t0 f n = some o → W p l e rm_L_isFold s m args below meth c H locs 0 0 (MQ below (g_Wi V D cT o.1 o.2.1 o.2.2) args s 16 3284 (g_A V)) (F0 m 46 ls [.int t0]) := by
    intro x0 x1 x3 x4 x5 t0 f n H locs ls hI hl hq
    unfold p_L_isFold_j46 at hq
    refine lv_istore (lv' := [(6, .int t0), (0, .ref x0), (1, .int x1), (3, .int x3), (4, .int x4), (5, .int x5)]) hx hb dL_isFold_46 hl (by decide) rfl (fun ls hl => ?_)
    refine lv_iload hx hb dL_isFold_48 (lv_at hl 4 rfl) ?_
    refine lv_iconst (v := (1 : Int32)) hx hb dL_isFold_50 (by decide) ?_
    have hj59 : ∀ (x0 : Nat) (x1 : Int32) (x3 : Int32) (x4 : Int32) (x5 : Int32) (x6 : Int32) (t0 : Int32) (f : GH) (n : Nat) (H : Heap) (locs : List Loc) (ls : Array Slot), g_at (g_A V) V g D cT f n s H locs → lv_has ls 11 [(0, .ref x0), (1, .int x1), (3, .int x3), (4, .int x4), (5, .int x5), (6, .int x6)] → p_L_isFold_j59 V g x0 x1 x3 x4 x5 x6 t0 f n = some o → W p l e rm_L_isFold s m args below meth c H locs 0 0 (MQ below (g_Wi V D cT o.1 o.2.1 o.2.2) args s 16 3284 (g_A V)) (F0 m 59 ls [.int t0]) := by
      intro x0 x1 x3 x4 x5 x6 t0 f n H locs ls hI hl hq
      unfold p_L_isFold_j59 at hq
      refine lv_iload hx hb dL_isFold_59 (lv_at hl 5 rfl) ?_
      refine lv_sipush (v := (129 : Int32)) hx hb dL_isFold_61 (by decide) ?_
      have hj72 : ∀ (x0 : Nat) (x1 : Int32) (x3 : Int32) (x4 : Int32) (x5 : Int32) (x6 : Int32) (t0 : Int32) (t1 : Int32) (f : GH) (n : Nat) (H : Heap) (locs : List Loc) (ls : Array Slot), g_at (g_A V) V g D cT f n s H locs → lv_has ls 11 [(0, .ref x0), (1, .int x1), (3, .int x3), (4, .int x4), (5, .int x5), (6, .int x6)] → p_L_isFold_j72 V g x0 x1 x3 x4 x5 x6 t0 t1 f n = some o → W p l e rm_L_isFold s m args below meth c H locs 0 0 (MQ below (g_Wi V D cT o.1 o.2.1 o.2.2) args s 16 3284 (g_A V)) (F0 m 72 ls [.int t0, .int t1]) := by
        intro x0 x1 x3 x4 x5 x6 t0 t1 f n H locs ls hI hl hq
        unfold p_L_isFold_j72 at hq
        refine lv_icmp_eq (tgt := 77) hx hb dL_isFold_72 (by decide) (fun c5 => ?_) (fun c5 => ?_)
        · replace hq := i_t c5 hq
          refine lv_iload hx hb dL_isFold_77 (lv_at hl 4 rfl) ?_
          refine lv_bipush (v := (24 : Int32)) hx hb dL_isFold_79 (by decide) ?_
          refine lv_icmp_le (tgt := 86) hx hb dL_isFold_81 (by decide) (fun c6 => ?_) (fun c6 => ?_)
          · replace hq := i_t c6 hq
            refine lv_iload hx hb dL_isFold_86 (lv_at hl 3 rfl) ?_
            refine lv_if_le (tgt := 108) hx hb dL_isFold_88 (by decide) (fun c7 => ?_) (fun c7 => ?_)
            · replace hq := i_t c7 hq
              refine lv_aload_n hx hb dL_isFold_108 rfl (lv_at hl 0 rfl) ?_
              obtain ⟨v8, ev8, hq⟩ := b_s hq
              refine gw_r (g_runS (As := [.ref x0]) (rest := []) hC (c_L_all l hl0 V g D cT f n x0 v8 ev8) k_L_all m_570 rfl rfl ⟨Nat.le_of_ble_eq_true rfl, Nat.le_of_ble_eq_true rfl⟩ hI rfl hl.1 rfl (Nat.le_of_ble_eq_true rfl) dL_isFold_109 ⟨by decide, by decide⟩) hI (fun H locs hI => ?_)
              refine lv_astore (lv' := [(7, .ref v8.1), (0, .ref x0), (1, .int x1), (3, .int x3), (4, .int x4), (5, .int x5), (6, .int x6)]) hx hb dL_isFold_112 hl (by decide) rfl (fun ls hl => ?_)
              refine lv_aload_n hx hb dL_isFold_114 rfl (lv_at hl 1 rfl) ?_
              refine lv_iload_n hx hb dL_isFold_115 rfl (lv_at hl 2 rfl) ?_
              refine lv_iconst (v := (0 : Int32)) hx hb dL_isFold_116 (by decide) ?_
              obtain ⟨v9, ev9, hq⟩ := b_s hq
              refine gx0_i (g_runVX (As := [.int x1, .int (0 : Int32)]) (rest := []) (ci := 9) hC (c_X7_lengthAt l hl0 V g D cT v8.2.1 v8.2.2 x0 x1 (0 : Int32) (.inr v9) (h_nt_eq ev9)) k_X7_lengthAt m_691 rfl rfl ⟨Nat.le_of_ble_eq_true rfl, Nat.le_of_ble_eq_true rfl⟩ hI rfl rfl (h_me_eq (h_nt_eq ev9)).1 rfl hl.1 rfl (Nat.le_of_ble_eq_true rfl) dL_isFold_117 ⟨by decide, by decide⟩) hI (fun H locs hI => ?_)
              refine lv_istore (lv' := [(8, .int v9), (7, .ref v8.1), (0, .ref x0), (1, .int x1), (3, .int x3), (4, .int x4), (5, .int x5), (6, .int x6)]) hx hb dL_isFold_120 hl (by decide) rfl (fun ls hl => ?_)
              refine lv_aload_n hx hb dL_isFold_122 rfl (lv_at hl 2 rfl) ?_
              refine lv_iload_n hx hb dL_isFold_123 rfl (lv_at hl 3 rfl) ?_
              refine lv_iload_n hx hb dL_isFold_124 rfl (lv_at hl 4 rfl) ?_
              refine lv_iconst (v := (0 : Int32)) hx hb dL_isFold_125 (by decide) ?_
              obtain ⟨v10, ev10, hq⟩ := b_s hq
              refine gy_i (g_runVX (As := [.int x1, .int x3, .int (0 : Int32)]) (rest := []) (ci := 9) hC (c_X7_lengthAfterFold l hl0 V g D cT v8.2.1 v8.2.2 x0 x1 x3 (0 : Int32) (.inr v10) (h_nt_eq ev10)) k_X7_lengthAfterFold m_878 rfl rfl ⟨Nat.le_of_ble_eq_true rfl, Nat.le_of_ble_eq_true rfl⟩ hI rfl rfl (h_me_eq (h_nt_eq ev10)).1 rfl hl.1 rfl (Nat.le_of_ble_eq_true rfl) dL_isFold_126 ⟨by decide, by decide⟩) hI (fun H locs hI => ?_)
              refine lv_istore (lv' := [(9, .int v10.1), (8, .int v9), (7, .ref v8.1), (0, .ref x0), (1, .int x1), (3, .int x3), (4, .int x4), (5, .int x5), (6, .int x6)]) hx hb dL_isFold_129 hl (by decide) rfl (fun ls hl => ?_)
              refine lv_aload_n hx hb dL_isFold_131 rfl (lv_at hl 3 rfl) ?_
              refine lv_iload_n hx hb dL_isFold_132 rfl (lv_at hl 4 rfl) ?_
              refine lv_iload_n hx hb dL_isFold_133 rfl (lv_at hl 5 rfl) ?_
              refine lv_iconst (v := (1 : Int32)) hx hb dL_isFold_134 (by decide) ?_
              obtain ⟨v11, ev11, hq⟩ := b_s hq
              refine gy_i (g_runVX (As := [.int x1, .int x3, .int (1 : Int32)]) (rest := []) (ci := 9) hC (c_X7_lengthAfterFold l hl0 V g D cT v10.2 v8.2.2 x0 x1 x3 (1 : Int32) (.inr v11) (h_nt_eq ev11)) k_X7_lengthAfterFold m_878 rfl rfl ⟨Nat.le_of_ble_eq_true rfl, Nat.le_of_ble_eq_true rfl⟩ hI rfl rfl (h_me_eq (h_nt_eq ev11)).1 rfl hl.1 rfl (Nat.le_of_ble_eq_true rfl) dL_isFold_135 ⟨by decide, by decide⟩) hI (fun H locs hI => ?_)
              refine lv_iload hx hb dL_isFold_138 (lv_at hl 1 rfl) ?_
              refine lv_icmp_ne (tgt := 204) hx hb dL_isFold_140 (by decide) (fun c12 => ?_) (fun c12 => ?_)
              · replace hq := i_f c12 hq
                refine lv_iconst (v := (0 : Int32)) hx hb dL_isFold_204 (by decide) ?_
                refine W.widen (k := 16) (n := 3284) (by decide) (by decide) ?_
                obtain rfl := Option.some.inj hq
                exact ge_Wi hx hb hlocks hr (by decide +kernel) hI rfl rfl dL_isFold_205
              · replace hq := i_t c12 hq
                refine lv_iload hx hb dL_isFold_143 (lv_at hl 0 rfl) ?_
                refine lv_iload hx hb dL_isFold_145 (lv_at hl 1 rfl) ?_
                refine lv_icmp_lt (tgt := 204) hx hb dL_isFold_147 (by decide) (fun c13 => ?_) (fun c13 => ?_)
                · replace hq := i_t c13 hq
                  refine lv_iconst (v := (0 : Int32)) hx hb dL_isFold_204 (by decide) ?_
                  refine W.widen (k := 16) (n := 3284) (by decide) (by decide) ?_
                  obtain rfl := Option.some.inj hq
                  exact ge_Wi hx hb hlocks hr (by decide +kernel) hI rfl rfl dL_isFold_205
                · replace hq := i_f c13 hq
                  refine lv_aload_n hx hb dL_isFold_150 rfl (lv_at hl 3 rfl) ?_
                  refine lv_iload_n hx hb dL_isFold_151 rfl (lv_at hl 4 rfl) ?_
                  refine lv_iload_n hx hb dL_isFold_152 rfl (lv_at hl 5 rfl) ?_
                  obtain ⟨v14, ev14, hq⟩ := b_s hq
                  refine gy_i (g_runVX (As := [.int x1, .int x3]) (rest := []) (ci := 9) hC (c_X7_fold l hl0 V g D cT v11.2 v8.2.2 x0 x1 x3 (.inr v14) (h_nt_eq ev14)) k_X7_fold m_887 rfl rfl ⟨Nat.le_of_ble_eq_true rfl, Nat.le_of_ble_eq_true rfl⟩ hI rfl rfl (h_me_eq (h_nt_eq ev14)).1 rfl hl.1 rfl (Nat.le_of_ble_eq_true rfl) dL_isFold_153 ⟨by decide, by decide⟩) hI (fun H locs hI => ?_)
                  refine lv_iload hx hb dL_isFold_156 (lv_at hl 8 rfl) ?_
                  refine lv_icmp_ne (tgt := 204) hx hb dL_isFold_158 (by decide) (fun c15 => ?_) (fun c15 => ?_)
                  · replace hq := i_f c15 hq
                    refine lv_iconst (v := (0 : Int32)) hx hb dL_isFold_204 (by decide) ?_
                    refine W.widen (k := 16) (n := 3284) (by decide) (by decide) ?_
                    obtain rfl := Option.some.inj hq
                    exact ge_Wi hx hb hlocks hr (by decide +kernel) hI rfl rfl dL_isFold_205
                  · replace hq := i_t c15 hq
                    refine lv_aload_n hx hb dL_isFold_161 rfl (lv_at hl 3 rfl) ?_
                    refine lv_iload_n hx hb dL_isFold_162 rfl (lv_at hl 4 rfl) ?_
                    refine lv_iconst (v := (0 : Int32)) hx hb dL_isFold_163 (by decide) ?_
                    obtain ⟨v16, ev16, hq⟩ := b_s hq
                    refine gx0_i (g_runVX (As := [.int x1, .int (0 : Int32)]) (rest := []) (ci := 9) hC (c_X7_lengthAt l hl0 V g D cT v14.2 v8.2.2 x0 x1 (0 : Int32) (.inr v16) (h_nt_eq ev16)) k_X7_lengthAt m_691 rfl rfl ⟨Nat.le_of_ble_eq_true rfl, Nat.le_of_ble_eq_true rfl⟩ hI rfl rfl (h_me_eq (h_nt_eq ev16)).1 rfl hl.1 rfl (Nat.le_of_ble_eq_true rfl) dL_isFold_164 ⟨by decide, by decide⟩) hI (fun H locs hI => ?_)
                    refine lv_iload hx hb dL_isFold_167 (lv_at hl 0 rfl) ?_
                    refine lv_icmp_ne (tgt := 204) hx hb dL_isFold_169 (by decide) (fun c17 => ?_) (fun c17 => ?_)
                    · replace hq := i_f c17 hq
                      refine lv_iconst (v := (0 : Int32)) hx hb dL_isFold_204 (by decide) ?_
                      refine W.widen (k := 16) (n := 3284) (by decide) (by decide) ?_
                      obtain rfl := Option.some.inj hq
                      exact ge_Wi hx hb hlocks hr (by decide +kernel) hI rfl rfl dL_isFold_205
                    · replace hq := i_t c17 hq
                      refine lv_aload_n hx hb dL_isFold_172 rfl (lv_at hl 3 rfl) ?_
                      refine lv_iload_n hx hb dL_isFold_173 rfl (lv_at hl 4 rfl) ?_
                      refine lv_iconst (v := (1 : Int32)) hx hb dL_isFold_174 (by decide) ?_
                      obtain ⟨v18, ev18, hq⟩ := b_s hq
                      refine gx0_i (g_runVX (As := [.int x1, .int (1 : Int32)]) (rest := []) (ci := 9) hC (c_X7_lengthAt l hl0 V g D cT v14.2 v8.2.2 x0 x1 (1 : Int32) (.inr v18) (h_nt_eq ev18)) k_X7_lengthAt m_691 rfl rfl ⟨Nat.le_of_ble_eq_true rfl, Nat.le_of_ble_eq_true rfl⟩ hI rfl rfl (h_me_eq (h_nt_eq ev18)).1 rfl hl.1 rfl (Nat.le_of_ble_eq_true rfl) dL_isFold_175 ⟨by decide, by decide⟩) hI (fun H locs hI => ?_)
                      refine lv_iload hx hb dL_isFold_178 (lv_at hl 1 rfl) ?_
                      refine lv_icmp_ne (tgt := 204) hx hb dL_isFold_180 (by decide) (fun c19 => ?_) (fun c19 => ?_)
                      · replace hq := i_f c19 hq
                        refine lv_iconst (v := (0 : Int32)) hx hb dL_isFold_204 (by decide) ?_
                        refine W.widen (k := 16) (n := 3284) (by decide) (by decide) ?_
                        obtain rfl := Option.some.inj hq
                        exact ge_Wi hx hb hlocks hr (by decide +kernel) hI rfl rfl dL_isFold_205
                      · replace hq := i_t c19 hq
                        refine lv_aload_n hx hb dL_isFold_183 rfl (lv_at hl 3 rfl) ?_
                        refine lv_iload_n hx hb dL_isFold_184 rfl (lv_at hl 4 rfl) ?_
                        obtain ⟨v20, ev20, hq⟩ := b_s hq
                        refine gy_i (g_runVX (As := [.int x1]) (rest := []) (ci := 9) hC (c_X7_unfold l hl0 V g D cT v14.2 v8.2.2 x0 x1 (.inr v20) (h_nt_eq ev20)) k_X7_unfold m_984 rfl rfl ⟨Nat.le_of_ble_eq_true rfl, Nat.le_of_ble_eq_true rfl⟩ hI rfl rfl (h_me_eq (h_nt_eq ev20)).1 rfl hl.1 rfl (Nat.le_of_ble_eq_true rfl) dL_isFold_185 ⟨by decide, by decide⟩) hI (fun H locs hI => ?_)
                        refine lv_iload hx hb dL_isFold_188 (lv_at hl 7 rfl) ?_
                        refine lv_icmp_ne (tgt := 204) hx hb dL_isFold_190 (by decide) (fun c21 => ?_) (fun c21 => ?_)
                        · replace hq := i_f c21 hq
                          refine lv_iconst (v := (0 : Int32)) hx hb dL_isFold_204 (by decide) ?_
                          refine W.widen (k := 16) (n := 3284) (by decide) (by decide) ?_
                          obtain rfl := Option.some.inj hq
                          exact ge_Wi hx hb hlocks hr (by decide +kernel) hI rfl rfl dL_isFold_205
                        · replace hq := i_t c21 hq
                          refine lv_aload_n hx hb dL_isFold_193 rfl (lv_at hl 3 rfl) ?_
                          refine lv_iload_n hx hb dL_isFold_194 rfl (lv_at hl 4 rfl) ?_
                          refine lv_iconst (v := (0 : Int32)) hx hb dL_isFold_195 (by decide) ?_
                          obtain ⟨v22, ev22, hq⟩ := b_s hq
                          refine gx0_i (g_runVX (As := [.int x1, .int (0 : Int32)]) (rest := []) (ci := 9) hC (c_X7_lengthAt l hl0 V g D cT v20.2 v8.2.2 x0 x1 (0 : Int32) (.inr v22) (h_nt_eq ev22)) k_X7_lengthAt m_691 rfl rfl ⟨Nat.le_of_ble_eq_true rfl, Nat.le_of_ble_eq_true rfl⟩ hI rfl rfl (h_me_eq (h_nt_eq ev22)).1 rfl hl.1 rfl (Nat.le_of_ble_eq_true rfl) dL_isFold_196 ⟨by decide, by decide⟩) hI (fun H locs hI => ?_)
                          refine lv_iload hx hb dL_isFold_199 (lv_at hl 1 rfl) ?_
                          refine lv_icmp_eq (tgt := 206) hx hb dL_isFold_201 (by decide) (fun c23 => ?_) (fun c23 => ?_)
                          · replace hq := i_t c23 hq
                            refine lv_iconst (v := (0 : Int32)) hx hb dL_isFold_206 (by decide) ?_
                            refine lv_istore (lv' := [(10, .int (0 : Int32)), (9, .int v10.1), (8, .int v9), (7, .ref v8.1), (0, .ref x0), (1, .int x1), (3, .int x3), (4, .int x4), (5, .int x5), (6, .int x6)]) hx hb dL_isFold_207 hl (by decide) rfl (fun ls hl => ?_)
                            have hl209 : ∀ (K260 : GH → Nat → Option (Int32 × GH × Nat)) (hK260 : ∀ (f : GH) (n : Nat) (H : Heap) (locs : List Loc) (ls : Array Slot), g_at (g_A V) V g D cT f n s H locs → lv_has ls 11 [] → K260 f n = some o → W p l e rm_L_isFold s m args below meth c H locs 11 1660 (MQ below (g_Wi V D cT o.1 o.2.1 o.2.2) args s 16 3284 (g_A V)) (F0 m 260 ls [])) (K268 : Nat → Nat → GH → Nat → Option (Int32 × GH × Nat)) (hK268 : ∀ (x0 : Nat) (x7 : Nat) (f : GH) (n : Nat) (H : Heap) (locs : List Loc) (ls : Array Slot), g_at (g_A V) V g D cT f n s H locs → lv_has ls 11 [(0, .ref x0), (7, .ref x7)] → K268 x0 x7 f n = some o → W p l e rm_L_isFold s m args below meth c H locs 11 1660 (MQ below (g_Wi V D cT o.1 o.2.1 o.2.2) args s 16 3284 (g_A V)) (F0 m 268 ls [])) (N : Nat) (x0 : Nat) (x1 : Int32) (x5 : Int32) (x7 : Nat) (x10 : Int32) (f : GH) (n : Nat) (H : Heap) (locs : List Loc) (ls : Array Slot), g_at (g_A V) V g D cT f n s H locs → lv_has ls 11 [(0, .ref x0), (1, .int x1), (5, .int x5), (7, .ref x7), (10, .int x10)] → p_L_isFold_l209 V g K260 K268 N x0 x1 x5 x7 x10 f n = some o → W p l e rm_L_isFold s m args below meth c H locs 11 1660 (MQ below (g_Wi V D cT o.1 o.2.1 o.2.2) args s 16 3284 (g_A V)) (F0 m 209 ls []) := by
                              intro K260 hK260 K268 hK268 N
                              induction N with
                              | zero =>
                                intro x0 x1 x5 x7 x10 f n H locs ls hI hl hq
                                rw [p_L_isFold_l209] at hq
                                cases hq
                              | succ N ih =>
                                intro x0 x1 x5 x7 x10 f n H locs ls hI hl hq
                                rw [p_L_isFold_l209] at hq
                                refine lv_iload hx hb dL_isFold_209 (lv_at hl 4 rfl) ?_
                                refine lv_iload hx hb dL_isFold_211 (lv_at hl 2 rfl) ?_
                                refine lv_icmp_ge (tgt := 268) hx hb dL_isFold_213 (by decide) (fun c24 => ?_) (fun c24 => ?_)
                                · replace hq := i_t c24 hq
                                  exact hK268 x0 x7 f n H locs ls hI (lv_sub hl [0, 3] rfl) hq
                                · replace hq := i_f c24 hq
                                  refine lv_aload_n hx hb dL_isFold_216 rfl (lv_at hl 0 rfl) ?_
                                  refine lv_iload_n hx hb dL_isFold_217 rfl (lv_at hl 1 rfl) ?_
                                  refine lv_iload hx hb dL_isFold_218 (lv_at hl 4 rfl) ?_
                                  obtain ⟨v25, ev25, hq⟩ := b_s hq
                                  refine gx0_i (g_runVX (As := [.int x1, .int x10]) (rest := []) (ci := 9) hC (c_X7_pointX l hl0 V g D cT f n x0 x1 x10 (.inr v25) (h_nt_eq ev25)) k_X7_pointX m_617 rfl rfl ⟨Nat.le_of_ble_eq_true rfl, Nat.le_of_ble_eq_true rfl⟩ hI rfl rfl (h_me_eq (h_nt_eq ev25)).1 rfl hl.1 rfl (Nat.le_of_ble_eq_true rfl) dL_isFold_220 ⟨by decide, by decide⟩) hI (fun H locs hI => ?_)
                                  refine lv_aload hx hb dL_isFold_223 (lv_at hl 3 rfl) ?_
                                  refine lv_aload hx hb dL_isFold_225 (lv_at hl 3 rfl) ?_
                                  refine lv_iload_n hx hb dL_isFold_227 rfl (lv_at hl 1 rfl) ?_
                                  refine lv_iload hx hb dL_isFold_228 (lv_at hl 4 rfl) ?_
                                  obtain ⟨v26, ev26, hq⟩ := b_s hq
                                  refine gr0_i (g_runS (As := [.ref x7, .int x1, .int x10]) (rest := [.ref x7, .int v25]) hC (c_L_at l hl0 V g D cT f n x7 x1 x10 v26 ev26) k_L_at m_990 rfl rfl ⟨Nat.le_of_ble_eq_true rfl, Nat.le_of_ble_eq_true rfl⟩ hI rfl hl.1 rfl (Nat.le_of_ble_eq_true rfl) dL_isFold_230 ⟨by decide, by decide⟩) hI (fun H locs hI => ?_)
                                  obtain ⟨v27, ev27, hq⟩ := b_s hq
                                  refine fa_li hx hb hI ev27 dL_isFold_233 ?_
                                  refine lv_icmp_ne (tgt := 260) hx hb dL_isFold_234 (by decide) (fun c28 => ?_) (fun c28 => ?_)
                                  · replace hq := i_f c28 hq
                                    exact hK260 f n H locs ls hI (lv_sub hl [] rfl) hq
                                  · replace hq := i_t c28 hq
                                    refine lv_aload_n hx hb dL_isFold_237 rfl (lv_at hl 0 rfl) ?_
                                    refine lv_iload_n hx hb dL_isFold_238 rfl (lv_at hl 1 rfl) ?_
                                    refine lv_iload hx hb dL_isFold_239 (lv_at hl 4 rfl) ?_
                                    obtain ⟨v29, ev29, hq⟩ := b_s hq
                                    refine gx0_i (g_runVX (As := [.int x1, .int x10]) (rest := []) (ci := 9) hC (c_X7_pointY l hl0 V g D cT f n x0 x1 x10 (.inr v29) (h_nt_eq ev29)) k_X7_pointY m_626 rfl rfl ⟨Nat.le_of_ble_eq_true rfl, Nat.le_of_ble_eq_true rfl⟩ hI rfl rfl (h_me_eq (h_nt_eq ev29)).1 rfl hl.1 rfl (Nat.le_of_ble_eq_true rfl) dL_isFold_241 ⟨by decide, by decide⟩) hI (fun H locs hI => ?_)
                                    refine lv_aload hx hb dL_isFold_244 (lv_at hl 3 rfl) ?_
                                    refine lv_aload hx hb dL_isFold_246 (lv_at hl 3 rfl) ?_
                                    refine lv_iload_n hx hb dL_isFold_248 rfl (lv_at hl 1 rfl) ?_
                                    refine lv_iload hx hb dL_isFold_249 (lv_at hl 4 rfl) ?_
                                    obtain ⟨v30, ev30, hq⟩ := b_s hq
                                    refine gr0_i (g_runS (As := [.ref x7, .int x1, .int x10]) (rest := [.ref x7, .int v29]) hC (c_L_at l hl0 V g D cT f n x7 x1 x10 v30 ev30) k_L_at m_990 rfl rfl ⟨Nat.le_of_ble_eq_true rfl, Nat.le_of_ble_eq_true rfl⟩ hI rfl hl.1 rfl (Nat.le_of_ble_eq_true rfl) dL_isFold_251 ⟨by decide, by decide⟩) hI (fun H locs hI => ?_)
                                    refine lv_iconst (v := (1 : Int32)) hx hb dL_isFold_254 (by decide) ?_
                                    refine lv_iadd hx hb dL_isFold_255 ?_
                                    obtain ⟨v31, ev31, hq⟩ := b_s hq
                                    refine fa_li hx hb hI ev31 dL_isFold_256 ?_
                                    refine lv_icmp_eq (tgt := 262) hx hb dL_isFold_257 (by decide) (fun c32 => ?_) (fun c32 => ?_)
                                    · replace hq := i_t c32 hq
                                      refine lv_iinc (v := x10 + (1 : Int32)) (lv' := [(10, .int (x10 + (1 : Int32))), (0, .ref x0), (1, .int x1), (5, .int x5), (7, .ref x7)]) hx hb dL_isFold_262 hl (k := 4) rfl rfl (by decide) rfl (fun ls hl => ?_)
                                      refine lv_goto (tgt := 209) hx hb dL_isFold_265 (by decide) ?_
                                      exact ih x0 x1 x5 x7 (x10 + (1 : Int32)) f n H locs ls hI (lv_sub hl [1, 2, 3, 4, 0] rfl) hq
                                    · replace hq := i_f c32 hq
                                      exact hK260 f n H locs ls hI (lv_sub hl [] rfl) hq
                            refine hl209 _ ?_ _ ?_ FU x0 x1 x5 v8.1 (0 : Int32) v20.2 v8.2.2 H locs ls hI (lv_sub hl [4, 5, 8, 3, 0] rfl) hq
                            · intro f n H locs ls hI hl hq
                              refine lv_iconst (v := (0 : Int32)) hx hb dL_isFold_260 (by decide) ?_
                              refine W.widen (k := 16) (n := 3284) (by decide) (by decide) ?_
                              obtain rfl := Option.some.inj hq
                              exact ge_Wi hx hb hlocks hr (by decide +kernel) hI rfl rfl dL_isFold_261
                            · intro x0 x7 f n H locs ls hI hl hq
                              refine lv_aload_n hx hb dL_isFold_268 rfl (lv_at hl 0 rfl) ?_
                              obtain ⟨v33, ev33, hq⟩ := b_s hq
                              refine gy_i (g_runVX (As := []) (rest := []) (ci := 9) hC (c_X7_undo l hl0 V g D cT f n x0 (.inr v33) (h_nt_eq ev33)) k_X7_undo m_515 rfl rfl ⟨Nat.le_of_ble_eq_true rfl, Nat.le_of_ble_eq_true rfl⟩ hI rfl rfl (h_me_eq (h_nt_eq ev33)).1 rfl hl.1 rfl (Nat.le_of_ble_eq_true rfl) dL_isFold_269 ⟨by decide, by decide⟩) hI (fun H locs hI => ?_)
                              refine lv_if_lt (tgt := 298) hx hb dL_isFold_272 (by decide) (fun c34 => ?_) (fun c34 => ?_)
                              · replace hq := i_t c34 hq
                                refine lv_iconst (v := (0 : Int32)) hx hb dL_isFold_298 (by decide) ?_
                                refine W.widen (k := 16) (n := 3284) (by decide) (by decide) ?_
                                obtain rfl := Option.some.inj hq
                                exact ge_Wi hx hb hlocks hr (by decide +kernel) hI rfl rfl dL_isFold_299
                              · replace hq := i_f c34 hq
                                refine lv_aload_n hx hb dL_isFold_275 rfl (lv_at hl 0 rfl) ?_
                                obtain ⟨v35, ev35, hq⟩ := b_s hq
                                refine gy_i (g_runVX (As := []) (rest := []) (ci := 9) hC (c_X7_undo l hl0 V g D cT v33.2 n x0 (.inr v35) (h_nt_eq ev35)) k_X7_undo m_515 rfl rfl ⟨Nat.le_of_ble_eq_true rfl, Nat.le_of_ble_eq_true rfl⟩ hI rfl rfl (h_me_eq (h_nt_eq ev35)).1 rfl hl.1 rfl (Nat.le_of_ble_eq_true rfl) dL_isFold_276 ⟨by decide, by decide⟩) hI (fun H locs hI => ?_)
                                refine lv_if_lt (tgt := 298) hx hb dL_isFold_279 (by decide) (fun c36 => ?_) (fun c36 => ?_)
                                · replace hq := i_t c36 hq
                                  refine lv_iconst (v := (0 : Int32)) hx hb dL_isFold_298 (by decide) ?_
                                  refine W.widen (k := 16) (n := 3284) (by decide) (by decide) ?_
                                  obtain rfl := Option.some.inj hq
                                  exact ge_Wi hx hb hlocks hr (by decide +kernel) hI rfl rfl dL_isFold_299
                                · replace hq := i_f c36 hq
                                  refine lv_aload_n hx hb dL_isFold_282 rfl (lv_at hl 0 rfl) ?_
                                  obtain ⟨v37, ev37, hq⟩ := b_s hq
                                  refine gw_r (g_runS (As := [.ref x0]) (rest := []) hC (c_L_all l hl0 V g D cT v35.2 n x0 v37 ev37) k_L_all m_570 rfl rfl ⟨Nat.le_of_ble_eq_true rfl, Nat.le_of_ble_eq_true rfl⟩ hI rfl hl.1 rfl (Nat.le_of_ble_eq_true rfl) dL_isFold_283 ⟨by decide, by decide⟩) hI (fun H locs hI => ?_)
                                  refine lv_aload hx hb dL_isFold_286 (lv_at hl 1 rfl) ?_
                                  obtain ⟨v38, ev38, hq⟩ := b_s hq
                                  refine gr0_i (g_runS (As := [.ref v37.1, .ref x7]) (rest := []) hC (c_L_alike l hl0 V g D cT v37.2.1 v37.2.2 v37.1 x7 v38 ev38) k_L_alike m_630 rfl rfl ⟨Nat.le_of_ble_eq_true rfl, Nat.le_of_ble_eq_true rfl⟩ hI rfl hl.1 rfl (Nat.le_of_ble_eq_true rfl) dL_isFold_288 ⟨by decide, by decide⟩) hI (fun H locs hI => ?_)
                                  refine lv_if_eq (tgt := 298) hx hb dL_isFold_291 (by decide) (fun c39 => ?_) (fun c39 => ?_)
                                  · replace hq := i_t c39 hq
                                    refine lv_iconst (v := (0 : Int32)) hx hb dL_isFold_298 (by decide) ?_
                                    obtain rfl := Option.some.inj hq
                                    exact ge_Wi hx hb hlocks hr (by decide +kernel) hI rfl rfl dL_isFold_299
                                  · replace hq := i_f c39 hq
                                    refine lv_iconst (v := (1 : Int32)) hx hb dL_isFold_294 (by decide) ?_
                                    refine lv_goto (tgt := 299) hx hb dL_isFold_295 (by decide) ?_
                                    obtain rfl := Option.some.inj hq
                                    exact ge_Wi hx hb hlocks hr (by decide +kernel) hI rfl rfl dL_isFold_299
                          · replace hq := i_f c23 hq
                            refine lv_iconst (v := (0 : Int32)) hx hb dL_isFold_204 (by decide) ?_
                            refine W.widen (k := 16) (n := 3284) (by decide) (by decide) ?_
                            obtain rfl := Option.some.inj hq
                            exact ge_Wi hx hb hlocks hr (by decide +kernel) hI rfl rfl dL_isFold_205
            · replace hq := i_f c7 hq
              refine lv_aload_n hx hb dL_isFold_91 rfl (lv_at hl 0 rfl) ?_
              refine lv_iload_n hx hb dL_isFold_92 rfl (lv_at hl 1 rfl) ?_
              refine lv_iload_n hx hb dL_isFold_93 rfl (lv_at hl 2 rfl) ?_
              refine lv_iconst (v := (0 : Int32)) hx hb dL_isFold_94 (by decide) ?_
              obtain ⟨v40, ev40, hq⟩ := b_s hq
              refine gy_i (g_runVX (As := [.int x1, .int x3, .int (0 : Int32)]) (rest := []) (ci := 9) hC (c_X7_lengthAfterFold l hl0 V g D cT f n x0 x1 x3 (0 : Int32) (.inr v40) (h_nt_eq ev40)) k_X7_lengthAfterFold m_878 rfl rfl ⟨Nat.le_of_ble_eq_true rfl, Nat.le_of_ble_eq_true rfl⟩ hI rfl rfl (h_me_eq (h_nt_eq ev40)).1 rfl hl.1 rfl (Nat.le_of_ble_eq_true rfl) dL_isFold_95 ⟨by decide, by decide⟩) hI (fun H locs hI => ?_)
              refine lv_iconst (v := (-1 : Int32)) hx hb dL_isFold_98 (by decide) ?_
              refine lv_icmp_ne (tgt := 106) hx hb dL_isFold_99 (by decide) (fun c41 => ?_) (fun c41 => ?_)
              · replace hq := i_f c41 hq
                refine lv_iconst (v := (0 : Int32)) hx hb dL_isFold_106 (by decide) ?_
                refine W.widen (k := 16) (n := 3284) (by decide) (by decide) ?_
                obtain rfl := Option.some.inj hq
                exact ge_Wi hx hb hlocks hr (by decide +kernel) hI rfl rfl dL_isFold_107
              · replace hq := i_t c41 hq
                refine lv_iconst (v := (1 : Int32)) hx hb dL_isFold_102 (by decide) ?_
                refine lv_goto (tgt := 107) hx hb dL_isFold_103 (by decide) ?_
                refine W.widen (k := 16) (n := 3284) (by decide) (by decide) ?_
                obtain rfl := Option.some.inj hq
                exact ge_Wi hx hb hlocks hr (by decide +kernel) hI rfl rfl dL_isFold_107
          · replace hq := i_f c6 hq
            refine lv_iconst (v := (1 : Int32)) hx hb dL_isFold_84 (by decide) ?_
            refine W.widen (k := 16) (n := 3284) (by decide) (by decide) ?_
            obtain rfl := Option.some.inj hq
            exact ge_Wi hx hb hlocks hr (by decide +kernel) hI rfl rfl dL_isFold_85
        · replace hq := i_f c5 hq
          refine lv_iconst (v := (0 : Int32)) hx hb dL_isFold_75 (by decide) ?_
          refine W.widen (k := 16) (n := 3284) (by decide) (by decide) ?_
          obtain rfl := Option.some.inj hq
          exact ge_Wi hx hb hlocks hr (by decide +kernel) hI rfl rfl dL_isFold_76
      refine lv_icmp_le (tgt := 71) hx hb dL_isFold_64 (by decide) (fun c42 => ?_) (fun c42 => ?_)
      · replace hq := i_t c42 hq
        refine lv_iconst (v := (0 : Int32)) hx hb dL_isFold_71 (by decide) ?_
        exact hj72 x0 x1 x3 x4 x5 x6 (0 : Int32) t0 f n H locs ls hI (lv_sub hl [0, 1, 2, 3, 4, 5] rfl) hq
      · replace hq := i_f c42 hq
        refine lv_iconst (v := (1 : Int32)) hx hb dL_isFold_67 (by decide) ?_
        refine lv_goto (tgt := 72) hx hb dL_isFold_68 (by decide) ?_
        exact hj72 x0 x1 x3 x4 x5 x6 (1 : Int32) t0 f n H locs ls hI (lv_sub hl [0, 1, 2, 3, 4, 5] rfl) hq
    refine lv_icmp_ne (tgt := 58) hx hb dL_isFold_51 (by decide) (fun c43 => ?_) (fun c43 => ?_)
    · replace hq := i_f c43 hq
      refine lv_iconst (v := (0 : Int32)) hx hb dL_isFold_58 (by decide) ?_
      exact hj59 x0 x1 x3 x4 x5 t0 (0 : Int32) f n H locs ls hI (lv_sub hl [1, 2, 3, 4, 5, 0] rfl) hq
    · replace hq := i_t c43 hq
      refine lv_iconst (v := (1 : Int32)) hx hb dL_isFold_54 (by decide) ?_
      refine lv_goto (tgt := 59) hx hb dL_isFold_55 (by decide) ?_
      exact hj59 x0 x1 x3 x4 x5 t0 (1 : Int32) f n H locs ls hI (lv_sub hl [1, 2, 3, 4, 5, 0] rfl) hq
  refine lv_if_eq (tgt := 40) hx hb dL_isFold_30 (by decide) (fun c44 => ?_) (fun c44 => ?_)
  · replace hq := i_t c44 hq
    refine lv_iconst (v := (2 : Int32)) hx hb dL_isFold_40 (by decide) ?_
    refine lv_iload hx hb dL_isFold_41 (lv_at hl 0 rfl) ?_
    refine lv_imul hx hb dL_isFold_43 ?_
    refine lv_iconst (v := (1 : Int32)) hx hb dL_isFold_44 (by decide) ?_
    refine lv_isub hx hb dL_isFold_45 ?_
    exact hj46 a0 a1 (v1 - (50 : Int32)) v2 v3 (((2 : Int32) * v3) - (1 : Int32)) f n H locs ls hI (lv_sub hl [3, 4, 2, 1, 0] rfl) hq
  · replace hq := i_f c44 hq
    refine lv_iconst (v := (2 : Int32)) hx hb dL_isFold_33 (by decide) ?_
    refine lv_iload hx hb dL_isFold_34 (lv_at hl 0 rfl) ?_
    refine lv_imul hx hb dL_isFold_36 ?_
    refine lv_goto (tgt := 46) hx hb dL_isFold_37 (by decide) ?_
    exact hj46 a0 a1 (v1 - (50 : Int32)) v2 v3 ((2 : Int32) * v3) f n H locs ls hI (lv_sub hl [3, 4, 2, 1, 0] rfl) hq

abbrev rm_L_act : Room := { frames := 11, cells := 20, slots := 8032, locals := 315 }
theorem k_L_act : g_CS yL_act cL_act 17 (some .boolean) 3 := ⟨⟨m_995, m_0, by decide +kernel⟩, m_994⟩
set_option maxHeartbeats 4000000 in
set_option maxRecDepth 100000 in
theorem c_L_act (l : Launch) (hl0 : l.stackTraces = false) (V : Nat → Nat) (g : GH) (D : va_G) (cT : Nat → ClassId) (f : GH) (n : Nat) (a0 : Nat) (a1 : Nat) (a2 : Int32) (o : Int32 × GH × Nat) (hq : p_L_act V g f n a0 a1 a2 = some o) : Met l yL_act (Cond.code yL_act cL_act 17 (some .boolean) :: g_B) rm_L_act (va_Pc [.ref a0, .ref a1, .int a2] (g_I V g D cT f n)) (g_Wi V D cT o.1 o.2.1 o.2.2) 20 8032 (g_A V) := by
  refine g_begin (own := RL) [.ref a0, .ref a1, .int a2] [(0, .ref a0), (1, .ref a1), (2, .int a2)] (g_A V) (fun _ h => h) (by decide) rfl (Nat.le_of_ble_eq_true rfl) rfl ?_
  intro p e s m args below meth c hx hb hr hlocks hin hC hI ls hl
  obtain ⟨hx, hb, hml, hown, hB⟩ := id hC
  obtain ⟨H, hH⟩ : ∃ H, H = s.heap := ⟨_, rfl⟩
  obtain ⟨locs, hlocs⟩ : ∃ L : List Loc, L = [] := ⟨_, rfl⟩
  rw [← hH, ← hlocs] at hI ⊢
  clear hH hlocs
  unfold p_L_act at hq
  refine lv_iload_n hx hb dL_act_0 rfl (lv_at hl 2 rfl) ?_
  refine lv_bipush (v := (18 : Int32)) hx hb dL_act_1 (by decide) ?_
  obtain ⟨v1, ev1, hq⟩ := b_s hq
  refine gr0_i (g_runS (As := [.int a2, .int (18 : Int32)]) (rest := []) hC (c_L_most l hl0 V g D cT f n a2 (18 : Int32) v1 ev1) k_L_most m_544 rfl rfl ⟨Nat.le_of_ble_eq_true rfl, Nat.le_of_ble_eq_true rfl⟩ hI rfl hl.1 rfl (Nat.le_of_ble_eq_true rfl) dL_act_3 ⟨by decide, by decide⟩) hI (fun H locs hI => ?_)
  refine lv_istore_n (lv' := [(3, .int v1), (0, .ref a0), (1, .ref a1), (2, .int a2)]) hx hb dL_act_6 rfl hl (by decide) rfl (fun ls hl => ?_)
  refine lv_iload_n hx hb dL_act_7 rfl (lv_at hl 3 rfl) ?_
  refine lv_iconst (v := (4 : Int32)) hx hb dL_act_8 (by decide) ?_
  refine lv_ishr hx hb dL_act_9 ?_
  refine lv_istore (lv' := [(4, .int (a2 >>> ((4 : Int32) &&& 31))), (3, .int v1), (0, .ref a0), (1, .ref a1), (2, .int a2)]) hx hb dL_act_10 hl (by decide) rfl (fun ls hl => ?_)
  refine lv_aload_n hx hb dL_act_12 rfl (lv_at hl 2 rfl) ?_
  obtain ⟨v2, ev2, hq⟩ := b_s hq
  refine gr_i (g_runV (As := []) (rest := []) (ci := 9) hC (c_X7_coastCount l V g D cT f n a0 v2 ev2) k_X7_coastCount m_503 rfl rfl ⟨Nat.le_of_ble_eq_true rfl, Nat.le_of_ble_eq_true rfl⟩ hI rfl rfl (h_me_eq ev2).1 rfl hl.1 rfl (Nat.le_of_ble_eq_true rfl) dL_act_13 ⟨by decide, by decide⟩) hI (fun H locs hI => ?_)
  refine lv_istore (lv' := [(5, .int v2), (4, .int (a2 >>> ((4 : Int32) &&& 31))), (3, .int v1), (0, .ref a0), (1, .ref a1), (2, .int a2)]) hx hb dL_act_16 hl (by decide) rfl (fun ls hl => ?_)
  refine lv_iload hx hb dL_act_18 (lv_at hl 0 rfl) ?_
  have hj34 : ∀ (x0 : Nat) (x1 : Nat) (x3 : Int32) (x4 : Int32) (x5 : Int32) (t0 : Int32) (f : GH) (n : Nat) (H : Heap) (locs : List Loc) (ls : Array Slot), g_at (g_A V) V g D cT f n s H locs → lv_has ls 17 [(0, .ref x0), (1, .ref x1), (3, .int x3), (4, .int x4), (5, .int x5)] → p_L_act_j34 V g x0 x1 x3 x4 x5 t0 f n = some o → W p l e rm_L_act s m args below meth c H locs 0 0 (MQ below (g_Wi V D cT o.1 o.2.1 o.2.2) args s 20 8032 (g_A V)) (F0 m 34 ls [.int t0]) := by
    intro x0 x1 x3 x4 x5 t0 f n H locs ls hI hl hq
    unfold p_L_act_j34 at hq
    refine lv_istore (lv' := [(6, .int t0), (0, .ref x0), (1, .ref x1), (3, .int x3), (4, .int x4), (5, .int x5)]) hx hb dL_act_34 hl (by decide) rfl (fun ls hl => ?_)
    refine lv_iload hx hb dL_act_36 (lv_at hl 5 rfl) ?_
    have hj53 : ∀ (x0 : Nat) (x1 : Nat) (x4 : Int32) (x5 : Int32) (f : GH) (n : Nat) (H : Heap) (locs : List Loc) (ls : Array Slot), g_at (g_A V) V g D cT f n s H locs → lv_has ls 17 [(0, .ref x0), (1, .ref x1), (4, .int x4), (5, .int x5)] → p_L_act_j53 V g x0 x1 x4 x5 f n = some o → W p l e rm_L_act s m args below meth c H locs 0 0 (MQ below (g_Wi V D cT o.1 o.2.1 o.2.2) args s 20 8032 (g_A V)) (F0 m 53 ls []) := by
      intro x0 x1 x4 x5 f n H locs ls hI hl hq
      unfold p_L_act_j53 at hq
      refine lv_iload hx hb dL_act_53 (lv_at hl 2 rfl) ?_
      refine lv_iconst (v := (2 : Int32)) hx hb dL_act_55 (by decide) ?_
      obtain ⟨v3, ev3, hq⟩ := b_s hq
      refine gr0_i (g_runS (As := [.int x4, .int (2 : Int32)]) (rest := []) hC (c_L_most l hl0 V g D cT f n x4 (2 : Int32) v3 ev3) k_L_most m_544 rfl rfl ⟨Nat.le_of_ble_eq_true rfl, Nat.le_of_ble_eq_true rfl⟩ hI rfl hl.1 rfl (Nat.le_of_ble_eq_true rfl) dL_act_56 ⟨by decide, by decide⟩) hI (fun H locs hI => ?_)
      have hj67 : ∀ (x0 : Nat) (x1 : Nat) (x4 : Int32) (x5 : Int32) (t0 : Int32) (f : GH) (n : Nat) (H : Heap) (locs : List Loc) (ls : Array Slot), g_at (g_A V) V g D cT f n s H locs → lv_has ls 17 [(0, .ref x0), (1, .ref x1), (4, .int x4), (5, .int x5)] → p_L_act_j67 V g x0 x1 x4 x5 t0 f n = some o → W p l e rm_L_act s m args below meth c H locs 0 0 (MQ below (g_Wi V D cT o.1 o.2.1 o.2.2) args s 20 8032 (g_A V)) (F0 m 67 ls [.int t0]) := by
        intro x0 x1 x4 x5 t0 f n H locs ls hI hl hq
        unfold p_L_act_j67 at hq
        refine lv_istore (lv' := [(7, .int t0), (0, .ref x0), (1, .ref x1), (4, .int x4), (5, .int x5)]) hx hb dL_act_67 hl (by decide) rfl (fun ls hl => ?_)
        obtain ⟨f4, ef4, hq⟩ := b_s hq
        refine fa_new (own := RL) (ci := 1) hx hb hB inB_RJ4 tyJ4_ok hown m_996 m_198 m_10 hI rfl (by decide +kernel) (by decide) (by decide) ef4 dL_act_69 (fun H locs hI => ?_)
        refine lv_dup hx hb dL_act_72 rfl ?_
        obtain ⟨v5, ev5, hq⟩ := b_s hq
        refine gw_v (g_runI (As := []) (rest := [.ref n]) hC (c_J4_init_da8c8 l V g D cT f4 (n + 1) n v5 ev5) k_J4_init_da8c8 m_997 rfl rfl ⟨Nat.le_of_ble_eq_true rfl, Nat.le_of_ble_eq_true rfl⟩ hI rfl hl.1 rfl (Nat.le_of_ble_eq_true rfl) dL_act_73 ⟨by decide, by decide⟩) hI (fun H locs hI => ?_)
        refine lv_iload hx hb dL_act_76 (lv_at hl 0 rfl) ?_
        have hj88 : ∀ (x0 : Nat) (x1 : Nat) (x4 : Int32) (x5 : Int32) (x7 : Int32) (t0 : Nat) (t1 : Nat) (f : GH) (n : Nat) (H : Heap) (locs : List Loc) (ls : Array Slot), g_at (g_A V) V g D cT f n s H locs → lv_has ls 17 [(0, .ref x0), (1, .ref x1), (4, .int x4), (5, .int x5), (7, .int x7)] → p_L_act_j88 V g x0 x1 x4 x5 x7 t0 t1 f n = some o → W p l e rm_L_act s m args below meth c H locs 2 204 (MQ below (g_Wi V D cT o.1 o.2.1 o.2.2) args s 20 8032 (g_A V)) (F0 m 88 ls [.ref t0, .ref t1]) := by
          intro x0 x1 x4 x5 x7 t0 t1 f n H locs ls hI hl hq
          unfold p_L_act_j88 at hq
          obtain ⟨v6, ev6, hq⟩ := b_s hq
          refine gw_r (g_runV (As := [.ref t0]) (rest := []) (ci := 1) hC (c_J4_append_15ec4 l V g D cT f n t1 t0 v6 ev6) k_J4_append_15ec4 m_1000 rfl rfl ⟨Nat.le_of_ble_eq_true rfl, Nat.le_of_ble_eq_true rfl⟩ hI rfl rfl (h_me_eq ev6).1 rfl hl.1 rfl (Nat.le_of_ble_eq_true rfl) dL_act_88 ⟨by decide, by decide⟩) hI (fun H locs hI => ?_)
          refine lv_iload hx hb dL_act_91 (lv_at hl 2 rfl) ?_
          refine lv_bipush (v := (90 : Int32)) hx hb dL_act_93 (by decide) ?_
          obtain ⟨v7, ev7, hq⟩ := b_s hq
          refine gr0_i (g_runS (As := [.int x4, .int (90 : Int32)]) (rest := [.ref v6.1]) hC (c_L_most l hl0 V g D cT v6.2.1 v6.2.2 x4 (90 : Int32) v7 ev7) k_L_most m_544 rfl rfl ⟨Nat.le_of_ble_eq_true rfl, Nat.le_of_ble_eq_true rfl⟩ hI rfl hl.1 rfl (Nat.le_of_ble_eq_true rfl) dL_act_95 ⟨by decide, by decide⟩) hI (fun H locs hI => ?_)
          obtain ⟨v8, ev8, hq⟩ := b_s hq
          refine gw_r (g_runV (As := [.int v7]) (rest := []) (ci := 1) hC (c_J4_append_bf812 l V g D cT v6.2.1 v6.2.2 v6.1 v7 v8 ev8) k_J4_append_bf812 m_1095 rfl rfl ⟨Nat.le_of_ble_eq_true rfl, Nat.le_of_ble_eq_true rfl⟩ hI rfl rfl (h_me_eq ev8).1 rfl hl.1 rfl (Nat.le_of_ble_eq_true rfl) dL_act_98 ⟨by decide, by decide⟩) hI (fun H locs hI => ?_)
          refine lv_ldcS hx hb hown (g_rtq hI rt_15) dL_act_101 ?_
          obtain ⟨v9, ev9, hq⟩ := b_s hq
          refine gw_r (g_runV (As := [.ref (V 52)]) (rest := []) (ci := 1) hC (c_J4_append_15ec4 l V g D cT v8.2.1 v8.2.2 v8.1 (V 52) v9 ev9) k_J4_append_15ec4 m_1000 rfl rfl ⟨Nat.le_of_ble_eq_true rfl, Nat.le_of_ble_eq_true rfl⟩ hI rfl rfl (h_me_eq ev9).1 rfl hl.1 rfl (Nat.le_of_ble_eq_true rfl) dL_act_103 ⟨by decide, by decide⟩) hI (fun H locs hI => ?_)
          refine lv_iload hx hb dL_act_106 (lv_at hl 2 rfl) ?_
          refine lv_iconst (v := (1 : Int32)) hx hb dL_act_108 (by decide) ?_
          refine lv_ishr hx hb dL_act_109 ?_
          refine lv_bipush (v := (90 : Int32)) hx hb dL_act_110 (by decide) ?_
          obtain ⟨v10, ev10, hq⟩ := b_s hq
          refine gr0_i (g_runS (As := [.int (x4 >>> ((1 : Int32) &&& 31)), .int (90 : Int32)]) (rest := [.ref v9.1]) hC (c_L_most l hl0 V g D cT v9.2.1 v9.2.2 (x4 >>> ((1 : Int32) &&& 31)) (90 : Int32) v10 ev10) k_L_most m_544 rfl rfl ⟨Nat.le_of_ble_eq_true rfl, Nat.le_of_ble_eq_true rfl⟩ hI rfl hl.1 rfl (Nat.le_of_ble_eq_true rfl) dL_act_112 ⟨by decide, by decide⟩) hI (fun H locs hI => ?_)
          obtain ⟨v11, ev11, hq⟩ := b_s hq
          refine gw_r (g_runV (As := [.int v10]) (rest := []) (ci := 1) hC (c_J4_append_bf812 l V g D cT v9.2.1 v9.2.2 v9.1 v10 v11 ev11) k_J4_append_bf812 m_1095 rfl rfl ⟨Nat.le_of_ble_eq_true rfl, Nat.le_of_ble_eq_true rfl⟩ hI rfl rfl (h_me_eq ev11).1 rfl hl.1 rfl (Nat.le_of_ble_eq_true rfl) dL_act_115 ⟨by decide, by decide⟩) hI (fun H locs hI => ?_)
          refine lv_ldcS hx hb hown (g_rtq hI rt_16) dL_act_118 ?_
          obtain ⟨v12, ev12, hq⟩ := b_s hq
          refine gw_r (g_runV (As := [.ref (V 53)]) (rest := []) (ci := 1) hC (c_J4_append_15ec4 l V g D cT v11.2.1 v11.2.2 v11.1 (V 53) v12 ev12) k_J4_append_15ec4 m_1000 rfl rfl ⟨Nat.le_of_ble_eq_true rfl, Nat.le_of_ble_eq_true rfl⟩ hI rfl rfl (h_me_eq ev12).1 rfl hl.1 rfl (Nat.le_of_ble_eq_true rfl) dL_act_120 ⟨by decide, by decide⟩) hI (fun H locs hI => ?_)
          refine lv_iload hx hb dL_act_123 (lv_at hl 2 rfl) ?_
          refine lv_iconst (v := (2 : Int32)) hx hb dL_act_125 (by decide) ?_
          refine lv_ishr hx hb dL_act_126 ?_
          refine lv_bipush (v := (90 : Int32)) hx hb dL_act_127 (by decide) ?_
          obtain ⟨v13, ev13, hq⟩ := b_s hq
          refine gr0_i (g_runS (As := [.int (x4 >>> ((2 : Int32) &&& 31)), .int (90 : Int32)]) (rest := [.ref v12.1]) hC (c_L_most l hl0 V g D cT v12.2.1 v12.2.2 (x4 >>> ((2 : Int32) &&& 31)) (90 : Int32) v13 ev13) k_L_most m_544 rfl rfl ⟨Nat.le_of_ble_eq_true rfl, Nat.le_of_ble_eq_true rfl⟩ hI rfl hl.1 rfl (Nat.le_of_ble_eq_true rfl) dL_act_129 ⟨by decide, by decide⟩) hI (fun H locs hI => ?_)
          obtain ⟨v14, ev14, hq⟩ := b_s hq
          refine gw_r (g_runV (As := [.int v13]) (rest := []) (ci := 1) hC (c_J4_append_bf812 l V g D cT v12.2.1 v12.2.2 v12.1 v13 v14 ev14) k_J4_append_bf812 m_1095 rfl rfl ⟨Nat.le_of_ble_eq_true rfl, Nat.le_of_ble_eq_true rfl⟩ hI rfl rfl (h_me_eq ev14).1 rfl hl.1 rfl (Nat.le_of_ble_eq_true rfl) dL_act_132 ⟨by decide, by decide⟩) hI (fun H locs hI => ?_)
          refine lv_ldcS hx hb hown (g_rtq hI rt_15) dL_act_135 ?_
          obtain ⟨v15, ev15, hq⟩ := b_s hq
          refine gw_r (g_runV (As := [.ref (V 52)]) (rest := []) (ci := 1) hC (c_J4_append_15ec4 l V g D cT v14.2.1 v14.2.2 v14.1 (V 52) v15 ev15) k_J4_append_15ec4 m_1000 rfl rfl ⟨Nat.le_of_ble_eq_true rfl, Nat.le_of_ble_eq_true rfl⟩ hI rfl rfl (h_me_eq ev15).1 rfl hl.1 rfl (Nat.le_of_ble_eq_true rfl) dL_act_137 ⟨by decide, by decide⟩) hI (fun H locs hI => ?_)
          refine lv_iload hx hb dL_act_140 (lv_at hl 2 rfl) ?_
          refine lv_iconst (v := (3 : Int32)) hx hb dL_act_142 (by decide) ?_
          refine lv_ishr hx hb dL_act_143 ?_
          refine lv_bipush (v := (90 : Int32)) hx hb dL_act_144 (by decide) ?_
          obtain ⟨v16, ev16, hq⟩ := b_s hq
          refine gr0_i (g_runS (As := [.int (x4 >>> ((3 : Int32) &&& 31)), .int (90 : Int32)]) (rest := [.ref v15.1]) hC (c_L_most l hl0 V g D cT v15.2.1 v15.2.2 (x4 >>> ((3 : Int32) &&& 31)) (90 : Int32) v16 ev16) k_L_most m_544 rfl rfl ⟨Nat.le_of_ble_eq_true rfl, Nat.le_of_ble_eq_true rfl⟩ hI rfl hl.1 rfl (Nat.le_of_ble_eq_true rfl) dL_act_146 ⟨by decide, by decide⟩) hI (fun H locs hI => ?_)
          obtain ⟨v17, ev17, hq⟩ := b_s hq
          refine gw_r (g_runV (As := [.int v16]) (rest := []) (ci := 1) hC (c_J4_append_bf812 l V g D cT v15.2.1 v15.2.2 v15.1 v16 v17 ev17) k_J4_append_bf812 m_1095 rfl rfl ⟨Nat.le_of_ble_eq_true rfl, Nat.le_of_ble_eq_true rfl⟩ hI rfl rfl (h_me_eq ev17).1 rfl hl.1 rfl (Nat.le_of_ble_eq_true rfl) dL_act_149 ⟨by decide, by decide⟩) hI (fun H locs hI => ?_)
          refine lv_ldcS hx hb hown (g_rtq hI rt_16) dL_act_152 ?_
          obtain ⟨v18, ev18, hq⟩ := b_s hq
          refine gw_r (g_runV (As := [.ref (V 53)]) (rest := []) (ci := 1) hC (c_J4_append_15ec4 l V g D cT v17.2.1 v17.2.2 v17.1 (V 53) v18 ev18) k_J4_append_15ec4 m_1000 rfl rfl ⟨Nat.le_of_ble_eq_true rfl, Nat.le_of_ble_eq_true rfl⟩ hI rfl rfl (h_me_eq ev18).1 rfl hl.1 rfl (Nat.le_of_ble_eq_true rfl) dL_act_154 ⟨by decide, by decide⟩) hI (fun H locs hI => ?_)
          refine lv_iload hx hb dL_act_157 (lv_at hl 2 rfl) ?_
          refine lv_iconst (v := (4 : Int32)) hx hb dL_act_159 (by decide) ?_
          refine lv_ishr hx hb dL_act_160 ?_
          refine lv_bipush (v := (90 : Int32)) hx hb dL_act_161 (by decide) ?_
          obtain ⟨v19, ev19, hq⟩ := b_s hq
          refine gr0_i (g_runS (As := [.int (x4 >>> ((4 : Int32) &&& 31)), .int (90 : Int32)]) (rest := [.ref v18.1]) hC (c_L_most l hl0 V g D cT v18.2.1 v18.2.2 (x4 >>> ((4 : Int32) &&& 31)) (90 : Int32) v19 ev19) k_L_most m_544 rfl rfl ⟨Nat.le_of_ble_eq_true rfl, Nat.le_of_ble_eq_true rfl⟩ hI rfl hl.1 rfl (Nat.le_of_ble_eq_true rfl) dL_act_163 ⟨by decide, by decide⟩) hI (fun H locs hI => ?_)
          obtain ⟨v20, ev20, hq⟩ := b_s hq
          refine gw_r (g_runV (As := [.int v19]) (rest := []) (ci := 1) hC (c_J4_append_bf812 l V g D cT v18.2.1 v18.2.2 v18.1 v19 v20 ev20) k_J4_append_bf812 m_1095 rfl rfl ⟨Nat.le_of_ble_eq_true rfl, Nat.le_of_ble_eq_true rfl⟩ hI rfl rfl (h_me_eq ev20).1 rfl hl.1 rfl (Nat.le_of_ble_eq_true rfl) dL_act_166 ⟨by decide, by decide⟩) hI (fun H locs hI => ?_)
          refine lv_ldcS hx hb hown (g_rtq hI rt_17) dL_act_169 ?_
          obtain ⟨v21, ev21, hq⟩ := b_s hq
          refine gw_r (g_runV (As := [.ref (V 54)]) (rest := []) (ci := 1) hC (c_J4_append_15ec4 l V g D cT v20.2.1 v20.2.2 v20.1 (V 54) v21 ev21) k_J4_append_15ec4 m_1000 rfl rfl ⟨Nat.le_of_ble_eq_true rfl, Nat.le_of_ble_eq_true rfl⟩ hI rfl rfl (h_me_eq ev21).1 rfl hl.1 rfl (Nat.le_of_ble_eq_true rfl) dL_act_171 ⟨by decide, by decide⟩) hI (fun H locs hI => ?_)
          refine lv_iload hx hb dL_act_174 (lv_at hl 2 rfl) ?_
          refine lv_iconst (v := (5 : Int32)) hx hb dL_act_176 (by decide) ?_
          refine lv_ishr hx hb dL_act_177 ?_
          refine lv_bipush (v := (90 : Int32)) hx hb dL_act_178 (by decide) ?_
          obtain ⟨v22, ev22, hq⟩ := b_s hq
          refine gr0_i (g_runS (As := [.int (x4 >>> ((5 : Int32) &&& 31)), .int (90 : Int32)]) (rest := [.ref v21.1]) hC (c_L_most l hl0 V g D cT v21.2.1 v21.2.2 (x4 >>> ((5 : Int32) &&& 31)) (90 : Int32) v22 ev22) k_L_most m_544 rfl rfl ⟨Nat.le_of_ble_eq_true rfl, Nat.le_of_ble_eq_true rfl⟩ hI rfl hl.1 rfl (Nat.le_of_ble_eq_true rfl) dL_act_180 ⟨by decide, by decide⟩) hI (fun H locs hI => ?_)
          obtain ⟨v23, ev23, hq⟩ := b_s hq
          refine gw_r (g_runV (As := [.int v22]) (rest := []) (ci := 1) hC (c_J4_append_bf812 l V g D cT v21.2.1 v21.2.2 v21.1 v22 v23 ev23) k_J4_append_bf812 m_1095 rfl rfl ⟨Nat.le_of_ble_eq_true rfl, Nat.le_of_ble_eq_true rfl⟩ hI rfl rfl (h_me_eq ev23).1 rfl hl.1 rfl (Nat.le_of_ble_eq_true rfl) dL_act_183 ⟨by decide, by decide⟩) hI (fun H locs hI => ?_)
          obtain ⟨v24, ev24, hq⟩ := b_s hq
          refine gw_r (g_runV (As := []) (rest := []) (ci := 1) hC (c_J4_toString_0e30d l V g D cT v23.2.1 v23.2.2 v23.1 v24 ev24) k_J4_toString_0e30d m_1123 rfl rfl ⟨Nat.le_of_ble_eq_true rfl, Nat.le_of_ble_eq_true rfl⟩ hI rfl rfl (h_me_eq ev24).1 rfl hl.1 rfl (Nat.le_of_ble_eq_true rfl) dL_act_186 ⟨by decide, by decide⟩) hI (fun H locs hI => ?_)
          refine lv_astore (lv' := [(8, .ref v24.1), (0, .ref x0), (1, .ref x1), (4, .int x4), (5, .int x5), (7, .int x7)]) hx hb dL_act_189 hl (by decide) rfl (fun ls hl => ?_)
          refine lv_aload_n hx hb dL_act_191 rfl (lv_at hl 1 rfl) ?_
          obtain ⟨v25, ev25, hq⟩ := b_s hq
          refine gr_i (g_runV (As := []) (rest := []) (ci := 9) hC (c_X7_addedPoints l V g D cT v24.2.1 v24.2.2 x0 v25 ev25) k_X7_addedPoints m_507 rfl rfl ⟨Nat.le_of_ble_eq_true rfl, Nat.le_of_ble_eq_true rfl⟩ hI rfl rfl (h_me_eq ev25).1 rfl hl.1 rfl (Nat.le_of_ble_eq_true rfl) dL_act_192 ⟨by decide, by decide⟩) hI (fun H locs hI => ?_)
          refine lv_istore (lv' := [(9, .int v25), (8, .ref v24.1), (0, .ref x0), (1, .ref x1), (4, .int x4), (5, .int x5), (7, .int x7)]) hx hb dL_act_195 hl (by decide) rfl (fun ls hl => ?_)
          refine lv_aload_n hx hb dL_act_197 rfl (lv_at hl 2 rfl) ?_
          refine lv_aload_n hx hb dL_act_198 rfl (lv_at hl 3 rfl) ?_
          refine lv_aload hx hb dL_act_199 (lv_at hl 1 rfl) ?_
          obtain ⟨v26, ev26, hq⟩ := b_s hq
          refine gw_v (g_runS (As := [.ref x0, .ref x1, .ref v24.1]) (rest := []) hC (c_L_say l hl0 V g D cT v24.2.1 v24.2.2 x0 x1 v24.1 v26 ev26) k_L_say m_551 rfl rfl ⟨Nat.le_of_ble_eq_true rfl, Nat.le_of_ble_eq_true rfl⟩ hI rfl hl.1 rfl (Nat.le_of_ble_eq_true rfl) dL_act_201 ⟨by decide, by decide⟩) hI (fun H locs hI => ?_)
          refine lv_aload_n hx hb dL_act_204 rfl (lv_at hl 2 rfl) ?_
          refine lv_aload_n hx hb dL_act_205 rfl (lv_at hl 2 rfl) ?_
          refine lv_aload_n hx hb dL_act_206 rfl (lv_at hl 3 rfl) ?_
          obtain ⟨v27, ev27, hq⟩ := b_s hq
          refine gw_i (g_runS (As := [.ref x0, .ref x1]) (rest := [.ref x0]) hC (c_L_end l hl0 V g D cT v26 v24.2.2 x0 x1 v27 ev27) k_L_end m_567 rfl rfl ⟨Nat.le_of_ble_eq_true rfl, Nat.le_of_ble_eq_true rfl⟩ hI rfl hl.1 rfl (Nat.le_of_ble_eq_true rfl) dL_act_207 ⟨by decide, by decide⟩) hI (fun H locs hI => ?_)
          obtain ⟨v28, ev28, hq⟩ := b_s hq
          refine gy_i (g_runVX (As := [.int v27.1]) (rest := []) (ci := 9) hC (c_X7_addCoast l hl0 V g D cT v27.2 v24.2.2 x0 v27.1 (.inr v28) (h_nt_eq ev28)) k_X7_addCoast m_1180 rfl rfl ⟨Nat.le_of_ble_eq_true rfl, Nat.le_of_ble_eq_true rfl⟩ hI rfl rfl (h_me_eq (h_nt_eq ev28)).1 rfl hl.1 rfl (Nat.le_of_ble_eq_true rfl) dL_act_210 ⟨by decide, by decide⟩) hI (fun H locs hI => ?_)
          refine lv_iload hx hb dL_act_213 (lv_at hl 5 rfl) ?_
          refine lv_icmp_ne (tgt := 261) hx hb dL_act_215 (by decide) (fun c29 => ?_) (fun c29 => ?_)
          · replace hq := i_f c29 hq
            refine lv_iconst (v := (0 : Int32)) hx hb dL_act_261 (by decide) ?_
            refine W.widen (k := 20) (n := 8032) (by decide) (by decide) ?_
            obtain rfl := Option.some.inj hq
            exact ge_Wi hx hb hlocks hr (by decide +kernel) hI rfl rfl dL_act_262
          · replace hq := i_t c29 hq
            refine lv_aload_n hx hb dL_act_218 rfl (lv_at hl 2 rfl) ?_
            refine lv_iload hx hb dL_act_219 (lv_at hl 5 rfl) ?_
            obtain ⟨v30, ev30, hq⟩ := b_s hq
            refine gx0_i (g_runVX (As := [.int x5]) (rest := []) (ci := 9) hC (c_X7_pointCount l hl0 V g D cT v28.2 v24.2.2 x0 x5 (.inr v30) (h_nt_eq ev30)) k_X7_pointCount m_573 rfl rfl ⟨Nat.le_of_ble_eq_true rfl, Nat.le_of_ble_eq_true rfl⟩ hI rfl rfl (h_me_eq (h_nt_eq ev30)).1 rfl hl.1 rfl (Nat.le_of_ble_eq_true rfl) dL_act_221 ⟨by decide, by decide⟩) hI (fun H locs hI => ?_)
            refine lv_iconst (v := (3 : Int32)) hx hb dL_act_224 (by decide) ?_
            refine lv_icmp_ne (tgt := 261) hx hb dL_act_225 (by decide) (fun c31 => ?_) (fun c31 => ?_)
            · replace hq := i_f c31 hq
              refine lv_iconst (v := (0 : Int32)) hx hb dL_act_261 (by decide) ?_
              refine W.widen (k := 20) (n := 8032) (by decide) (by decide) ?_
              obtain rfl := Option.some.inj hq
              exact ge_Wi hx hb hlocks hr (by decide +kernel) hI rfl rfl dL_act_262
            · replace hq := i_t c31 hq
              refine lv_aload_n hx hb dL_act_228 rfl (lv_at hl 2 rfl) ?_
              refine lv_iload hx hb dL_act_229 (lv_at hl 5 rfl) ?_
              obtain ⟨v32, ev32, hq⟩ := b_s hq
              refine gx0_i (g_runVX (As := [.int x5]) (rest := []) (ci := 9) hC (c_X7_isIsland l hl0 V g D cT v28.2 v24.2.2 x0 x5 (.inr v32) (h_nt_eq ev32)) k_X7_isIsland m_613 rfl rfl ⟨Nat.le_of_ble_eq_true rfl, Nat.le_of_ble_eq_true rfl⟩ hI rfl rfl (h_me_eq (h_nt_eq ev32)).1 rfl hl.1 rfl (Nat.le_of_ble_eq_true rfl) dL_act_231 ⟨by decide, by decide⟩) hI (fun H locs hI => ?_)
              refine lv_iload hx hb dL_act_234 (lv_at hl 6 rfl) ?_
              refine lv_icmp_ne (tgt := 261) hx hb dL_act_236 (by decide) (fun c33 => ?_) (fun c33 => ?_)
              · replace hq := i_f c33 hq
                refine lv_iconst (v := (0 : Int32)) hx hb dL_act_261 (by decide) ?_
                refine W.widen (k := 20) (n := 8032) (by decide) (by decide) ?_
                obtain rfl := Option.some.inj hq
                exact ge_Wi hx hb hlocks hr (by decide +kernel) hI rfl rfl dL_act_262
              · replace hq := i_t c33 hq
                refine lv_aload_n hx hb dL_act_239 rfl (lv_at hl 2 rfl) ?_
                obtain ⟨v34, ev34, hq⟩ := b_s hq
                refine gr_i (g_runV (As := []) (rest := []) (ci := 9) hC (c_X7_addedPoints l V g D cT v28.2 v24.2.2 x0 v34 ev34) k_X7_addedPoints m_507 rfl rfl ⟨Nat.le_of_ble_eq_true rfl, Nat.le_of_ble_eq_true rfl⟩ hI rfl rfl (h_me_eq ev34).1 rfl hl.1 rfl (Nat.le_of_ble_eq_true rfl) dL_act_240 ⟨by decide, by decide⟩) hI (fun H locs hI => ?_)
                refine lv_iload hx hb dL_act_243 (lv_at hl 0 rfl) ?_
                refine lv_iconst (v := (3 : Int32)) hx hb dL_act_245 (by decide) ?_
                refine lv_iadd hx hb dL_act_246 ?_
                refine lv_icmp_ne (tgt := 261) hx hb dL_act_247 (by decide) (fun c35 => ?_) (fun c35 => ?_)
                · replace hq := i_f c35 hq
                  refine lv_iconst (v := (0 : Int32)) hx hb dL_act_261 (by decide) ?_
                  refine W.widen (k := 20) (n := 8032) (by decide) (by decide) ?_
                  obtain rfl := Option.some.inj hq
                  exact ge_Wi hx hb hlocks hr (by decide +kernel) hI rfl rfl dL_act_262
                · replace hq := i_t c35 hq
                  refine lv_aload_n hx hb dL_act_250 rfl (lv_at hl 2 rfl) ?_
                  obtain ⟨v36, ev36, hq⟩ := b_s hq
                  refine gr_i (g_runV (As := []) (rest := []) (ci := 9) hC (c_X7_errorCode l V g D cT v28.2 v24.2.2 x0 v36 ev36) k_X7_errorCode m_1190 rfl rfl ⟨Nat.le_of_ble_eq_true rfl, Nat.le_of_ble_eq_true rfl⟩ hI rfl rfl (h_me_eq ev36).1 rfl hl.1 rfl (Nat.le_of_ble_eq_true rfl) dL_act_251 ⟨by decide, by decide⟩) hI (fun H locs hI => ?_)
                  refine lv_if_ne (tgt := 261) hx hb dL_act_254 (by decide) (fun c37 => ?_) (fun c37 => ?_)
                  · replace hq := i_f c37 hq
                    refine lv_iconst (v := (0 : Int32)) hx hb dL_act_261 (by decide) ?_
                    refine W.widen (k := 20) (n := 8032) (by decide) (by decide) ?_
                    obtain rfl := Option.some.inj hq
                    exact ge_Wi hx hb hlocks hr (by decide +kernel) hI rfl rfl dL_act_262
                  · replace hq := i_t c37 hq
                    refine lv_iconst (v := (1 : Int32)) hx hb dL_act_257 (by decide) ?_
                    refine lv_goto (tgt := 262) hx hb dL_act_258 (by decide) ?_
                    refine W.widen (k := 20) (n := 8032) (by decide) (by decide) ?_
                    obtain rfl := Option.some.inj hq
                    exact ge_Wi hx hb hlocks hr (by decide +kernel) hI rfl rfl dL_act_262
        refine lv_if_eq (tgt := 86) hx hb dL_act_78 (by decide) (fun c38 => ?_) (fun c38 => ?_)
        · replace hq := i_t c38 hq
          refine lv_ldcS hx hb hown (g_rtq hI rt_14) dL_act_86 ?_
          exact hj88 x0 x1 x4 x5 t0 (V 51) n v5.1 v5.2 H locs ls hI (lv_sub hl [1, 2, 3, 4, 0] rfl) hq
        · replace hq := i_f c38 hq
          refine lv_ldcS hx hb hown (g_rtq hI rt_13) dL_act_81 ?_
          refine lv_goto (tgt := 88) hx hb dL_act_83 (by decide) ?_
          exact hj88 x0 x1 x4 x5 t0 (V 50) n v5.1 v5.2 H locs ls hI (lv_sub hl [1, 2, 3, 4, 0] rfl) hq
      refine lv_if_ne (tgt := 66) hx hb dL_act_59 (by decide) (fun c39 => ?_) (fun c39 => ?_)
      · replace hq := i_f c39 hq
        refine lv_iconst (v := (0 : Int32)) hx hb dL_act_66 (by decide) ?_
        exact hj67 x0 x1 x4 x5 (0 : Int32) f n H locs ls hI (lv_sub hl [0, 1, 2, 3] rfl) hq
      · replace hq := i_t c39 hq
        refine lv_iconst (v := (1 : Int32)) hx hb dL_act_62 (by decide) ?_
        refine lv_goto (tgt := 67) hx hb dL_act_63 (by decide) ?_
        exact hj67 x0 x1 x4 x5 (1 : Int32) f n H locs ls hI (lv_sub hl [0, 1, 2, 3] rfl) hq
    refine lv_if_eq (tgt := 53) hx hb dL_act_38 (by decide) (fun c40 => ?_) (fun c40 => ?_)
    · replace hq := i_t c40 hq
      exact hj53 x0 x1 x4 x5 f n H locs ls hI (lv_sub hl [1, 2, 4, 5] rfl) hq
    · replace hq := i_f c40 hq
      refine lv_iload_n hx hb dL_act_41 rfl (lv_at hl 3 rfl) ?_
      refine lv_iconst (v := (2 : Int32)) hx hb dL_act_42 (by decide) ?_
      have hj263 : ∀ (x0 : Nat) (x3 : Int32) (x4 : Int32) (x5 : Int32) (x6 : Int32) (f : GH) (n : Nat) (H : Heap) (locs : List Loc) (ls : Array Slot), g_at (g_A V) V g D cT f n s H locs → lv_has ls 17 [(0, .ref x0), (3, .int x3), (4, .int x4), (5, .int x5), (6, .int x6)] → p_L_act_j263 V g x0 x3 x4 x5 x6 f n = some o → W p l e rm_L_act s m args below meth c H locs 0 0 (MQ below (g_Wi V D cT o.1 o.2.1 o.2.2) args s 20 8032 (g_A V)) (F0 m 263 ls []) := by
        intro x0 x3 x4 x5 x6 f n H locs ls hI hl hq
        unfold p_L_act_j263 at hq
        refine lv_aload_n hx hb dL_act_263 rfl (lv_at hl 0 rfl) ?_
        refine lv_iload hx hb dL_act_264 (lv_at hl 4 rfl) ?_
        obtain ⟨v41, ev41, hq⟩ := b_s hq
        refine gx0_i (g_runVX (As := [.int x6]) (rest := []) (ci := 9) hC (c_X7_pointCount l hl0 V g D cT f n x0 x6 (.inr v41) (h_nt_eq ev41)) k_X7_pointCount m_573 rfl rfl ⟨Nat.le_of_ble_eq_true rfl, Nat.le_of_ble_eq_true rfl⟩ hI rfl rfl (h_me_eq (h_nt_eq ev41)).1 rfl hl.1 rfl (Nat.le_of_ble_eq_true rfl) dL_act_266 ⟨by decide, by decide⟩) hI (fun H locs hI => ?_)
        refine lv_istore (lv' := [(7, .int v41), (0, .ref x0), (3, .int x3), (4, .int x4), (5, .int x5), (6, .int x6)]) hx hb dL_act_269 hl (by decide) rfl (fun ls hl => ?_)
        refine lv_iload hx hb dL_act_271 (lv_at hl 3 rfl) ?_
        refine lv_iconst (v := (2 : Int32)) hx hb dL_act_273 (by decide) ?_
        refine lv_ishr hx hb dL_act_274 ?_
        refine lv_iload hx hb dL_act_275 (lv_at hl 0 rfl) ?_
        obtain ⟨v42, ev42, hq⟩ := b_s hq
        refine gr0_i (g_runS (As := [.int (x4 >>> ((2 : Int32) &&& 31)), .int v41]) (rest := []) hC (c_L_most l hl0 V g D cT f n (x4 >>> ((2 : Int32) &&& 31)) v41 v42 ev42) k_L_most m_544 rfl rfl ⟨Nat.le_of_ble_eq_true rfl, Nat.le_of_ble_eq_true rfl⟩ hI rfl hl.1 rfl (Nat.le_of_ble_eq_true rfl) dL_act_277 ⟨by decide, by decide⟩) hI (fun H locs hI => ?_)
        refine lv_istore (lv' := [(8, .int v42), (7, .int v41), (0, .ref x0), (3, .int x3), (4, .int x4), (5, .int x5), (6, .int x6)]) hx hb dL_act_280 hl (by decide) rfl (fun ls hl => ?_)
        refine lv_iload hx hb dL_act_282 (lv_at hl 4 rfl) ?_
        refine lv_iconst (v := (1 : Int32)) hx hb dL_act_284 (by decide) ?_
        refine lv_ishr hx hb dL_act_285 ?_
        refine lv_sipush (v := (161 : Int32)) hx hb dL_act_286 (by decide) ?_
        obtain ⟨v43, ev43, hq⟩ := b_s hq
        refine gr0_i (g_runS (As := [.int (x4 >>> ((1 : Int32) &&& 31)), .int (161 : Int32)]) (rest := []) hC (c_L_most l hl0 V g D cT f n (x4 >>> ((1 : Int32) &&& 31)) (161 : Int32) v43 ev43) k_L_most m_544 rfl rfl ⟨Nat.le_of_ble_eq_true rfl, Nat.le_of_ble_eq_true rfl⟩ hI rfl hl.1 rfl (Nat.le_of_ble_eq_true rfl) dL_act_289 ⟨by decide, by decide⟩) hI (fun H locs hI => ?_)
        refine lv_bipush (v := (80 : Int32)) hx hb dL_act_292 (by decide) ?_
        refine lv_isub hx hb dL_act_294 ?_
        refine lv_istore (lv' := [(9, .int (v43 - (80 : Int32))), (8, .int v42), (7, .int v41), (0, .ref x0), (3, .int x3), (4, .int x4), (5, .int x5), (6, .int x6)]) hx hb dL_act_295 hl (by decide) rfl (fun ls hl => ?_)
        refine lv_iload hx hb dL_act_297 (lv_at hl 5 rfl) ?_
        refine lv_iconst (v := (3 : Int32)) hx hb dL_act_299 (by decide) ?_
        refine lv_ishr hx hb dL_act_300 ?_
        refine lv_sipush (v := (161 : Int32)) hx hb dL_act_301 (by decide) ?_
        obtain ⟨v44, ev44, hq⟩ := b_s hq
        refine gr0_i (g_runS (As := [.int (x4 >>> ((3 : Int32) &&& 31)), .int (161 : Int32)]) (rest := []) hC (c_L_most l hl0 V g D cT f n (x4 >>> ((3 : Int32) &&& 31)) (161 : Int32) v44 ev44) k_L_most m_544 rfl rfl ⟨Nat.le_of_ble_eq_true rfl, Nat.le_of_ble_eq_true rfl⟩ hI rfl hl.1 rfl (Nat.le_of_ble_eq_true rfl) dL_act_304 ⟨by decide, by decide⟩) hI (fun H locs hI => ?_)
        refine lv_bipush (v := (80 : Int32)) hx hb dL_act_307 (by decide) ?_
        refine lv_isub hx hb dL_act_309 ?_
        refine lv_istore (lv' := [(10, .int (v44 - (80 : Int32))), (9, .int (v43 - (80 : Int32))), (8, .int v42), (7, .int v41), (0, .ref x0), (3, .int x3), (4, .int x4), (5, .int x5), (6, .int x6)]) hx hb dL_act_310 hl (by decide) rfl (fun ls hl => ?_)
        refine lv_iload_n hx hb dL_act_312 rfl (lv_at hl 5 rfl) ?_
        refine lv_bipush (v := (6 : Int32)) hx hb dL_act_313 (by decide) ?_
        have hj406 : ∀ (x0 : Nat) (x3 : Int32) (x5 : Int32) (x6 : Int32) (x7 : Int32) (x8 : Int32) (x9 : Int32) (x10 : Int32) (f : GH) (n : Nat) (H : Heap) (locs : List Loc) (ls : Array Slot), g_at (g_A V) V g D cT f n s H locs → lv_has ls 17 [(0, .ref x0), (3, .int x3), (5, .int x5), (6, .int x6), (7, .int x7), (8, .int x8), (9, .int x9), (10, .int x10)] → p_L_act_j406 V g x0 x3 x5 x6 x7 x8 x9 x10 f n = some o → W p l e rm_L_act s m args below meth c H locs 0 0 (MQ below (g_Wi V D cT o.1 o.2.1 o.2.2) args s 20 8032 (g_A V)) (F0 m 406 ls []) := by
          intro x0 x3 x5 x6 x7 x8 x9 x10 f n H locs ls hI hl hq
          unfold p_L_act_j406 at hq
          refine lv_iload_n hx hb dL_act_406 rfl (lv_at hl 1 rfl) ?_
          refine lv_bipush (v := (8 : Int32)) hx hb dL_act_407 (by decide) ?_
          refine lv_icmp_ge (tgt := 525) hx hb dL_act_409 (by decide) (fun c45 => ?_) (fun c45 => ?_)
          · replace hq := i_t c45 hq
            refine lv_iload_n hx hb dL_act_525 rfl (lv_at hl 1 rfl) ?_
            refine lv_bipush (v := (10 : Int32)) hx hb dL_act_526 (by decide) ?_
            refine lv_icmp_ge (tgt := 632) hx hb dL_act_528 (by decide) (fun c46 => ?_) (fun c46 => ?_)
            · replace hq := i_t c46 hq
              refine lv_iload_n hx hb dL_act_632 rfl (lv_at hl 1 rfl) ?_
              refine lv_bipush (v := (12 : Int32)) hx hb dL_act_633 (by decide) ?_
              have hj718 : ∀ (x0 : Nat) (x3 : Int32) (x5 : Int32) (x6 : Int32) (x7 : Int32) (x8 : Int32) (x9 : Int32) (f : GH) (n : Nat) (H : Heap) (locs : List Loc) (ls : Array Slot), g_at (g_A V) V g D cT f n s H locs → lv_has ls 17 [(0, .ref x0), (3, .int x3), (5, .int x5), (6, .int x6), (7, .int x7), (8, .int x8), (9, .int x9)] → p_L_act_j718 V g x0 x3 x5 x6 x7 x8 x9 f n = some o → W p l e rm_L_act s m args below meth c H locs 0 0 (MQ below (g_Wi V D cT o.1 o.2.1 o.2.2) args s 20 8032 (g_A V)) (F0 m 718 ls []) := by
                intro x0 x3 x5 x6 x7 x8 x9 f n H locs ls hI hl hq
                unfold p_L_act_j718 at hq
                refine lv_iload_n hx hb dL_act_718 rfl (lv_at hl 1 rfl) ?_
                refine lv_bipush (v := (12 : Int32)) hx hb dL_act_719 (by decide) ?_
                refine lv_icmp_ne (tgt := 799) hx hb dL_act_721 (by decide) (fun c47 => ?_) (fun c47 => ?_)
                · replace hq := i_f c47 hq
                  refine lv_iload_n hx hb dL_act_799 rfl (lv_at hl 1 rfl) ?_
                  refine lv_bipush (v := (13 : Int32)) hx hb dL_act_800 (by decide) ?_
                  refine lv_icmp_ne (tgt := 974) hx hb dL_act_802 (by decide) (fun c48 => ?_) (fun c48 => ?_)
                  · replace hq := i_f c48 hq
                    refine lv_iload_n hx hb dL_act_974 rfl (lv_at hl 1 rfl) ?_
                    refine lv_bipush (v := (14 : Int32)) hx hb dL_act_975 (by decide) ?_
                    refine lv_icmp_ne (tgt := 1042) hx hb dL_act_977 (by decide) (fun c49 => ?_) (fun c49 => ?_)
                    · replace hq := i_f c49 hq
                      refine lv_iload_n hx hb dL_act_1042 rfl (lv_at hl 1 rfl) ?_
                      refine lv_bipush (v := (15 : Int32)) hx hb dL_act_1043 (by decide) ?_
                      refine lv_icmp_ne (tgt := 1094) hx hb dL_act_1045 (by decide) (fun c50 => ?_) (fun c50 => ?_)
                      · replace hq := i_f c50 hq
                        refine lv_aload_n hx hb dL_act_1094 rfl (lv_at hl 0 rfl) ?_
                        obtain ⟨v51, ev51, hq⟩ := b_s hq
                        refine gr_i (g_runV (As := []) (rest := []) (ci := 9) hC (c_X7_usesKingMetric l V g D cT f n x0 v51 ev51) k_X7_usesKingMetric m_601 rfl rfl ⟨Nat.le_of_ble_eq_true rfl, Nat.le_of_ble_eq_true rfl⟩ hI rfl rfl (h_me_eq ev51).1 rfl hl.1 rfl (Nat.le_of_ble_eq_true rfl) dL_act_1095 ⟨by decide, by decide⟩) hI (fun H locs hI => ?_)
                        refine lv_istore (lv' := [(11, .int v51), (0, .ref x0), (3, .int x3), (5, .int x5), (6, .int x6), (7, .int x7), (8, .int x8), (9, .int x9)]) hx hb dL_act_1098 hl (by decide) rfl (fun ls hl => ?_)
                        refine lv_aload_n hx hb dL_act_1100 rfl (lv_at hl 1 rfl) ?_
                        refine lv_iload hx hb dL_act_1101 (lv_at hl 4 rfl) ?_
                        refine lv_iconst (v := (2 : Int32)) hx hb dL_act_1103 (by decide) ?_
                        obtain ⟨v52, ev52, hq⟩ := b_s hq
                        refine gx0_i (g_runVX (As := [.int x6, .int (2 : Int32)]) (rest := []) (ci := 9) hC (c_X7_lengthInOtherMetric l hl0 V g D cT f n x0 x6 (2 : Int32) (.inr v52) (h_nt_eq ev52)) k_X7_lengthInOtherMetric m_723 rfl rfl ⟨Nat.le_of_ble_eq_true rfl, Nat.le_of_ble_eq_true rfl⟩ hI rfl rfl (h_me_eq (h_nt_eq ev52)).1 rfl hl.1 rfl (Nat.le_of_ble_eq_true rfl) dL_act_1104 ⟨by decide, by decide⟩) hI (fun H locs hI => ?_)
                        refine lv_istore (lv' := [(12, .int v52), (11, .int v51), (0, .ref x0), (3, .int x3), (5, .int x5), (6, .int x6), (7, .int x7), (8, .int x8), (9, .int x9)]) hx hb dL_act_1107 hl (by decide) rfl (fun ls hl => ?_)
                        refine lv_aload_n hx hb dL_act_1109 rfl (lv_at hl 2 rfl) ?_
                        refine lv_iload hx hb dL_act_1110 (lv_at hl 1 rfl) ?_
                        have hj1120 : ∀ (x0 : Nat) (x6 : Int32) (x11 : Int32) (x12 : Int32) (t0 : Int32) (t1 : Nat) (f : GH) (n : Nat) (H : Heap) (locs : List Loc) (ls : Array Slot), g_at (g_A V) V g D cT f n s H locs → lv_has ls 17 [(0, .ref x0), (6, .int x6), (11, .int x11), (12, .int x12)] → p_L_act_j1120 V g x0 x6 x11 x12 t0 t1 f n = some o → W p l e rm_L_act s m args below meth c H locs 0 0 (MQ below (g_Wi V D cT o.1 o.2.1 o.2.2) args s 20 8032 (g_A V)) (F0 m 1120 ls [.int t0, .ref t1]) := by
                          intro x0 x6 x11 x12 t0 t1 f n H locs ls hI hl hq
                          unfold p_L_act_j1120 at hq
                          obtain ⟨v53, ev53, hq⟩ := b_s hq
                          refine gy_i (g_runVX (As := [.int t0]) (rest := []) (ci := 9) hC (c_X7_setKingMetric l hl0 V g D cT f n t1 t0 (.inr v53) (h_nt_eq ev53)) k_X7_setKingMetric m_1232 rfl rfl ⟨Nat.le_of_ble_eq_true rfl, Nat.le_of_ble_eq_true rfl⟩ hI rfl rfl (h_me_eq (h_nt_eq ev53)).1 rfl hl.1 rfl (Nat.le_of_ble_eq_true rfl) dL_act_1120 ⟨by decide, by decide⟩) hI (fun H locs hI => ?_)
                          refine lv_iload hx hb dL_act_1123 (lv_at hl 2 rfl) ?_
                          refine lv_icmp_ne (tgt := 1153) hx hb dL_act_1125 (by decide) (fun c54 => ?_) (fun c54 => ?_)
                          · replace hq := i_f c54 hq
                            refine lv_iconst (v := (0 : Int32)) hx hb dL_act_1153 (by decide) ?_
                            refine W.widen (k := 20) (n := 8032) (by decide) (by decide) ?_
                            obtain rfl := Option.some.inj hq
                            exact ge_Wi hx hb hlocks hr (by decide +kernel) hI rfl rfl dL_act_1154
                          · replace hq := i_t c54 hq
                            refine lv_aload_n hx hb dL_act_1128 rfl (lv_at hl 0 rfl) ?_
                            obtain ⟨v55, ev55, hq⟩ := b_s hq
                            refine gr_i (g_runV (As := []) (rest := []) (ci := 9) hC (c_X7_usesKingMetric l V g D cT v53.2 n x0 v55 ev55) k_X7_usesKingMetric m_601 rfl rfl ⟨Nat.le_of_ble_eq_true rfl, Nat.le_of_ble_eq_true rfl⟩ hI rfl rfl (h_me_eq ev55).1 rfl hl.1 rfl (Nat.le_of_ble_eq_true rfl) dL_act_1129 ⟨by decide, by decide⟩) hI (fun H locs hI => ?_)
                            refine lv_iload hx hb dL_act_1132 (lv_at hl 2 rfl) ?_
                            refine lv_icmp_eq (tgt := 1153) hx hb dL_act_1134 (by decide) (fun c56 => ?_) (fun c56 => ?_)
                            · replace hq := i_t c56 hq
                              refine lv_iconst (v := (0 : Int32)) hx hb dL_act_1153 (by decide) ?_
                              refine W.widen (k := 20) (n := 8032) (by decide) (by decide) ?_
                              obtain rfl := Option.some.inj hq
                              exact ge_Wi hx hb hlocks hr (by decide +kernel) hI rfl rfl dL_act_1154
                            · replace hq := i_f c56 hq
                              refine lv_aload_n hx hb dL_act_1137 rfl (lv_at hl 0 rfl) ?_
                              refine lv_iload hx hb dL_act_1138 (lv_at hl 1 rfl) ?_
                              refine lv_iconst (v := (2 : Int32)) hx hb dL_act_1140 (by decide) ?_
                              obtain ⟨v57, ev57, hq⟩ := b_s hq
                              refine gx0_i (g_runVX (As := [.int x6, .int (2 : Int32)]) (rest := []) (ci := 9) hC (c_X7_lengthAt l hl0 V g D cT v53.2 n x0 x6 (2 : Int32) (.inr v57) (h_nt_eq ev57)) k_X7_lengthAt m_691 rfl rfl ⟨Nat.le_of_ble_eq_true rfl, Nat.le_of_ble_eq_true rfl⟩ hI rfl rfl (h_me_eq (h_nt_eq ev57)).1 rfl hl.1 rfl (Nat.le_of_ble_eq_true rfl) dL_act_1141 ⟨by decide, by decide⟩) hI (fun H locs hI => ?_)
                              refine lv_iload hx hb dL_act_1144 (lv_at hl 3 rfl) ?_
                              refine lv_icmp_ne (tgt := 1153) hx hb dL_act_1146 (by decide) (fun c58 => ?_) (fun c58 => ?_)
                              · replace hq := i_f c58 hq
                                refine lv_iconst (v := (0 : Int32)) hx hb dL_act_1153 (by decide) ?_
                                refine W.widen (k := 20) (n := 8032) (by decide) (by decide) ?_
                                obtain rfl := Option.some.inj hq
                                exact ge_Wi hx hb hlocks hr (by decide +kernel) hI rfl rfl dL_act_1154
                              · replace hq := i_t c58 hq
                                refine lv_iconst (v := (1 : Int32)) hx hb dL_act_1149 (by decide) ?_
                                refine lv_goto (tgt := 1154) hx hb dL_act_1150 (by decide) ?_
                                refine W.widen (k := 20) (n := 8032) (by decide) (by decide) ?_
                                obtain rfl := Option.some.inj hq
                                exact ge_Wi hx hb hlocks hr (by decide +kernel) hI rfl rfl dL_act_1154
                        refine lv_if_ne (tgt := 1119) hx hb dL_act_1112 (by decide) (fun c59 => ?_) (fun c59 => ?_)
                        · replace hq := i_f c59 hq
                          refine lv_iconst (v := (0 : Int32)) hx hb dL_act_1119 (by decide) ?_
                          exact hj1120 x0 x6 v51 v52 (0 : Int32) x0 f n H locs ls hI (lv_sub hl [2, 5, 1, 0] rfl) hq
                        · replace hq := i_t c59 hq
                          refine lv_iconst (v := (1 : Int32)) hx hb dL_act_1115 (by decide) ?_
                          refine lv_goto (tgt := 1120) hx hb dL_act_1116 (by decide) ?_
                          exact hj1120 x0 x6 v51 v52 (1 : Int32) x0 f n H locs ls hI (lv_sub hl [2, 5, 1, 0] rfl) hq
                      · replace hq := i_t c50 hq
                        refine lv_aload_n hx hb dL_act_1048 rfl (lv_at hl 0 rfl) ?_
                        obtain ⟨v60, ev60, hq⟩ := b_s hq
                        refine gr_i (g_runV (As := []) (rest := []) (ci := 9) hC (c_X7_removedPoints l V g D cT f n x0 v60 ev60) k_X7_removedPoints m_609 rfl rfl ⟨Nat.le_of_ble_eq_true rfl, Nat.le_of_ble_eq_true rfl⟩ hI rfl rfl (h_me_eq ev60).1 rfl hl.1 rfl (Nat.le_of_ble_eq_true rfl) dL_act_1049 ⟨by decide, by decide⟩) hI (fun H locs hI => ?_)
                        refine lv_istore (lv' := [(11, .int v60), (0, .ref x0), (3, .int x3), (5, .int x5), (6, .int x6), (7, .int x7), (8, .int x8), (9, .int x9)]) hx hb dL_act_1052 hl (by decide) rfl (fun ls hl => ?_)
                        refine lv_aload_n hx hb dL_act_1054 rfl (lv_at hl 1 rfl) ?_
                        refine lv_iload hx hb dL_act_1055 (lv_at hl 4 rfl) ?_
                        obtain ⟨v61, ev61, hq⟩ := b_s hq
                        refine gy_i (g_runVX (As := [.int x6]) (rest := []) (ci := 9) hC (c_X7_removeCoast l hl0 V g D cT f n x0 x6 (.inr v61) (h_nt_eq ev61)) k_X7_removeCoast m_1226 rfl rfl ⟨Nat.le_of_ble_eq_true rfl, Nat.le_of_ble_eq_true rfl⟩ hI rfl rfl (h_me_eq (h_nt_eq ev61)).1 rfl hl.1 rfl (Nat.le_of_ble_eq_true rfl) dL_act_1057 ⟨by decide, by decide⟩) hI (fun H locs hI => ?_)
                        refine lv_iload hx hb dL_act_1060 (lv_at hl 5 rfl) ?_
                        refine lv_icmp_ne (tgt := 1092) hx hb dL_act_1062 (by decide) (fun c62 => ?_) (fun c62 => ?_)
                        · replace hq := i_f c62 hq
                          refine lv_iconst (v := (0 : Int32)) hx hb dL_act_1092 (by decide) ?_
                          refine W.widen (k := 20) (n := 8032) (by decide) (by decide) ?_
                          obtain rfl := Option.some.inj hq
                          exact ge_Wi hx hb hlocks hr (by decide +kernel) hI rfl rfl dL_act_1093
                        · replace hq := i_t c62 hq
                          refine lv_aload_n hx hb dL_act_1065 rfl (lv_at hl 1 rfl) ?_
                          obtain ⟨v63, ev63, hq⟩ := b_s hq
                          refine gr_i (g_runV (As := []) (rest := []) (ci := 9) hC (c_X7_coastCount l V g D cT v61.2 n x0 v63 ev63) k_X7_coastCount m_503 rfl rfl ⟨Nat.le_of_ble_eq_true rfl, Nat.le_of_ble_eq_true rfl⟩ hI rfl rfl (h_me_eq ev63).1 rfl hl.1 rfl (Nat.le_of_ble_eq_true rfl) dL_act_1066 ⟨by decide, by decide⟩) hI (fun H locs hI => ?_)
                          refine lv_iload hx hb dL_act_1069 (lv_at hl 3 rfl) ?_
                          refine lv_iconst (v := (1 : Int32)) hx hb dL_act_1071 (by decide) ?_
                          refine lv_isub hx hb dL_act_1072 ?_
                          refine lv_icmp_ne (tgt := 1092) hx hb dL_act_1073 (by decide) (fun c64 => ?_) (fun c64 => ?_)
                          · replace hq := i_f c64 hq
                            refine lv_iconst (v := (0 : Int32)) hx hb dL_act_1092 (by decide) ?_
                            refine W.widen (k := 20) (n := 8032) (by decide) (by decide) ?_
                            obtain rfl := Option.some.inj hq
                            exact ge_Wi hx hb hlocks hr (by decide +kernel) hI rfl rfl dL_act_1093
                          · replace hq := i_t c64 hq
                            refine lv_aload_n hx hb dL_act_1076 rfl (lv_at hl 1 rfl) ?_
                            obtain ⟨v65, ev65, hq⟩ := b_s hq
                            refine gr_i (g_runV (As := []) (rest := []) (ci := 9) hC (c_X7_removedPoints l V g D cT v61.2 n x0 v65 ev65) k_X7_removedPoints m_609 rfl rfl ⟨Nat.le_of_ble_eq_true rfl, Nat.le_of_ble_eq_true rfl⟩ hI rfl rfl (h_me_eq ev65).1 rfl hl.1 rfl (Nat.le_of_ble_eq_true rfl) dL_act_1077 ⟨by decide, by decide⟩) hI (fun H locs hI => ?_)
                            refine lv_iload hx hb dL_act_1080 (lv_at hl 0 rfl) ?_
                            refine lv_iload hx hb dL_act_1082 (lv_at hl 5 rfl) ?_
                            refine lv_iadd hx hb dL_act_1084 ?_
                            refine lv_icmp_ne (tgt := 1092) hx hb dL_act_1085 (by decide) (fun c66 => ?_) (fun c66 => ?_)
                            · replace hq := i_f c66 hq
                              refine lv_iconst (v := (0 : Int32)) hx hb dL_act_1092 (by decide) ?_
                              refine W.widen (k := 20) (n := 8032) (by decide) (by decide) ?_
                              obtain rfl := Option.some.inj hq
                              exact ge_Wi hx hb hlocks hr (by decide +kernel) hI rfl rfl dL_act_1093
                            · replace hq := i_t c66 hq
                              refine lv_iconst (v := (1 : Int32)) hx hb dL_act_1088 (by decide) ?_
                              refine lv_goto (tgt := 1093) hx hb dL_act_1089 (by decide) ?_
                              refine W.widen (k := 20) (n := 8032) (by decide) (by decide) ?_
                              obtain rfl := Option.some.inj hq
                              exact ge_Wi hx hb hlocks hr (by decide +kernel) hI rfl rfl dL_act_1093
                    · replace hq := i_t c49 hq
                      refine lv_aload_n hx hb dL_act_980 rfl (lv_at hl 0 rfl) ?_
                      refine lv_iload hx hb dL_act_981 (lv_at hl 3 rfl) ?_
                      refine lv_iconst (v := (0 : Int32)) hx hb dL_act_983 (by decide) ?_
                      obtain ⟨v67, ev67, hq⟩ := b_s hq
                      refine gx0_i (g_runVX (As := [.int x6, .int (0 : Int32)]) (rest := []) (ci := 9) hC (c_X7_lengthAt l hl0 V g D cT f n x0 x6 (0 : Int32) (.inr v67) (h_nt_eq ev67)) k_X7_lengthAt m_691 rfl rfl ⟨Nat.le_of_ble_eq_true rfl, Nat.le_of_ble_eq_true rfl⟩ hI rfl rfl (h_me_eq (h_nt_eq ev67)).1 rfl hl.1 rfl (Nat.le_of_ble_eq_true rfl) dL_act_984 ⟨by decide, by decide⟩) hI (fun H locs hI => ?_)
                      refine lv_istore (lv' := [(11, .int v67), (0, .ref x0), (3, .int x3), (5, .int x5), (6, .int x6), (7, .int x7), (8, .int x8), (9, .int x9)]) hx hb dL_act_987 hl (by decide) rfl (fun ls hl => ?_)
                      refine lv_aload_n hx hb dL_act_989 rfl (lv_at hl 1 rfl) ?_
                      refine lv_iload hx hb dL_act_990 (lv_at hl 4 rfl) ?_
                      refine lv_iconst (v := (0 : Int32)) hx hb dL_act_992 (by decide) ?_
                      obtain ⟨v68, ev68, hq⟩ := b_s hq
                      refine gx0_i (g_runVX (As := [.int x6, .int (0 : Int32)]) (rest := []) (ci := 9) hC (c_X7_pointX l hl0 V g D cT f n x0 x6 (0 : Int32) (.inr v68) (h_nt_eq ev68)) k_X7_pointX m_617 rfl rfl ⟨Nat.le_of_ble_eq_true rfl, Nat.le_of_ble_eq_true rfl⟩ hI rfl rfl (h_me_eq (h_nt_eq ev68)).1 rfl hl.1 rfl (Nat.le_of_ble_eq_true rfl) dL_act_993 ⟨by decide, by decide⟩) hI (fun H locs hI => ?_)
                      refine lv_istore (lv' := [(12, .int v68), (11, .int v67), (0, .ref x0), (3, .int x3), (5, .int x5), (6, .int x6), (7, .int x7), (8, .int x8), (9, .int x9)]) hx hb dL_act_996 hl (by decide) rfl (fun ls hl => ?_)
                      refine lv_aload_n hx hb dL_act_998 rfl (lv_at hl 2 rfl) ?_
                      refine lv_iload hx hb dL_act_999 (lv_at hl 5 rfl) ?_
                      obtain ⟨v69, ev69, hq⟩ := b_s hq
                      refine gy_i (g_runVX (As := [.int x6]) (rest := []) (ci := 9) hC (c_X7_reverse l hl0 V g D cT f n x0 x6 (.inr v69) (h_nt_eq ev69)) k_X7_reverse m_1220 rfl rfl ⟨Nat.le_of_ble_eq_true rfl, Nat.le_of_ble_eq_true rfl⟩ hI rfl rfl (h_me_eq (h_nt_eq ev69)).1 rfl hl.1 rfl (Nat.le_of_ble_eq_true rfl) dL_act_1001 ⟨by decide, by decide⟩) hI (fun H locs hI => ?_)
                      refine lv_iload hx hb dL_act_1004 (lv_at hl 6 rfl) ?_
                      refine lv_icmp_ne (tgt := 1040) hx hb dL_act_1006 (by decide) (fun c70 => ?_) (fun c70 => ?_)
                      · replace hq := i_f c70 hq
                        refine lv_iconst (v := (0 : Int32)) hx hb dL_act_1040 (by decide) ?_
                        refine W.widen (k := 20) (n := 8032) (by decide) (by decide) ?_
                        obtain rfl := Option.some.inj hq
                        exact ge_Wi hx hb hlocks hr (by decide +kernel) hI rfl rfl dL_act_1041
                      · replace hq := i_t c70 hq
                        refine lv_aload_n hx hb dL_act_1009 rfl (lv_at hl 2 rfl) ?_
                        refine lv_iload hx hb dL_act_1010 (lv_at hl 5 rfl) ?_
                        refine lv_iload hx hb dL_act_1012 (lv_at hl 6 rfl) ?_
                        refine lv_iconst (v := (1 : Int32)) hx hb dL_act_1014 (by decide) ?_
                        refine lv_isub hx hb dL_act_1015 ?_
                        obtain ⟨v71, ev71, hq⟩ := b_s hq
                        refine gx0_i (g_runVX (As := [.int x6, .int (x7 - (1 : Int32))]) (rest := []) (ci := 9) hC (c_X7_pointX l hl0 V g D cT v69.2 n x0 x6 (x7 - (1 : Int32)) (.inr v71) (h_nt_eq ev71)) k_X7_pointX m_617 rfl rfl ⟨Nat.le_of_ble_eq_true rfl, Nat.le_of_ble_eq_true rfl⟩ hI rfl rfl (h_me_eq (h_nt_eq ev71)).1 rfl hl.1 rfl (Nat.le_of_ble_eq_true rfl) dL_act_1016 ⟨by decide, by decide⟩) hI (fun H locs hI => ?_)
                        refine lv_iload hx hb dL_act_1019 (lv_at hl 0 rfl) ?_
                        refine lv_icmp_ne (tgt := 1040) hx hb dL_act_1021 (by decide) (fun c72 => ?_) (fun c72 => ?_)
                        · replace hq := i_f c72 hq
                          refine lv_iconst (v := (0 : Int32)) hx hb dL_act_1040 (by decide) ?_
                          refine W.widen (k := 20) (n := 8032) (by decide) (by decide) ?_
                          obtain rfl := Option.some.inj hq
                          exact ge_Wi hx hb hlocks hr (by decide +kernel) hI rfl rfl dL_act_1041
                        · replace hq := i_t c72 hq
                          refine lv_aload_n hx hb dL_act_1024 rfl (lv_at hl 2 rfl) ?_
                          refine lv_iload hx hb dL_act_1025 (lv_at hl 5 rfl) ?_
                          refine lv_iconst (v := (0 : Int32)) hx hb dL_act_1027 (by decide) ?_
                          obtain ⟨v73, ev73, hq⟩ := b_s hq
                          refine gx0_i (g_runVX (As := [.int x6, .int (0 : Int32)]) (rest := []) (ci := 9) hC (c_X7_lengthAt l hl0 V g D cT v69.2 n x0 x6 (0 : Int32) (.inr v73) (h_nt_eq ev73)) k_X7_lengthAt m_691 rfl rfl ⟨Nat.le_of_ble_eq_true rfl, Nat.le_of_ble_eq_true rfl⟩ hI rfl rfl (h_me_eq (h_nt_eq ev73)).1 rfl hl.1 rfl (Nat.le_of_ble_eq_true rfl) dL_act_1028 ⟨by decide, by decide⟩) hI (fun H locs hI => ?_)
                          refine lv_iload hx hb dL_act_1031 (lv_at hl 1 rfl) ?_
                          refine lv_icmp_ne (tgt := 1040) hx hb dL_act_1033 (by decide) (fun c74 => ?_) (fun c74 => ?_)
                          · replace hq := i_f c74 hq
                            refine lv_iconst (v := (0 : Int32)) hx hb dL_act_1040 (by decide) ?_
                            refine W.widen (k := 20) (n := 8032) (by decide) (by decide) ?_
                            obtain rfl := Option.some.inj hq
                            exact ge_Wi hx hb hlocks hr (by decide +kernel) hI rfl rfl dL_act_1041
                          · replace hq := i_t c74 hq
                            refine lv_iconst (v := (1 : Int32)) hx hb dL_act_1036 (by decide) ?_
                            refine lv_goto (tgt := 1041) hx hb dL_act_1037 (by decide) ?_
                            refine W.widen (k := 20) (n := 8032) (by decide) (by decide) ?_
                            obtain rfl := Option.some.inj hq
                            exact ge_Wi hx hb hlocks hr (by decide +kernel) hI rfl rfl dL_act_1041
                  · replace hq := i_t c48 hq
                    refine lv_aload_n hx hb dL_act_805 rfl (lv_at hl 0 rfl) ?_
                    refine lv_iload hx hb dL_act_806 (lv_at hl 3 rfl) ?_
                    refine lv_iconst (v := (3 : Int32)) hx hb dL_act_808 (by decide) ?_
                    obtain ⟨v75, ev75, hq⟩ := b_s hq
                    refine gx0_i (g_runVX (As := [.int x6, .int (3 : Int32)]) (rest := []) (ci := 9) hC (c_X7_lengthAt l hl0 V g D cT f n x0 x6 (3 : Int32) (.inr v75) (h_nt_eq ev75)) k_X7_lengthAt m_691 rfl rfl ⟨Nat.le_of_ble_eq_true rfl, Nat.le_of_ble_eq_true rfl⟩ hI rfl rfl (h_me_eq (h_nt_eq ev75)).1 rfl hl.1 rfl (Nat.le_of_ble_eq_true rfl) dL_act_809 ⟨by decide, by decide⟩) hI (fun H locs hI => ?_)
                    refine lv_istore (lv' := [(11, .int v75), (0, .ref x0), (3, .int x3), (5, .int x5), (6, .int x6), (7, .int x7), (8, .int x8), (9, .int x9)]) hx hb dL_act_812 hl (by decide) rfl (fun ls hl => ?_)
                    refine lv_sipush (v := (1000 : Int32)) hx hb dL_act_814 (by decide) ?_
                    refine lv_istore (lv' := [(12, .int (1000 : Int32)), (11, .int v75), (0, .ref x0), (3, .int x3), (5, .int x5), (6, .int x6), (7, .int x7), (8, .int x8), (9, .int x9)]) hx hb dL_act_817 hl (by decide) rfl (fun ls hl => ?_)
                    refine lv_sipush (v := (-1000 : Int32)) hx hb dL_act_819 (by decide) ?_
                    refine lv_istore (lv' := [(13, .int (-1000 : Int32)), (12, .int (1000 : Int32)), (11, .int v75), (0, .ref x0), (3, .int x3), (5, .int x5), (6, .int x6), (7, .int x7), (8, .int x8), (9, .int x9)]) hx hb dL_act_822 hl (by decide) rfl (fun ls hl => ?_)
                    refine lv_iconst (v := (0 : Int32)) hx hb dL_act_824 (by decide) ?_
                    refine lv_istore (lv' := [(14, .int (0 : Int32)), (13, .int (-1000 : Int32)), (12, .int (1000 : Int32)), (11, .int v75), (0, .ref x0), (3, .int x3), (5, .int x5), (6, .int x6), (7, .int x7), (8, .int x8), (9, .int x9)]) hx hb dL_act_825 hl (by decide) rfl (fun ls hl => ?_)
                    have hl827 : ∀ (K892 : Nat → Int32 → Int32 → Int32 → Int32 → Int32 → Int32 → GH → Nat → Option (Int32 × GH × Nat)) (hK892 : ∀ (x0 : Nat) (x6 : Int32) (x7 : Int32) (x9 : Int32) (x11 : Int32) (x12 : Int32) (x13 : Int32) (f : GH) (n : Nat) (H : Heap) (locs : List Loc) (ls : Array Slot), g_at (g_A V) V g D cT f n s H locs → lv_has ls 17 [(0, .ref x0), (6, .int x6), (7, .int x7), (9, .int x9), (11, .int x11), (12, .int x12), (13, .int x13)] → K892 x0 x6 x7 x9 x11 x12 x13 f n = some o → W p l e rm_L_act s m args below meth c H locs 0 0 (MQ below (g_Wi V D cT o.1 o.2.1 o.2.2) args s 20 8032 (g_A V)) (F0 m 892 ls [])) (N : Nat) (x0 : Nat) (x6 : Int32) (x7 : Int32) (x9 : Int32) (x11 : Int32) (x12 : Int32) (x13 : Int32) (x14 : Int32) (f : GH) (n : Nat) (H : Heap) (locs : List Loc) (ls : Array Slot), g_at (g_A V) V g D cT f n s H locs → lv_has ls 17 [(0, .ref x0), (6, .int x6), (7, .int x7), (9, .int x9), (11, .int x11), (12, .int x12), (13, .int x13), (14, .int x14)] → p_L_act_l827 V g K892 N x0 x6 x7 x9 x11 x12 x13 x14 f n = some o → W p l e rm_L_act s m args below meth c H locs 0 0 (MQ below (g_Wi V D cT o.1 o.2.1 o.2.2) args s 20 8032 (g_A V)) (F0 m 827 ls []) := by
                      intro K892 hK892 N
                      induction N with
                      | zero =>
                        intro x0 x6 x7 x9 x11 x12 x13 x14 f n H locs ls hI hl hq
                        rw [p_L_act_l827] at hq
                        cases hq
                      | succ N ih =>
                        intro x0 x6 x7 x9 x11 x12 x13 x14 f n H locs ls hI hl hq
                        rw [p_L_act_l827] at hq
                        refine lv_iload hx hb dL_act_827 (lv_at hl 7 rfl) ?_
                        refine lv_iload hx hb dL_act_829 (lv_at hl 2 rfl) ?_
                        refine lv_icmp_ge (tgt := 892) hx hb dL_act_831 (by decide) (fun c76 => ?_) (fun c76 => ?_)
                        · replace hq := i_t c76 hq
                          exact hK892 x0 x6 x7 x9 x11 x12 x13 f n H locs ls hI (lv_sub hl [0, 1, 2, 3, 4, 5, 6] rfl) hq
                        · replace hq := i_f c76 hq
                          refine lv_iload hx hb dL_act_834 (lv_at hl 5 rfl) ?_
                          refine lv_aload_n hx hb dL_act_836 rfl (lv_at hl 0 rfl) ?_
                          refine lv_iload hx hb dL_act_837 (lv_at hl 1 rfl) ?_
                          refine lv_iload hx hb dL_act_839 (lv_at hl 7 rfl) ?_
                          obtain ⟨v77, ev77, hq⟩ := b_s hq
                          refine gx0_i (g_runVX (As := [.int x6, .int x14]) (rest := [.int x12]) (ci := 9) hC (c_X7_pointX l hl0 V g D cT f n x0 x6 x14 (.inr v77) (h_nt_eq ev77)) k_X7_pointX m_617 rfl rfl ⟨Nat.le_of_ble_eq_true rfl, Nat.le_of_ble_eq_true rfl⟩ hI rfl rfl (h_me_eq (h_nt_eq ev77)).1 rfl hl.1 rfl (Nat.le_of_ble_eq_true rfl) dL_act_841 ⟨by decide, by decide⟩) hI (fun H locs hI => ?_)
                          refine lv_aload_n hx hb dL_act_844 rfl (lv_at hl 0 rfl) ?_
                          refine lv_iload hx hb dL_act_845 (lv_at hl 1 rfl) ?_
                          refine lv_iload hx hb dL_act_847 (lv_at hl 7 rfl) ?_
                          obtain ⟨v78, ev78, hq⟩ := b_s hq
                          refine gx0_i (g_runVX (As := [.int x6, .int x14]) (rest := [.int v77, .int x12]) (ci := 9) hC (c_X7_pointY l hl0 V g D cT f n x0 x6 x14 (.inr v78) (h_nt_eq ev78)) k_X7_pointY m_626 rfl rfl ⟨Nat.le_of_ble_eq_true rfl, Nat.le_of_ble_eq_true rfl⟩ hI rfl rfl (h_me_eq (h_nt_eq ev78)).1 rfl hl.1 rfl (Nat.le_of_ble_eq_true rfl) dL_act_849 ⟨by decide, by decide⟩) hI (fun H locs hI => ?_)
                          obtain ⟨v79, ev79, hq⟩ := b_s hq
                          refine g_min hx hb (hml.trans hl.1.symm) hown (hB _ m_1213) (hB _ m_767) (hB _ m_15) (hB _ m_768) (Nat.le_of_ble_eq_true rfl) (Nat.le_of_ble_eq_true rfl) (Nat.le_of_ble_eq_true rfl) (Nat.le_of_ble_eq_true rfl) ev79 dL_act_852 ?_
                          obtain ⟨v80, ev80, hq⟩ := b_s hq
                          refine g_min hx hb (hml.trans hl.1.symm) hown (hB _ m_1213) (hB _ m_767) (hB _ m_15) (hB _ m_768) (Nat.le_of_ble_eq_true rfl) (Nat.le_of_ble_eq_true rfl) (Nat.le_of_ble_eq_true rfl) (Nat.le_of_ble_eq_true rfl) ev80 dL_act_855 ?_
                          refine lv_istore (lv' := [(12, .int v80), (0, .ref x0), (6, .int x6), (7, .int x7), (9, .int x9), (11, .int x11), (13, .int x13), (14, .int x14)]) hx hb dL_act_858 hl (by decide) rfl (fun ls hl => ?_)
                          refine lv_iload hx hb dL_act_860 (lv_at hl 6 rfl) ?_
                          refine lv_aload_n hx hb dL_act_862 rfl (lv_at hl 1 rfl) ?_
                          refine lv_iload hx hb dL_act_863 (lv_at hl 2 rfl) ?_
                          refine lv_iload hx hb dL_act_865 (lv_at hl 7 rfl) ?_
                          obtain ⟨v81, ev81, hq⟩ := b_s hq
                          refine gx0_i (g_runVX (As := [.int x6, .int x14]) (rest := [.int x13]) (ci := 9) hC (c_X7_pointX l hl0 V g D cT f n x0 x6 x14 (.inr v81) (h_nt_eq ev81)) k_X7_pointX m_617 rfl rfl ⟨Nat.le_of_ble_eq_true rfl, Nat.le_of_ble_eq_true rfl⟩ hI rfl rfl (h_me_eq (h_nt_eq ev81)).1 rfl hl.1 rfl (Nat.le_of_ble_eq_true rfl) dL_act_867 ⟨by decide, by decide⟩) hI (fun H locs hI => ?_)
                          refine lv_aload_n hx hb dL_act_870 rfl (lv_at hl 1 rfl) ?_
                          refine lv_iload hx hb dL_act_871 (lv_at hl 2 rfl) ?_
                          refine lv_iload hx hb dL_act_873 (lv_at hl 7 rfl) ?_
                          obtain ⟨v82, ev82, hq⟩ := b_s hq
                          refine gx0_i (g_runVX (As := [.int x6, .int x14]) (rest := [.int v81, .int x13]) (ci := 9) hC (c_X7_pointY l hl0 V g D cT f n x0 x6 x14 (.inr v82) (h_nt_eq ev82)) k_X7_pointY m_626 rfl rfl ⟨Nat.le_of_ble_eq_true rfl, Nat.le_of_ble_eq_true rfl⟩ hI rfl rfl (h_me_eq (h_nt_eq ev82)).1 rfl hl.1 rfl (Nat.le_of_ble_eq_true rfl) dL_act_875 ⟨by decide, by decide⟩) hI (fun H locs hI => ?_)
                          obtain ⟨v83, ev83, hq⟩ := b_s hq
                          refine g_max hx hb (hml.trans hl.1.symm) hown (hB _ m_1201) (hB _ m_672) (hB _ m_15) (hB _ m_673) (Nat.le_of_ble_eq_true rfl) (Nat.le_of_ble_eq_true rfl) (Nat.le_of_ble_eq_true rfl) (Nat.le_of_ble_eq_true rfl) ev83 dL_act_878 ?_
                          obtain ⟨v84, ev84, hq⟩ := b_s hq
                          refine g_max hx hb (hml.trans hl.1.symm) hown (hB _ m_1201) (hB _ m_672) (hB _ m_15) (hB _ m_673) (Nat.le_of_ble_eq_true rfl) (Nat.le_of_ble_eq_true rfl) (Nat.le_of_ble_eq_true rfl) (Nat.le_of_ble_eq_true rfl) ev84 dL_act_881 ?_
                          refine lv_istore (lv' := [(13, .int v84), (12, .int v80), (0, .ref x0), (6, .int x6), (7, .int x7), (9, .int x9), (11, .int x11), (14, .int x14)]) hx hb dL_act_884 hl (by decide) rfl (fun ls hl => ?_)
                          refine lv_iinc (v := x14 + (1 : Int32)) (lv' := [(14, .int (x14 + (1 : Int32))), (13, .int v84), (12, .int v80), (0, .ref x0), (6, .int x6), (7, .int x7), (9, .int x9), (11, .int x11)]) hx hb dL_act_886 hl (k := 7) rfl rfl (by decide) rfl (fun ls hl => ?_)
                          refine lv_goto (tgt := 827) hx hb dL_act_889 (by decide) ?_
                          exact ih x0 x6 x7 x9 x11 v80 v84 (x14 + (1 : Int32)) f n H locs ls hI (lv_sub hl [3, 4, 5, 6, 7, 2, 1, 0] rfl) hq
                    refine hl827 _ ?_ FU x0 x6 x7 x9 v75 (1000 : Int32) (-1000 : Int32) (0 : Int32) f n H locs ls hI (lv_sub hl [4, 7, 8, 10, 3, 2, 1, 0] rfl) hq
                    · intro x0 x6 x7 x9 x11 x12 x13 f n H locs ls hI hl hq
                      refine lv_sipush (v := (-1000 : Int32)) hx hb dL_act_892 (by decide) ?_
                      refine lv_iload hx hb dL_act_895 (lv_at hl 5 rfl) ?_
                      refine lv_isub hx hb dL_act_897 ?_
                      refine lv_iload hx hb dL_act_898 (lv_at hl 6 rfl) ?_
                      refine lv_sipush (v := (1000 : Int32)) hx hb dL_act_900 (by decide) ?_
                      refine lv_isub hx hb dL_act_903 ?_
                      obtain ⟨v85, ev85, hq⟩ := b_s hq
                      refine g_max hx hb (hml.trans hl.1.symm) hown (hB _ m_1201) (hB _ m_672) (hB _ m_15) (hB _ m_673) (Nat.le_of_ble_eq_true rfl) (Nat.le_of_ble_eq_true rfl) (Nat.le_of_ble_eq_true rfl) (Nat.le_of_ble_eq_true rfl) ev85 dL_act_904 ?_
                      refine lv_istore (lv' := [(14, .int v85), (0, .ref x0), (6, .int x6), (7, .int x7), (9, .int x9), (11, .int x11), (12, .int x12), (13, .int x13)]) hx hb dL_act_907 hl (by decide) rfl (fun ls hl => ?_)
                      refine lv_sipush (v := (1000 : Int32)) hx hb dL_act_909 (by decide) ?_
                      refine lv_iload hx hb dL_act_912 (lv_at hl 7 rfl) ?_
                      refine lv_isub hx hb dL_act_914 ?_
                      refine lv_sipush (v := (1000 : Int32)) hx hb dL_act_915 (by decide) ?_
                      refine lv_iload hx hb dL_act_918 (lv_at hl 6 rfl) ?_
                      refine lv_iadd hx hb dL_act_920 ?_
                      obtain ⟨v86, ev86, hq⟩ := b_s hq
                      refine g_min hx hb (hml.trans hl.1.symm) hown (hB _ m_1213) (hB _ m_767) (hB _ m_15) (hB _ m_768) (Nat.le_of_ble_eq_true rfl) (Nat.le_of_ble_eq_true rfl) (Nat.le_of_ble_eq_true rfl) (Nat.le_of_ble_eq_true rfl) ev86 dL_act_921 ?_
                      refine lv_istore (lv' := [(15, .int v86), (14, .int v85), (0, .ref x0), (6, .int x6), (7, .int x7), (9, .int x9), (11, .int x11), (12, .int x12), (13, .int x13)]) hx hb dL_act_924 hl (by decide) rfl (fun ls hl => ?_)
                      refine lv_iload hx hb dL_act_926 (lv_at hl 1 rfl) ?_
                      refine lv_iload hx hb dL_act_928 (lv_at hl 0 rfl) ?_
                      refine lv_iload hx hb dL_act_930 (lv_at hl 5 rfl) ?_
                      obtain ⟨v87, ev87, hq⟩ := b_s hq
                      refine g_min hx hb (hml.trans hl.1.symm) hown (hB _ m_1213) (hB _ m_767) (hB _ m_15) (hB _ m_768) (Nat.le_of_ble_eq_true rfl) (Nat.le_of_ble_eq_true rfl) (Nat.le_of_ble_eq_true rfl) (Nat.le_of_ble_eq_true rfl) ev87 dL_act_932 ?_
                      obtain ⟨v88, ev88, hq⟩ := b_s hq
                      refine g_max hx hb (hml.trans hl.1.symm) hown (hB _ m_1201) (hB _ m_672) (hB _ m_15) (hB _ m_673) (Nat.le_of_ble_eq_true rfl) (Nat.le_of_ble_eq_true rfl) (Nat.le_of_ble_eq_true rfl) (Nat.le_of_ble_eq_true rfl) ev88 dL_act_935 ?_
                      refine lv_istore (lv' := [(16, .int v88), (15, .int v86), (14, .int v85), (0, .ref x0), (6, .int x6), (7, .int x7), (9, .int x9), (11, .int x11), (12, .int x12), (13, .int x13)]) hx hb dL_act_938 hl (by decide) rfl (fun ls hl => ?_)
                      refine lv_aload_n hx hb dL_act_940 rfl (lv_at hl 3 rfl) ?_
                      refine lv_iload hx hb dL_act_941 (lv_at hl 4 rfl) ?_
                      refine lv_iload hx hb dL_act_943 (lv_at hl 0 rfl) ?_
                      refine lv_iload hx hb dL_act_945 (lv_at hl 0 rfl) ?_
                      refine lv_ineg hx hb dL_act_947 ?_
                      obtain ⟨v89, ev89, hq⟩ := b_s hq
                      refine gy_i (g_runVX (As := [.int x6, .int v88, .int (-v88)]) (rest := []) (ci := 9) hC (c_X7_shift l hl0 V g D cT f n x0 x6 v88 (-v88) (.inr v89) (h_nt_eq ev89)) k_X7_shift m_1214 rfl rfl ⟨Nat.le_of_ble_eq_true rfl, Nat.le_of_ble_eq_true rfl⟩ hI rfl rfl (h_me_eq (h_nt_eq ev89)).1 rfl hl.1 rfl (Nat.le_of_ble_eq_true rfl) dL_act_948 ⟨by decide, by decide⟩) hI (fun H locs hI => ?_)
                      refine lv_iload hx hb dL_act_951 (lv_at hl 5 rfl) ?_
                      refine lv_icmp_ne (tgt := 972) hx hb dL_act_953 (by decide) (fun c90 => ?_) (fun c90 => ?_)
                      · replace hq := i_f c90 hq
                        refine lv_iconst (v := (0 : Int32)) hx hb dL_act_972 (by decide) ?_
                        refine W.widen (k := 20) (n := 8032) (by decide) (by decide) ?_
                        obtain rfl := Option.some.inj hq
                        exact ge_Wi hx hb hlocks hr (by decide +kernel) hI rfl rfl dL_act_973
                      · replace hq := i_t c90 hq
                        refine lv_aload_n hx hb dL_act_956 rfl (lv_at hl 3 rfl) ?_
                        refine lv_iload hx hb dL_act_957 (lv_at hl 4 rfl) ?_
                        refine lv_iconst (v := (3 : Int32)) hx hb dL_act_959 (by decide) ?_
                        obtain ⟨v91, ev91, hq⟩ := b_s hq
                        refine gx0_i (g_runVX (As := [.int x6, .int (3 : Int32)]) (rest := []) (ci := 9) hC (c_X7_lengthAt l hl0 V g D cT v89.2 n x0 x6 (3 : Int32) (.inr v91) (h_nt_eq ev91)) k_X7_lengthAt m_691 rfl rfl ⟨Nat.le_of_ble_eq_true rfl, Nat.le_of_ble_eq_true rfl⟩ hI rfl rfl (h_me_eq (h_nt_eq ev91)).1 rfl hl.1 rfl (Nat.le_of_ble_eq_true rfl) dL_act_960 ⟨by decide, by decide⟩) hI (fun H locs hI => ?_)
                        refine lv_iload hx hb dL_act_963 (lv_at hl 7 rfl) ?_
                        refine lv_icmp_ne (tgt := 972) hx hb dL_act_965 (by decide) (fun c92 => ?_) (fun c92 => ?_)
                        · replace hq := i_f c92 hq
                          refine lv_iconst (v := (0 : Int32)) hx hb dL_act_972 (by decide) ?_
                          refine W.widen (k := 20) (n := 8032) (by decide) (by decide) ?_
                          obtain rfl := Option.some.inj hq
                          exact ge_Wi hx hb hlocks hr (by decide +kernel) hI rfl rfl dL_act_973
                        · replace hq := i_t c92 hq
                          refine lv_iconst (v := (1 : Int32)) hx hb dL_act_968 (by decide) ?_
                          refine lv_goto (tgt := 973) hx hb dL_act_969 (by decide) ?_
                          refine W.widen (k := 20) (n := 8032) (by decide) (by decide) ?_
                          obtain rfl := Option.some.inj hq
                          exact ge_Wi hx hb hlocks hr (by decide +kernel) hI rfl rfl dL_act_973
                · replace hq := i_t c47 hq
                  refine lv_aload_n hx hb dL_act_724 rfl (lv_at hl 0 rfl) ?_
                  refine lv_iload hx hb dL_act_725 (lv_at hl 3 rfl) ?_
                  refine lv_iload hx hb dL_act_727 (lv_at hl 5 rfl) ?_
                  obtain ⟨v93, ev93, hq⟩ := b_s hq
                  refine gx0_i (g_runVX (As := [.int x6, .int x8]) (rest := []) (ci := 9) hC (c_X7_lengthWithoutPoint l hl0 V g D cT f n x0 x6 x8 (.inr v93) (h_nt_eq ev93)) k_X7_lengthWithoutPoint m_830 rfl rfl ⟨Nat.le_of_ble_eq_true rfl, Nat.le_of_ble_eq_true rfl⟩ hI rfl rfl (h_me_eq (h_nt_eq ev93)).1 rfl hl.1 rfl (Nat.le_of_ble_eq_true rfl) dL_act_729 ⟨by decide, by decide⟩) hI (fun H locs hI => ?_)
                  refine lv_istore (lv' := [(11, .int v93), (0, .ref x0), (3, .int x3), (5, .int x5), (6, .int x6), (7, .int x7), (8, .int x8), (9, .int x9)]) hx hb dL_act_732 hl (by decide) rfl (fun ls hl => ?_)
                  refine lv_iload hx hb dL_act_734 (lv_at hl 0 rfl) ?_
                  refine lv_if_ge (tgt := 766) hx hb dL_act_736 (by decide) (fun c94 => ?_) (fun c94 => ?_)
                  · replace hq := i_t c94 hq
                    refine lv_aload_n hx hb dL_act_766 rfl (lv_at hl 1 rfl) ?_
                    refine lv_iload hx hb dL_act_767 (lv_at hl 4 rfl) ?_
                    refine lv_iload hx hb dL_act_769 (lv_at hl 6 rfl) ?_
                    obtain ⟨v95, ev95, hq⟩ := b_s hq
                    refine gy_i (g_runVX (As := [.int x6, .int x8]) (rest := []) (ci := 9) hC (c_X7_removePoint l hl0 V g D cT f n x0 x6 x8 (.inr v95) (h_nt_eq ev95)) k_X7_removePoint m_1207 rfl rfl ⟨Nat.le_of_ble_eq_true rfl, Nat.le_of_ble_eq_true rfl⟩ hI rfl rfl (h_me_eq (h_nt_eq ev95)).1 rfl hl.1 rfl (Nat.le_of_ble_eq_true rfl) dL_act_771 ⟨by decide, by decide⟩) hI (fun H locs hI => ?_)
                    refine lv_iload hx hb dL_act_774 (lv_at hl 5 rfl) ?_
                    refine lv_iconst (v := (1 : Int32)) hx hb dL_act_776 (by decide) ?_
                    refine lv_isub hx hb dL_act_777 ?_
                    refine lv_icmp_ne (tgt := 797) hx hb dL_act_778 (by decide) (fun c96 => ?_) (fun c96 => ?_)
                    · replace hq := i_f c96 hq
                      refine lv_iconst (v := (0 : Int32)) hx hb dL_act_797 (by decide) ?_
                      refine W.widen (k := 20) (n := 8032) (by decide) (by decide) ?_
                      obtain rfl := Option.some.inj hq
                      exact ge_Wi hx hb hlocks hr (by decide +kernel) hI rfl rfl dL_act_798
                    · replace hq := i_t c96 hq
                      refine lv_aload_n hx hb dL_act_781 rfl (lv_at hl 1 rfl) ?_
                      refine lv_iload hx hb dL_act_782 (lv_at hl 4 rfl) ?_
                      refine lv_iconst (v := (0 : Int32)) hx hb dL_act_784 (by decide) ?_
                      obtain ⟨v97, ev97, hq⟩ := b_s hq
                      refine gx0_i (g_runVX (As := [.int x6, .int (0 : Int32)]) (rest := []) (ci := 9) hC (c_X7_lengthAt l hl0 V g D cT v95.2 n x0 x6 (0 : Int32) (.inr v97) (h_nt_eq ev97)) k_X7_lengthAt m_691 rfl rfl ⟨Nat.le_of_ble_eq_true rfl, Nat.le_of_ble_eq_true rfl⟩ hI rfl rfl (h_me_eq (h_nt_eq ev97)).1 rfl hl.1 rfl (Nat.le_of_ble_eq_true rfl) dL_act_785 ⟨by decide, by decide⟩) hI (fun H locs hI => ?_)
                      refine lv_iload hx hb dL_act_788 (lv_at hl 0 rfl) ?_
                      refine lv_icmp_ne (tgt := 797) hx hb dL_act_790 (by decide) (fun c98 => ?_) (fun c98 => ?_)
                      · replace hq := i_f c98 hq
                        refine lv_iconst (v := (0 : Int32)) hx hb dL_act_797 (by decide) ?_
                        refine W.widen (k := 20) (n := 8032) (by decide) (by decide) ?_
                        obtain rfl := Option.some.inj hq
                        exact ge_Wi hx hb hlocks hr (by decide +kernel) hI rfl rfl dL_act_798
                      · replace hq := i_t c98 hq
                        refine lv_iconst (v := (1 : Int32)) hx hb dL_act_793 (by decide) ?_
                        refine lv_goto (tgt := 798) hx hb dL_act_794 (by decide) ?_
                        refine W.widen (k := 20) (n := 8032) (by decide) (by decide) ?_
                        obtain rfl := Option.some.inj hq
                        exact ge_Wi hx hb hlocks hr (by decide +kernel) hI rfl rfl dL_act_798
                  · replace hq := i_f c94 hq
                    refine lv_iload hx hb dL_act_739 (lv_at hl 5 rfl) ?_
                    refine lv_aload_n hx hb dL_act_741 rfl (lv_at hl 1 rfl) ?_
                    refine lv_iload hx hb dL_act_742 (lv_at hl 4 rfl) ?_
                    obtain ⟨v99, ev99, hq⟩ := b_s hq
                    refine gx0_i (g_runVX (As := [.int x6]) (rest := [.int x7]) (ci := 9) hC (c_X7_isIsland l hl0 V g D cT f n x0 x6 (.inr v99) (h_nt_eq ev99)) k_X7_isIsland m_613 rfl rfl ⟨Nat.le_of_ble_eq_true rfl, Nat.le_of_ble_eq_true rfl⟩ hI rfl rfl (h_me_eq (h_nt_eq ev99)).1 rfl hl.1 rfl (Nat.le_of_ble_eq_true rfl) dL_act_744 ⟨by decide, by decide⟩) hI (fun H locs hI => ?_)
                    refine lv_if_eq (tgt := 754) hx hb dL_act_747 (by decide) (fun c100 => ?_) (fun c100 => ?_)
                    · replace hq := i_t c100 hq
                      refine lv_iconst (v := (2 : Int32)) hx hb dL_act_754 (by decide) ?_
                      refine lv_icmp_ne (tgt := 762) hx hb dL_act_755 (by decide) (fun c101 => ?_) (fun c101 => ?_)
                      · replace hq := i_f c101 hq
                        refine lv_iconst (v := (0 : Int32)) hx hb dL_act_762 (by decide) ?_
                        refine lv_goto (tgt := 798) hx hb dL_act_763 (by decide) ?_
                        refine W.widen (k := 20) (n := 8032) (by decide) (by decide) ?_
                        obtain rfl := Option.some.inj hq
                        exact ge_Wi hx hb hlocks hr (by decide +kernel) hI rfl rfl dL_act_798
                      · replace hq := i_t c101 hq
                        refine lv_iconst (v := (1 : Int32)) hx hb dL_act_758 (by decide) ?_
                        refine lv_goto (tgt := 798) hx hb dL_act_759 (by decide) ?_
                        refine W.widen (k := 20) (n := 8032) (by decide) (by decide) ?_
                        obtain rfl := Option.some.inj hq
                        exact ge_Wi hx hb hlocks hr (by decide +kernel) hI rfl rfl dL_act_798
                    · replace hq := i_f c100 hq
                      refine lv_iconst (v := (3 : Int32)) hx hb dL_act_750 (by decide) ?_
                      refine lv_goto (tgt := 755) hx hb dL_act_751 (by decide) ?_
                      refine lv_icmp_ne (tgt := 762) hx hb dL_act_755 (by decide) (fun c102 => ?_) (fun c102 => ?_)
                      · replace hq := i_f c102 hq
                        refine lv_iconst (v := (0 : Int32)) hx hb dL_act_762 (by decide) ?_
                        refine lv_goto (tgt := 798) hx hb dL_act_763 (by decide) ?_
                        refine W.widen (k := 20) (n := 8032) (by decide) (by decide) ?_
                        obtain rfl := Option.some.inj hq
                        exact ge_Wi hx hb hlocks hr (by decide +kernel) hI rfl rfl dL_act_798
                      · replace hq := i_t c102 hq
                        refine lv_iconst (v := (1 : Int32)) hx hb dL_act_758 (by decide) ?_
                        refine lv_goto (tgt := 798) hx hb dL_act_759 (by decide) ?_
                        refine W.widen (k := 20) (n := 8032) (by decide) (by decide) ?_
                        obtain rfl := Option.some.inj hq
                        exact ge_Wi hx hb hlocks hr (by decide +kernel) hI rfl rfl dL_act_798
              refine lv_icmp_ge (tgt := 718) hx hb dL_act_635 (by decide) (fun c103 => ?_) (fun c103 => ?_)
              · replace hq := i_t c103 hq
                exact hj718 x0 x3 x5 x6 x7 x8 x9 f n H locs ls hI (lv_sub hl [0, 1, 2, 3, 4, 5, 6] rfl) hq
              · replace hq := i_f c103 hq
                refine lv_iload hx hb dL_act_638 (lv_at hl 4 rfl) ?_
                refine lv_sipush (v := (129 : Int32)) hx hb dL_act_640 (by decide) ?_
                refine lv_icmp_ge (tgt := 718) hx hb dL_act_643 (by decide) (fun c104 => ?_) (fun c104 => ?_)
                · replace hq := i_t c104 hq
                  exact hj718 x0 x3 x5 x6 x7 x8 x9 f n H locs ls hI (lv_sub hl [0, 1, 2, 3, 4, 5, 6] rfl) hq
                · replace hq := i_f c104 hq
                  refine lv_aload_n hx hb dL_act_646 rfl (lv_at hl 0 rfl) ?_
                  refine lv_iload hx hb dL_act_647 (lv_at hl 3 rfl) ?_
                  refine lv_iconst (v := (0 : Int32)) hx hb dL_act_649 (by decide) ?_
                  obtain ⟨v105, ev105, hq⟩ := b_s hq
                  refine gx0_i (g_runVX (As := [.int x6, .int (0 : Int32)]) (rest := []) (ci := 9) hC (c_X7_lengthAt l hl0 V g D cT f n x0 x6 (0 : Int32) (.inr v105) (h_nt_eq ev105)) k_X7_lengthAt m_691 rfl rfl ⟨Nat.le_of_ble_eq_true rfl, Nat.le_of_ble_eq_true rfl⟩ hI rfl rfl (h_me_eq (h_nt_eq ev105)).1 rfl hl.1 rfl (Nat.le_of_ble_eq_true rfl) dL_act_650 ⟨by decide, by decide⟩) hI (fun H locs hI => ?_)
                  refine lv_istore (lv' := [(11, .int v105), (0, .ref x0), (3, .int x3), (5, .int x5), (6, .int x6), (7, .int x7), (8, .int x8), (9, .int x9), (10, .int x10)]) hx hb dL_act_653 hl (by decide) rfl (fun ls hl => ?_)
                  refine lv_aload_n hx hb dL_act_655 rfl (lv_at hl 1 rfl) ?_
                  refine lv_iload hx hb dL_act_656 (lv_at hl 4 rfl) ?_
                  refine lv_iload hx hb dL_act_658 (lv_at hl 6 rfl) ?_
                  refine lv_iload hx hb dL_act_660 (lv_at hl 7 rfl) ?_
                  refine lv_iload hx hb dL_act_662 (lv_at hl 8 rfl) ?_
                  obtain ⟨v106, ev106, hq⟩ := b_s hq
                  refine gy_i (g_runVX (As := [.int x6, .int x8, .int x9, .int x10]) (rest := []) (ci := 9) hC (c_X7_insertPoint l hl0 V g D cT f n x0 x6 x8 x9 x10 (.inr v106) (h_nt_eq ev106)) k_X7_insertPoint m_1202 rfl rfl ⟨Nat.le_of_ble_eq_true rfl, Nat.le_of_ble_eq_true rfl⟩ hI rfl rfl (h_me_eq (h_nt_eq ev106)).1 rfl hl.1 rfl (Nat.le_of_ble_eq_true rfl) dL_act_664 ⟨by decide, by decide⟩) hI (fun H locs hI => ?_)
                  refine lv_iload hx hb dL_act_667 (lv_at hl 5 rfl) ?_
                  refine lv_iconst (v := (1 : Int32)) hx hb dL_act_669 (by decide) ?_
                  refine lv_iadd hx hb dL_act_670 ?_
                  refine lv_icmp_ne (tgt := 716) hx hb dL_act_671 (by decide) (fun c107 => ?_) (fun c107 => ?_)
                  · replace hq := i_f c107 hq
                    refine lv_iconst (v := (0 : Int32)) hx hb dL_act_716 (by decide) ?_
                    refine W.widen (k := 20) (n := 8032) (by decide) (by decide) ?_
                    obtain rfl := Option.some.inj hq
                    exact ge_Wi hx hb hlocks hr (by decide +kernel) hI rfl rfl dL_act_717
                  · replace hq := i_t c107 hq
                    refine lv_aload_n hx hb dL_act_674 rfl (lv_at hl 1 rfl) ?_
                    refine lv_iload hx hb dL_act_675 (lv_at hl 4 rfl) ?_
                    refine lv_iload hx hb dL_act_677 (lv_at hl 6 rfl) ?_
                    obtain ⟨v108, ev108, hq⟩ := b_s hq
                    refine gx0_i (g_runVX (As := [.int x6, .int x8]) (rest := []) (ci := 9) hC (c_X7_pointX l hl0 V g D cT v106.2 n x0 x6 x8 (.inr v108) (h_nt_eq ev108)) k_X7_pointX m_617 rfl rfl ⟨Nat.le_of_ble_eq_true rfl, Nat.le_of_ble_eq_true rfl⟩ hI rfl rfl (h_me_eq (h_nt_eq ev108)).1 rfl hl.1 rfl (Nat.le_of_ble_eq_true rfl) dL_act_679 ⟨by decide, by decide⟩) hI (fun H locs hI => ?_)
                    refine lv_iload hx hb dL_act_682 (lv_at hl 7 rfl) ?_
                    refine lv_icmp_ne (tgt := 716) hx hb dL_act_684 (by decide) (fun c109 => ?_) (fun c109 => ?_)
                    · replace hq := i_f c109 hq
                      refine lv_iconst (v := (0 : Int32)) hx hb dL_act_716 (by decide) ?_
                      refine W.widen (k := 20) (n := 8032) (by decide) (by decide) ?_
                      obtain rfl := Option.some.inj hq
                      exact ge_Wi hx hb hlocks hr (by decide +kernel) hI rfl rfl dL_act_717
                    · replace hq := i_t c109 hq
                      refine lv_aload_n hx hb dL_act_687 rfl (lv_at hl 1 rfl) ?_
                      refine lv_iload hx hb dL_act_688 (lv_at hl 4 rfl) ?_
                      refine lv_iconst (v := (0 : Int32)) hx hb dL_act_690 (by decide) ?_
                      obtain ⟨v110, ev110, hq⟩ := b_s hq
                      refine gx0_i (g_runVX (As := [.int x6, .int (0 : Int32)]) (rest := []) (ci := 9) hC (c_X7_lengthAt l hl0 V g D cT v106.2 n x0 x6 (0 : Int32) (.inr v110) (h_nt_eq ev110)) k_X7_lengthAt m_691 rfl rfl ⟨Nat.le_of_ble_eq_true rfl, Nat.le_of_ble_eq_true rfl⟩ hI rfl rfl (h_me_eq (h_nt_eq ev110)).1 rfl hl.1 rfl (Nat.le_of_ble_eq_true rfl) dL_act_691 ⟨by decide, by decide⟩) hI (fun H locs hI => ?_)
                      refine lv_iload hx hb dL_act_694 (lv_at hl 0 rfl) ?_
                      refine lv_icmp_lt (tgt := 716) hx hb dL_act_696 (by decide) (fun c111 => ?_) (fun c111 => ?_)
                      · replace hq := i_t c111 hq
                        refine lv_iconst (v := (0 : Int32)) hx hb dL_act_716 (by decide) ?_
                        refine W.widen (k := 20) (n := 8032) (by decide) (by decide) ?_
                        obtain rfl := Option.some.inj hq
                        exact ge_Wi hx hb hlocks hr (by decide +kernel) hI rfl rfl dL_act_717
                      · replace hq := i_f c111 hq
                        refine lv_aload_n hx hb dL_act_699 rfl (lv_at hl 1 rfl) ?_
                        refine lv_iload hx hb dL_act_700 (lv_at hl 4 rfl) ?_
                        refine lv_iload hx hb dL_act_702 (lv_at hl 6 rfl) ?_
                        obtain ⟨v112, ev112, hq⟩ := b_s hq
                        refine gx0_i (g_runVX (As := [.int x6, .int x8]) (rest := []) (ci := 9) hC (c_X7_lengthWithoutPoint l hl0 V g D cT v106.2 n x0 x6 x8 (.inr v112) (h_nt_eq ev112)) k_X7_lengthWithoutPoint m_830 rfl rfl ⟨Nat.le_of_ble_eq_true rfl, Nat.le_of_ble_eq_true rfl⟩ hI rfl rfl (h_me_eq (h_nt_eq ev112)).1 rfl hl.1 rfl (Nat.le_of_ble_eq_true rfl) dL_act_704 ⟨by decide, by decide⟩) hI (fun H locs hI => ?_)
                        refine lv_iload hx hb dL_act_707 (lv_at hl 0 rfl) ?_
                        refine lv_icmp_ne (tgt := 716) hx hb dL_act_709 (by decide) (fun c113 => ?_) (fun c113 => ?_)
                        · replace hq := i_f c113 hq
                          refine lv_iconst (v := (0 : Int32)) hx hb dL_act_716 (by decide) ?_
                          refine W.widen (k := 20) (n := 8032) (by decide) (by decide) ?_
                          obtain rfl := Option.some.inj hq
                          exact ge_Wi hx hb hlocks hr (by decide +kernel) hI rfl rfl dL_act_717
                        · replace hq := i_t c113 hq
                          refine lv_iconst (v := (1 : Int32)) hx hb dL_act_712 (by decide) ?_
                          refine lv_goto (tgt := 717) hx hb dL_act_713 (by decide) ?_
                          refine W.widen (k := 20) (n := 8032) (by decide) (by decide) ?_
                          obtain rfl := Option.some.inj hq
                          exact ge_Wi hx hb hlocks hr (by decide +kernel) hI rfl rfl dL_act_717
            · replace hq := i_f c46 hq
              refine lv_aload_n hx hb dL_act_531 rfl (lv_at hl 0 rfl) ?_
              refine lv_iload hx hb dL_act_532 (lv_at hl 3 rfl) ?_
              refine lv_iload hx hb dL_act_534 (lv_at hl 5 rfl) ?_
              obtain ⟨v114, ev114, hq⟩ := b_s hq
              refine gx0_i (g_runVX (As := [.int x6, .int x8]) (rest := []) (ci := 9) hC (c_X7_pointX l hl0 V g D cT f n x0 x6 x8 (.inr v114) (h_nt_eq ev114)) k_X7_pointX m_617 rfl rfl ⟨Nat.le_of_ble_eq_true rfl, Nat.le_of_ble_eq_true rfl⟩ hI rfl rfl (h_me_eq (h_nt_eq ev114)).1 rfl hl.1 rfl (Nat.le_of_ble_eq_true rfl) dL_act_536 ⟨by decide, by decide⟩) hI (fun H locs hI => ?_)
              refine lv_iload hx hb dL_act_539 (lv_at hl 6 rfl) ?_
              refine lv_isub hx hb dL_act_541 ?_
              obtain ⟨v115, ev115, hq⟩ := b_s hq
              refine g_abs hx hb (hml.trans hl.1.symm) hown (hB _ m_1194) (hB _ m_669) (hB _ m_15) (hB _ m_670) (Nat.le_of_ble_eq_true rfl) (Nat.le_of_ble_eq_true rfl) (Nat.le_of_ble_eq_true rfl) (Nat.le_of_ble_eq_true rfl) ev115 dL_act_542 ?_
              refine lv_istore (lv' := [(11, .int v115), (0, .ref x0), (3, .int x3), (5, .int x5), (6, .int x6), (7, .int x7), (8, .int x8), (9, .int x9), (10, .int x10)]) hx hb dL_act_545 hl (by decide) rfl (fun ls hl => ?_)
              refine lv_aload_n hx hb dL_act_547 rfl (lv_at hl 1 rfl) ?_
              refine lv_iload hx hb dL_act_548 (lv_at hl 4 rfl) ?_
              refine lv_iload hx hb dL_act_550 (lv_at hl 6 rfl) ?_
              obtain ⟨v116, ev116, hq⟩ := b_s hq
              refine gx0_i (g_runVX (As := [.int x6, .int x8]) (rest := []) (ci := 9) hC (c_X7_pointY l hl0 V g D cT f n x0 x6 x8 (.inr v116) (h_nt_eq ev116)) k_X7_pointY m_626 rfl rfl ⟨Nat.le_of_ble_eq_true rfl, Nat.le_of_ble_eq_true rfl⟩ hI rfl rfl (h_me_eq (h_nt_eq ev116)).1 rfl hl.1 rfl (Nat.le_of_ble_eq_true rfl) dL_act_552 ⟨by decide, by decide⟩) hI (fun H locs hI => ?_)
              refine lv_iload hx hb dL_act_555 (lv_at hl 8 rfl) ?_
              refine lv_isub hx hb dL_act_557 ?_
              obtain ⟨v117, ev117, hq⟩ := b_s hq
              refine g_abs hx hb (hml.trans hl.1.symm) hown (hB _ m_1194) (hB _ m_669) (hB _ m_15) (hB _ m_670) (Nat.le_of_ble_eq_true rfl) (Nat.le_of_ble_eq_true rfl) (Nat.le_of_ble_eq_true rfl) (Nat.le_of_ble_eq_true rfl) ev117 dL_act_558 ?_
              refine lv_istore (lv' := [(12, .int v117), (11, .int v115), (0, .ref x0), (3, .int x3), (5, .int x5), (6, .int x6), (7, .int x7), (8, .int x8), (9, .int x9), (10, .int x10)]) hx hb dL_act_561 hl (by decide) rfl (fun ls hl => ?_)
              refine lv_aload_n hx hb dL_act_563 rfl (lv_at hl 2 rfl) ?_
              refine lv_iload hx hb dL_act_564 (lv_at hl 5 rfl) ?_
              refine lv_iload hx hb dL_act_566 (lv_at hl 7 rfl) ?_
              refine lv_iload hx hb dL_act_568 (lv_at hl 8 rfl) ?_
              refine lv_iload hx hb dL_act_570 (lv_at hl 9 rfl) ?_
              obtain ⟨v118, ev118, hq⟩ := b_s hq
              refine gy_i (g_runVX (As := [.int x6, .int x8, .int x9, .int x10]) (rest := []) (ci := 9) hC (c_X7_movePoint l hl0 V g D cT f n x0 x6 x8 x9 x10 (.inr v118) (h_nt_eq ev118)) k_X7_movePoint m_1195 rfl rfl ⟨Nat.le_of_ble_eq_true rfl, Nat.le_of_ble_eq_true rfl⟩ hI rfl rfl (h_me_eq (h_nt_eq ev118)).1 rfl hl.1 rfl (Nat.le_of_ble_eq_true rfl) dL_act_572 ⟨by decide, by decide⟩) hI (fun H locs hI => ?_)
              refine lv_aload_n hx hb dL_act_575 rfl (lv_at hl 2 rfl) ?_
              obtain ⟨v119, ev119, hq⟩ := b_s hq
              refine gr_i (g_runV (As := []) (rest := [.int v118.1]) (ci := 9) hC (c_X7_usesKingMetric l V g D cT v118.2 n x0 v119 ev119) k_X7_usesKingMetric m_601 rfl rfl ⟨Nat.le_of_ble_eq_true rfl, Nat.le_of_ble_eq_true rfl⟩ hI rfl rfl (h_me_eq ev119).1 rfl hl.1 rfl (Nat.le_of_ble_eq_true rfl) dL_act_576 ⟨by decide, by decide⟩) hI (fun H locs hI => ?_)
              have hj597 : ∀ (x0 : Nat) (x6 : Int32) (x8 : Int32) (x9 : Int32) (x10 : Int32) (t0 : Int32) (t1 : Int32) (f : GH) (n : Nat) (H : Heap) (locs : List Loc) (ls : Array Slot), g_at (g_A V) V g D cT f n s H locs → lv_has ls 17 [(0, .ref x0), (6, .int x6), (8, .int x8), (9, .int x9), (10, .int x10)] → p_L_act_j597 V g x0 x6 x8 x9 x10 t0 t1 f n = some o → W p l e rm_L_act s m args below meth c H locs 1 6 (MQ below (g_Wi V D cT o.1 o.2.1 o.2.2) args s 20 8032 (g_A V)) (F0 m 597 ls [.int t0, .int t1]) := by
                intro x0 x6 x8 x9 x10 t0 t1 f n H locs ls hI hl hq
                unfold p_L_act_j597 at hq
                refine lv_icmp_ne (tgt := 630) hx hb dL_act_597 (by decide) (fun c120 => ?_) (fun c120 => ?_)
                · replace hq := i_f c120 hq
                  refine lv_iconst (v := (0 : Int32)) hx hb dL_act_630 (by decide) ?_
                  refine W.widen (k := 20) (n := 8032) (by decide) (by decide) ?_
                  obtain rfl := Option.some.inj hq
                  exact ge_Wi hx hb hlocks hr (by decide +kernel) hI rfl rfl dL_act_631
                · replace hq := i_t c120 hq
                  refine lv_aload_n hx hb dL_act_600 rfl (lv_at hl 0 rfl) ?_
                  refine lv_iload hx hb dL_act_601 (lv_at hl 1 rfl) ?_
                  refine lv_iload hx hb dL_act_603 (lv_at hl 2 rfl) ?_
                  obtain ⟨v121, ev121, hq⟩ := b_s hq
                  refine gx0_i (g_runVX (As := [.int x6, .int x8]) (rest := []) (ci := 9) hC (c_X7_pointX l hl0 V g D cT f n x0 x6 x8 (.inr v121) (h_nt_eq ev121)) k_X7_pointX m_617 rfl rfl ⟨Nat.le_of_ble_eq_true rfl, Nat.le_of_ble_eq_true rfl⟩ hI rfl rfl (h_me_eq (h_nt_eq ev121)).1 rfl hl.1 rfl (Nat.le_of_ble_eq_true rfl) dL_act_605 ⟨by decide, by decide⟩) hI (fun H locs hI => ?_)
                  refine lv_iload hx hb dL_act_608 (lv_at hl 3 rfl) ?_
                  refine lv_icmp_ne (tgt := 630) hx hb dL_act_610 (by decide) (fun c122 => ?_) (fun c122 => ?_)
                  · replace hq := i_f c122 hq
                    refine lv_iconst (v := (0 : Int32)) hx hb dL_act_630 (by decide) ?_
                    refine W.widen (k := 20) (n := 8032) (by decide) (by decide) ?_
                    obtain rfl := Option.some.inj hq
                    exact ge_Wi hx hb hlocks hr (by decide +kernel) hI rfl rfl dL_act_631
                  · replace hq := i_t c122 hq
                    refine lv_aload_n hx hb dL_act_613 rfl (lv_at hl 0 rfl) ?_
                    refine lv_iload hx hb dL_act_614 (lv_at hl 1 rfl) ?_
                    refine lv_iload hx hb dL_act_616 (lv_at hl 2 rfl) ?_
                    obtain ⟨v123, ev123, hq⟩ := b_s hq
                    refine gx0_i (g_runVX (As := [.int x6, .int x8]) (rest := []) (ci := 9) hC (c_X7_pointY l hl0 V g D cT f n x0 x6 x8 (.inr v123) (h_nt_eq ev123)) k_X7_pointY m_626 rfl rfl ⟨Nat.le_of_ble_eq_true rfl, Nat.le_of_ble_eq_true rfl⟩ hI rfl rfl (h_me_eq (h_nt_eq ev123)).1 rfl hl.1 rfl (Nat.le_of_ble_eq_true rfl) dL_act_618 ⟨by decide, by decide⟩) hI (fun H locs hI => ?_)
                    refine lv_iload hx hb dL_act_621 (lv_at hl 4 rfl) ?_
                    refine lv_icmp_ne (tgt := 630) hx hb dL_act_623 (by decide) (fun c124 => ?_) (fun c124 => ?_)
                    · replace hq := i_f c124 hq
                      refine lv_iconst (v := (0 : Int32)) hx hb dL_act_630 (by decide) ?_
                      refine W.widen (k := 20) (n := 8032) (by decide) (by decide) ?_
                      obtain rfl := Option.some.inj hq
                      exact ge_Wi hx hb hlocks hr (by decide +kernel) hI rfl rfl dL_act_631
                    · replace hq := i_t c124 hq
                      refine lv_iconst (v := (1 : Int32)) hx hb dL_act_626 (by decide) ?_
                      refine lv_goto (tgt := 631) hx hb dL_act_627 (by decide) ?_
                      refine W.widen (k := 20) (n := 8032) (by decide) (by decide) ?_
                      obtain rfl := Option.some.inj hq
                      exact ge_Wi hx hb hlocks hr (by decide +kernel) hI rfl rfl dL_act_631
              refine lv_if_eq (tgt := 592) hx hb dL_act_579 (by decide) (fun c125 => ?_) (fun c125 => ?_)
              · replace hq := i_t c125 hq
                refine lv_iload hx hb dL_act_592 (lv_at hl 1 rfl) ?_
                refine lv_iload hx hb dL_act_594 (lv_at hl 0 rfl) ?_
                refine lv_iadd hx hb dL_act_596 ?_
                exact hj597 x0 x6 x8 x9 x10 (v115 + v117) v118.1 v118.2 n H locs ls hI (lv_sub hl [2, 5, 7, 8, 9] rfl) hq
              · replace hq := i_f c125 hq
                refine lv_iload hx hb dL_act_582 (lv_at hl 1 rfl) ?_
                refine lv_iload hx hb dL_act_584 (lv_at hl 0 rfl) ?_
                obtain ⟨v126, ev126, hq⟩ := b_s hq
                refine g_max hx hb (hml.trans hl.1.symm) hown (hB _ m_1201) (hB _ m_672) (hB _ m_15) (hB _ m_673) (Nat.le_of_ble_eq_true rfl) (Nat.le_of_ble_eq_true rfl) (Nat.le_of_ble_eq_true rfl) (Nat.le_of_ble_eq_true rfl) ev126 dL_act_586 ?_
                refine lv_goto (tgt := 597) hx hb dL_act_589 (by decide) ?_
                exact hj597 x0 x6 x8 x9 x10 v126 v118.1 v118.2 n H locs ls hI (lv_sub hl [2, 5, 7, 8, 9] rfl) hq
          · replace hq := i_f c45 hq
            refine lv_iload hx hb dL_act_412 (lv_at hl 4 rfl) ?_
            refine lv_iconst (v := (1 : Int32)) hx hb dL_act_414 (by decide) ?_
            refine lv_iadd hx hb dL_act_415 ?_
            refine lv_iconst (v := (2 : Int32)) hx hb dL_act_416 (by decide) ?_
            refine lv_idiv hx hb dL_act_417 (by decide) ?_
            refine lv_istore (lv' := [(11, .int ((x7 + (1 : Int32)) / (2 : Int32))), (0, .ref x0), (3, .int x3), (5, .int x5), (6, .int x6), (7, .int x7), (8, .int x8), (9, .int x9), (10, .int x10)]) hx hb dL_act_418 hl (by decide) rfl (fun ls hl => ?_)
            refine lv_aload_n hx hb dL_act_420 rfl (lv_at hl 1 rfl) ?_
            refine lv_iload hx hb dL_act_421 (lv_at hl 4 rfl) ?_
            refine lv_iconst (v := (1 : Int32)) hx hb dL_act_423 (by decide) ?_
            obtain ⟨v127, ev127, hq⟩ := b_s hq
            refine gx0_i (g_runVX (As := [.int x6, .int (1 : Int32)]) (rest := []) (ci := 9) hC (c_X7_lengthAt l hl0 V g D cT f n x0 x6 (1 : Int32) (.inr v127) (h_nt_eq ev127)) k_X7_lengthAt m_691 rfl rfl ⟨Nat.le_of_ble_eq_true rfl, Nat.le_of_ble_eq_true rfl⟩ hI rfl rfl (h_me_eq (h_nt_eq ev127)).1 rfl hl.1 rfl (Nat.le_of_ble_eq_true rfl) dL_act_424 ⟨by decide, by decide⟩) hI (fun H locs hI => ?_)
            refine lv_istore (lv' := [(12, .int v127), (11, .int ((x7 + (1 : Int32)) / (2 : Int32))), (0, .ref x0), (3, .int x3), (5, .int x5), (6, .int x6), (7, .int x7), (8, .int x8), (9, .int x9), (10, .int x10)]) hx hb dL_act_427 hl (by decide) rfl (fun ls hl => ?_)
            refine lv_iload hx hb dL_act_429 (lv_at hl 1 rfl) ?_
            refine lv_aload_n hx hb dL_act_431 rfl (lv_at hl 2 rfl) ?_
            refine lv_iload hx hb dL_act_432 (lv_at hl 5 rfl) ?_
            obtain ⟨v128, ev128, hq⟩ := b_s hq
            refine gx0_i (g_runVX (As := [.int x6]) (rest := [.int ((x7 + (1 : Int32)) / (2 : Int32))]) (ci := 9) hC (c_X7_isIsland l hl0 V g D cT f n x0 x6 (.inr v128) (h_nt_eq ev128)) k_X7_isIsland m_613 rfl rfl ⟨Nat.le_of_ble_eq_true rfl, Nat.le_of_ble_eq_true rfl⟩ hI rfl rfl (h_me_eq (h_nt_eq ev128)).1 rfl hl.1 rfl (Nat.le_of_ble_eq_true rfl) dL_act_434 ⟨by decide, by decide⟩) hI (fun H locs hI => ?_)
            have hj445 : ∀ (x0 : Nat) (x6 : Int32) (x7 : Int32) (x11 : Int32) (x12 : Int32) (t0 : Int32) (t1 : Int32) (f : GH) (n : Nat) (H : Heap) (locs : List Loc) (ls : Array Slot), g_at (g_A V) V g D cT f n s H locs → lv_has ls 17 [(0, .ref x0), (6, .int x6), (7, .int x7), (11, .int x11), (12, .int x12)] → p_L_act_j445 V g x0 x6 x7 x11 x12 t0 t1 f n = some o → W p l e rm_L_act s m args below meth c H locs 0 0 (MQ below (g_Wi V D cT o.1 o.2.1 o.2.2) args s 20 8032 (g_A V)) (F0 m 445 ls [.int t0, .int t1]) := by
              intro x0 x6 x7 x11 x12 t0 t1 f n H locs ls hI hl hq
              unfold p_L_act_j445 at hq
              refine lv_icmp_ge (tgt := 465) hx hb dL_act_445 (by decide) (fun c129 => ?_) (fun c129 => ?_)
              · replace hq := i_t c129 hq
                refine lv_aload_n hx hb dL_act_465 rfl (lv_at hl 0 rfl) ?_
                refine lv_iload hx hb dL_act_466 (lv_at hl 1 rfl) ?_
                obtain ⟨v130, ev130, hq⟩ := b_s hq
                refine gy_i (g_runVX (As := [.int x6]) (rest := []) (ci := 9) hC (c_X7_unfold l hl0 V g D cT f n x0 x6 (.inr v130) (h_nt_eq ev130)) k_X7_unfold m_984 rfl rfl ⟨Nat.le_of_ble_eq_true rfl, Nat.le_of_ble_eq_true rfl⟩ hI rfl rfl (h_me_eq (h_nt_eq ev130)).1 rfl hl.1 rfl (Nat.le_of_ble_eq_true rfl) dL_act_468 ⟨by decide, by decide⟩) hI (fun H locs hI => ?_)
                refine lv_iload hx hb dL_act_471 (lv_at hl 3 rfl) ?_
                refine lv_icmp_ne (tgt := 523) hx hb dL_act_473 (by decide) (fun c131 => ?_) (fun c131 => ?_)
                · replace hq := i_f c131 hq
                  refine lv_iconst (v := (0 : Int32)) hx hb dL_act_523 (by decide) ?_
                  refine W.widen (k := 20) (n := 8032) (by decide) (by decide) ?_
                  obtain rfl := Option.some.inj hq
                  exact ge_Wi hx hb hlocks hr (by decide +kernel) hI rfl rfl dL_act_524
                · replace hq := i_t c131 hq
                  refine lv_iload hx hb dL_act_476 (lv_at hl 2 rfl) ?_
                  refine lv_iconst (v := (2 : Int32)) hx hb dL_act_478 (by decide) ?_
                  refine lv_irem hx hb dL_act_479 (by decide) ?_
                  have hj507 : ∀ (x0 : Nat) (x6 : Int32) (x12 : Int32) (f : GH) (n : Nat) (H : Heap) (locs : List Loc) (ls : Array Slot), g_at (g_A V) V g D cT f n s H locs → lv_has ls 17 [(0, .ref x0), (6, .int x6), (12, .int x12)] → p_L_act_j507 V g x0 x6 x12 f n = some o → W p l e rm_L_act s m args below meth c H locs 1 6 (MQ below (g_Wi V D cT o.1 o.2.1 o.2.2) args s 20 8032 (g_A V)) (F0 m 507 ls []) := by
                    intro x0 x6 x12 f n H locs ls hI hl hq
                    unfold p_L_act_j507 at hq
                    refine lv_aload_n hx hb dL_act_507 rfl (lv_at hl 0 rfl) ?_
                    refine lv_iload hx hb dL_act_508 (lv_at hl 1 rfl) ?_
                    refine lv_iconst (v := (0 : Int32)) hx hb dL_act_510 (by decide) ?_
                    obtain ⟨v132, ev132, hq⟩ := b_s hq
                    refine gx0_i (g_runVX (As := [.int x6, .int (0 : Int32)]) (rest := []) (ci := 9) hC (c_X7_lengthAt l hl0 V g D cT f n x0 x6 (0 : Int32) (.inr v132) (h_nt_eq ev132)) k_X7_lengthAt m_691 rfl rfl ⟨Nat.le_of_ble_eq_true rfl, Nat.le_of_ble_eq_true rfl⟩ hI rfl rfl (h_me_eq (h_nt_eq ev132)).1 rfl hl.1 rfl (Nat.le_of_ble_eq_true rfl) dL_act_511 ⟨by decide, by decide⟩) hI (fun H locs hI => ?_)
                    refine lv_iload hx hb dL_act_514 (lv_at hl 2 rfl) ?_
                    refine lv_icmp_ne (tgt := 523) hx hb dL_act_516 (by decide) (fun c133 => ?_) (fun c133 => ?_)
                    · replace hq := i_f c133 hq
                      refine lv_iconst (v := (0 : Int32)) hx hb dL_act_523 (by decide) ?_
                      refine W.widen (k := 20) (n := 8032) (by decide) (by decide) ?_
                      obtain rfl := Option.some.inj hq
                      exact ge_Wi hx hb hlocks hr (by decide +kernel) hI rfl rfl dL_act_524
                    · replace hq := i_t c133 hq
                      refine lv_iconst (v := (1 : Int32)) hx hb dL_act_519 (by decide) ?_
                      refine lv_goto (tgt := 524) hx hb dL_act_520 (by decide) ?_
                      refine W.widen (k := 20) (n := 8032) (by decide) (by decide) ?_
                      obtain rfl := Option.some.inj hq
                      exact ge_Wi hx hb hlocks hr (by decide +kernel) hI rfl rfl dL_act_524
                  refine lv_if_ne (tgt := 507) hx hb dL_act_480 (by decide) (fun c134 => ?_) (fun c134 => ?_)
                  · replace hq := i_f c134 hq
                    exact hj507 x0 x6 x12 v130.2 n H locs ls hI (lv_sub hl [0, 1, 4] rfl) hq
                  · replace hq := i_t c134 hq
                    refine lv_aload_n hx hb dL_act_483 rfl (lv_at hl 0 rfl) ?_
                    refine lv_iload hx hb dL_act_484 (lv_at hl 1 rfl) ?_
                    obtain ⟨v135, ev135, hq⟩ := b_s hq
                    refine gx0_i (g_runVX (As := [.int x6]) (rest := []) (ci := 9) hC (c_X7_isIsland l hl0 V g D cT v130.2 n x0 x6 (.inr v135) (h_nt_eq ev135)) k_X7_isIsland m_613 rfl rfl ⟨Nat.le_of_ble_eq_true rfl, Nat.le_of_ble_eq_true rfl⟩ hI rfl rfl (h_me_eq (h_nt_eq ev135)).1 rfl hl.1 rfl (Nat.le_of_ble_eq_true rfl) dL_act_486 ⟨by decide, by decide⟩) hI (fun H locs hI => ?_)
                    refine lv_if_ne (tgt := 507) hx hb dL_act_489 (by decide) (fun c136 => ?_) (fun c136 => ?_)
                    · replace hq := i_f c136 hq
                      exact hj507 x0 x6 x12 v130.2 n H locs ls hI (lv_sub hl [0, 1, 4] rfl) hq
                    · replace hq := i_t c136 hq
                      refine lv_aload_n hx hb dL_act_492 rfl (lv_at hl 0 rfl) ?_
                      refine lv_iload hx hb dL_act_493 (lv_at hl 1 rfl) ?_
                      refine lv_iconst (v := (0 : Int32)) hx hb dL_act_495 (by decide) ?_
                      obtain ⟨v137, ev137, hq⟩ := b_s hq
                      refine gx0_i (g_runVX (As := [.int x6, .int (0 : Int32)]) (rest := []) (ci := 9) hC (c_X7_lengthAt l hl0 V g D cT v130.2 n x0 x6 (0 : Int32) (.inr v137) (h_nt_eq ev137)) k_X7_lengthAt m_691 rfl rfl ⟨Nat.le_of_ble_eq_true rfl, Nat.le_of_ble_eq_true rfl⟩ hI rfl rfl (h_me_eq (h_nt_eq ev137)).1 rfl hl.1 rfl (Nat.le_of_ble_eq_true rfl) dL_act_496 ⟨by decide, by decide⟩) hI (fun H locs hI => ?_)
                      refine lv_iload hx hb dL_act_499 (lv_at hl 4 rfl) ?_
                      refine lv_icmp_gt (tgt := 523) hx hb dL_act_501 (by decide) (fun c138 => ?_) (fun c138 => ?_)
                      · replace hq := i_t c138 hq
                        refine lv_iconst (v := (0 : Int32)) hx hb dL_act_523 (by decide) ?_
                        refine W.widen (k := 20) (n := 8032) (by decide) (by decide) ?_
                        obtain rfl := Option.some.inj hq
                        exact ge_Wi hx hb hlocks hr (by decide +kernel) hI rfl rfl dL_act_524
                      · replace hq := i_f c138 hq
                        refine lv_goto (tgt := 519) hx hb dL_act_504 (by decide) ?_
                        refine lv_iconst (v := (1 : Int32)) hx hb dL_act_519 (by decide) ?_
                        refine lv_goto (tgt := 524) hx hb dL_act_520 (by decide) ?_
                        refine W.widen (k := 20) (n := 8032) (by decide) (by decide) ?_
                        obtain rfl := Option.some.inj hq
                        exact ge_Wi hx hb hlocks hr (by decide +kernel) hI rfl rfl dL_act_524
              · replace hq := i_f c129 hq
                refine lv_aload_n hx hb dL_act_448 rfl (lv_at hl 0 rfl) ?_
                refine lv_iload hx hb dL_act_449 (lv_at hl 1 rfl) ?_
                refine lv_iconst (v := (1 : Int32)) hx hb dL_act_451 (by decide) ?_
                obtain ⟨v139, ev139, hq⟩ := b_s hq
                refine gx0_i (g_runVX (As := [.int x6, .int (1 : Int32)]) (rest := []) (ci := 9) hC (c_X7_stickCount l hl0 V g D cT f n x0 x6 (1 : Int32) (.inr v139) (h_nt_eq ev139)) k_X7_stickCount m_636 rfl rfl ⟨Nat.le_of_ble_eq_true rfl, Nat.le_of_ble_eq_true rfl⟩ hI rfl rfl (h_me_eq (h_nt_eq ev139)).1 rfl hl.1 rfl (Nat.le_of_ble_eq_true rfl) dL_act_452 ⟨by decide, by decide⟩) hI (fun H locs hI => ?_)
                refine lv_iconst (v := (3 : Int32)) hx hb dL_act_455 (by decide) ?_
                refine lv_icmp_gt (tgt := 463) hx hb dL_act_456 (by decide) (fun c140 => ?_) (fun c140 => ?_)
                · replace hq := i_t c140 hq
                  refine lv_iconst (v := (0 : Int32)) hx hb dL_act_463 (by decide) ?_
                  refine W.widen (k := 20) (n := 8032) (by decide) (by decide) ?_
                  obtain rfl := Option.some.inj hq
                  exact ge_Wi hx hb hlocks hr (by decide +kernel) hI rfl rfl dL_act_464
                · replace hq := i_f c140 hq
                  refine lv_iconst (v := (1 : Int32)) hx hb dL_act_459 (by decide) ?_
                  refine lv_goto (tgt := 464) hx hb dL_act_460 (by decide) ?_
                  refine W.widen (k := 20) (n := 8032) (by decide) (by decide) ?_
                  obtain rfl := Option.some.inj hq
                  exact ge_Wi hx hb hlocks hr (by decide +kernel) hI rfl rfl dL_act_464
            refine lv_if_eq (tgt := 444) hx hb dL_act_437 (by decide) (fun c141 => ?_) (fun c141 => ?_)
            · replace hq := i_t c141 hq
              refine lv_iconst (v := (2 : Int32)) hx hb dL_act_444 (by decide) ?_
              exact hj445 x0 x6 x7 ((x7 + (1 : Int32)) / (2 : Int32)) v127 (2 : Int32) ((x7 + (1 : Int32)) / (2 : Int32)) f n H locs ls hI (lv_sub hl [2, 5, 6, 1, 0] rfl) hq
            · replace hq := i_f c141 hq
              refine lv_iconst (v := (3 : Int32)) hx hb dL_act_440 (by decide) ?_
              refine lv_goto (tgt := 445) hx hb dL_act_441 (by decide) ?_
              exact hj445 x0 x6 x7 ((x7 + (1 : Int32)) / (2 : Int32)) v127 (3 : Int32) ((x7 + (1 : Int32)) / (2 : Int32)) f n H locs ls hI (lv_sub hl [2, 5, 6, 1, 0] rfl) hq
        refine lv_icmp_ge (tgt := 406) hx hb dL_act_315 (by decide) (fun c142 => ?_) (fun c142 => ?_)
        · replace hq := i_t c142 hq
          exact hj406 x0 x3 x5 x6 v41 v42 (v43 - (80 : Int32)) (v44 - (80 : Int32)) f n H locs ls hI (lv_sub hl [4, 5, 7, 8, 3, 2, 1, 0] rfl) hq
        · replace hq := i_f c142 hq
          refine lv_iload hx hb dL_act_318 (lv_at hl 3 rfl) ?_
          refine lv_bipush (v := (20 : Int32)) hx hb dL_act_320 (by decide) ?_
          refine lv_icmp_gt (tgt := 406) hx hb dL_act_322 (by decide) (fun c143 => ?_) (fun c143 => ?_)
          · replace hq := i_t c143 hq
            exact hj406 x0 x3 x5 x6 v41 v42 (v43 - (80 : Int32)) (v44 - (80 : Int32)) f n H locs ls hI (lv_sub hl [4, 5, 7, 8, 3, 2, 1, 0] rfl) hq
          · replace hq := i_f c143 hq
            refine lv_iload hx hb dL_act_325 (lv_at hl 6 rfl) ?_
            refine lv_bipush (v := (41 : Int32)) hx hb dL_act_327 (by decide) ?_
            obtain ⟨v144, ev144, hq⟩ := b_s hq
            refine gr0_i (g_runS (As := [.int x4, .int (41 : Int32)]) (rest := []) hC (c_L_most l hl0 V g D cT f n x4 (41 : Int32) v144 ev144) k_L_most m_544 rfl rfl ⟨Nat.le_of_ble_eq_true rfl, Nat.le_of_ble_eq_true rfl⟩ hI rfl hl.1 rfl (Nat.le_of_ble_eq_true rfl) dL_act_329 ⟨by decide, by decide⟩) hI (fun H locs hI => ?_)
            refine lv_bipush (v := (20 : Int32)) hx hb dL_act_332 (by decide) ?_
            refine lv_isub hx hb dL_act_334 ?_
            refine lv_istore (lv' := [(11, .int (v144 - (20 : Int32))), (10, .int (v44 - (80 : Int32))), (9, .int (v43 - (80 : Int32))), (8, .int v42), (7, .int v41), (0, .ref x0), (3, .int x3), (4, .int x4), (5, .int x5), (6, .int x6)]) hx hb dL_act_335 hl (by decide) rfl (fun ls hl => ?_)
            refine lv_aload_n hx hb dL_act_337 rfl (lv_at hl 5 rfl) ?_
            refine lv_iload hx hb dL_act_338 (lv_at hl 9 rfl) ?_
            refine lv_iload hx hb dL_act_340 (lv_at hl 0 rfl) ?_
            refine lv_iconst (v := (0 : Int32)) hx hb dL_act_342 (by decide) ?_
            obtain ⟨v145, ev145, hq⟩ := b_s hq
            refine gy_i (g_runVX (As := [.int x6, .int (v144 - (20 : Int32)), .int (0 : Int32)]) (rest := []) (ci := 9) hC (c_X7_lengthAfterFold l hl0 V g D cT f n x0 x6 (v144 - (20 : Int32)) (0 : Int32) (.inr v145) (h_nt_eq ev145)) k_X7_lengthAfterFold m_878 rfl rfl ⟨Nat.le_of_ble_eq_true rfl, Nat.le_of_ble_eq_true rfl⟩ hI rfl rfl (h_me_eq (h_nt_eq ev145)).1 rfl hl.1 rfl (Nat.le_of_ble_eq_true rfl) dL_act_343 ⟨by decide, by decide⟩) hI (fun H locs hI => ?_)
            refine lv_istore (lv' := [(12, .int v145.1), (11, .int (v144 - (20 : Int32))), (10, .int (v44 - (80 : Int32))), (9, .int (v43 - (80 : Int32))), (8, .int v42), (7, .int v41), (0, .ref x0), (3, .int x3), (4, .int x4), (5, .int x5), (6, .int x6)]) hx hb dL_act_346 hl (by decide) rfl (fun ls hl => ?_)
            refine lv_aload_n hx hb dL_act_348 rfl (lv_at hl 6 rfl) ?_
            refine lv_iload hx hb dL_act_349 (lv_at hl 10 rfl) ?_
            refine lv_iload hx hb dL_act_351 (lv_at hl 1 rfl) ?_
            obtain ⟨v146, ev146, hq⟩ := b_s hq
            refine gx0_i (g_runVX (As := [.int x6, .int (v144 - (20 : Int32))]) (rest := []) (ci := 9) hC (c_X7_foldObstacle l hl0 V g D cT v145.2 n x0 x6 (v144 - (20 : Int32)) (.inr v146) (h_nt_eq ev146)) k_X7_foldObstacle m_851 rfl rfl ⟨Nat.le_of_ble_eq_true rfl, Nat.le_of_ble_eq_true rfl⟩ hI rfl rfl (h_me_eq (h_nt_eq ev146)).1 rfl hl.1 rfl (Nat.le_of_ble_eq_true rfl) dL_act_353 ⟨by decide, by decide⟩) hI (fun H locs hI => ?_)
            refine lv_if_le (tgt := 371) hx hb dL_act_356 (by decide) (fun c147 => ?_) (fun c147 => ?_)
            · replace hq := i_t c147 hq
              refine lv_aload_n hx hb dL_act_371 rfl (lv_at hl 6 rfl) ?_
              refine lv_iload hx hb dL_act_372 (lv_at hl 10 rfl) ?_
              refine lv_iload hx hb dL_act_374 (lv_at hl 1 rfl) ?_
              obtain ⟨v148, ev148, hq⟩ := b_s hq
              refine gy_i (g_runVX (As := [.int x6, .int (v144 - (20 : Int32))]) (rest := []) (ci := 9) hC (c_X7_fold l hl0 V g D cT v145.2 n x0 x6 (v144 - (20 : Int32)) (.inr v148) (h_nt_eq ev148)) k_X7_fold m_887 rfl rfl ⟨Nat.le_of_ble_eq_true rfl, Nat.le_of_ble_eq_true rfl⟩ hI rfl rfl (h_me_eq (h_nt_eq ev148)).1 rfl hl.1 rfl (Nat.le_of_ble_eq_true rfl) dL_act_376 ⟨by decide, by decide⟩) hI (fun H locs hI => ?_)
              refine lv_aload_n hx hb dL_act_379 rfl (lv_at hl 6 rfl) ?_
              refine lv_iload hx hb dL_act_380 (lv_at hl 10 rfl) ?_
              obtain ⟨v149, ev149, hq⟩ := b_s hq
              refine gx0_i (g_runVX (As := [.int x6]) (rest := [.int v148.1]) (ci := 9) hC (c_X7_pointCount l hl0 V g D cT v148.2 n x0 x6 (.inr v149) (h_nt_eq ev149)) k_X7_pointCount m_573 rfl rfl ⟨Nat.le_of_ble_eq_true rfl, Nat.le_of_ble_eq_true rfl⟩ hI rfl rfl (h_me_eq (h_nt_eq ev149)).1 rfl hl.1 rfl (Nat.le_of_ble_eq_true rfl) dL_act_382 ⟨by decide, by decide⟩) hI (fun H locs hI => ?_)
              refine lv_icmp_ne (tgt := 404) hx hb dL_act_385 (by decide) (fun c150 => ?_) (fun c150 => ?_)
              · replace hq := i_f c150 hq
                refine lv_iconst (v := (0 : Int32)) hx hb dL_act_404 (by decide) ?_
                refine W.widen (k := 20) (n := 8032) (by decide) (by decide) ?_
                obtain rfl := Option.some.inj hq
                exact ge_Wi hx hb hlocks hr (by decide +kernel) hI rfl rfl dL_act_405
              · replace hq := i_t c150 hq
                refine lv_aload_n hx hb dL_act_388 rfl (lv_at hl 6 rfl) ?_
                refine lv_iload hx hb dL_act_389 (lv_at hl 10 rfl) ?_
                refine lv_iconst (v := (0 : Int32)) hx hb dL_act_391 (by decide) ?_
                obtain ⟨v151, ev151, hq⟩ := b_s hq
                refine gx0_i (g_runVX (As := [.int x6, .int (0 : Int32)]) (rest := []) (ci := 9) hC (c_X7_lengthAt l hl0 V g D cT v148.2 n x0 x6 (0 : Int32) (.inr v151) (h_nt_eq ev151)) k_X7_lengthAt m_691 rfl rfl ⟨Nat.le_of_ble_eq_true rfl, Nat.le_of_ble_eq_true rfl⟩ hI rfl rfl (h_me_eq (h_nt_eq ev151)).1 rfl hl.1 rfl (Nat.le_of_ble_eq_true rfl) dL_act_392 ⟨by decide, by decide⟩) hI (fun H locs hI => ?_)
                refine lv_iload hx hb dL_act_395 (lv_at hl 0 rfl) ?_
                refine lv_icmp_ne (tgt := 404) hx hb dL_act_397 (by decide) (fun c152 => ?_) (fun c152 => ?_)
                · replace hq := i_f c152 hq
                  refine lv_iconst (v := (0 : Int32)) hx hb dL_act_404 (by decide) ?_
                  refine W.widen (k := 20) (n := 8032) (by decide) (by decide) ?_
                  obtain rfl := Option.some.inj hq
                  exact ge_Wi hx hb hlocks hr (by decide +kernel) hI rfl rfl dL_act_405
                · replace hq := i_t c152 hq
                  refine lv_iconst (v := (1 : Int32)) hx hb dL_act_400 (by decide) ?_
                  refine lv_goto (tgt := 405) hx hb dL_act_401 (by decide) ?_
                  refine W.widen (k := 20) (n := 8032) (by decide) (by decide) ?_
                  obtain rfl := Option.some.inj hq
                  exact ge_Wi hx hb hlocks hr (by decide +kernel) hI rfl rfl dL_act_405
            · replace hq := i_f c147 hq
              refine lv_iload hx hb dL_act_359 (lv_at hl 0 rfl) ?_
              refine lv_iconst (v := (-1 : Int32)) hx hb dL_act_361 (by decide) ?_
              refine lv_icmp_ne (tgt := 369) hx hb dL_act_362 (by decide) (fun c153 => ?_) (fun c153 => ?_)
              · replace hq := i_f c153 hq
                refine lv_iconst (v := (0 : Int32)) hx hb dL_act_369 (by decide) ?_
                refine W.widen (k := 20) (n := 8032) (by decide) (by decide) ?_
                obtain rfl := Option.some.inj hq
                exact ge_Wi hx hb hlocks hr (by decide +kernel) hI rfl rfl dL_act_370
              · replace hq := i_t c153 hq
                refine lv_iconst (v := (1 : Int32)) hx hb dL_act_365 (by decide) ?_
                refine lv_goto (tgt := 370) hx hb dL_act_366 (by decide) ?_
                refine W.widen (k := 20) (n := 8032) (by decide) (by decide) ?_
                obtain rfl := Option.some.inj hq
                exact ge_Wi hx hb hlocks hr (by decide +kernel) hI rfl rfl dL_act_370
      refine lv_icmp_ge (tgt := 263) hx hb dL_act_43 (by decide) (fun c154 => ?_) (fun c154 => ?_)
      · replace hq := i_t c154 hq
        exact hj263 x0 x3 x4 x5 t0 f n H locs ls hI (lv_sub hl [1, 3, 4, 5, 0] rfl) hq
      · replace hq := i_f c154 hq
        refine lv_iload hx hb dL_act_46 (lv_at hl 5 rfl) ?_
        refine lv_bipush (v := (6 : Int32)) hx hb dL_act_48 (by decide) ?_
        refine lv_icmp_ge (tgt := 263) hx hb dL_act_50 (by decide) (fun c155 => ?_) (fun c155 => ?_)
        · replace hq := i_t c155 hq
          exact hj263 x0 x3 x4 x5 t0 f n H locs ls hI (lv_sub hl [1, 3, 4, 5, 0] rfl) hq
        · replace hq := i_f c155 hq
          exact hj53 x0 x1 x4 x5 f n H locs ls hI (lv_sub hl [1, 2, 4, 5] rfl) hq
  refine lv_if_ne (tgt := 27) hx hb dL_act_20 (by decide) (fun c156 => ?_) (fun c156 => ?_)
  · replace hq := i_f c156 hq
    refine lv_iload hx hb dL_act_27 (lv_at hl 1 rfl) ?_
    refine lv_iload hx hb dL_act_29 (lv_at hl 0 rfl) ?_
    obtain ⟨v157, ev157, hq⟩ := b_s hq
    refine gr0_i (g_runS (As := [.int (a2 >>> ((4 : Int32) &&& 31)), .int v2]) (rest := []) hC (c_L_most l hl0 V g D cT f n (a2 >>> ((4 : Int32) &&& 31)) v2 v157 ev157) k_L_most m_544 rfl rfl ⟨Nat.le_of_ble_eq_true rfl, Nat.le_of_ble_eq_true rfl⟩ hI rfl hl.1 rfl (Nat.le_of_ble_eq_true rfl) dL_act_31 ⟨by decide, by decide⟩) hI (fun H locs hI => ?_)
    exact hj34 a0 a1 v1 (a2 >>> ((4 : Int32) &&& 31)) v2 v157 f n H locs ls hI (lv_sub hl [3, 4, 2, 1, 0] rfl) hq
  · replace hq := i_t c156 hq
    refine lv_iconst (v := (0 : Int32)) hx hb dL_act_23 (by decide) ?_
    refine lv_goto (tgt := 34) hx hb dL_act_24 (by decide) ?_
    exact hj34 a0 a1 v1 (a2 >>> ((4 : Int32) &&& 31)) v2 (0 : Int32) f n H locs ls hI (lv_sub hl [3, 4, 2, 1, 0] rfl) hq


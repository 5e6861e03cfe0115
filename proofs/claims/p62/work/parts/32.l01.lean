abbrev rm_L_areMaps : Room := { frames := 11, cells := 4, slots := 24, locals := 291 }
theorem k_L_areMaps : g_CS yL_areMaps cL_areMaps 12 (some .boolean) 1 := ⟨⟨m_733, m_0, by decide +kernel⟩, m_732⟩
set_option maxHeartbeats 4000000 in
set_option maxRecDepth 100000 in
theorem c_L_areMaps (l : Launch) (hl0 : l.stackTraces = false) (V : Nat → Nat) (g : GH) (D : va_G) (cT : Nat → ClassId) (f : GH) (n : Nat) (a0 : Nat) (o : Int32) (hq : p_L_areMaps V g f a0 = some o) : Met l yL_areMaps (Cond.code yL_areMaps cL_areMaps 12 (some .boolean) :: g_B) rm_L_areMaps (va_Pc [.ref a0] (g_I V g D cT f n)) (g_Ri o n) 4 24 g_no := by
  refine g_begin (own := RL) [.ref a0] [(0, .ref a0)] g_no (fun _ h => h.elim) (by decide) rfl (Nat.le_of_ble_eq_true rfl) rfl ?_
  intro p e s m args below meth c hx hb hr hlocks hin hC hI ls hl
  obtain ⟨hx, hb, hml, hown, hB⟩ := id hC
  obtain ⟨H, hH⟩ : ∃ H, H = s.heap := ⟨_, rfl⟩
  obtain ⟨locs, hlocs⟩ : ∃ L : List Loc, L = [] := ⟨_, rfl⟩
  rw [← hH, ← hlocs] at hI ⊢
  clear hH hlocs
  unfold p_L_areMaps at hq
  refine lv_aload_n hx hb dL_areMaps_0 rfl (lv_at hl 0 rfl) ?_
  obtain ⟨v1, ev1, hq⟩ := b_s hq
  refine gr_i (g_runV (As := []) (rest := []) (ci := 9) hC (c_X7_coastCount l V g D cT f n a0 v1 ev1) k_X7_coastCount m_503 rfl rfl ⟨Nat.le_of_ble_eq_true rfl, Nat.le_of_ble_eq_true rfl⟩ hI rfl rfl (h_me_eq ev1).1 rfl hl.1 rfl (Nat.le_of_ble_eq_true rfl) dL_areMaps_1 ⟨by decide, by decide⟩) hI (fun H locs hI => ?_)
  refine lv_istore_n (lv' := [(1, .int v1), (0, .ref a0)]) hx hb dL_areMaps_4 rfl hl (by decide) rfl (fun ls hl => ?_)
  refine lv_iconst (v := (0 : Int32)) hx hb dL_areMaps_5 (by decide) ?_
  refine lv_istore_n (lv' := [(2, .int (0 : Int32)), (1, .int v1), (0, .ref a0)]) hx hb dL_areMaps_6 rfl hl (by decide) rfl (fun ls hl => ?_)
  refine lv_iconst (v := (0 : Int32)) hx hb dL_areMaps_7 (by decide) ?_
  refine lv_istore_n (lv' := [(3, .int (0 : Int32)), (2, .int (0 : Int32)), (1, .int v1), (0, .ref a0)]) hx hb dL_areMaps_8 rfl hl (by decide) rfl (fun ls hl => ?_)
  refine lv_iconst (v := (0 : Int32)) hx hb dL_areMaps_9 (by decide) ?_
  refine lv_istore (lv' := [(4, .int (0 : Int32)), (3, .int (0 : Int32)), (2, .int (0 : Int32)), (1, .int v1), (0, .ref a0)]) hx hb dL_areMaps_10 hl (by decide) rfl (fun ls hl => ?_)
  have hl12 : ∀ (K165 : Option Int32) (hK165 : ∀  (H : Heap) (locs : List Loc) (ls : Array Slot), g_at g_no V g D cT f n s H locs → lv_has ls 12 [] → K165  = some o → W p l e rm_L_areMaps s m args below meth c H locs 0 0 (MQ below (g_Ri o n) args s 4 24 g_no) (F0 m 165 ls [])) (K254 : Option Int32) (hK254 : ∀  (H : Heap) (locs : List Loc) (ls : Array Slot), g_at g_no V g D cT f n s H locs → lv_has ls 12 [] → K254  = some o → W p l e rm_L_areMaps s m args below meth c H locs 0 0 (MQ below (g_Ri o n) args s 4 24 g_no) (F0 m 254 ls [])) (K415 : Option Int32) (hK415 : ∀  (H : Heap) (locs : List Loc) (ls : Array Slot), g_at g_no V g D cT f n s H locs → lv_has ls 12 [] → K415  = some o → W p l e rm_L_areMaps s m args below meth c H locs 0 0 (MQ below (g_Ri o n) args s 4 24 g_no) (F0 m 415 ls [])) (K438 : Nat → Int32 → Int32 → Option Int32) (hK438 : ∀ (x0 : Nat) (x2 : Int32) (x3 : Int32) (H : Heap) (locs : List Loc) (ls : Array Slot), g_at g_no V g D cT f n s H locs → lv_has ls 12 [(0, .ref x0), (2, .int x2), (3, .int x3)] → K438 x0 x2 x3 = some o → W p l e rm_L_areMaps s m args below meth c H locs 0 0 (MQ below (g_Ri o n) args s 4 24 g_no) (F0 m 438 ls [])) (N : Nat) (x0 : Nat) (x1 : Int32) (x2 : Int32) (x3 : Int32) (x4 : Int32) (H : Heap) (locs : List Loc) (ls : Array Slot), g_at g_no V g D cT f n s H locs → lv_has ls 12 [(0, .ref x0), (1, .int x1), (2, .int x2), (3, .int x3), (4, .int x4)] → p_L_areMaps_l12 V g f K165 K254 K415 K438 N x0 x1 x2 x3 x4 = some o → W p l e rm_L_areMaps s m args below meth c H locs 0 0 (MQ below (g_Ri o n) args s 4 24 g_no) (F0 m 12 ls []) := by
    intro K165 hK165 K254 hK254 K415 hK415 K438 hK438 N
    induction N with
    | zero =>
      intro x0 x1 x2 x3 x4 H locs ls hI hl hq
      rw [p_L_areMaps_l12] at hq
      cases hq
    | succ N ih =>
      intro x0 x1 x2 x3 x4 H locs ls hI hl hq
      rw [p_L_areMaps_l12] at hq
      refine lv_iload hx hb dL_areMaps_12 (lv_at hl 4 rfl) ?_
      refine lv_iload_n hx hb dL_areMaps_14 rfl (lv_at hl 1 rfl) ?_
      refine lv_icmp_ge (tgt := 438) hx hb dL_areMaps_15 (by decide) (fun c2 => ?_) (fun c2 => ?_)
      · replace hq := i_t c2 hq
        exact hK438 x0 x2 x3 H locs ls hI (lv_sub hl [0, 2, 3] rfl) hq
      · replace hq := i_f c2 hq
        refine lv_aload_n hx hb dL_areMaps_18 rfl (lv_at hl 0 rfl) ?_
        refine lv_iload hx hb dL_areMaps_19 (lv_at hl 4 rfl) ?_
        obtain ⟨v3, ev3, hq⟩ := b_s hq
        refine gx0_i (g_runVX (As := [.int x4]) (rest := []) (ci := 9) hC (c_X7_pointCount l hl0 V g D cT f n x0 x4 (.inr v3) (h_nt_eq ev3)) k_X7_pointCount m_573 rfl rfl ⟨Nat.le_of_ble_eq_true rfl, Nat.le_of_ble_eq_true rfl⟩ hI rfl rfl (h_me_eq (h_nt_eq ev3)).1 rfl hl.1 rfl (Nat.le_of_ble_eq_true rfl) dL_areMaps_21 ⟨by decide, by decide⟩) hI (fun H locs hI => ?_)
        refine lv_istore (lv' := [(5, .int v3), (0, .ref x0), (1, .int x1), (2, .int x2), (3, .int x3), (4, .int x4)]) hx hb dL_areMaps_24 hl (by decide) rfl (fun ls hl => ?_)
        refine lv_iconst (v := (0 : Int32)) hx hb dL_areMaps_26 (by decide) ?_
        refine lv_istore (lv' := [(6, .int (0 : Int32)), (5, .int v3), (0, .ref x0), (1, .int x1), (2, .int x2), (3, .int x3), (4, .int x4)]) hx hb dL_areMaps_27 hl (by decide) rfl (fun ls hl => ?_)
        refine lv_iload_n hx hb dL_areMaps_29 rfl (lv_at hl 4 rfl) ?_
        refine lv_iload hx hb dL_areMaps_30 (lv_at hl 1 rfl) ?_
        refine lv_iadd hx hb dL_areMaps_32 ?_
        refine lv_istore_n (lv' := [(2, .int (x2 + v3)), (6, .int (0 : Int32)), (5, .int v3), (0, .ref x0), (1, .int x1), (3, .int x3), (4, .int x4)]) hx hb dL_areMaps_33 rfl hl (by decide) rfl (fun ls hl => ?_)
        refine lv_iload_n hx hb dL_areMaps_34 rfl (lv_at hl 5 rfl) ?_
        refine lv_aload_n hx hb dL_areMaps_35 rfl (lv_at hl 3 rfl) ?_
        refine lv_iload hx hb dL_areMaps_36 (lv_at hl 6 rfl) ?_
        refine lv_iconst (v := (0 : Int32)) hx hb dL_areMaps_38 (by decide) ?_
        obtain ⟨v4, ev4, hq⟩ := b_s hq
        refine gx0_i (g_runVX (As := [.int x4, .int (0 : Int32)]) (rest := [.int x3]) (ci := 9) hC (c_X7_lengthAt l hl0 V g D cT f n x0 x4 (0 : Int32) (.inr v4) (h_nt_eq ev4)) k_X7_lengthAt m_691 rfl rfl ⟨Nat.le_of_ble_eq_true rfl, Nat.le_of_ble_eq_true rfl⟩ hI rfl rfl (h_me_eq (h_nt_eq ev4)).1 rfl hl.1 rfl (Nat.le_of_ble_eq_true rfl) dL_areMaps_39 ⟨by decide, by decide⟩) hI (fun H locs hI => ?_)
        refine lv_iadd hx hb dL_areMaps_42 ?_
        refine lv_istore_n (lv' := [(3, .int (x3 + v4)), (2, .int (x2 + v3)), (6, .int (0 : Int32)), (5, .int v3), (0, .ref x0), (1, .int x1), (4, .int x4)]) hx hb dL_areMaps_43 rfl hl (by decide) rfl (fun ls hl => ?_)
        refine lv_aload_n hx hb dL_areMaps_44 rfl (lv_at hl 4 rfl) ?_
        refine lv_iload hx hb dL_areMaps_45 (lv_at hl 6 rfl) ?_
        obtain ⟨v5, ev5, hq⟩ := b_s hq
        refine gx0_i (g_runVX (As := [.int x4]) (rest := []) (ci := 9) hC (c_X7_innermostIslandAround l hl0 V g D cT f n x0 x4 (.inr v5) (h_nt_eq ev5)) k_X7_innermostIslandAround m_734 rfl rfl ⟨Nat.le_of_ble_eq_true rfl, Nat.le_of_ble_eq_true rfl⟩ hI rfl rfl (h_me_eq (h_nt_eq ev5)).1 rfl hl.1 rfl (Nat.le_of_ble_eq_true rfl) dL_areMaps_47 ⟨by decide, by decide⟩) hI (fun H locs hI => ?_)
        refine lv_istore (lv' := [(7, .int v5), (3, .int (x3 + v4)), (2, .int (x2 + v3)), (6, .int (0 : Int32)), (5, .int v3), (0, .ref x0), (1, .int x1), (4, .int x4)]) hx hb dL_areMaps_50 hl (by decide) rfl (fun ls hl => ?_)
        refine lv_iconst (v := (0 : Int32)) hx hb dL_areMaps_52 (by decide) ?_
        refine lv_istore (lv' := [(8, .int (0 : Int32)), (7, .int v5), (3, .int (x3 + v4)), (2, .int (x2 + v3)), (6, .int (0 : Int32)), (5, .int v3), (0, .ref x0), (1, .int x1), (4, .int x4)]) hx hb dL_areMaps_53 hl (by decide) rfl (fun ls hl => ?_)
        have hl55 : ∀ (K165 : Option Int32) (hK165 : ∀  (H : Heap) (locs : List Loc) (ls : Array Slot), g_at g_no V g D cT f n s H locs → lv_has ls 12 [] → K165  = some o → W p l e rm_L_areMaps s m args below meth c H locs 0 0 (MQ below (g_Ri o n) args s 4 24 g_no) (F0 m 165 ls [])) (K173 : Nat → Int32 → Int32 → Int32 → Int32 → Int32 → Int32 → Int32 → Option Int32) (hK173 : ∀ (x0 : Nat) (x1 : Int32) (x2 : Int32) (x3 : Int32) (x4 : Int32) (x5 : Int32) (x6 : Int32) (x7 : Int32) (H : Heap) (locs : List Loc) (ls : Array Slot), g_at g_no V g D cT f n s H locs → lv_has ls 12 [(0, .ref x0), (1, .int x1), (2, .int x2), (3, .int x3), (4, .int x4), (5, .int x5), (6, .int x6), (7, .int x7)] → K173 x0 x1 x2 x3 x4 x5 x6 x7 = some o → W p l e rm_L_areMaps s m args below meth c H locs 0 0 (MQ below (g_Ri o n) args s 4 24 g_no) (F0 m 173 ls [])) (N : Nat) (x0 : Nat) (x1 : Int32) (x2 : Int32) (x3 : Int32) (x4 : Int32) (x5 : Int32) (x6 : Int32) (x7 : Int32) (x8 : Int32) (H : Heap) (locs : List Loc) (ls : Array Slot), g_at g_no V g D cT f n s H locs → lv_has ls 12 [(0, .ref x0), (1, .int x1), (2, .int x2), (3, .int x3), (4, .int x4), (5, .int x5), (6, .int x6), (7, .int x7), (8, .int x8)] → p_L_areMaps_l55 V g f K165 K173 N x0 x1 x2 x3 x4 x5 x6 x7 x8 = some o → W p l e rm_L_areMaps s m args below meth c H locs 0 0 (MQ below (g_Ri o n) args s 4 24 g_no) (F0 m 55 ls []) := by
          intro K165 hK165 K173 hK173 N
          induction N with
          | zero =>
            intro x0 x1 x2 x3 x4 x5 x6 x7 x8 H locs ls hI hl hq
            rw [p_L_areMaps_l55] at hq
            cases hq
          | succ N ih =>
            intro x0 x1 x2 x3 x4 x5 x6 x7 x8 H locs ls hI hl hq
            rw [p_L_areMaps_l55] at hq
            refine lv_iload hx hb dL_areMaps_55 (lv_at hl 8 rfl) ?_
            refine lv_iload_n hx hb dL_areMaps_57 rfl (lv_at hl 1 rfl) ?_
            refine lv_icmp_ge (tgt := 173) hx hb dL_areMaps_58 (by decide) (fun c6 => ?_) (fun c6 => ?_)
            · replace hq := i_t c6 hq
              exact hK173 x0 x1 x2 x3 x4 x5 x6 x7 H locs ls hI (lv_sub hl [0, 1, 2, 3, 4, 5, 6, 7] rfl) hq
            · replace hq := i_f c6 hq
              refine lv_aload_n hx hb dL_areMaps_61 rfl (lv_at hl 0 rfl) ?_
              refine lv_iload hx hb dL_areMaps_62 (lv_at hl 8 rfl) ?_
              obtain ⟨v7, ev7, hq⟩ := b_s hq
              refine gx0_i (g_runVX (As := [.int x8]) (rest := []) (ci := 9) hC (c_X7_isIsland l hl0 V g D cT f n x0 x8 (.inr v7) (h_nt_eq ev7)) k_X7_isIsland m_613 rfl rfl ⟨Nat.le_of_ble_eq_true rfl, Nat.le_of_ble_eq_true rfl⟩ hI rfl rfl (h_me_eq (h_nt_eq ev7)).1 rfl hl.1 rfl (Nat.le_of_ble_eq_true rfl) dL_areMaps_64 ⟨by decide, by decide⟩) hI (fun H locs hI => ?_)
              have hj86 : ∀ (x0 : Nat) (x1 : Int32) (x2 : Int32) (x3 : Int32) (x4 : Int32) (x5 : Int32) (x6 : Int32) (x7 : Int32) (x8 : Int32) (t0 : Int32) (H : Heap) (locs : List Loc) (ls : Array Slot), g_at g_no V g D cT f n s H locs → lv_has ls 12 [(0, .ref x0), (1, .int x1), (2, .int x2), (3, .int x3), (4, .int x4), (5, .int x5), (6, .int x6), (7, .int x7), (8, .int x8)] → p_L_areMaps_j86 V g f (p_L_areMaps_l55 V g f K165 K173 N) K165 x0 x1 x2 x3 x4 x5 x6 x7 x8 t0 = some o → W p l e rm_L_areMaps s m args below meth c H locs 0 0 (MQ below (g_Ri o n) args s 4 24 g_no) (F0 m 86 ls [.int t0]) := by
                intro x0 x1 x2 x3 x4 x5 x6 x7 x8 t0 H locs ls hI hl hq
                unfold p_L_areMaps_j86 at hq
                refine lv_istore (lv' := [(9, .int t0), (0, .ref x0), (1, .int x1), (2, .int x2), (3, .int x3), (4, .int x4), (5, .int x5), (6, .int x6), (7, .int x7), (8, .int x8)]) hx hb dL_areMaps_86 hl (by decide) rfl (fun ls hl => ?_)
                refine lv_iload hx hb dL_areMaps_88 (lv_at hl 7 rfl) ?_
                refine lv_iload hx hb dL_areMaps_90 (lv_at hl 0 rfl) ?_
                have hj100 : ∀ (x0 : Nat) (x1 : Int32) (x2 : Int32) (x3 : Int32) (x4 : Int32) (x5 : Int32) (x7 : Int32) (x8 : Int32) (x9 : Int32) (t0 : Int32) (t1 : Int32) (H : Heap) (locs : List Loc) (ls : Array Slot), g_at g_no V g D cT f n s H locs → lv_has ls 12 [(0, .ref x0), (1, .int x1), (2, .int x2), (3, .int x3), (4, .int x4), (5, .int x5), (7, .int x7), (8, .int x8), (9, .int x9)] → p_L_areMaps_j100 V g f (p_L_areMaps_l55 V g f K165 K173 N) K165 x0 x1 x2 x3 x4 x5 x7 x8 x9 t0 t1 = some o → W p l e rm_L_areMaps s m args below meth c H locs 0 0 (MQ below (g_Ri o n) args s 4 24 g_no) (F0 m 100 ls [.int t0, .int t1]) := by
                  intro x0 x1 x2 x3 x4 x5 x7 x8 x9 t0 t1 H locs ls hI hl hq
                  unfold p_L_areMaps_j100 at hq
                  refine lv_iadd hx hb dL_areMaps_100 ?_
                  refine lv_istore (lv' := [(6, .int (t1 + t0)), (0, .ref x0), (1, .int x1), (2, .int x2), (3, .int x3), (4, .int x4), (5, .int x5), (7, .int x7), (8, .int x8), (9, .int x9)]) hx hb dL_areMaps_101 hl (by decide) rfl (fun ls hl => ?_)
                  refine lv_iload hx hb dL_areMaps_103 (lv_at hl 9 rfl) ?_
                  refine lv_if_eq (tgt := 167) hx hb dL_areMaps_105 (by decide) (fun c8 => ?_) (fun c8 => ?_)
                  · replace hq := i_t c8 hq
                    refine lv_iinc (v := x8 + (1 : Int32)) (lv' := [(8, .int (x8 + (1 : Int32))), (6, .int (t1 + t0)), (0, .ref x0), (1, .int x1), (2, .int x2), (3, .int x3), (4, .int x4), (5, .int x5), (7, .int x7), (9, .int x9)]) hx hb dL_areMaps_167 hl (k := 8) rfl rfl (by decide) rfl (fun ls hl => ?_)
                    refine lv_goto (tgt := 55) hx hb dL_areMaps_170 (by decide) ?_
                    exact ih x0 x1 x2 x3 x4 x5 (t1 + t0) x7 (x8 + (1 : Int32)) H locs ls hI (lv_sub hl [2, 3, 4, 5, 6, 7, 1, 8, 0] rfl) hq
                  · replace hq := i_f c8 hq
                    refine lv_iload hx hb dL_areMaps_108 (lv_at hl 8 rfl) ?_
                    refine lv_iload hx hb dL_areMaps_110 (lv_at hl 5 rfl) ?_
                    refine lv_icmp_eq (tgt := 165) hx hb dL_areMaps_112 (by decide) (fun c9 => ?_) (fun c9 => ?_)
                    · replace hq := i_t c9 hq
                      exact hK165  H locs ls hI (lv_sub hl [] rfl) hq
                    · replace hq := i_f c9 hq
                      refine lv_iload hx hb dL_areMaps_115 (lv_at hl 7 rfl) ?_
                      refine lv_if_lt (tgt := 165) hx hb dL_areMaps_117 (by decide) (fun c10 => ?_) (fun c10 => ?_)
                      · replace hq := i_t c10 hq
                        exact hK165  H locs ls hI (lv_sub hl [] rfl) hq
                      · replace hq := i_f c10 hq
                        refine lv_aload_n hx hb dL_areMaps_120 rfl (lv_at hl 1 rfl) ?_
                        refine lv_iload hx hb dL_areMaps_121 (lv_at hl 7 rfl) ?_
                        obtain ⟨v11, ev11, hq⟩ := b_s hq
                        refine gx0_i (g_runVX (As := [.int x7]) (rest := []) (ci := 9) hC (c_X7_doubledArea l hl0 V g D cT f n x0 x7 (.inr v11) (h_nt_eq ev11)) k_X7_doubledArea m_788 rfl rfl ⟨Nat.le_of_ble_eq_true rfl, Nat.le_of_ble_eq_true rfl⟩ hI rfl rfl (h_me_eq (h_nt_eq ev11)).1 rfl hl.1 rfl (Nat.le_of_ble_eq_true rfl) dL_areMaps_123 ⟨by decide, by decide⟩) hI (fun H locs hI => ?_)
                        refine lv_aload_n hx hb dL_areMaps_126 rfl (lv_at hl 1 rfl) ?_
                        refine lv_iload hx hb dL_areMaps_127 (lv_at hl 8 rfl) ?_
                        obtain ⟨v12, ev12, hq⟩ := b_s hq
                        refine gx0_i (g_runVX (As := [.int x8]) (rest := [.int v11]) (ci := 9) hC (c_X7_doubledArea l hl0 V g D cT f n x0 x8 (.inr v12) (h_nt_eq ev12)) k_X7_doubledArea m_788 rfl rfl ⟨Nat.le_of_ble_eq_true rfl, Nat.le_of_ble_eq_true rfl⟩ hI rfl rfl (h_me_eq (h_nt_eq ev12)).1 rfl hl.1 rfl (Nat.le_of_ble_eq_true rfl) dL_areMaps_129 ⟨by decide, by decide⟩) hI (fun H locs hI => ?_)
                        refine lv_icmp_gt (tgt := 165) hx hb dL_areMaps_132 (by decide) (fun c13 => ?_) (fun c13 => ?_)
                        · replace hq := i_t c13 hq
                          exact hK165  H locs ls hI (lv_sub hl [] rfl) hq
                        · replace hq := i_f c13 hq
                          refine lv_aload_n hx hb dL_areMaps_135 rfl (lv_at hl 1 rfl) ?_
                          refine lv_iload hx hb dL_areMaps_136 (lv_at hl 8 rfl) ?_
                          obtain ⟨v14, ev14, hq⟩ := b_s hq
                          refine gx0_i (g_runVX (As := [.int x8]) (rest := []) (ci := 9) hC (c_X7_boxWidth l hl0 V g D cT f n x0 x8 (.inr v14) (h_nt_eq ev14)) k_X7_boxWidth m_792 rfl rfl ⟨Nat.le_of_ble_eq_true rfl, Nat.le_of_ble_eq_true rfl⟩ hI rfl rfl (h_me_eq (h_nt_eq ev14)).1 rfl hl.1 rfl (Nat.le_of_ble_eq_true rfl) dL_areMaps_138 ⟨by decide, by decide⟩) hI (fun H locs hI => ?_)
                          refine lv_aload_n hx hb dL_areMaps_141 rfl (lv_at hl 1 rfl) ?_
                          refine lv_iload hx hb dL_areMaps_142 (lv_at hl 5 rfl) ?_
                          obtain ⟨v15, ev15, hq⟩ := b_s hq
                          refine gx0_i (g_runVX (As := [.int x4]) (rest := [.int v14]) (ci := 9) hC (c_X7_boxWidth l hl0 V g D cT f n x0 x4 (.inr v15) (h_nt_eq ev15)) k_X7_boxWidth m_792 rfl rfl ⟨Nat.le_of_ble_eq_true rfl, Nat.le_of_ble_eq_true rfl⟩ hI rfl rfl (h_me_eq (h_nt_eq ev15)).1 rfl hl.1 rfl (Nat.le_of_ble_eq_true rfl) dL_areMaps_144 ⟨by decide, by decide⟩) hI (fun H locs hI => ?_)
                          refine lv_icmp_lt (tgt := 165) hx hb dL_areMaps_147 (by decide) (fun c16 => ?_) (fun c16 => ?_)
                          · replace hq := i_t c16 hq
                            exact hK165  H locs ls hI (lv_sub hl [] rfl) hq
                          · replace hq := i_f c16 hq
                            refine lv_aload_n hx hb dL_areMaps_150 rfl (lv_at hl 1 rfl) ?_
                            refine lv_iload hx hb dL_areMaps_151 (lv_at hl 8 rfl) ?_
                            obtain ⟨v17, ev17, hq⟩ := b_s hq
                            refine gx0_i (g_runVX (As := [.int x8]) (rest := []) (ci := 9) hC (c_X7_boxHeight l hl0 V g D cT f n x0 x8 (.inr v17) (h_nt_eq ev17)) k_X7_boxHeight m_801 rfl rfl ⟨Nat.le_of_ble_eq_true rfl, Nat.le_of_ble_eq_true rfl⟩ hI rfl rfl (h_me_eq (h_nt_eq ev17)).1 rfl hl.1 rfl (Nat.le_of_ble_eq_true rfl) dL_areMaps_153 ⟨by decide, by decide⟩) hI (fun H locs hI => ?_)
                            refine lv_aload_n hx hb dL_areMaps_156 rfl (lv_at hl 1 rfl) ?_
                            refine lv_iload hx hb dL_areMaps_157 (lv_at hl 5 rfl) ?_
                            obtain ⟨v18, ev18, hq⟩ := b_s hq
                            refine gx0_i (g_runVX (As := [.int x4]) (rest := [.int v17]) (ci := 9) hC (c_X7_boxHeight l hl0 V g D cT f n x0 x4 (.inr v18) (h_nt_eq ev18)) k_X7_boxHeight m_801 rfl rfl ⟨Nat.le_of_ble_eq_true rfl, Nat.le_of_ble_eq_true rfl⟩ hI rfl rfl (h_me_eq (h_nt_eq ev18)).1 rfl hl.1 rfl (Nat.le_of_ble_eq_true rfl) dL_areMaps_159 ⟨by decide, by decide⟩) hI (fun H locs hI => ?_)
                            refine lv_icmp_ge (tgt := 167) hx hb dL_areMaps_162 (by decide) (fun c19 => ?_) (fun c19 => ?_)
                            · replace hq := i_t c19 hq
                              refine lv_iinc (v := x8 + (1 : Int32)) (lv' := [(8, .int (x8 + (1 : Int32))), (6, .int (t1 + t0)), (0, .ref x0), (1, .int x1), (2, .int x2), (3, .int x3), (4, .int x4), (5, .int x5), (7, .int x7), (9, .int x9)]) hx hb dL_areMaps_167 hl (k := 8) rfl rfl (by decide) rfl (fun ls hl => ?_)
                              refine lv_goto (tgt := 55) hx hb dL_areMaps_170 (by decide) ?_
                              exact ih x0 x1 x2 x3 x4 x5 (t1 + t0) x7 (x8 + (1 : Int32)) H locs ls hI (lv_sub hl [2, 3, 4, 5, 6, 7, 1, 8, 0] rfl) hq
                            · replace hq := i_f c19 hq
                              exact hK165  H locs ls hI (lv_sub hl [] rfl) hq
                refine lv_if_eq (tgt := 99) hx hb dL_areMaps_92 (by decide) (fun c20 => ?_) (fun c20 => ?_)
                · replace hq := i_t c20 hq
                  refine lv_iconst (v := (0 : Int32)) hx hb dL_areMaps_99 (by decide) ?_
                  exact hj100 x0 x1 x2 x3 x4 x5 x7 x8 t0 (0 : Int32) x6 H locs ls hI (lv_sub hl [1, 2, 3, 4, 5, 6, 8, 9, 0] rfl) hq
                · replace hq := i_f c20 hq
                  refine lv_iconst (v := (1 : Int32)) hx hb dL_areMaps_95 (by decide) ?_
                  refine lv_goto (tgt := 100) hx hb dL_areMaps_96 (by decide) ?_
                  exact hj100 x0 x1 x2 x3 x4 x5 x7 x8 t0 (1 : Int32) x6 H locs ls hI (lv_sub hl [1, 2, 3, 4, 5, 6, 8, 9, 0] rfl) hq
              have hj85 : ∀ (x0 : Nat) (x1 : Int32) (x2 : Int32) (x3 : Int32) (x4 : Int32) (x5 : Int32) (x6 : Int32) (x7 : Int32) (x8 : Int32) (H : Heap) (locs : List Loc) (ls : Array Slot), g_at g_no V g D cT f n s H locs → lv_has ls 12 [(0, .ref x0), (1, .int x1), (2, .int x2), (3, .int x3), (4, .int x4), (5, .int x5), (6, .int x6), (7, .int x7), (8, .int x8)] → p_L_areMaps_j85 V g f (p_L_areMaps_j86 V g f (p_L_areMaps_l55 V g f K165 K173 N) K165) x0 x1 x2 x3 x4 x5 x6 x7 x8 = some o → W p l e rm_L_areMaps s m args below meth c H locs 0 0 (MQ below (g_Ri o n) args s 4 24 g_no) (F0 m 85 ls []) := by
                intro x0 x1 x2 x3 x4 x5 x6 x7 x8 H locs ls hI hl hq
                unfold p_L_areMaps_j85 at hq
                refine lv_iconst (v := (0 : Int32)) hx hb dL_areMaps_85 (by decide) ?_
                exact hj86 x0 x1 x2 x3 x4 x5 x6 x7 x8 (0 : Int32) H locs ls hI (lv_sub hl [0, 1, 2, 3, 4, 5, 6, 7, 8] rfl) hq
              refine lv_if_eq (tgt := 85) hx hb dL_areMaps_67 (by decide) (fun c21 => ?_) (fun c21 => ?_)
              · replace hq := i_t c21 hq
                exact hj85 x0 x1 x2 x3 x4 x5 x6 x7 x8 H locs ls hI (lv_sub hl [0, 1, 2, 3, 4, 5, 6, 7, 8] rfl) hq
              · replace hq := i_f c21 hq
                refine lv_aload_n hx hb dL_areMaps_70 rfl (lv_at hl 0 rfl) ?_
                refine lv_iload hx hb dL_areMaps_71 (lv_at hl 8 rfl) ?_
                refine lv_iload hx hb dL_areMaps_73 (lv_at hl 4 rfl) ?_
                obtain ⟨v22, ev22, hq⟩ := b_s hq
                refine gx0_i (g_runVX (As := [.int x8, .int x4]) (rest := []) (ci := 9) hC (c_X7_encloses l hl0 V g D cT f n x0 x8 x4 (.inr v22) (h_nt_eq ev22)) k_X7_encloses m_778 rfl rfl ⟨Nat.le_of_ble_eq_true rfl, Nat.le_of_ble_eq_true rfl⟩ hI rfl rfl (h_me_eq (h_nt_eq ev22)).1 rfl hl.1 rfl (Nat.le_of_ble_eq_true rfl) dL_areMaps_75 ⟨by decide, by decide⟩) hI (fun H locs hI => ?_)
                refine lv_if_eq (tgt := 85) hx hb dL_areMaps_78 (by decide) (fun c23 => ?_) (fun c23 => ?_)
                · replace hq := i_t c23 hq
                  exact hj85 x0 x1 x2 x3 x4 x5 x6 x7 x8 H locs ls hI (lv_sub hl [0, 1, 2, 3, 4, 5, 6, 7, 8] rfl) hq
                · replace hq := i_f c23 hq
                  refine lv_iconst (v := (1 : Int32)) hx hb dL_areMaps_81 (by decide) ?_
                  refine lv_goto (tgt := 86) hx hb dL_areMaps_82 (by decide) ?_
                  exact hj86 x0 x1 x2 x3 x4 x5 x6 x7 x8 (1 : Int32) H locs ls hI (lv_sub hl [0, 1, 2, 3, 4, 5, 6, 7, 8] rfl) hq
        refine hl55 _ hK165 _ ?_ FU x0 x1 (x2 + v3) (x3 + v4) x4 v3 (0 : Int32) v5 (0 : Int32) H locs ls hI (lv_sub hl [6, 7, 3, 2, 8, 5, 4, 1, 0] rfl) hq
        · intro x0 x1 x2 x3 x4 x5 x6 x7 H locs ls hI hl hq
          refine lv_iload hx hb dL_areMaps_173 (lv_at hl 6 rfl) ?_
          refine lv_aload_n hx hb dL_areMaps_175 rfl (lv_at hl 0 rfl) ?_
          refine lv_iload hx hb dL_areMaps_176 (lv_at hl 4 rfl) ?_
          obtain ⟨v24, ev24, hq⟩ := b_s hq
          refine gx0_i (g_runVX (As := [.int x4]) (rest := [.int x6]) (ci := 9) hC (c_X7_ringDepth l hl0 V g D cT f n x0 x4 (.inr v24) (h_nt_eq ev24)) k_X7_ringDepth m_805 rfl rfl ⟨Nat.le_of_ble_eq_true rfl, Nat.le_of_ble_eq_true rfl⟩ hI rfl rfl (h_me_eq (h_nt_eq ev24)).1 rfl hl.1 rfl (Nat.le_of_ble_eq_true rfl) dL_areMaps_178 ⟨by decide, by decide⟩) hI (fun H locs hI => ?_)
          refine lv_icmp_ne (tgt := 254) hx hb dL_areMaps_181 (by decide) (fun c25 => ?_) (fun c25 => ?_)
          · replace hq := i_f c25 hq
            exact hK254  H locs ls hI (lv_sub hl [] rfl) hq
          · replace hq := i_t c25 hq
            refine lv_iload hx hb dL_areMaps_184 (lv_at hl 7 rfl) ?_
            have hj194 : ∀ (x0 : Nat) (x1 : Int32) (x2 : Int32) (x3 : Int32) (x4 : Int32) (x5 : Int32) (x6 : Int32) (t0 : Int32) (H : Heap) (locs : List Loc) (ls : Array Slot), g_at g_no V g D cT f n s H locs → lv_has ls 12 [(0, .ref x0), (1, .int x1), (2, .int x2), (3, .int x3), (4, .int x4), (5, .int x5), (6, .int x6)] → p_L_areMaps_j194 V g f (p_L_areMaps_l12 V g f K165 K254 K415 K438 N) K254 K415 x0 x1 x2 x3 x4 x5 x6 t0 = some o → W p l e rm_L_areMaps s m args below meth c H locs 0 0 (MQ below (g_Ri o n) args s 4 24 g_no) (F0 m 194 ls [.int t0]) := by
              intro x0 x1 x2 x3 x4 x5 x6 t0 H locs ls hI hl hq
              unfold p_L_areMaps_j194 at hq
              refine lv_iload hx hb dL_areMaps_194 (lv_at hl 6 rfl) ?_
              have hj204 : ∀ (x0 : Nat) (x1 : Int32) (x2 : Int32) (x3 : Int32) (x4 : Int32) (x5 : Int32) (t0 : Int32) (t1 : Int32) (H : Heap) (locs : List Loc) (ls : Array Slot), g_at g_no V g D cT f n s H locs → lv_has ls 12 [(0, .ref x0), (1, .int x1), (2, .int x2), (3, .int x3), (4, .int x4), (5, .int x5)] → p_L_areMaps_j204 V g f (p_L_areMaps_l12 V g f K165 K254 K415 K438 N) K254 K415 x0 x1 x2 x3 x4 x5 t0 t1 = some o → W p l e rm_L_areMaps s m args below meth c H locs 0 0 (MQ below (g_Ri o n) args s 4 24 g_no) (F0 m 204 ls [.int t0, .int t1]) := by
                intro x0 x1 x2 x3 x4 x5 t0 t1 H locs ls hI hl hq
                unfold p_L_areMaps_j204 at hq
                refine lv_icmp_ne (tgt := 254) hx hb dL_areMaps_204 (by decide) (fun c26 => ?_) (fun c26 => ?_)
                · replace hq := i_f c26 hq
                  exact hK254  H locs ls hI (lv_sub hl [] rfl) hq
                · replace hq := i_t c26 hq
                  refine lv_aload_n hx hb dL_areMaps_207 rfl (lv_at hl 0 rfl) ?_
                  refine lv_iload hx hb dL_areMaps_208 (lv_at hl 4 rfl) ?_
                  refine lv_iconst (v := (0 : Int32)) hx hb dL_areMaps_210 (by decide) ?_
                  obtain ⟨v27, ev27, hq⟩ := b_s hq
                  refine gx0_i (g_runVX (As := [.int x4, .int (0 : Int32)]) (rest := []) (ci := 9) hC (c_X7_lengthAt l hl0 V g D cT f n x0 x4 (0 : Int32) (.inr v27) (h_nt_eq ev27)) k_X7_lengthAt m_691 rfl rfl ⟨Nat.le_of_ble_eq_true rfl, Nat.le_of_ble_eq_true rfl⟩ hI rfl rfl (h_me_eq (h_nt_eq ev27)).1 rfl hl.1 rfl (Nat.le_of_ble_eq_true rfl) dL_areMaps_211 ⟨by decide, by decide⟩) hI (fun H locs hI => ?_)
                  refine lv_aload_n hx hb dL_areMaps_214 rfl (lv_at hl 0 rfl) ?_
                  refine lv_aload_n hx hb dL_areMaps_215 rfl (lv_at hl 0 rfl) ?_
                  refine lv_iconst (v := (0 : Int32)) hx hb dL_areMaps_216 (by decide) ?_
                  obtain ⟨v28, ev28, hq⟩ := b_s hq
                  refine gx0_i (g_runVX (As := [.int (0 : Int32)]) (rest := [.ref x0, .int v27]) (ci := 9) hC (c_X7_longestCoast l hl0 V g D cT f n x0 (0 : Int32) (.inr v28) (h_nt_eq ev28)) k_X7_longestCoast m_809 rfl rfl ⟨Nat.le_of_ble_eq_true rfl, Nat.le_of_ble_eq_true rfl⟩ hI rfl rfl (h_me_eq (h_nt_eq ev28)).1 rfl hl.1 rfl (Nat.le_of_ble_eq_true rfl) dL_areMaps_217 ⟨by decide, by decide⟩) hI (fun H locs hI => ?_)
                  refine lv_iconst (v := (0 : Int32)) hx hb dL_areMaps_220 (by decide) ?_
                  obtain ⟨v29, ev29, hq⟩ := b_s hq
                  refine gx0_i (g_runVX (As := [.int v28, .int (0 : Int32)]) (rest := [.int v27]) (ci := 9) hC (c_X7_lengthAt l hl0 V g D cT f n x0 v28 (0 : Int32) (.inr v29) (h_nt_eq ev29)) k_X7_lengthAt m_691 rfl rfl ⟨Nat.le_of_ble_eq_true rfl, Nat.le_of_ble_eq_true rfl⟩ hI rfl rfl (h_me_eq (h_nt_eq ev29)).1 rfl hl.1 rfl (Nat.le_of_ble_eq_true rfl) dL_areMaps_221 ⟨by decide, by decide⟩) hI (fun H locs hI => ?_)
                  refine lv_icmp_gt (tgt := 254) hx hb dL_areMaps_224 (by decide) (fun c30 => ?_) (fun c30 => ?_)
                  · replace hq := i_t c30 hq
                    exact hK254  H locs ls hI (lv_sub hl [] rfl) hq
                  · replace hq := i_f c30 hq
                    refine lv_iload hx hb dL_areMaps_227 (lv_at hl 5 rfl) ?_
                    refine lv_aload_n hx hb dL_areMaps_229 rfl (lv_at hl 0 rfl) ?_
                    refine lv_iload hx hb dL_areMaps_230 (lv_at hl 4 rfl) ?_
                    obtain ⟨v31, ev31, hq⟩ := b_s hq
                    refine gx0_i (g_runVX (As := [.int x4]) (rest := [.int x5]) (ci := 9) hC (c_X7_isIsland l hl0 V g D cT f n x0 x4 (.inr v31) (h_nt_eq ev31)) k_X7_isIsland m_613 rfl rfl ⟨Nat.le_of_ble_eq_true rfl, Nat.le_of_ble_eq_true rfl⟩ hI rfl rfl (h_me_eq (h_nt_eq ev31)).1 rfl hl.1 rfl (Nat.le_of_ble_eq_true rfl) dL_areMaps_232 ⟨by decide, by decide⟩) hI (fun H locs hI => ?_)
                    have hj243 : ∀ (x0 : Nat) (x1 : Int32) (x2 : Int32) (x3 : Int32) (x4 : Int32) (x5 : Int32) (t0 : Int32) (t1 : Int32) (H : Heap) (locs : List Loc) (ls : Array Slot), g_at g_no V g D cT f n s H locs → lv_has ls 12 [(0, .ref x0), (1, .int x1), (2, .int x2), (3, .int x3), (4, .int x4), (5, .int x5)] → p_L_areMaps_j243 V g f (p_L_areMaps_l12 V g f K165 K254 K415 K438 N) K254 K415 x0 x1 x2 x3 x4 x5 t0 t1 = some o → W p l e rm_L_areMaps s m args below meth c H locs 0 0 (MQ below (g_Ri o n) args s 4 24 g_no) (F0 m 243 ls [.int t0, .int t1]) := by
                      intro x0 x1 x2 x3 x4 x5 t0 t1 H locs ls hI hl hq
                      unfold p_L_areMaps_j243 at hq
                      refine lv_icmp_lt (tgt := 254) hx hb dL_areMaps_243 (by decide) (fun c32 => ?_) (fun c32 => ?_)
                      · replace hq := i_t c32 hq
                        exact hK254  H locs ls hI (lv_sub hl [] rfl) hq
                      · replace hq := i_f c32 hq
                        refine lv_iload hx hb dL_areMaps_246 (lv_at hl 5 rfl) ?_
                        refine lv_sipush (v := (129 : Int32)) hx hb dL_areMaps_248 (by decide) ?_
                        refine lv_icmp_le (tgt := 256) hx hb dL_areMaps_251 (by decide) (fun c33 => ?_) (fun c33 => ?_)
                        · replace hq := i_t c33 hq
                          refine lv_aload_n hx hb dL_areMaps_256 rfl (lv_at hl 0 rfl) ?_
                          refine lv_iload hx hb dL_areMaps_257 (lv_at hl 4 rfl) ?_
                          obtain ⟨v34, ev34, hq⟩ := b_s hq
                          refine gx0_i (g_runVX (As := [.int x4]) (rest := []) (ci := 9) hC (c_X7_leastImportantPoint l hl0 V g D cT f n x0 x4 (.inr v34) (h_nt_eq ev34)) k_X7_leastImportantPoint m_813 rfl rfl ⟨Nat.le_of_ble_eq_true rfl, Nat.le_of_ble_eq_true rfl⟩ hI rfl rfl (h_me_eq (h_nt_eq ev34)).1 rfl hl.1 rfl (Nat.le_of_ble_eq_true rfl) dL_areMaps_259 ⟨by decide, by decide⟩) hI (fun H locs hI => ?_)
                          refine lv_istore (lv' := [(8, .int v34), (0, .ref x0), (1, .int x1), (2, .int x2), (3, .int x3), (4, .int x4), (5, .int x5)]) hx hb dL_areMaps_262 hl (by decide) rfl (fun ls hl => ?_)
                          refine lv_iconst (v := (0 : Int32)) hx hb dL_areMaps_264 (by decide) ?_
                          refine lv_istore (lv' := [(9, .int (0 : Int32)), (8, .int v34), (0, .ref x0), (1, .int x1), (2, .int x2), (3, .int x3), (4, .int x4), (5, .int x5)]) hx hb dL_areMaps_265 hl (by decide) rfl (fun ls hl => ?_)
                          have hl267 : ∀ (K415 : Option Int32) (hK415 : ∀  (H : Heap) (locs : List Loc) (ls : Array Slot), g_at g_no V g D cT f n s H locs → lv_has ls 12 [] → K415  = some o → W p l e rm_L_areMaps s m args below meth c H locs 0 0 (MQ below (g_Ri o n) args s 4 24 g_no) (F0 m 415 ls [])) (K432 : Nat → Int32 → Int32 → Int32 → Int32 → Option Int32) (hK432 : ∀ (x0 : Nat) (x1 : Int32) (x2 : Int32) (x3 : Int32) (x4 : Int32) (H : Heap) (locs : List Loc) (ls : Array Slot), g_at g_no V g D cT f n s H locs → lv_has ls 12 [(0, .ref x0), (1, .int x1), (2, .int x2), (3, .int x3), (4, .int x4)] → K432 x0 x1 x2 x3 x4 = some o → W p l e rm_L_areMaps s m args below meth c H locs 0 0 (MQ below (g_Ri o n) args s 4 24 g_no) (F0 m 432 ls [])) (N : Nat) (x0 : Nat) (x1 : Int32) (x2 : Int32) (x3 : Int32) (x4 : Int32) (x5 : Int32) (x8 : Int32) (x9 : Int32) (H : Heap) (locs : List Loc) (ls : Array Slot), g_at g_no V g D cT f n s H locs → lv_has ls 12 [(0, .ref x0), (1, .int x1), (2, .int x2), (3, .int x3), (4, .int x4), (5, .int x5), (8, .int x8), (9, .int x9)] → p_L_areMaps_l267 V g f K415 K432 N x0 x1 x2 x3 x4 x5 x8 x9 = some o → W p l e rm_L_areMaps s m args below meth c H locs 0 0 (MQ below (g_Ri o n) args s 4 24 g_no) (F0 m 267 ls []) := by
                            intro K415 hK415 K432 hK432 N
                            induction N with
                            | zero =>
                              intro x0 x1 x2 x3 x4 x5 x8 x9 H locs ls hI hl hq
                              rw [p_L_areMaps_l267] at hq
                              cases hq
                            | succ N ih =>
                              intro x0 x1 x2 x3 x4 x5 x8 x9 H locs ls hI hl hq
                              rw [p_L_areMaps_l267] at hq
                              refine lv_iload hx hb dL_areMaps_267 (lv_at hl 7 rfl) ?_
                              refine lv_iload hx hb dL_areMaps_269 (lv_at hl 5 rfl) ?_
                              refine lv_icmp_ge (tgt := 432) hx hb dL_areMaps_271 (by decide) (fun c35 => ?_) (fun c35 => ?_)
                              · replace hq := i_t c35 hq
                                exact hK432 x0 x1 x2 x3 x4 H locs ls hI (lv_sub hl [0, 1, 2, 3, 4] rfl) hq
                              · replace hq := i_f c35 hq
                                refine lv_aload_n hx hb dL_areMaps_274 rfl (lv_at hl 0 rfl) ?_
                                refine lv_iload hx hb dL_areMaps_275 (lv_at hl 4 rfl) ?_
                                refine lv_aload_n hx hb dL_areMaps_277 rfl (lv_at hl 0 rfl) ?_
                                refine lv_iload hx hb dL_areMaps_278 (lv_at hl 4 rfl) ?_
                                refine lv_iload hx hb dL_areMaps_280 (lv_at hl 7 rfl) ?_
                                obtain ⟨v36, ev36, hq⟩ := b_s hq
                                refine gx0_i (g_runVX (As := [.int x4, .int x9]) (rest := [.int x4, .ref x0]) (ci := 9) hC (c_X7_pointX l hl0 V g D cT f n x0 x4 x9 (.inr v36) (h_nt_eq ev36)) k_X7_pointX m_617 rfl rfl ⟨Nat.le_of_ble_eq_true rfl, Nat.le_of_ble_eq_true rfl⟩ hI rfl rfl (h_me_eq (h_nt_eq ev36)).1 rfl hl.1 rfl (Nat.le_of_ble_eq_true rfl) dL_areMaps_282 ⟨by decide, by decide⟩) hI (fun H locs hI => ?_)
                                refine lv_aload_n hx hb dL_areMaps_285 rfl (lv_at hl 0 rfl) ?_
                                refine lv_iload hx hb dL_areMaps_286 (lv_at hl 4 rfl) ?_
                                refine lv_iload hx hb dL_areMaps_288 (lv_at hl 7 rfl) ?_
                                obtain ⟨v37, ev37, hq⟩ := b_s hq
                                refine gx0_i (g_runVX (As := [.int x4, .int x9]) (rest := [.int v36, .int x4, .ref x0]) (ci := 9) hC (c_X7_pointY l hl0 V g D cT f n x0 x4 x9 (.inr v37) (h_nt_eq ev37)) k_X7_pointY m_626 rfl rfl ⟨Nat.le_of_ble_eq_true rfl, Nat.le_of_ble_eq_true rfl⟩ hI rfl rfl (h_me_eq (h_nt_eq ev37)).1 rfl hl.1 rfl (Nat.le_of_ble_eq_true rfl) dL_areMaps_290 ⟨by decide, by decide⟩) hI (fun H locs hI => ?_)
                                obtain ⟨v38, ev38, hq⟩ := b_s hq
                                refine gx0_i (g_runVX (As := [.int x4, .int v36, .int v37]) (rest := []) (ci := 9) hC (c_X7_nearestPoint l hl0 V g D cT f n x0 x4 v36 v37 (.inr v38) (h_nt_eq ev38)) k_X7_nearestPoint m_822 rfl rfl ⟨Nat.le_of_ble_eq_true rfl, Nat.le_of_ble_eq_true rfl⟩ hI rfl rfl (h_me_eq (h_nt_eq ev38)).1 rfl hl.1 rfl (Nat.le_of_ble_eq_true rfl) dL_areMaps_293 ⟨by decide, by decide⟩) hI (fun H locs hI => ?_)
                                refine lv_istore (lv' := [(10, .int v38), (0, .ref x0), (1, .int x1), (2, .int x2), (3, .int x3), (4, .int x4), (5, .int x5), (8, .int x8), (9, .int x9)]) hx hb dL_areMaps_296 hl (by decide) rfl (fun ls hl => ?_)
                                refine lv_aload_n hx hb dL_areMaps_298 rfl (lv_at hl 1 rfl) ?_
                                refine lv_iload hx hb dL_areMaps_299 (lv_at hl 5 rfl) ?_
                                refine lv_iload hx hb dL_areMaps_301 (lv_at hl 8 rfl) ?_
                                obtain ⟨v39, ev39, hq⟩ := b_s hq
                                refine gx0_i (g_runVX (As := [.int x4, .int x9]) (rest := []) (ci := 9) hC (c_X7_lengthWithoutPoint l hl0 V g D cT f n x0 x4 x9 (.inr v39) (h_nt_eq ev39)) k_X7_lengthWithoutPoint m_830 rfl rfl ⟨Nat.le_of_ble_eq_true rfl, Nat.le_of_ble_eq_true rfl⟩ hI rfl rfl (h_me_eq (h_nt_eq ev39)).1 rfl hl.1 rfl (Nat.le_of_ble_eq_true rfl) dL_areMaps_303 ⟨by decide, by decide⟩) hI (fun H locs hI => ?_)
                                refine lv_istore (lv' := [(11, .int v39), (10, .int v38), (0, .ref x0), (1, .int x1), (2, .int x2), (3, .int x3), (4, .int x4), (5, .int x5), (8, .int x8), (9, .int x9)]) hx hb dL_areMaps_306 hl (by decide) rfl (fun ls hl => ?_)
                                refine lv_iload hx hb dL_areMaps_308 (lv_at hl 1 rfl) ?_
                                refine lv_iload hx hb dL_areMaps_310 (lv_at hl 9 rfl) ?_
                                refine lv_icmp_gt (tgt := 415) hx hb dL_areMaps_312 (by decide) (fun c40 => ?_) (fun c40 => ?_)
                                · replace hq := i_t c40 hq
                                  exact hK415  H locs ls hI (lv_sub hl [] rfl) hq
                                · replace hq := i_f c40 hq
                                  refine lv_aload_n hx hb dL_areMaps_315 rfl (lv_at hl 2 rfl) ?_
                                  refine lv_iload hx hb dL_areMaps_316 (lv_at hl 6 rfl) ?_
                                  refine lv_iload hx hb dL_areMaps_318 (lv_at hl 1 rfl) ?_
                                  refine lv_iload hx hb dL_areMaps_320 (lv_at hl 9 rfl) ?_
                                  obtain ⟨v41, ev41, hq⟩ := b_s hq
                                  refine gx0_i (g_runVX (As := [.int x4, .int v38, .int x9]) (rest := []) (ci := 9) hC (c_X7_pointDistance l hl0 V g D cT f n x0 x4 v38 x9 (.inr v41) (h_nt_eq ev41)) k_X7_pointDistance m_686 rfl rfl ⟨Nat.le_of_ble_eq_true rfl, Nat.le_of_ble_eq_true rfl⟩ hI rfl rfl (h_me_eq (h_nt_eq ev41)).1 rfl hl.1 rfl (Nat.le_of_ble_eq_true rfl) dL_areMaps_322 ⟨by decide, by decide⟩) hI (fun H locs hI => ?_)
                                  refine lv_if_ne (tgt := 415) hx hb dL_areMaps_325 (by decide) (fun c42 => ?_) (fun c42 => ?_)
                                  · replace hq := i_f c42 hq
                                    exact hK415  H locs ls hI (lv_sub hl [] rfl) hq
                                  · replace hq := i_t c42 hq
                                    refine lv_iload hx hb dL_areMaps_328 (lv_at hl 0 rfl) ?_
                                    refine lv_aload_n hx hb dL_areMaps_330 rfl (lv_at hl 2 rfl) ?_
                                    refine lv_iload hx hb dL_areMaps_331 (lv_at hl 6 rfl) ?_
                                    refine lv_iconst (v := (0 : Int32)) hx hb dL_areMaps_333 (by decide) ?_
                                    obtain ⟨v43, ev43, hq⟩ := b_s hq
                                    refine gx0_i (g_runVX (As := [.int x4, .int (0 : Int32)]) (rest := [.int v39]) (ci := 9) hC (c_X7_lengthAt l hl0 V g D cT f n x0 x4 (0 : Int32) (.inr v43) (h_nt_eq ev43)) k_X7_lengthAt m_691 rfl rfl ⟨Nat.le_of_ble_eq_true rfl, Nat.le_of_ble_eq_true rfl⟩ hI rfl rfl (h_me_eq (h_nt_eq ev43)).1 rfl hl.1 rfl (Nat.le_of_ble_eq_true rfl) dL_areMaps_334 ⟨by decide, by decide⟩) hI (fun H locs hI => ?_)
                                    refine lv_icmp_gt (tgt := 415) hx hb dL_areMaps_337 (by decide) (fun c44 => ?_) (fun c44 => ?_)
                                    · replace hq := i_t c44 hq
                                      exact hK415  H locs ls hI (lv_sub hl [] rfl) hq
                                    · replace hq := i_f c44 hq
                                      refine lv_iload hx hb dL_areMaps_340 (lv_at hl 0 rfl) ?_
                                      have hj350 : ∀ (x0 : Nat) (x1 : Int32) (x2 : Int32) (x3 : Int32) (x4 : Int32) (x5 : Int32) (x8 : Int32) (x9 : Int32) (x11 : Int32) (t0 : Int32) (H : Heap) (locs : List Loc) (ls : Array Slot), g_at g_no V g D cT f n s H locs → lv_has ls 12 [(0, .ref x0), (1, .int x1), (2, .int x2), (3, .int x3), (4, .int x4), (5, .int x5), (8, .int x8), (9, .int x9), (11, .int x11)] → p_L_areMaps_j350 V g f (p_L_areMaps_l267 V g f K415 K432 N) K415 x0 x1 x2 x3 x4 x5 x8 x9 x11 t0 = some o → W p l e rm_L_areMaps s m args below meth c H locs 0 0 (MQ below (g_Ri o n) args s 4 24 g_no) (F0 m 350 ls [.int t0]) := by
                                        intro x0 x1 x2 x3 x4 x5 x8 x9 x11 t0 H locs ls hI hl hq
                                        unfold p_L_areMaps_j350 at hq
                                        refine lv_iload hx hb dL_areMaps_350 (lv_at hl 6 rfl) ?_
                                        have hj360 : ∀ (x0 : Nat) (x1 : Int32) (x2 : Int32) (x3 : Int32) (x4 : Int32) (x5 : Int32) (x8 : Int32) (x9 : Int32) (x11 : Int32) (t0 : Int32) (t1 : Int32) (H : Heap) (locs : List Loc) (ls : Array Slot), g_at g_no V g D cT f n s H locs → lv_has ls 12 [(0, .ref x0), (1, .int x1), (2, .int x2), (3, .int x3), (4, .int x4), (5, .int x5), (8, .int x8), (9, .int x9), (11, .int x11)] → p_L_areMaps_j360 V g f (p_L_areMaps_l267 V g f K415 K432 N) K415 x0 x1 x2 x3 x4 x5 x8 x9 x11 t0 t1 = some o → W p l e rm_L_areMaps s m args below meth c H locs 0 0 (MQ below (g_Ri o n) args s 4 24 g_no) (F0 m 360 ls [.int t0, .int t1]) := by
                                          intro x0 x1 x2 x3 x4 x5 x8 x9 x11 t0 t1 H locs ls hI hl hq
                                          unfold p_L_areMaps_j360 at hq
                                          refine lv_icmp_ne (tgt := 415) hx hb dL_areMaps_360 (by decide) (fun c45 => ?_) (fun c45 => ?_)
                                          · replace hq := i_f c45 hq
                                            exact hK415  H locs ls hI (lv_sub hl [] rfl) hq
                                          · replace hq := i_t c45 hq
                                            refine lv_iload hx hb dL_areMaps_363 (lv_at hl 6 rfl) ?_
                                            have hj381 : ∀ (x0 : Nat) (x1 : Int32) (x2 : Int32) (x3 : Int32) (x4 : Int32) (x5 : Int32) (x8 : Int32) (x9 : Int32) (H : Heap) (locs : List Loc) (ls : Array Slot), g_at g_no V g D cT f n s H locs → lv_has ls 12 [(0, .ref x0), (1, .int x1), (2, .int x2), (3, .int x3), (4, .int x4), (5, .int x5), (8, .int x8), (9, .int x9)] → p_L_areMaps_j381 V g f (p_L_areMaps_l267 V g f K415 K432 N) K415 x0 x1 x2 x3 x4 x5 x8 x9 = some o → W p l e rm_L_areMaps s m args below meth c H locs 0 0 (MQ below (g_Ri o n) args s 4 24 g_no) (F0 m 381 ls []) := by
                                              intro x0 x1 x2 x3 x4 x5 x8 x9 H locs ls hI hl hq
                                              unfold p_L_areMaps_j381 at hq
                                              refine lv_aload_n hx hb dL_areMaps_381 rfl (lv_at hl 0 rfl) ?_
                                              refine lv_iload hx hb dL_areMaps_382 (lv_at hl 4 rfl) ?_
                                              obtain ⟨v46, ev46, hq⟩ := b_s hq
                                              refine gx0_i (g_runVX (As := [.int x4]) (rest := []) (ci := 9) hC (c_X7_isIsland l hl0 V g D cT f n x0 x4 (.inr v46) (h_nt_eq ev46)) k_X7_isIsland m_613 rfl rfl ⟨Nat.le_of_ble_eq_true rfl, Nat.le_of_ble_eq_true rfl⟩ hI rfl rfl (h_me_eq (h_nt_eq ev46)).1 rfl hl.1 rfl (Nat.le_of_ble_eq_true rfl) dL_areMaps_384 ⟨by decide, by decide⟩) hI (fun H locs hI => ?_)
                                              have hj417 : ∀ (x0 : Nat) (x1 : Int32) (x2 : Int32) (x3 : Int32) (x4 : Int32) (x5 : Int32) (x8 : Int32) (x9 : Int32) (H : Heap) (locs : List Loc) (ls : Array Slot), g_at g_no V g D cT f n s H locs → lv_has ls 12 [(0, .ref x0), (1, .int x1), (2, .int x2), (3, .int x3), (4, .int x4), (5, .int x5), (8, .int x8), (9, .int x9)] → p_L_areMaps_j417 V g f (p_L_areMaps_l267 V g f K415 K432 N) x0 x1 x2 x3 x4 x5 x8 x9 = some o → W p l e rm_L_areMaps s m args below meth c H locs 0 0 (MQ below (g_Ri o n) args s 4 24 g_no) (F0 m 417 ls []) := by
                                                intro x0 x1 x2 x3 x4 x5 x8 x9 H locs ls hI hl hq
                                                unfold p_L_areMaps_j417 at hq
                                                refine lv_iload hx hb dL_areMaps_417 (lv_at hl 7 rfl) ?_
                                                refine lv_iconst (v := (1 : Int32)) hx hb dL_areMaps_419 (by decide) ?_
                                                refine lv_iload hx hb dL_areMaps_420 (lv_at hl 5 rfl) ?_
                                                refine lv_bipush (v := (6 : Int32)) hx hb dL_areMaps_422 (by decide) ?_
                                                refine lv_idiv hx hb dL_areMaps_424 (by decide) ?_
                                                refine lv_iadd hx hb dL_areMaps_425 ?_
                                                refine lv_iadd hx hb dL_areMaps_426 ?_
                                                refine lv_istore (lv' := [(9, .int (x9 + ((1 : Int32) + (x5 / (6 : Int32))))), (0, .ref x0), (1, .int x1), (2, .int x2), (3, .int x3), (4, .int x4), (5, .int x5), (8, .int x8)]) hx hb dL_areMaps_427 hl (by decide) rfl (fun ls hl => ?_)
                                                refine lv_goto (tgt := 267) hx hb dL_areMaps_429 (by decide) ?_
                                                exact ih x0 x1 x2 x3 x4 x5 x8 (x9 + ((1 : Int32) + (x5 / (6 : Int32)))) H locs ls hI (lv_sub hl [1, 2, 3, 4, 5, 6, 7, 0] rfl) hq
                                              refine lv_if_eq (tgt := 417) hx hb dL_areMaps_387 (by decide) (fun c47 => ?_) (fun c47 => ?_)
                                              · replace hq := i_t c47 hq
                                                exact hj417 x0 x1 x2 x3 x4 x5 x8 x9 H locs ls hI (lv_sub hl [0, 1, 2, 3, 4, 5, 6, 7] rfl) hq
                                              · replace hq := i_f c47 hq
                                                refine lv_aload_n hx hb dL_areMaps_390 rfl (lv_at hl 0 rfl) ?_
                                                refine lv_iload hx hb dL_areMaps_391 (lv_at hl 4 rfl) ?_
                                                refine lv_aload_n hx hb dL_areMaps_393 rfl (lv_at hl 0 rfl) ?_
                                                refine lv_iload hx hb dL_areMaps_394 (lv_at hl 4 rfl) ?_
                                                refine lv_iload hx hb dL_areMaps_396 (lv_at hl 7 rfl) ?_
                                                obtain ⟨v48, ev48, hq⟩ := b_s hq
                                                refine gx0_i (g_runVX (As := [.int x4, .int x9]) (rest := [.int x4, .ref x0]) (ci := 9) hC (c_X7_pointX l hl0 V g D cT f n x0 x4 x9 (.inr v48) (h_nt_eq ev48)) k_X7_pointX m_617 rfl rfl ⟨Nat.le_of_ble_eq_true rfl, Nat.le_of_ble_eq_true rfl⟩ hI rfl rfl (h_me_eq (h_nt_eq ev48)).1 rfl hl.1 rfl (Nat.le_of_ble_eq_true rfl) dL_areMaps_398 ⟨by decide, by decide⟩) hI (fun H locs hI => ?_)
                                                refine lv_aload_n hx hb dL_areMaps_401 rfl (lv_at hl 0 rfl) ?_
                                                refine lv_iload hx hb dL_areMaps_402 (lv_at hl 4 rfl) ?_
                                                refine lv_iload hx hb dL_areMaps_404 (lv_at hl 7 rfl) ?_
                                                obtain ⟨v49, ev49, hq⟩ := b_s hq
                                                refine gx0_i (g_runVX (As := [.int x4, .int x9]) (rest := [.int v48, .int x4, .ref x0]) (ci := 9) hC (c_X7_pointY l hl0 V g D cT f n x0 x4 x9 (.inr v49) (h_nt_eq ev49)) k_X7_pointY m_626 rfl rfl ⟨Nat.le_of_ble_eq_true rfl, Nat.le_of_ble_eq_true rfl⟩ hI rfl rfl (h_me_eq (h_nt_eq ev49)).1 rfl hl.1 rfl (Nat.le_of_ble_eq_true rfl) dL_areMaps_406 ⟨by decide, by decide⟩) hI (fun H locs hI => ?_)
                                                obtain ⟨v50, ev50, hq⟩ := b_s hq
                                                refine gx0_i (g_runVX (As := [.int x4, .int v48, .int v49]) (rest := []) (ci := 9) hC (c_X7_contains l hl0 V g D cT f n x0 x4 v48 v49 (.inr v50) (h_nt_eq ev50)) k_X7_contains m_834 rfl rfl ⟨Nat.le_of_ble_eq_true rfl, Nat.le_of_ble_eq_true rfl⟩ hI rfl rfl (h_me_eq (h_nt_eq ev50)).1 rfl hl.1 rfl (Nat.le_of_ble_eq_true rfl) dL_areMaps_409 ⟨by decide, by decide⟩) hI (fun H locs hI => ?_)
                                                refine lv_if_ne (tgt := 417) hx hb dL_areMaps_412 (by decide) (fun c51 => ?_) (fun c51 => ?_)
                                                · replace hq := i_f c51 hq
                                                  exact hj417 x0 x1 x2 x3 x4 x5 x8 x9 H locs ls hI (lv_sub hl [0, 1, 2, 3, 4, 5, 6, 7] rfl) hq
                                                · replace hq := i_t c51 hq
                                                  exact hK415  H locs ls hI (lv_sub hl [] rfl) hq
                                            refine lv_if_lt (tgt := 381) hx hb dL_areMaps_365 (by decide) (fun c52 => ?_) (fun c52 => ?_)
                                            · replace hq := i_t c52 hq
                                              exact hj381 x0 x1 x2 x3 x4 x5 x8 x9 H locs ls hI (lv_sub hl [0, 1, 2, 3, 4, 5, 6, 7] rfl) hq
                                            · replace hq := i_f c52 hq
                                              refine lv_iload hx hb dL_areMaps_368 (lv_at hl 8 rfl) ?_
                                              refine lv_aload_n hx hb dL_areMaps_370 rfl (lv_at hl 0 rfl) ?_
                                              refine lv_iload hx hb dL_areMaps_371 (lv_at hl 4 rfl) ?_
                                              refine lv_iload hx hb dL_areMaps_373 (lv_at hl 6 rfl) ?_
                                              obtain ⟨v53, ev53, hq⟩ := b_s hq
                                              refine gx0_i (g_runVX (As := [.int x4, .int x8]) (rest := [.int x11]) (ci := 9) hC (c_X7_lengthWithoutPoint l hl0 V g D cT f n x0 x4 x8 (.inr v53) (h_nt_eq ev53)) k_X7_lengthWithoutPoint m_830 rfl rfl ⟨Nat.le_of_ble_eq_true rfl, Nat.le_of_ble_eq_true rfl⟩ hI rfl rfl (h_me_eq (h_nt_eq ev53)).1 rfl hl.1 rfl (Nat.le_of_ble_eq_true rfl) dL_areMaps_375 ⟨by decide, by decide⟩) hI (fun H locs hI => ?_)
                                              refine lv_icmp_gt (tgt := 415) hx hb dL_areMaps_378 (by decide) (fun c54 => ?_) (fun c54 => ?_)
                                              · replace hq := i_t c54 hq
                                                exact hK415  H locs ls hI (lv_sub hl [] rfl) hq
                                              · replace hq := i_f c54 hq
                                                exact hj381 x0 x1 x2 x3 x4 x5 x8 x9 H locs ls hI (lv_sub hl [0, 1, 2, 3, 4, 5, 6, 7] rfl) hq
                                        refine lv_if_ge (tgt := 359) hx hb dL_areMaps_352 (by decide) (fun c55 => ?_) (fun c55 => ?_)
                                        · replace hq := i_t c55 hq
                                          refine lv_iconst (v := (0 : Int32)) hx hb dL_areMaps_359 (by decide) ?_
                                          exact hj360 x0 x1 x2 x3 x4 x5 x8 x9 x11 (0 : Int32) t0 H locs ls hI (lv_sub hl [0, 1, 2, 3, 4, 5, 6, 7, 8] rfl) hq
                                        · replace hq := i_f c55 hq
                                          refine lv_iconst (v := (1 : Int32)) hx hb dL_areMaps_355 (by decide) ?_
                                          refine lv_goto (tgt := 360) hx hb dL_areMaps_356 (by decide) ?_
                                          exact hj360 x0 x1 x2 x3 x4 x5 x8 x9 x11 (1 : Int32) t0 H locs ls hI (lv_sub hl [0, 1, 2, 3, 4, 5, 6, 7, 8] rfl) hq
                                      refine lv_if_ge (tgt := 349) hx hb dL_areMaps_342 (by decide) (fun c56 => ?_) (fun c56 => ?_)
                                      · replace hq := i_t c56 hq
                                        refine lv_iconst (v := (0 : Int32)) hx hb dL_areMaps_349 (by decide) ?_
                                        exact hj350 x0 x1 x2 x3 x4 x5 x8 x9 v39 (0 : Int32) H locs ls hI (lv_sub hl [2, 3, 4, 5, 6, 7, 8, 9, 0] rfl) hq
                                      · replace hq := i_f c56 hq
                                        refine lv_iconst (v := (1 : Int32)) hx hb dL_areMaps_345 (by decide) ?_
                                        refine lv_goto (tgt := 350) hx hb dL_areMaps_346 (by decide) ?_
                                        exact hj350 x0 x1 x2 x3 x4 x5 x8 x9 v39 (1 : Int32) H locs ls hI (lv_sub hl [2, 3, 4, 5, 6, 7, 8, 9, 0] rfl) hq
                          refine hl267 _ hK415 _ ?_ FU x0 x1 x2 x3 x4 x5 v34 (0 : Int32) H locs ls hI (lv_sub hl [2, 3, 4, 5, 6, 7, 1, 0] rfl) hq
                          · intro x0 x1 x2 x3 x4 H locs ls hI hl hq
                            refine lv_iinc (v := x4 + (1 : Int32)) (lv' := [(4, .int (x4 + (1 : Int32))), (0, .ref x0), (1, .int x1), (2, .int x2), (3, .int x3)]) hx hb dL_areMaps_432 hl (k := 4) rfl rfl (by decide) rfl (fun ls hl => ?_)
                            refine lv_goto (tgt := 12) hx hb dL_areMaps_435 (by decide) ?_
                            exact ih x0 x1 x2 x3 (x4 + (1 : Int32)) H locs ls hI (lv_sub hl [1, 2, 3, 4, 0] rfl) hq
                        · replace hq := i_f c33 hq
                          exact hK254  H locs ls hI (lv_sub hl [] rfl) hq
                    refine lv_if_eq (tgt := 242) hx hb dL_areMaps_235 (by decide) (fun c57 => ?_) (fun c57 => ?_)
                    · replace hq := i_t c57 hq
                      refine lv_iconst (v := (2 : Int32)) hx hb dL_areMaps_242 (by decide) ?_
                      exact hj243 x0 x1 x2 x3 x4 x5 (2 : Int32) x5 H locs ls hI (lv_sub hl [0, 1, 2, 3, 4, 5] rfl) hq
                    · replace hq := i_f c57 hq
                      refine lv_iconst (v := (3 : Int32)) hx hb dL_areMaps_238 (by decide) ?_
                      refine lv_goto (tgt := 243) hx hb dL_areMaps_239 (by decide) ?_
                      exact hj243 x0 x1 x2 x3 x4 x5 (3 : Int32) x5 H locs ls hI (lv_sub hl [0, 1, 2, 3, 4, 5] rfl) hq
              refine lv_if_le (tgt := 203) hx hb dL_areMaps_196 (by decide) (fun c58 => ?_) (fun c58 => ?_)
              · replace hq := i_t c58 hq
                refine lv_iconst (v := (0 : Int32)) hx hb dL_areMaps_203 (by decide) ?_
                exact hj204 x0 x1 x2 x3 x4 x5 (0 : Int32) t0 H locs ls hI (lv_sub hl [0, 1, 2, 3, 4, 5] rfl) hq
              · replace hq := i_f c58 hq
                refine lv_iconst (v := (1 : Int32)) hx hb dL_areMaps_199 (by decide) ?_
                refine lv_goto (tgt := 204) hx hb dL_areMaps_200 (by decide) ?_
                exact hj204 x0 x1 x2 x3 x4 x5 (1 : Int32) t0 H locs ls hI (lv_sub hl [0, 1, 2, 3, 4, 5] rfl) hq
            refine lv_if_lt (tgt := 193) hx hb dL_areMaps_186 (by decide) (fun c59 => ?_) (fun c59 => ?_)
            · replace hq := i_t c59 hq
              refine lv_iconst (v := (0 : Int32)) hx hb dL_areMaps_193 (by decide) ?_
              exact hj194 x0 x1 x2 x3 x4 x5 x6 (0 : Int32) H locs ls hI (lv_sub hl [0, 1, 2, 3, 4, 5, 6] rfl) hq
            · replace hq := i_f c59 hq
              refine lv_iconst (v := (1 : Int32)) hx hb dL_areMaps_189 (by decide) ?_
              refine lv_goto (tgt := 194) hx hb dL_areMaps_190 (by decide) ?_
              exact hj194 x0 x1 x2 x3 x4 x5 x6 (1 : Int32) H locs ls hI (lv_sub hl [0, 1, 2, 3, 4, 5, 6] rfl) hq
  refine hl12 _ ?_ _ ?_ _ ?_ _ ?_ FU a0 v1 (0 : Int32) (0 : Int32) (0 : Int32) H locs ls hI (lv_sub hl [4, 3, 2, 1, 0] rfl) hq
  · intro  H locs ls hI hl hq
    refine lv_iconst (v := (0 : Int32)) hx hb dL_areMaps_165 (by decide) ?_
    refine W.widen (k := 4) (n := 24) (by decide) (by decide) ?_
    exact ge_Pi hx hb hlocks hr (by decide +kernel) hI hq dL_areMaps_166
  · intro  H locs ls hI hl hq
    refine lv_iconst (v := (0 : Int32)) hx hb dL_areMaps_254 (by decide) ?_
    refine W.widen (k := 4) (n := 24) (by decide) (by decide) ?_
    exact ge_Pi hx hb hlocks hr (by decide +kernel) hI hq dL_areMaps_255
  · intro  H locs ls hI hl hq
    refine lv_iconst (v := (0 : Int32)) hx hb dL_areMaps_415 (by decide) ?_
    refine W.widen (k := 4) (n := 24) (by decide) (by decide) ?_
    exact ge_Pi hx hb hlocks hr (by decide +kernel) hI hq dL_areMaps_416
  · intro x0 x2 x3 H locs ls hI hl hq
    refine lv_iload_n hx hb dL_areMaps_438 rfl (lv_at hl 2 rfl) ?_
    refine lv_aload_n hx hb dL_areMaps_439 rfl (lv_at hl 0 rfl) ?_
    refine lv_iconst (v := (0 : Int32)) hx hb dL_areMaps_440 (by decide) ?_
    obtain ⟨v60, ev60, hq⟩ := b_s hq
    refine gx0_i (g_runVX (As := [.int (0 : Int32)]) (rest := [.int x3]) (ci := 9) hC (c_X7_totalLength l hl0 V g D cT f n x0 (0 : Int32) (.inr v60) (h_nt_eq ev60)) k_X7_totalLength m_839 rfl rfl ⟨Nat.le_of_ble_eq_true rfl, Nat.le_of_ble_eq_true rfl⟩ hI rfl rfl (h_me_eq (h_nt_eq ev60)).1 rfl hl.1 rfl (Nat.le_of_ble_eq_true rfl) dL_areMaps_441 ⟨by decide, by decide⟩) hI (fun H locs hI => ?_)
    refine lv_icmp_ne (tgt := 476) hx hb dL_areMaps_444 (by decide) (fun c61 => ?_) (fun c61 => ?_)
    · replace hq := i_f c61 hq
      refine lv_iconst (v := (0 : Int32)) hx hb dL_areMaps_476 (by decide) ?_
      refine W.widen (k := 4) (n := 24) (by decide) (by decide) ?_
      exact ge_Pi hx hb hlocks hr (by decide +kernel) hI hq dL_areMaps_477
    · replace hq := i_t c61 hq
      refine lv_iload_n hx hb dL_areMaps_447 rfl (lv_at hl 1 rfl) ?_
      refine lv_aload_n hx hb dL_areMaps_448 rfl (lv_at hl 0 rfl) ?_
      obtain ⟨v62, ev62, hq⟩ := b_s hq
      refine gr_i (g_runV (As := []) (rest := [.int x2]) (ci := 9) hC (c_X7_loadedPoints l V g D cT f n x0 v62 ev62) k_X7_loadedPoints m_605 rfl rfl ⟨Nat.le_of_ble_eq_true rfl, Nat.le_of_ble_eq_true rfl⟩ hI rfl rfl (h_me_eq ev62).1 rfl hl.1 rfl (Nat.le_of_ble_eq_true rfl) dL_areMaps_449 ⟨by decide, by decide⟩) hI (fun H locs hI => ?_)
      refine lv_aload_n hx hb dL_areMaps_452 rfl (lv_at hl 0 rfl) ?_
      obtain ⟨v63, ev63, hq⟩ := b_s hq
      refine gr_i (g_runV (As := []) (rest := [.int v62, .int x2]) (ci := 9) hC (c_X7_addedPoints l V g D cT f n x0 v63 ev63) k_X7_addedPoints m_507 rfl rfl ⟨Nat.le_of_ble_eq_true rfl, Nat.le_of_ble_eq_true rfl⟩ hI rfl rfl (h_me_eq ev63).1 rfl hl.1 rfl (Nat.le_of_ble_eq_true rfl) dL_areMaps_453 ⟨by decide, by decide⟩) hI (fun H locs hI => ?_)
      refine lv_iadd hx hb dL_areMaps_456 ?_
      refine lv_aload_n hx hb dL_areMaps_457 rfl (lv_at hl 0 rfl) ?_
      obtain ⟨v64, ev64, hq⟩ := b_s hq
      refine gr_i (g_runV (As := []) (rest := [.int (v62 + v63), .int x2]) (ci := 9) hC (c_X7_removedPoints l V g D cT f n x0 v64 ev64) k_X7_removedPoints m_609 rfl rfl ⟨Nat.le_of_ble_eq_true rfl, Nat.le_of_ble_eq_true rfl⟩ hI rfl rfl (h_me_eq ev64).1 rfl hl.1 rfl (Nat.le_of_ble_eq_true rfl) dL_areMaps_458 ⟨by decide, by decide⟩) hI (fun H locs hI => ?_)
      refine lv_isub hx hb dL_areMaps_461 ?_
      refine lv_icmp_ne (tgt := 476) hx hb dL_areMaps_462 (by decide) (fun c65 => ?_) (fun c65 => ?_)
      · replace hq := i_f c65 hq
        refine lv_iconst (v := (0 : Int32)) hx hb dL_areMaps_476 (by decide) ?_
        refine W.widen (k := 4) (n := 24) (by decide) (by decide) ?_
        exact ge_Pi hx hb hlocks hr (by decide +kernel) hI hq dL_areMaps_477
      · replace hq := i_t c65 hq
        refine lv_aload_n hx hb dL_areMaps_465 rfl (lv_at hl 0 rfl) ?_
        obtain ⟨v66, ev66, hq⟩ := b_s hq
        refine gr_i (g_runV (As := []) (rest := []) (ci := 9) hC (c_X7_ledgerGap l V g D cT f n x0 v66 ev66) k_X7_ledgerGap m_843 rfl rfl ⟨Nat.le_of_ble_eq_true rfl, Nat.le_of_ble_eq_true rfl⟩ hI rfl rfl (h_me_eq ev66).1 rfl hl.1 rfl (Nat.le_of_ble_eq_true rfl) dL_areMaps_466 ⟨by decide, by decide⟩) hI (fun H locs hI => ?_)
        refine lv_if_ne (tgt := 476) hx hb dL_areMaps_469 (by decide) (fun c67 => ?_) (fun c67 => ?_)
        · replace hq := i_f c67 hq
          refine lv_iconst (v := (0 : Int32)) hx hb dL_areMaps_476 (by decide) ?_
          refine W.widen (k := 4) (n := 24) (by decide) (by decide) ?_
          exact ge_Pi hx hb hlocks hr (by decide +kernel) hI hq dL_areMaps_477
        · replace hq := i_t c67 hq
          refine lv_iconst (v := (1 : Int32)) hx hb dL_areMaps_472 (by decide) ?_
          refine lv_goto (tgt := 477) hx hb dL_areMaps_473 (by decide) ?_
          refine W.widen (k := 4) (n := 24) (by decide) (by decide) ?_
          exact ge_Pi hx hb hlocks hr (by decide +kernel) hI hq dL_areMaps_477


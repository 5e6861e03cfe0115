abbrev rm_X5_isWord : Room := { frames := 6, cells := 0, slots := 0, locals := 205 }
theorem k_X5_isWord : g_CV yX5_isWord cX5_isWord 3 (some .boolean) 1 := ⟨⟨m_402, m_4, by decide +kernel⟩, m_400, m_401⟩
set_option maxHeartbeats 4000000 in
set_option maxRecDepth 100000 in
theorem c_X5_isWord (l : Launch) (V : Nat → Nat) (g : GH) (D : va_G) (cT : Nat → ClassId) (f : GH) (n : Nat) (a0 : Nat) (a1 : Nat) (o : Int32) (hq : p_X5_isWord V g f a0 a1 = some o) : Met l yX5_isWord (Cond.code yX5_isWord cX5_isWord 3 (some .boolean) :: g_B) rm_X5_isWord (va_Pc [.ref a0, .ref a1] (g_I V g D cT f n)) (g_Ri o n) 0 0 g_no := by
  refine g_begin (own := RX5) [.ref a0, .ref a1] [(0, .ref a0), (1, .ref a1)] g_no (fun _ h => h.elim) (by decide) rfl (Nat.le_of_ble_eq_true rfl) rfl ?_
  intro p e s m args below meth c hx hb hr hlocks hin hC hI ls hl
  obtain ⟨hx, hb, hml, hown, hB⟩ := id hC
  obtain ⟨H, hH⟩ : ∃ H, H = s.heap := ⟨_, rfl⟩
  obtain ⟨locs, hlocs⟩ : ∃ L : List Loc, L = [] := ⟨_, rfl⟩
  rw [← hH, ← hlocs] at hI ⊢
  clear hH hlocs
  unfold p_X5_isWord at hq
  replace hq := (h_me_eq hq).2
  refine lv_aload_n hx hb dX5_isWord_0 rfl (lv_at hl 0 rfl) ?_
  obtain ⟨v1, ev1, hq⟩ := b_s hq
  refine fa_gi (own := RX5) (ref := "CoastlineRuler$Tokens") (k := 3) hx hb hB inB_RX5 hown hI rfl (by decide) m_112 (fun _ h9 => h9) ev1 dX5_isWord_1 ?_
  refine lv_iconst (v := (1 : Int32)) hx hb dX5_isWord_4 (by decide) ?_
  refine lv_icmp_ne (tgt := 24) hx hb dX5_isWord_5 (by decide) (fun c2 => ?_) (fun c2 => ?_)
  · replace hq := i_f c2 hq
    refine lv_iconst (v := (0 : Int32)) hx hb dX5_isWord_24 (by decide) ?_
    exact ge_Ri hx hb hlocks hr (by decide +kernel) hI hq dX5_isWord_25
  · replace hq := i_t c2 hq
    refine lv_aload_n hx hb dX5_isWord_8 rfl (lv_at hl 0 rfl) ?_
    obtain ⟨v3, ev3, hq⟩ := b_s hq
    refine fa_gi (own := RX5) (ref := "CoastlineRuler$Tokens") (k := 5) hx hb hB inB_RX5 hown hI rfl (by decide) m_115 (fun _ h9 => h9) ev3 dX5_isWord_9 ?_
    refine lv_aload_n hx hb dX5_isWord_12 rfl (lv_at hl 0 rfl) ?_
    obtain ⟨v4, ev4, hq⟩ := b_s hq
    refine fa_gi (own := RX5) (ref := "CoastlineRuler$Tokens") (k := 4) hx hb hB inB_RX5 hown hI rfl (by decide) m_113 (fun _ h9 => h9) ev4 dX5_isWord_13 ?_
    refine lv_isub hx hb dX5_isWord_16 ?_
    refine lv_aload_n hx hb dX5_isWord_17 rfl (lv_at hl 1 rfl) ?_
    obtain ⟨v5, ev5, hq⟩ := b_s hq
    refine gr_i (g_runVs (As := []) (rest := [.int (v3 - v4)]) (ci := 51) hC (c_J0_length_8abf5 l V g D cT f n a1 v5 ev5) k_J0_length_8abf5 m_403 rfl rfl ⟨Nat.le_of_ble_eq_true rfl, Nat.le_of_ble_eq_true rfl⟩ hI rfl (h_me_eq ev5).1 rfl hl.1 rfl (Nat.le_of_ble_eq_true rfl) dX5_isWord_18 ⟨by decide, by decide⟩) hI (fun H locs hI => ?_)
    refine lv_icmp_eq (tgt := 26) hx hb dX5_isWord_21 (by decide) (fun c6 => ?_) (fun c6 => ?_)
    · replace hq := i_t c6 hq
      refine lv_iconst (v := (0 : Int32)) hx hb dX5_isWord_26 (by decide) ?_
      refine lv_istore_n (lv' := [(2, .int (0 : Int32)), (0, .ref a0), (1, .ref a1)]) hx hb dX5_isWord_27 rfl hl (by decide) rfl (fun ls hl => ?_)
      have hl28 : ∀ (K55 : Option Int32) (hK55 : ∀  (H : Heap) (locs : List Loc) (ls : Array Slot), g_at g_no V g D cT f n s H locs → lv_has ls 3 [] → K55  = some o → W p l e rm_X5_isWord s m args below meth c H locs 0 0 (MQ below (g_Ri o n) args s 0 0 g_no) (F0 m 55 ls [])) (K63 : Option Int32) (hK63 : ∀  (H : Heap) (locs : List Loc) (ls : Array Slot), g_at g_no V g D cT f n s H locs → lv_has ls 3 [] → K63  = some o → W p l e rm_X5_isWord s m args below meth c H locs 0 0 (MQ below (g_Ri o n) args s 0 0 g_no) (F0 m 63 ls [])) (N : Nat) (x0 : Nat) (x1 : Nat) (x2 : Int32) (H : Heap) (locs : List Loc) (ls : Array Slot), g_at g_no V g D cT f n s H locs → lv_has ls 3 [(0, .ref x0), (1, .ref x1), (2, .int x2)] → p_X5_isWord_l28 V g f K55 K63 N x0 x1 x2 = some o → W p l e rm_X5_isWord s m args below meth c H locs 0 0 (MQ below (g_Ri o n) args s 0 0 g_no) (F0 m 28 ls []) := by
        intro K55 hK55 K63 hK63 N
        induction N with
        | zero =>
          intro x0 x1 x2 H locs ls hI hl hq
          rw [p_X5_isWord_l28] at hq
          cases hq
        | succ N ih =>
          intro x0 x1 x2 H locs ls hI hl hq
          rw [p_X5_isWord_l28] at hq
          refine lv_iload_n hx hb dX5_isWord_28 rfl (lv_at hl 2 rfl) ?_
          refine lv_aload_n hx hb dX5_isWord_29 rfl (lv_at hl 1 rfl) ?_
          obtain ⟨v7, ev7, hq⟩ := b_s hq
          refine gr_i (g_runVs (As := []) (rest := [.int x2]) (ci := 51) hC (c_J0_length_8abf5 l V g D cT f n x1 v7 ev7) k_J0_length_8abf5 m_403 rfl rfl ⟨Nat.le_of_ble_eq_true rfl, Nat.le_of_ble_eq_true rfl⟩ hI rfl (h_me_eq ev7).1 rfl hl.1 rfl (Nat.le_of_ble_eq_true rfl) dX5_isWord_30 ⟨by decide, by decide⟩) hI (fun H locs hI => ?_)
          refine lv_icmp_ge (tgt := 63) hx hb dX5_isWord_33 (by decide) (fun c8 => ?_) (fun c8 => ?_)
          · replace hq := i_t c8 hq
            exact hK63  H locs ls hI (lv_sub hl [] rfl) hq
          · replace hq := i_f c8 hq
            refine lv_aload_n hx hb dX5_isWord_36 rfl (lv_at hl 0 rfl) ?_
            obtain ⟨v9, ev9, hq⟩ := b_s hq
            refine fa_gr (own := RX5) (ref := "CoastlineRuler$Tokens") (k := 0) hx hb hB inB_RX5 hown hI rfl (by decide) m_107 (fun _ h9 => h9) ev9 dX5_isWord_37 ?_
            refine lv_aload_n hx hb dX5_isWord_40 rfl (lv_at hl 0 rfl) ?_
            obtain ⟨v10, ev10, hq⟩ := b_s hq
            refine fa_gi (own := RX5) (ref := "CoastlineRuler$Tokens") (k := 4) hx hb hB inB_RX5 hown hI rfl (by decide) m_113 (fun _ h9 => h9) ev10 dX5_isWord_41 ?_
            refine lv_iload_n hx hb dX5_isWord_44 rfl (lv_at hl 2 rfl) ?_
            refine lv_iadd hx hb dX5_isWord_45 ?_
            obtain ⟨v11, ev11, hq⟩ := b_s hq
            refine fa_lb hx hb hI ev11 dX5_isWord_46 ?_
            refine lv_aload_n hx hb dX5_isWord_47 rfl (lv_at hl 1 rfl) ?_
            refine lv_iload_n hx hb dX5_isWord_48 rfl (lv_at hl 2 rfl) ?_
            obtain ⟨v12, ev12, hq⟩ := b_s hq
            refine gr_i (g_runVs (As := [.int x2]) (rest := [.int v11]) (ci := 51) hC (c_J0_charAt_5068e l V g D cT f n x1 x2 v12 ev12) k_J0_charAt_5068e m_412 rfl rfl ⟨Nat.le_of_ble_eq_true rfl, Nat.le_of_ble_eq_true rfl⟩ hI rfl (h_me_eq ev12).1 rfl hl.1 rfl (Nat.le_of_ble_eq_true rfl) dX5_isWord_49 ⟨by decide, by decide⟩) hI (fun H locs hI => ?_)
            refine lv_icmp_eq (tgt := 57) hx hb dX5_isWord_52 (by decide) (fun c13 => ?_) (fun c13 => ?_)
            · replace hq := i_t c13 hq
              refine lv_iinc (v := x2 + (1 : Int32)) (lv' := [(2, .int (x2 + (1 : Int32))), (0, .ref x0), (1, .ref x1)]) hx hb dX5_isWord_57 hl (k := 2) rfl rfl (by decide) rfl (fun ls hl => ?_)
              refine lv_goto (tgt := 28) hx hb dX5_isWord_60 (by decide) ?_
              exact ih x0 x1 (x2 + (1 : Int32)) H locs ls hI (lv_sub hl [1, 2, 0] rfl) hq
            · replace hq := i_f c13 hq
              exact hK55  H locs ls hI (lv_sub hl [] rfl) hq
      refine hl28 _ ?_ _ ?_ FU a0 a1 (0 : Int32) H locs ls hI (lv_sub hl [1, 2, 0] rfl) hq
      · intro  H locs ls hI hl hq
        refine lv_iconst (v := (0 : Int32)) hx hb dX5_isWord_55 (by decide) ?_
        exact ge_Ri hx hb hlocks hr (by decide +kernel) hI hq dX5_isWord_56
      · intro  H locs ls hI hl hq
        refine lv_iconst (v := (1 : Int32)) hx hb dX5_isWord_63 (by decide) ?_
        exact ge_Ri hx hb hlocks hr (by decide +kernel) hI hq dX5_isWord_64
    · replace hq := i_f c6 hq
      refine lv_iconst (v := (0 : Int32)) hx hb dX5_isWord_24 (by decide) ?_
      exact ge_Ri hx hb hlocks hr (by decide +kernel) hI hq dX5_isWord_25

abbrev rm_X4_takeWord : Room := { frames := 7, cells := 0, slots := 0, locals := 227 }
theorem k_X4_takeWord : g_CV yX4_takeWord cX4_takeWord 2 (some .boolean) 1 := ⟨⟨m_398, m_5, by decide +kernel⟩, m_397, ms_3⟩
set_option maxHeartbeats 4000000 in
set_option maxRecDepth 100000 in
theorem c_X4_takeWord (l : Launch) (V : Nat → Nat) (g : GH) (D : va_G) (cT : Nat → ClassId) (f : GH) (n : Nat) (a0 : Nat) (a1 : Nat) (o : Int32 × GH) (hq : p_X4_takeWord V g f a0 a1 = some o) : Met l yX4_takeWord (Cond.code yX4_takeWord cX4_takeWord 2 (some .boolean) :: g_B) rm_X4_takeWord (va_Pc [.ref a0, .ref a1] (g_I V g D cT f n)) (g_Wi V D cT o.1 o.2 n) 0 0 (g_A V) := by
  refine g_begin (own := RX4) [.ref a0, .ref a1] [(0, .ref a0), (1, .ref a1)] (g_A V) (fun _ h => h) (by decide) rfl (Nat.le_of_ble_eq_true rfl) rfl ?_
  intro p e s m args below meth c hx hb hr hlocks hin hC hI ls hl
  obtain ⟨hx, hb, hml, hown, hB⟩ := id hC
  obtain ⟨H, hH⟩ : ∃ H, H = s.heap := ⟨_, rfl⟩
  obtain ⟨locs, hlocs⟩ : ∃ L : List Loc, L = [] := ⟨_, rfl⟩
  rw [← hH, ← hlocs] at hI ⊢
  clear hH hlocs
  unfold p_X4_takeWord at hq
  replace hq := (h_me_eq hq).2
  refine lv_aload_n hx hb dX4_takeWord_0 rfl (lv_at hl 0 rfl) ?_
  obtain ⟨v1, ev1, hq⟩ := b_s hq
  refine fa_gr (own := RX4) (ref := "CoastlineRuler$Grammar") (k := 0) hx hb hB inB_RX4 hown hI rfl (by decide) m_136 (fun _ h9 => h9) ev1 dX4_takeWord_1 ?_
  refine lv_aload_n hx hb dX4_takeWord_4 rfl (lv_at hl 1 rfl) ?_
  obtain ⟨v2, ev2, hq⟩ := b_s hq
  refine gr_i (g_runV (As := [.ref a1]) (rest := []) (ci := 8) hC (c_X5_isWord l V g D cT f n v1 a1 v2 ev2) k_X5_isWord m_399 rfl rfl ⟨Nat.le_of_ble_eq_true rfl, Nat.le_of_ble_eq_true rfl⟩ hI rfl rfl (h_me_eq ev2).1 rfl hl.1 rfl (Nat.le_of_ble_eq_true rfl) dX4_takeWord_5 ⟨by decide, by decide⟩) hI (fun H locs hI => ?_)
  refine lv_if_ne (tgt := 17) hx hb dX4_takeWord_8 (by decide) (fun c3 => ?_) (fun c3 => ?_)
  · replace hq := i_f c3 hq
    refine lv_aload_n hx hb dX4_takeWord_17 rfl (lv_at hl 0 rfl) ?_
    obtain ⟨v4, ev4, hq⟩ := b_s hq
    refine fa_gr (own := RX4) (ref := "CoastlineRuler$Grammar") (k := 0) hx hb hB inB_RX4 hown hI rfl (by decide) m_136 (fun _ h9 => h9) ev4 dX4_takeWord_18 ?_
    obtain ⟨v5, ev5, hq⟩ := b_s hq
    refine gw_v (g_runV (As := []) (rest := []) (ci := 8) hC (c_X5_advance l V g D cT f n v4 v5 ev5) k_X5_advance m_454 rfl rfl ⟨Nat.le_of_ble_eq_true rfl, Nat.le_of_ble_eq_true rfl⟩ hI rfl rfl (h_me_eq ev5).1 rfl hl.1 rfl (Nat.le_of_ble_eq_true rfl) dX4_takeWord_21 ⟨by decide, by decide⟩) hI (fun H locs hI => ?_)
    refine lv_iconst (v := (1 : Int32)) hx hb dX4_takeWord_24 (by decide) ?_
    exact ge_Wi hx hb hlocks hr (by decide +kernel) hI (congrArg (fun z => z.1) (Option.some.inj hq)) (congrArg (fun z => z.2) (Option.some.inj hq)) dX4_takeWord_25
  · replace hq := i_t c3 hq
    refine lv_aload_n hx hb dX4_takeWord_11 rfl (lv_at hl 0 rfl) ?_
    refine lv_iconst (v := (1 : Int32)) hx hb dX4_takeWord_12 (by decide) ?_
    obtain ⟨v6, ev6, hq⟩ := b_s hq
    refine gw_i (g_runV (As := [.int (1 : Int32)]) (rest := []) (ci := 7) hC (c_X4_fail l V g D cT f n a0 (1 : Int32) v6 ev6) k_X4_fail m_450 rfl rfl ⟨Nat.le_of_ble_eq_true rfl, Nat.le_of_ble_eq_true rfl⟩ hI rfl rfl (h_me_eq ev6).1 rfl hl.1 rfl (Nat.le_of_ble_eq_true rfl) dX4_takeWord_13 ⟨by decide, by decide⟩) hI (fun H locs hI => ?_)
    obtain ⟨_, ev7, hq⟩ := b_s hq
    exact ge_Wi hx hb hlocks hr (h_bz_eq ev7).2.1 hI (congrArg (fun z => z.1) (Option.some.inj hq)) (congrArg (fun z => z.2) (Option.some.inj hq)) dX4_takeWord_16

abbrev rm_X4_readCoast : Room := { frames := 8, cells := 0, slots := 0, locals := 248 }
theorem k_X4_readCoast : g_CV yX4_readCoast cX4_readCoast 4 (some .boolean) 1 := ⟨⟨m_468, m_5, by decide +kernel⟩, m_467, ms_7⟩
set_option maxHeartbeats 4000000 in
set_option maxRecDepth 100000 in
theorem c_X4_readCoast (l : Launch) (V : Nat → Nat) (g : GH) (D : va_G) (cT : Nat → ClassId) (f : GH) (n : Nat) (a0 : Nat) (a1 : Nat) (o : Int32 × GH) (hq : p_X4_readCoast V g f a0 a1 = some o) : Met l yX4_readCoast (Cond.code yX4_readCoast cX4_readCoast 4 (some .boolean) :: g_B) rm_X4_readCoast (va_Pc [.ref a0, .ref a1] (g_I V g D cT f n)) (g_Wi V D cT o.1 o.2 n) 0 0 (g_A V) := by
  refine g_begin (own := RX4) [.ref a0, .ref a1] [(0, .ref a0), (1, .ref a1)] (g_A V) (fun _ h => h) (by decide) rfl (Nat.le_of_ble_eq_true rfl) rfl ?_
  intro p e s m args below meth c hx hb hr hlocks hin hC hI ls hl
  obtain ⟨hx, hb, hml, hown, hB⟩ := id hC
  obtain ⟨H, hH⟩ : ∃ H, H = s.heap := ⟨_, rfl⟩
  obtain ⟨locs, hlocs⟩ : ∃ L : List Loc, L = [] := ⟨_, rfl⟩
  rw [← hH, ← hlocs] at hI ⊢
  clear hH hlocs
  unfold p_X4_readCoast at hq
  replace hq := (h_me_eq hq).2
  refine lv_aload_n hx hb dX4_readCoast_0 rfl (lv_at hl 1 rfl) ?_
  refine lv_aload_n hx hb dX4_readCoast_1 rfl (lv_at hl 0 rfl) ?_
  obtain ⟨v1, ev1, hq⟩ := b_s hq
  refine fa_gr (own := RX4) (ref := "CoastlineRuler$Grammar") (k := 0) hx hb hB inB_RX4 hown hI rfl (by decide) m_136 (fun _ h9 => h9) ev1 dX4_readCoast_2 ?_
  refine lv_ldcS hx hb hown (g_rtq hI rt_4) dX4_readCoast_5 ?_
  obtain ⟨v2, ev2, hq⟩ := b_s hq
  refine gr_i (g_runV (As := [.ref (V 26)]) (rest := [.ref a1]) (ci := 8) hC (c_X5_isWord l V g D cT f n v1 (V 26) v2 ev2) k_X5_isWord m_399 rfl rfl ⟨Nat.le_of_ble_eq_true rfl, Nat.le_of_ble_eq_true rfl⟩ hI rfl rfl (h_me_eq ev2).1 rfl hl.1 rfl (Nat.le_of_ble_eq_true rfl) dX4_readCoast_7 ⟨by decide, by decide⟩) hI (fun H locs hI => ?_)
  obtain ⟨_, ev3, hq⟩ := b_s hq
  obtain ⟨f4, ef4, hq⟩ := b_s hq
  refine fa_pt (own := RX4) (ref := "CoastlineRuler$Coast") (k := 3) hx hb hB inB_RX2 tyX2_ok nmX2 hown hI rfl (by decide) m_61 (fun _ h9 => h9) (by decide) (h_bz_eq ev3).2.1 (h_bz_eq ev3).2.2 ef4 dX4_readCoast_10 (fun H locs hI => ?_)
  refine lv_aload_n hx hb dX4_readCoast_13 rfl (lv_at hl 1 rfl) ?_
  refine lv_iconst (v := (0 : Int32)) hx hb dX4_readCoast_14 (by decide) ?_
  obtain ⟨f5, ef5, hq⟩ := b_s hq
  refine fa_pt (own := RX4) (ref := "CoastlineRuler$Coast") (k := 2) hx hb hB inB_RX2 tyX2_ok nmX2 hown hI rfl (by decide) m_57 (fun _ h9 => h9) (by decide) rfl rfl ef5 dX4_readCoast_15 (fun H locs hI => ?_)
  refine lv_aload_n hx hb dX4_readCoast_18 rfl (lv_at hl 0 rfl) ?_
  refine lv_aload_n hx hb dX4_readCoast_19 rfl (lv_at hl 1 rfl) ?_
  obtain ⟨v6, ev6, hq⟩ := b_s hq
  refine fa_gi (own := RX4) (ref := "CoastlineRuler$Coast") (k := 3) hx hb hB inB_RX2 hown hI rfl (by decide) m_61 (fun _ h9 => h9) ev6 dX4_readCoast_20 ?_
  have hj33 : ∀ (x0 : Nat) (x1 : Nat) (t0 : Nat) (t1 : Nat) (f : GH) (H : Heap) (locs : List Loc) (ls : Array Slot), g_at (g_A V) V g D cT f n s H locs → lv_has ls 4 [(0, .ref x0), (1, .ref x1)] → p_X4_readCoast_j33 V g x0 x1 t0 t1 f = some o → W p l e rm_X4_readCoast s m args below meth c H locs 0 0 (MQ below (g_Wi V D cT o.1 o.2 n) args s 0 0 (g_A V)) (F0 m 33 ls [.ref t0, .ref t1]) := by
    intro x0 x1 t0 t1 f H locs ls hI hl hq
    unfold p_X4_readCoast_j33 at hq
    obtain ⟨v7, ev7, hq⟩ := b_s hq
    refine gw_i (g_runV (As := [.ref t0]) (rest := []) (ci := 7) hC (c_X4_takeWord l V g D cT f n t1 t0 v7 ev7) k_X4_takeWord m_395 rfl rfl ⟨Nat.le_of_ble_eq_true rfl, Nat.le_of_ble_eq_true rfl⟩ hI rfl rfl (h_me_eq ev7).1 rfl hl.1 rfl (Nat.le_of_ble_eq_true rfl) dX4_readCoast_33 ⟨by decide, by decide⟩) hI (fun H locs hI => ?_)
    refine lv_if_ne (tgt := 41) hx hb dX4_readCoast_36 (by decide) (fun c8 => ?_) (fun c8 => ?_)
    · replace hq := i_f c8 hq
      refine lv_iconst (v := (0 : Int32)) hx hb dX4_readCoast_41 (by decide) ?_
      refine lv_istore_n (lv' := [(2, .int (0 : Int32)), (0, .ref x0), (1, .ref x1)]) hx hb dX4_readCoast_42 rfl hl (by decide) rfl (fun ls hl => ?_)
      have hl43 : ∀ (K62 : GH → Option (Int32 × GH)) (hK62 : ∀ (f : GH) (H : Heap) (locs : List Loc) (ls : Array Slot), g_at (g_A V) V g D cT f n s H locs → lv_has ls 4 [] → K62 f = some o → W p l e rm_X4_readCoast s m args below meth c H locs 0 0 (MQ below (g_Wi V D cT o.1 o.2 n) args s 0 0 (g_A V)) (F0 m 62 ls [])) (K82 : GH → Option (Int32 × GH)) (hK82 : ∀ (f : GH) (H : Heap) (locs : List Loc) (ls : Array Slot), g_at (g_A V) V g D cT f n s H locs → lv_has ls 4 [] → K82 f = some o → W p l e rm_X4_readCoast s m args below meth c H locs 0 0 (MQ below (g_Wi V D cT o.1 o.2 n) args s 0 0 (g_A V)) (F0 m 82 ls [])) (K108 : Nat → Nat → GH → Option (Int32 × GH)) (hK108 : ∀ (x0 : Nat) (x1 : Nat) (f : GH) (H : Heap) (locs : List Loc) (ls : Array Slot), g_at (g_A V) V g D cT f n s H locs → lv_has ls 4 [(0, .ref x0), (1, .ref x1)] → K108 x0 x1 f = some o → W p l e rm_X4_readCoast s m args below meth c H locs 0 0 (MQ below (g_Wi V D cT o.1 o.2 n) args s 0 0 (g_A V)) (F0 m 108 ls [])) (K146 : Nat → GH → Option (Int32 × GH)) (hK146 : ∀ (x0 : Nat) (f : GH) (H : Heap) (locs : List Loc) (ls : Array Slot), g_at (g_A V) V g D cT f n s H locs → lv_has ls 4 [(0, .ref x0)] → K146 x0 f = some o → W p l e rm_X4_readCoast s m args below meth c H locs 0 0 (MQ below (g_Wi V D cT o.1 o.2 n) args s 0 0 (g_A V)) (F0 m 146 ls [])) (N : Nat) (x0 : Nat) (x1 : Nat) (x2 : Int32) (f : GH) (H : Heap) (locs : List Loc) (ls : Array Slot), g_at (g_A V) V g D cT f n s H locs → lv_has ls 4 [(0, .ref x0), (1, .ref x1), (2, .int x2)] → p_X4_readCoast_l43 V g K62 K82 K108 K146 N x0 x1 x2 f = some o → W p l e rm_X4_readCoast s m args below meth c H locs 0 0 (MQ below (g_Wi V D cT o.1 o.2 n) args s 0 0 (g_A V)) (F0 m 43 ls []) := by
        intro K62 hK62 K82 hK82 K108 hK108 K146 hK146 N
        induction N with
        | zero =>
          intro x0 x1 x2 f H locs ls hI hl hq
          rw [p_X4_readCoast_l43] at hq
          cases hq
        | succ N ih =>
          intro x0 x1 x2 f H locs ls hI hl hq
          rw [p_X4_readCoast_l43] at hq
          refine lv_iload_n hx hb dX4_readCoast_43 rfl (lv_at hl 2 rfl) ?_
          refine lv_bipush (v := (33 : Int32)) hx hb dX4_readCoast_44 (by decide) ?_
          refine lv_icmp_ge (tgt := 146) hx hb dX4_readCoast_46 (by decide) (fun c9 => ?_) (fun c9 => ?_)
          · replace hq := i_t c9 hq
            exact hK146 x0 f H locs ls hI (lv_sub hl [0] rfl) hq
          · replace hq := i_f c9 hq
            refine lv_aload_n hx hb dX4_readCoast_49 rfl (lv_at hl 0 rfl) ?_
            refine lv_sipush (v := (-1000 : Int32)) hx hb dX4_readCoast_50 (by decide) ?_
            refine lv_sipush (v := (1000 : Int32)) hx hb dX4_readCoast_53 (by decide) ?_
            obtain ⟨v10, ev10, hq⟩ := b_s hq
            refine gw_i (g_runV (As := [.int (-1000 : Int32), .int (1000 : Int32)]) (rest := []) (ci := 7) hC (c_X4_readInteger l V g D cT f n x0 (-1000 : Int32) (1000 : Int32) v10 ev10) k_X4_readInteger m_471 rfl rfl ⟨Nat.le_of_ble_eq_true rfl, Nat.le_of_ble_eq_true rfl⟩ hI rfl rfl (h_me_eq ev10).1 rfl hl.1 rfl (Nat.le_of_ble_eq_true rfl) dX4_readCoast_56 ⟨by decide, by decide⟩) hI (fun H locs hI => ?_)
            refine lv_if_ne (tgt := 64) hx hb dX4_readCoast_59 (by decide) (fun c11 => ?_) (fun c11 => ?_)
            · replace hq := i_f c11 hq
              refine lv_aload_n hx hb dX4_readCoast_64 rfl (lv_at hl 0 rfl) ?_
              obtain ⟨v12, ev12, hq⟩ := b_s hq
              refine fa_gi (own := RX4) (ref := "CoastlineRuler$Grammar") (k := 3) hx hb hB inB_RX4 hown hI rfl (by decide) m_140 (fun _ h9 => h9) ev12 dX4_readCoast_65 ?_
              refine lv_istore_n (lv' := [(3, .int v12), (0, .ref x0), (1, .ref x1), (2, .int x2)]) hx hb dX4_readCoast_68 rfl hl (by decide) rfl (fun ls hl => ?_)
              refine lv_aload_n hx hb dX4_readCoast_69 rfl (lv_at hl 1 rfl) ?_
              refine lv_sipush (v := (-1000 : Int32)) hx hb dX4_readCoast_70 (by decide) ?_
              refine lv_sipush (v := (1000 : Int32)) hx hb dX4_readCoast_73 (by decide) ?_
              obtain ⟨v13, ev13, hq⟩ := b_s hq
              refine gw_i (g_runV (As := [.int (-1000 : Int32), .int (1000 : Int32)]) (rest := []) (ci := 7) hC (c_X4_readInteger l V g D cT v10.2 n x0 (-1000 : Int32) (1000 : Int32) v13 ev13) k_X4_readInteger m_471 rfl rfl ⟨Nat.le_of_ble_eq_true rfl, Nat.le_of_ble_eq_true rfl⟩ hI rfl rfl (h_me_eq ev13).1 rfl hl.1 rfl (Nat.le_of_ble_eq_true rfl) dX4_readCoast_76 ⟨by decide, by decide⟩) hI (fun H locs hI => ?_)
              refine lv_if_ne (tgt := 84) hx hb dX4_readCoast_79 (by decide) (fun c14 => ?_) (fun c14 => ?_)
              · replace hq := i_f c14 hq
                refine lv_aload_n hx hb dX4_readCoast_84 rfl (lv_at hl 2 rfl) ?_
                refine lv_aload_n hx hb dX4_readCoast_85 rfl (lv_at hl 2 rfl) ?_
                obtain ⟨v15, ev15, hq⟩ := b_s hq
                refine fa_gi (own := RX4) (ref := "CoastlineRuler$Coast") (k := 2) hx hb hB inB_RX2 hown hI rfl (by decide) m_57 (fun _ h9 => h9) ev15 dX4_readCoast_86 ?_
                refine lv_iload_n hx hb dX4_readCoast_89 rfl (lv_at hl 0 rfl) ?_
                refine lv_aload_n hx hb dX4_readCoast_90 rfl (lv_at hl 1 rfl) ?_
                obtain ⟨v16, ev16, hq⟩ := b_s hq
                refine fa_gi (own := RX4) (ref := "CoastlineRuler$Grammar") (k := 3) hx hb hB inB_RX4 hown hI rfl (by decide) m_140 (fun _ h9 => h9) ev16 dX4_readCoast_91 ?_
                obtain ⟨v17, ev17, hq⟩ := b_s hq
                refine gw_v (g_runV (As := [.int v15, .int v12, .int v16]) (rest := []) (ci := 5) hC (c_X2_insert l V g D cT v13.2 n x1 v15 v12 v16 v17 ev17) k_X2_insert m_480 rfl rfl ⟨Nat.le_of_ble_eq_true rfl, Nat.le_of_ble_eq_true rfl⟩ hI rfl rfl (h_me_eq ev17).1 rfl hl.1 rfl (Nat.le_of_ble_eq_true rfl) dX4_readCoast_94 ⟨by decide, by decide⟩) hI (fun H locs hI => ?_)
                refine lv_aload_n hx hb dX4_readCoast_97 rfl (lv_at hl 1 rfl) ?_
                obtain ⟨v18, ev18, hq⟩ := b_s hq
                refine fa_gr (own := RX4) (ref := "CoastlineRuler$Grammar") (k := 0) hx hb hB inB_RX4 hown hI rfl (by decide) m_136 (fun _ h9 => h9) ev18 dX4_readCoast_98 ?_
                obtain ⟨v19, ev19, hq⟩ := b_s hq
                refine fa_gi (own := RX4) (ref := "CoastlineRuler$Tokens") (k := 3) hx hb hB inB_RX5 hown hI rfl (by decide) m_111 (fun _ h9 => h9) ev19 dX4_readCoast_101 ?_
                refine lv_iconst (v := (4 : Int32)) hx hb dX4_readCoast_104 (by decide) ?_
                refine lv_icmp_eq (tgt := 133) hx hb dX4_readCoast_105 (by decide) (fun c20 => ?_) (fun c20 => ?_)
                · replace hq := i_t c20 hq
                  refine lv_aload_n hx hb dX4_readCoast_133 rfl (lv_at hl 1 rfl) ?_
                  obtain ⟨v21, ev21, hq⟩ := b_s hq
                  refine fa_gr (own := RX4) (ref := "CoastlineRuler$Grammar") (k := 0) hx hb hB inB_RX4 hown hI rfl (by decide) m_136 (fun _ h9 => h9) ev21 dX4_readCoast_134 ?_
                  obtain ⟨v22, ev22, hq⟩ := b_s hq
                  refine gw_v (g_runV (As := []) (rest := []) (ci := 8) hC (c_X5_advance l V g D cT v17 n v21 v22 ev22) k_X5_advance m_454 rfl rfl ⟨Nat.le_of_ble_eq_true rfl, Nat.le_of_ble_eq_true rfl⟩ hI rfl rfl (h_me_eq ev22).1 rfl hl.1 rfl (Nat.le_of_ble_eq_true rfl) dX4_readCoast_137 ⟨by decide, by decide⟩) hI (fun H locs hI => ?_)
                  refine lv_iinc (v := x2 + (1 : Int32)) (lv' := [(2, .int (x2 + (1 : Int32))), (3, .int v12), (0, .ref x0), (1, .ref x1)]) hx hb dX4_readCoast_140 hl (k := 3) rfl rfl (by decide) rfl (fun ls hl => ?_)
                  refine lv_goto (tgt := 43) hx hb dX4_readCoast_143 (by decide) ?_
                  exact ih x0 x1 (x2 + (1 : Int32)) v22 H locs ls hI (lv_sub hl [2, 3, 0] rfl) hq
                · replace hq := i_f c20 hq
                  exact hK108 x0 x1 v17 H locs ls hI (lv_sub hl [1, 2] rfl) hq
              · replace hq := i_t c14 hq
                exact hK82 v13.2 H locs ls hI (lv_sub hl [] rfl) hq
            · replace hq := i_t c11 hq
              exact hK62 v10.2 H locs ls hI (lv_sub hl [] rfl) hq
      refine hl43 _ ?_ _ ?_ _ ?_ _ ?_ FU x0 x1 (0 : Int32) v7.2 H locs ls hI (lv_sub hl [1, 2, 0] rfl) hq
      · intro f H locs ls hI hl hq
        refine lv_iconst (v := (0 : Int32)) hx hb dX4_readCoast_62 (by decide) ?_
        exact ge_Wi hx hb hlocks hr (by decide +kernel) hI (congrArg (fun z => z.1) (Option.some.inj hq)) (congrArg (fun z => z.2) (Option.some.inj hq)) dX4_readCoast_63
      · intro f H locs ls hI hl hq
        refine lv_iconst (v := (0 : Int32)) hx hb dX4_readCoast_82 (by decide) ?_
        exact ge_Wi hx hb hlocks hr (by decide +kernel) hI (congrArg (fun z => z.1) (Option.some.inj hq)) (congrArg (fun z => z.2) (Option.some.inj hq)) dX4_readCoast_83
      · intro x0 x1 f H locs ls hI hl hq
        refine lv_aload_n hx hb dX4_readCoast_108 rfl (lv_at hl 1 rfl) ?_
        obtain ⟨v23, ev23, hq⟩ := b_s hq
        refine fa_gi (own := RX4) (ref := "CoastlineRuler$Coast") (k := 2) hx hb hB inB_RX2 hown hI rfl (by decide) m_57 (fun _ h9 => h9) ev23 dX4_readCoast_109 ?_
        refine lv_aload_n hx hb dX4_readCoast_112 rfl (lv_at hl 1 rfl) ?_
        obtain ⟨v24, ev24, hq⟩ := b_s hq
        refine gr_i (g_runV (As := []) (rest := [.int v23]) (ci := 5) hC (c_X2_neededPoints l V g D cT f n x1 v24 ev24) k_X2_neededPoints m_481 rfl rfl ⟨Nat.le_of_ble_eq_true rfl, Nat.le_of_ble_eq_true rfl⟩ hI rfl rfl (h_me_eq ev24).1 rfl hl.1 rfl (Nat.le_of_ble_eq_true rfl) dX4_readCoast_113 ⟨by decide, by decide⟩) hI (fun H locs hI => ?_)
        refine lv_icmp_ge (tgt := 127) hx hb dX4_readCoast_116 (by decide) (fun c25 => ?_) (fun c25 => ?_)
        · replace hq := i_t c25 hq
          refine lv_iconst (v := (1 : Int32)) hx hb dX4_readCoast_127 (by decide) ?_
          refine lv_goto (tgt := 132) hx hb dX4_readCoast_128 (by decide) ?_
          exact ge_Wi hx hb hlocks hr (by decide +kernel) hI (congrArg (fun z => z.1) (Option.some.inj hq)) (congrArg (fun z => z.2) (Option.some.inj hq)) dX4_readCoast_132
        · replace hq := i_f c25 hq
          refine lv_aload_n hx hb dX4_readCoast_119 rfl (lv_at hl 0 rfl) ?_
          refine lv_iconst (v := (1 : Int32)) hx hb dX4_readCoast_120 (by decide) ?_
          obtain ⟨v26, ev26, hq⟩ := b_s hq
          refine gw_i (g_runV (As := [.int (1 : Int32)]) (rest := []) (ci := 7) hC (c_X4_fail l V g D cT f n x0 (1 : Int32) v26 ev26) k_X4_fail m_450 rfl rfl ⟨Nat.le_of_ble_eq_true rfl, Nat.le_of_ble_eq_true rfl⟩ hI rfl rfl (h_me_eq ev26).1 rfl hl.1 rfl (Nat.le_of_ble_eq_true rfl) dX4_readCoast_121 ⟨by decide, by decide⟩) hI (fun H locs hI => ?_)
          refine lv_if_eq (tgt := 131) hx hb dX4_readCoast_124 (by decide) (fun c27 => ?_) (fun c27 => ?_)
          · replace hq := i_t c27 hq
            refine lv_iconst (v := (0 : Int32)) hx hb dX4_readCoast_131 (by decide) ?_
            exact ge_Wi hx hb hlocks hr (by decide +kernel) hI (congrArg (fun z => z.1) (Option.some.inj hq)) (congrArg (fun z => z.2) (Option.some.inj hq)) dX4_readCoast_132
          · replace hq := i_f c27 hq
            refine lv_iconst (v := (1 : Int32)) hx hb dX4_readCoast_127 (by decide) ?_
            refine lv_goto (tgt := 132) hx hb dX4_readCoast_128 (by decide) ?_
            exact ge_Wi hx hb hlocks hr (by decide +kernel) hI (congrArg (fun z => z.1) (Option.some.inj hq)) (congrArg (fun z => z.2) (Option.some.inj hq)) dX4_readCoast_132
      · intro x0 f H locs ls hI hl hq
        refine lv_aload_n hx hb dX4_readCoast_146 rfl (lv_at hl 0 rfl) ?_
        obtain ⟨v28, ev28, hq⟩ := b_s hq
        refine gw_i (g_runV (As := []) (rest := []) (ci := 7) hC (c_X4_refusePoint l V g D cT f n x0 v28 ev28) k_X4_refusePoint m_485 rfl rfl ⟨Nat.le_of_ble_eq_true rfl, Nat.le_of_ble_eq_true rfl⟩ hI rfl rfl (h_me_eq ev28).1 rfl hl.1 rfl (Nat.le_of_ble_eq_true rfl) dX4_readCoast_147 ⟨by decide, by decide⟩) hI (fun H locs hI => ?_)
        obtain ⟨_, ev29, hq⟩ := b_s hq
        exact ge_Wi hx hb hlocks hr (h_bz_eq ev29).2.1 hI (congrArg (fun z => z.1) (Option.some.inj hq)) (congrArg (fun z => z.2) (Option.some.inj hq)) dX4_readCoast_150
    · replace hq := i_t c8 hq
      refine lv_iconst (v := (0 : Int32)) hx hb dX4_readCoast_39 (by decide) ?_
      exact ge_Wi hx hb hlocks hr (by decide +kernel) hI (congrArg (fun z => z.1) (Option.some.inj hq)) (congrArg (fun z => z.2) (Option.some.inj hq)) dX4_readCoast_40
  refine lv_if_eq (tgt := 31) hx hb dX4_readCoast_23 (by decide) (fun c30 => ?_) (fun c30 => ?_)
  · replace hq := i_t c30 hq
    refine lv_ldcS hx hb hown (g_rtq hI rt_5) dX4_readCoast_31 ?_
    exact hj33 a0 a1 (V 27) a0 f5 H locs ls hI (lv_sub hl [0, 1] rfl) hq
  · replace hq := i_f c30 hq
    refine lv_ldcS hx hb hown (g_rtq hI rt_4) dX4_readCoast_26 ?_
    refine lv_goto (tgt := 33) hx hb dX4_readCoast_28 (by decide) ?_
    exact hj33 a0 a1 (V 26) a0 f5 H locs ls hI (lv_sub hl [0, 1] rfl) hq

abbrev rm_X4_readMetric : Room := { frames := 8, cells := 0, slots := 0, locals := 248 }
theorem k_X4_readMetric : g_CV yX4_readMetric cX4_readMetric 1 (some .boolean) 0 := ⟨⟨m_458, m_5, by decide +kernel⟩, m_457, ms_5⟩
set_option maxHeartbeats 4000000 in
set_option maxRecDepth 100000 in
theorem c_X4_readMetric (l : Launch) (V : Nat → Nat) (g : GH) (D : va_G) (cT : Nat → ClassId) (f : GH) (n : Nat) (a0 : Nat) (o : Int32 × GH) (hq : p_X4_readMetric V g f a0 = some o) : Met l yX4_readMetric (Cond.code yX4_readMetric cX4_readMetric 1 (some .boolean) :: g_B) rm_X4_readMetric (va_Pc [.ref a0] (g_I V g D cT f n)) (g_Wi V D cT o.1 o.2 n) 0 0 (g_A V) := by
  refine g_begin (own := RX4) [.ref a0] [(0, .ref a0)] (g_A V) (fun _ h => h) (by decide) rfl (Nat.le_of_ble_eq_true rfl) rfl ?_
  intro p e s m args below meth c hx hb hr hlocks hin hC hI ls hl
  obtain ⟨hx, hb, hml, hown, hB⟩ := id hC
  obtain ⟨H, hH⟩ : ∃ H, H = s.heap := ⟨_, rfl⟩
  obtain ⟨locs, hlocs⟩ : ∃ L : List Loc, L = [] := ⟨_, rfl⟩
  rw [← hH, ← hlocs] at hI ⊢
  clear hH hlocs
  unfold p_X4_readMetric at hq
  replace hq := (h_me_eq hq).2
  refine lv_aload_n hx hb dX4_readMetric_0 rfl (lv_at hl 0 rfl) ?_
  refine lv_aload_n hx hb dX4_readMetric_1 rfl (lv_at hl 0 rfl) ?_
  obtain ⟨v1, ev1, hq⟩ := b_s hq
  refine fa_gr (own := RX4) (ref := "CoastlineRuler$Grammar") (k := 0) hx hb hB inB_RX4 hown hI rfl (by decide) m_136 (fun _ h9 => h9) ev1 dX4_readMetric_2 ?_
  refine lv_ldcS hx hb hown (g_rtq hI rt_2) dX4_readMetric_5 ?_
  obtain ⟨v2, ev2, hq⟩ := b_s hq
  refine gr_i (g_runV (As := [.ref (V 24)]) (rest := [.ref a0]) (ci := 8) hC (c_X5_isWord l V g D cT f n v1 (V 24) v2 ev2) k_X5_isWord m_399 rfl rfl ⟨Nat.le_of_ble_eq_true rfl, Nat.le_of_ble_eq_true rfl⟩ hI rfl rfl (h_me_eq ev2).1 rfl hl.1 rfl (Nat.le_of_ble_eq_true rfl) dX4_readMetric_7 ⟨by decide, by decide⟩) hI (fun H locs hI => ?_)
  obtain ⟨_, ev3, hq⟩ := b_s hq
  obtain ⟨f4, ef4, hq⟩ := b_s hq
  refine fa_pt (own := RX4) (ref := "CoastlineRuler$Grammar") (k := 4) hx hb hB inB_RX4 tyX4_ok nmX4 hown hI rfl (by decide) m_141 (fun _ h9 => h9) (by decide) (h_bz_eq ev3).2.1 (h_bz_eq ev3).2.2 ef4 dX4_readMetric_10 (fun H locs hI => ?_)
  refine lv_aload_n hx hb dX4_readMetric_13 rfl (lv_at hl 0 rfl) ?_
  refine lv_aload_n hx hb dX4_readMetric_14 rfl (lv_at hl 0 rfl) ?_
  obtain ⟨v5, ev5, hq⟩ := b_s hq
  refine fa_gi (own := RX4) (ref := "CoastlineRuler$Grammar") (k := 4) hx hb hB inB_RX4 hown hI rfl (by decide) m_141 (fun _ h9 => h9) ev5 dX4_readMetric_15 ?_
  refine lv_if_eq (tgt := 26) hx hb dX4_readMetric_18 (by decide) (fun c6 => ?_) (fun c6 => ?_)
  · replace hq := i_t c6 hq
    refine lv_ldcS hx hb hown (g_rtq hI rt_3) dX4_readMetric_26 ?_
    obtain ⟨v7, ev7, hq⟩ := b_s hq
    refine gw_i (g_runV (As := [.ref (V 25)]) (rest := []) (ci := 7) hC (c_X4_takeWord l V g D cT f4 n a0 (V 25) v7 ev7) k_X4_takeWord m_395 rfl rfl ⟨Nat.le_of_ble_eq_true rfl, Nat.le_of_ble_eq_true rfl⟩ hI rfl rfl (h_me_eq ev7).1 rfl hl.1 rfl (Nat.le_of_ble_eq_true rfl) dX4_readMetric_28 ⟨by decide, by decide⟩) hI (fun H locs hI => ?_)
    obtain ⟨_, ev8, hq⟩ := b_s hq
    exact ge_Wi hx hb hlocks hr (h_bz_eq ev8).2.1 hI (congrArg (fun z => z.1) (Option.some.inj hq)) (congrArg (fun z => z.2) (Option.some.inj hq)) dX4_readMetric_31
  · replace hq := i_f c6 hq
    refine lv_ldcS hx hb hown (g_rtq hI rt_2) dX4_readMetric_21 ?_
    refine lv_goto (tgt := 28) hx hb dX4_readMetric_23 (by decide) ?_
    obtain ⟨v9, ev9, hq⟩ := b_s hq
    refine gw_i (g_runV (As := [.ref (V 24)]) (rest := []) (ci := 7) hC (c_X4_takeWord l V g D cT f4 n a0 (V 24) v9 ev9) k_X4_takeWord m_395 rfl rfl ⟨Nat.le_of_ble_eq_true rfl, Nat.le_of_ble_eq_true rfl⟩ hI rfl rfl (h_me_eq ev9).1 rfl hl.1 rfl (Nat.le_of_ble_eq_true rfl) dX4_readMetric_28 ⟨by decide, by decide⟩) hI (fun H locs hI => ?_)
    obtain ⟨_, ev10, hq⟩ := b_s hq
    exact ge_Wi hx hb hlocks hr (h_bz_eq ev10).2.1 hI (congrArg (fun z => z.1) (Option.some.inj hq)) (congrArg (fun z => z.2) (Option.some.inj hq)) dX4_readMetric_31

abbrev rm_X4_take : Room := { frames := 4, cells := 0, slots := 0, locals := 163 }
theorem k_X4_take : g_CV yX4_take cX4_take 2 (some .boolean) 1 := ⟨⟨m_464, m_5, by decide +kernel⟩, m_463, ms_6⟩
set_option maxHeartbeats 4000000 in
set_option maxRecDepth 100000 in
theorem c_X4_take (l : Launch) (V : Nat → Nat) (g : GH) (D : va_G) (cT : Nat → ClassId) (f : GH) (n : Nat) (a0 : Nat) (a1 : Int32) (o : Int32 × GH) (hq : p_X4_take V g f a0 a1 = some o) : Met l yX4_take (Cond.code yX4_take cX4_take 2 (some .boolean) :: g_B) rm_X4_take (va_Pc [.ref a0, .int a1] (g_I V g D cT f n)) (g_Wi V D cT o.1 o.2 n) 0 0 (g_A V) := by
  refine g_begin (own := RX4) [.ref a0, .int a1] [(0, .ref a0), (1, .int a1)] (g_A V) (fun _ h => h) (by decide) rfl (Nat.le_of_ble_eq_true rfl) rfl ?_
  intro p e s m args below meth c hx hb hr hlocks hin hC hI ls hl
  obtain ⟨hx, hb, hml, hown, hB⟩ := id hC
  obtain ⟨H, hH⟩ : ∃ H, H = s.heap := ⟨_, rfl⟩
  obtain ⟨locs, hlocs⟩ : ∃ L : List Loc, L = [] := ⟨_, rfl⟩
  rw [← hH, ← hlocs] at hI ⊢
  clear hH hlocs
  unfold p_X4_take at hq
  replace hq := (h_me_eq hq).2
  refine lv_aload_n hx hb dX4_take_0 rfl (lv_at hl 0 rfl) ?_
  obtain ⟨v1, ev1, hq⟩ := b_s hq
  refine fa_gr (own := RX4) (ref := "CoastlineRuler$Grammar") (k := 0) hx hb hB inB_RX4 hown hI rfl (by decide) m_136 (fun _ h9 => h9) ev1 dX4_take_1 ?_
  obtain ⟨v2, ev2, hq⟩ := b_s hq
  refine fa_gi (own := RX4) (ref := "CoastlineRuler$Tokens") (k := 3) hx hb hB inB_RX5 hown hI rfl (by decide) m_111 (fun _ h9 => h9) ev2 dX4_take_4 ?_
  refine lv_iload_n hx hb dX4_take_7 rfl (lv_at hl 1 rfl) ?_
  refine lv_icmp_eq (tgt := 17) hx hb dX4_take_8 (by decide) (fun c3 => ?_) (fun c3 => ?_)
  · replace hq := i_t c3 hq
    refine lv_aload_n hx hb dX4_take_17 rfl (lv_at hl 0 rfl) ?_
    obtain ⟨v4, ev4, hq⟩ := b_s hq
    refine fa_gr (own := RX4) (ref := "CoastlineRuler$Grammar") (k := 0) hx hb hB inB_RX4 hown hI rfl (by decide) m_136 (fun _ h9 => h9) ev4 dX4_take_18 ?_
    obtain ⟨v5, ev5, hq⟩ := b_s hq
    refine gw_v (g_runV (As := []) (rest := []) (ci := 8) hC (c_X5_advance l V g D cT f n v4 v5 ev5) k_X5_advance m_454 rfl rfl ⟨Nat.le_of_ble_eq_true rfl, Nat.le_of_ble_eq_true rfl⟩ hI rfl rfl (h_me_eq ev5).1 rfl hl.1 rfl (Nat.le_of_ble_eq_true rfl) dX4_take_21 ⟨by decide, by decide⟩) hI (fun H locs hI => ?_)
    refine lv_iconst (v := (1 : Int32)) hx hb dX4_take_24 (by decide) ?_
    exact ge_Wi hx hb hlocks hr (by decide +kernel) hI (congrArg (fun z => z.1) (Option.some.inj hq)) (congrArg (fun z => z.2) (Option.some.inj hq)) dX4_take_25
  · replace hq := i_f c3 hq
    refine lv_aload_n hx hb dX4_take_11 rfl (lv_at hl 0 rfl) ?_
    refine lv_iconst (v := (1 : Int32)) hx hb dX4_take_12 (by decide) ?_
    obtain ⟨v6, ev6, hq⟩ := b_s hq
    refine gw_i (g_runV (As := [.int (1 : Int32)]) (rest := []) (ci := 7) hC (c_X4_fail l V g D cT f n a0 (1 : Int32) v6 ev6) k_X4_fail m_450 rfl rfl ⟨Nat.le_of_ble_eq_true rfl, Nat.le_of_ble_eq_true rfl⟩ hI rfl rfl (h_me_eq ev6).1 rfl hl.1 rfl (Nat.le_of_ble_eq_true rfl) dX4_take_13 ⟨by decide, by decide⟩) hI (fun H locs hI => ?_)
    obtain ⟨_, ev7, hq⟩ := b_s hq
    exact ge_Wi hx hb hlocks hr (h_bz_eq ev7).2.1 hI (congrArg (fun z => z.1) (Option.some.inj hq)) (congrArg (fun z => z.2) (Option.some.inj hq)) dX4_take_16

abbrev rm_X4_verbHere : Room := { frames := 7, cells := 0, slots := 0, locals := 227 }
theorem k_X4_verbHere : g_CV yX4_verbHere cX4_verbHere 2 (some (.object "CoastlineRuler$Verb")) 0 := ⟨⟨m_492, m_5, by decide +kernel⟩, m_491, ms_10⟩
set_option maxHeartbeats 4000000 in
set_option maxRecDepth 100000 in
theorem c_X4_verbHere (l : Launch) (V : Nat → Nat) (g : GH) (D : va_G) (cT : Nat → ClassId) (f : GH) (n : Nat) (a0 : Nat) (o : Option Nat) (hq : p_X4_verbHere V g f a0 = some o) : Met l yX4_verbHere (Cond.code yX4_verbHere cX4_verbHere 2 (some (.object "CoastlineRuler$Verb")) :: g_B) rm_X4_verbHere (va_Pc [.ref a0] (g_I V g D cT f n)) (g_Rq o n) 0 0 g_no := by
  refine g_begin (own := RX4) [.ref a0] [(0, .ref a0)] g_no (fun _ h => h.elim) (by decide) rfl (Nat.le_of_ble_eq_true rfl) rfl ?_
  intro p e s m args below meth c hx hb hr hlocks hin hC hI ls hl
  obtain ⟨hx, hb, hml, hown, hB⟩ := id hC
  obtain ⟨H, hH⟩ : ∃ H, H = s.heap := ⟨_, rfl⟩
  obtain ⟨locs, hlocs⟩ : ∃ L : List Loc, L = [] := ⟨_, rfl⟩
  rw [← hH, ← hlocs] at hI ⊢
  clear hH hlocs
  unfold p_X4_verbHere at hq
  replace hq := (h_me_eq hq).2
  refine lv_iconst (v := (0 : Int32)) hx hb dX4_verbHere_0 (by decide) ?_
  refine lv_istore_n (lv' := [(1, .int (0 : Int32)), (0, .ref a0)]) hx hb dX4_verbHere_1 rfl hl (by decide) rfl (fun ls hl => ?_)
  have hl2 : ∀ (K28 : Int32 → Option (Option Nat)) (hK28 : ∀ (x1 : Int32) (H : Heap) (locs : List Loc) (ls : Array Slot), g_at g_no V g D cT f n s H locs → lv_has ls 2 [(1, .int x1)] → K28 x1 = some o → W p l e rm_X4_verbHere s m args below meth c H locs 0 0 (MQ below (g_Rq o n) args s 0 0 g_no) (F0 m 28 ls [])) (K40 : Option (Option Nat)) (hK40 : ∀  (H : Heap) (locs : List Loc) (ls : Array Slot), g_at g_no V g D cT f n s H locs → lv_has ls 2 [] → K40  = some o → W p l e rm_X4_verbHere s m args below meth c H locs 0 0 (MQ below (g_Rq o n) args s 0 0 g_no) (F0 m 40 ls [])) (N : Nat) (x0 : Nat) (x1 : Int32) (H : Heap) (locs : List Loc) (ls : Array Slot), g_at g_no V g D cT f n s H locs → lv_has ls 2 [(0, .ref x0), (1, .int x1)] → p_X4_verbHere_l2 V g f K28 K40 N x0 x1 = some o → W p l e rm_X4_verbHere s m args below meth c H locs 0 0 (MQ below (g_Rq o n) args s 0 0 g_no) (F0 m 2 ls []) := by
    intro K28 hK28 K40 hK40 N
    induction N with
    | zero =>
      intro x0 x1 H locs ls hI hl hq
      rw [p_X4_verbHere_l2] at hq
      cases hq
    | succ N ih =>
      intro x0 x1 H locs ls hI hl hq
      rw [p_X4_verbHere_l2] at hq
      refine lv_iload_n hx hb dX4_verbHere_2 rfl (lv_at hl 1 rfl) ?_
      refine fs_gsN (i := 11) (j := 3) hx hb hown hI rfl rfl (fun _ h9 => h9) dX4_verbHere_3 ?_
      obtain ⟨v1, ev1, hq⟩ := b_s hq
      refine fs_al hx hb hI (by decide) ev1 dX4_verbHere_6 ?_
      refine lv_icmp_ge (tgt := 40) hx hb dX4_verbHere_7 (by decide) (fun c2 => ?_) (fun c2 => ?_)
      · replace hq := i_t c2 hq
        exact hK40  H locs ls hI (lv_sub hl [] rfl) hq
      · replace hq := i_f c2 hq
        refine lv_aload_n hx hb dX4_verbHere_10 rfl (lv_at hl 0 rfl) ?_
        obtain ⟨v3, ev3, hq⟩ := b_s hq
        refine fa_gr (own := RX4) (ref := "CoastlineRuler$Grammar") (k := 0) hx hb hB inB_RX4 hown hI rfl (by decide) m_136 (fun _ h9 => h9) ev3 dX4_verbHere_11 ?_
        refine fs_gsN (i := 11) (j := 3) hx hb hown hI rfl rfl (fun _ h9 => h9) dX4_verbHere_14 ?_
        refine lv_iload_n hx hb dX4_verbHere_17 rfl (lv_at hl 1 rfl) ?_
        obtain ⟨v4, ev4, hq⟩ := b_s hq
        refine fs_lq hx hb hI (by decide) rfl ev4 dX4_verbHere_18 ?_
        obtain ⟨v5, ev5, hq⟩ := b_s hq
        refine fs_gr (own := RX4) (ref := "CoastlineRuler$Verb") (ci := 50) (k := 1) hx hb hB hown hI m_1276 (fun _ h9 => h9) ev5 dX4_verbHere_19 ?_
        obtain ⟨v6, ev6, hq⟩ := b_s hq
        refine gr_i (g_runV (As := [.ref v5]) (rest := []) (ci := 8) hC (c_X5_isWord l V g D cT f n v3 v5 v6 ev6) k_X5_isWord m_399 rfl rfl ⟨Nat.le_of_ble_eq_true rfl, Nat.le_of_ble_eq_true rfl⟩ hI rfl rfl (h_me_eq ev6).1 rfl hl.1 rfl (Nat.le_of_ble_eq_true rfl) dX4_verbHere_22 ⟨by decide, by decide⟩) hI (fun H locs hI => ?_)
        refine lv_if_eq (tgt := 34) hx hb dX4_verbHere_25 (by decide) (fun c7 => ?_) (fun c7 => ?_)
        · replace hq := i_t c7 hq
          refine lv_iinc (v := x1 + (1 : Int32)) (lv' := [(1, .int (x1 + (1 : Int32))), (0, .ref x0)]) hx hb dX4_verbHere_34 hl (k := 1) rfl rfl (by decide) rfl (fun ls hl => ?_)
          refine lv_goto (tgt := 2) hx hb dX4_verbHere_37 (by decide) ?_
          exact ih x0 (x1 + (1 : Int32)) H locs ls hI (lv_sub hl [1, 0] rfl) hq
        · replace hq := i_f c7 hq
          exact hK28 x1 H locs ls hI (lv_sub hl [1] rfl) hq
  refine hl2 _ ?_ _ ?_ FU a0 (0 : Int32) H locs ls hI (lv_sub hl [1, 0] rfl) hq
  · intro x1 H locs ls hI hl hq
    refine fs_gsN (i := 11) (j := 3) hx hb hown hI rfl rfl (fun _ h9 => h9) dX4_verbHere_28 ?_
    refine lv_iload_n hx hb dX4_verbHere_31 rfl (lv_at hl 0 rfl) ?_
    obtain ⟨v8, ev8, hq⟩ := b_s hq
    refine fs_lq hx hb hI (by decide) rfl ev8 dX4_verbHere_32 ?_
    exact ge_Rq hx hb hlocks hr (Or.inl ⟨_, rfl⟩) hI hq dX4_verbHere_33
  · intro  H locs ls hI hl hq
    refine lv_nullN hx hb dX4_verbHere_40 ?_
    exact ge_Rq hx hb hlocks hr (Or.inl ⟨_, rfl⟩) hI hq dX4_verbHere_41

abbrev rm_X4_readMap : Room := { frames := 9, cells := 0, slots := 0, locals := 271 }
theorem k_X4_readMap : g_CV yX4_readMap cX4_readMap 4 (some .boolean) 2 := ⟨⟨m_374, m_5, by decide +kernel⟩, m_372, m_373⟩
set_option maxHeartbeats 4000000 in
set_option maxRecDepth 100000 in
theorem c_X4_readMap (l : Launch) (V : Nat → Nat) (g : GH) (D : va_G) (cT : Nat → ClassId) (f : GH) (n : Nat) (a0 : Nat) (a1 : Int32) (a2 : Nat) (o : Int32 × GH) (hq : p_X4_readMap V g f a0 a1 a2 = some o) : Met l yX4_readMap (Cond.code yX4_readMap cX4_readMap 4 (some .boolean) :: g_B) rm_X4_readMap (va_Pc [.ref a0, .int a1, .ref a2] (g_I V g D cT f n)) (g_Wi V D cT o.1 o.2 n) 0 0 (g_A V) := by
  refine g_begin (own := RX4) [.ref a0, .int a1, .ref a2] [(0, .ref a0), (1, .int a1), (2, .ref a2)] (g_A V) (fun _ h => h) (by decide) rfl (Nat.le_of_ble_eq_true rfl) rfl ?_
  intro p e s m args below meth c hx hb hr hlocks hin hC hI ls hl
  obtain ⟨hx, hb, hml, hown, hB⟩ := id hC
  obtain ⟨H, hH⟩ : ∃ H, H = s.heap := ⟨_, rfl⟩
  obtain ⟨locs, hlocs⟩ : ∃ L : List Loc, L = [] := ⟨_, rfl⟩
  rw [← hH, ← hlocs] at hI ⊢
  clear hH hlocs
  unfold p_X4_readMap at hq
  replace hq := (h_me_eq hq).2
  refine lv_aload_n hx hb dX4_readMap_0 rfl (lv_at hl 0 rfl) ?_
  refine lv_iload_n hx hb dX4_readMap_1 rfl (lv_at hl 1 rfl) ?_
  obtain ⟨v1, ev1, hq⟩ := b_s hq
  refine gw_v (g_runV (As := [.int a1]) (rest := []) (ci := 7) hC (c_X4_begin l V g D cT f n a0 a1 v1 ev1) k_X4_begin m_375 rfl rfl ⟨Nat.le_of_ble_eq_true rfl, Nat.le_of_ble_eq_true rfl⟩ hI rfl rfl (h_me_eq ev1).1 rfl hl.1 rfl (Nat.le_of_ble_eq_true rfl) dX4_readMap_2 ⟨by decide, by decide⟩) hI (fun H locs hI => ?_)
  refine lv_aload_n hx hb dX4_readMap_5 rfl (lv_at hl 0 rfl) ?_
  refine lv_ldcS hx hb hown (g_rtq hI rt_1) dX4_readMap_6 ?_
  obtain ⟨v2, ev2, hq⟩ := b_s hq
  refine gw_i (g_runV (As := [.ref (V 23)]) (rest := []) (ci := 7) hC (c_X4_takeWord l V g D cT v1 n a0 (V 23) v2 ev2) k_X4_takeWord m_395 rfl rfl ⟨Nat.le_of_ble_eq_true rfl, Nat.le_of_ble_eq_true rfl⟩ hI rfl rfl (h_me_eq ev2).1 rfl hl.1 rfl (Nat.le_of_ble_eq_true rfl) dX4_readMap_8 ⟨by decide, by decide⟩) hI (fun H locs hI => ?_)
  refine lv_if_eq (tgt := 29) hx hb dX4_readMap_11 (by decide) (fun c3 => ?_) (fun c3 => ?_)
  · replace hq := i_t c3 hq
    refine lv_iconst (v := (0 : Int32)) hx hb dX4_readMap_29 (by decide) ?_
    exact ge_Wi hx hb hlocks hr (by decide +kernel) hI (congrArg (fun z => z.1) (Option.some.inj hq)) (congrArg (fun z => z.2) (Option.some.inj hq)) dX4_readMap_30
  · replace hq := i_f c3 hq
    refine lv_aload_n hx hb dX4_readMap_14 rfl (lv_at hl 0 rfl) ?_
    obtain ⟨v4, ev4, hq⟩ := b_s hq
    refine gw_i (g_runV (As := []) (rest := []) (ci := 7) hC (c_X4_readMetric l V g D cT v2.2 n a0 v4 ev4) k_X4_readMetric m_455 rfl rfl ⟨Nat.le_of_ble_eq_true rfl, Nat.le_of_ble_eq_true rfl⟩ hI rfl rfl (h_me_eq ev4).1 rfl hl.1 rfl (Nat.le_of_ble_eq_true rfl) dX4_readMap_15 ⟨by decide, by decide⟩) hI (fun H locs hI => ?_)
    refine lv_if_eq (tgt := 29) hx hb dX4_readMap_18 (by decide) (fun c5 => ?_) (fun c5 => ?_)
    · replace hq := i_t c5 hq
      refine lv_iconst (v := (0 : Int32)) hx hb dX4_readMap_29 (by decide) ?_
      exact ge_Wi hx hb hlocks hr (by decide +kernel) hI (congrArg (fun z => z.1) (Option.some.inj hq)) (congrArg (fun z => z.2) (Option.some.inj hq)) dX4_readMap_30
    · replace hq := i_f c5 hq
      refine lv_aload_n hx hb dX4_readMap_21 rfl (lv_at hl 0 rfl) ?_
      refine lv_iconst (v := (3 : Int32)) hx hb dX4_readMap_22 (by decide) ?_
      obtain ⟨v6, ev6, hq⟩ := b_s hq
      refine gw_i (g_runV (As := [.int (3 : Int32)]) (rest := []) (ci := 7) hC (c_X4_take l V g D cT v4.2 n a0 (3 : Int32) v6 ev6) k_X4_take m_461 rfl rfl ⟨Nat.le_of_ble_eq_true rfl, Nat.le_of_ble_eq_true rfl⟩ hI rfl rfl (h_me_eq ev6).1 rfl hl.1 rfl (Nat.le_of_ble_eq_true rfl) dX4_readMap_23 ⟨by decide, by decide⟩) hI (fun H locs hI => ?_)
      refine lv_if_ne (tgt := 31) hx hb dX4_readMap_26 (by decide) (fun c7 => ?_) (fun c7 => ?_)
      · replace hq := i_f c7 hq
        refine lv_aload_n hx hb dX4_readMap_31 rfl (lv_at hl 2 rfl) ?_
        refine lv_aload_n hx hb dX4_readMap_32 rfl (lv_at hl 0 rfl) ?_
        obtain ⟨v8, ev8, hq⟩ := b_s hq
        refine fa_gi (own := RX4) (ref := "CoastlineRuler$Grammar") (k := 4) hx hb hB inB_RX4 hown hI rfl (by decide) m_141 (fun _ h9 => h9) ev8 dX4_readMap_33 ?_
        obtain ⟨_, ev9, hq⟩ := b_s hq
        obtain ⟨f10, ef10, hq⟩ := b_s hq
        refine fa_pt (own := RX4) (ref := "CoastlineRuler$Chart") (k := 2) hx hb hB inB_RX1 tyX1_ok nmX1 hown hI rfl (by decide) m_78 (fun _ h9 => h9) (by decide) (h_bz_eq ev9).2.1 (h_bz_eq ev9).2.2 ef10 dX4_readMap_36 (fun H locs hI => ?_)
        refine lv_aload_n hx hb dX4_readMap_39 rfl (lv_at hl 2 rfl) ?_
        refine lv_iconst (v := (0 : Int32)) hx hb dX4_readMap_40 (by decide) ?_
        obtain ⟨f11, ef11, hq⟩ := b_s hq
        refine fa_pt (own := RX4) (ref := "CoastlineRuler$Chart") (k := 1) hx hb hB inB_RX1 tyX1_ok nmX1 hown hI rfl (by decide) m_76 (fun _ h9 => h9) (by decide) rfl rfl ef11 dX4_readMap_41 (fun H locs hI => ?_)
        refine lv_iconst (v := (0 : Int32)) hx hb dX4_readMap_44 (by decide) ?_
        refine lv_istore_n (lv' := [(3, .int (0 : Int32)), (0, .ref a0), (1, .int a1), (2, .ref a2)]) hx hb dX4_readMap_45 rfl hl (by decide) rfl (fun ls hl => ?_)
        have hl46 : ∀ (K62 : GH → Option (Int32 × GH)) (hK62 : ∀ (f : GH) (H : Heap) (locs : List Loc) (ls : Array Slot), g_at (g_A V) V g D cT f n s H locs → lv_has ls 4 [] → K62 f = some o → W p l e rm_X4_readMap s m args below meth c H locs 0 0 (MQ below (g_Wi V D cT o.1 o.2 n) args s 0 0 (g_A V)) (F0 m 62 ls [])) (K85 : GH → Option (Int32 × GH)) (hK85 : ∀ (f : GH) (H : Heap) (locs : List Loc) (ls : Array Slot), g_at (g_A V) V g D cT f n s H locs → lv_has ls 4 [] → K85 f = some o → W p l e rm_X4_readMap s m args below meth c H locs 0 0 (MQ below (g_Wi V D cT o.1 o.2 n) args s 0 0 (g_A V)) (F0 m 85 ls [])) (K103 : Nat → GH → Option (Int32 × GH)) (hK103 : ∀ (x0 : Nat) (f : GH) (H : Heap) (locs : List Loc) (ls : Array Slot), g_at (g_A V) V g D cT f n s H locs → lv_has ls 4 [(0, .ref x0)] → K103 x0 f = some o → W p l e rm_X4_readMap s m args below meth c H locs 0 0 (MQ below (g_Wi V D cT o.1 o.2 n) args s 0 0 (g_A V)) (F0 m 103 ls [])) (N : Nat) (x0 : Nat) (x2 : Nat) (x3 : Int32) (f : GH) (H : Heap) (locs : List Loc) (ls : Array Slot), g_at (g_A V) V g D cT f n s H locs → lv_has ls 4 [(0, .ref x0), (2, .ref x2), (3, .int x3)] → p_X4_readMap_l46 V g K62 K85 K103 N x0 x2 x3 f = some o → W p l e rm_X4_readMap s m args below meth c H locs 0 0 (MQ below (g_Wi V D cT o.1 o.2 n) args s 0 0 (g_A V)) (F0 m 46 ls []) := by
          intro K62 hK62 K85 hK85 K103 hK103 N
          induction N with
          | zero =>
            intro x0 x2 x3 f H locs ls hI hl hq
            rw [p_X4_readMap_l46] at hq
            cases hq
          | succ N ih =>
            intro x0 x2 x3 f H locs ls hI hl hq
            rw [p_X4_readMap_l46] at hq
            refine lv_iload_n hx hb dX4_readMap_46 rfl (lv_at hl 2 rfl) ?_
            refine lv_bipush (v := (6 : Int32)) hx hb dX4_readMap_47 (by decide) ?_
            refine lv_icmp_ge (tgt := 103) hx hb dX4_readMap_49 (by decide) (fun c12 => ?_) (fun c12 => ?_)
            · replace hq := i_t c12 hq
              exact hK103 x0 f H locs ls hI (lv_sub hl [0] rfl) hq
            · replace hq := i_f c12 hq
              refine lv_aload_n hx hb dX4_readMap_52 rfl (lv_at hl 0 rfl) ?_
              obtain ⟨v13, ev13, hq⟩ := b_s hq
              refine fa_gr (own := RX4) (ref := "CoastlineRuler$Grammar") (k := 0) hx hb hB inB_RX4 hown hI rfl (by decide) m_136 (fun _ h9 => h9) ev13 dX4_readMap_53 ?_
              obtain ⟨v14, ev14, hq⟩ := b_s hq
              refine fa_gi (own := RX4) (ref := "CoastlineRuler$Tokens") (k := 3) hx hb hB inB_RX5 hown hI rfl (by decide) m_111 (fun _ h9 => h9) ev14 dX4_readMap_56 ?_
              refine lv_if_ne (tgt := 64) hx hb dX4_readMap_59 (by decide) (fun c15 => ?_) (fun c15 => ?_)
              · replace hq := i_f c15 hq
                refine lv_aload_n hx hb dX4_readMap_64 rfl (lv_at hl 0 rfl) ?_
                refine lv_aload_n hx hb dX4_readMap_65 rfl (lv_at hl 1 rfl) ?_
                obtain ⟨v16, ev16, hq⟩ := b_s hq
                refine fa_gr (own := RX4) (ref := "CoastlineRuler$Chart") (k := 0) hx hb hB inB_RX1 hown hI rfl (by decide) m_73 (fun _ h9 => h9) ev16 dX4_readMap_66 ?_
                refine lv_iload_n hx hb dX4_readMap_69 rfl (lv_at hl 2 rfl) ?_
                obtain ⟨v17, ev17, hq⟩ := b_s hq
                refine fa_lq hx hb hI (by decide) rfl ev17 dX4_readMap_70 ?_
                obtain ⟨v18, ev18, hq⟩ := b_s hq
                refine gw_i (g_runV (As := [.ref v17]) (rest := []) (ci := 7) hC (c_X4_readCoast l V g D cT f n x0 v17 v18 ev18) k_X4_readCoast m_465 rfl rfl ⟨Nat.le_of_ble_eq_true rfl, Nat.le_of_ble_eq_true rfl⟩ hI rfl rfl (h_me_eq ev18).1 rfl hl.1 rfl (Nat.le_of_ble_eq_true rfl) dX4_readMap_71 ⟨by decide, by decide⟩) hI (fun H locs hI => ?_)
                refine lv_if_eq (tgt := 85) hx hb dX4_readMap_74 (by decide) (fun c19 => ?_) (fun c19 => ?_)
                · replace hq := i_t c19 hq
                  exact hK85 v18.2 H locs ls hI (lv_sub hl [] rfl) hq
                · replace hq := i_f c19 hq
                  refine lv_aload_n hx hb dX4_readMap_77 rfl (lv_at hl 0 rfl) ?_
                  refine lv_iconst (v := (3 : Int32)) hx hb dX4_readMap_78 (by decide) ?_
                  obtain ⟨v20, ev20, hq⟩ := b_s hq
                  refine gw_i (g_runV (As := [.int (3 : Int32)]) (rest := []) (ci := 7) hC (c_X4_take l V g D cT v18.2 n x0 (3 : Int32) v20 ev20) k_X4_take m_461 rfl rfl ⟨Nat.le_of_ble_eq_true rfl, Nat.le_of_ble_eq_true rfl⟩ hI rfl rfl (h_me_eq ev20).1 rfl hl.1 rfl (Nat.le_of_ble_eq_true rfl) dX4_readMap_79 ⟨by decide, by decide⟩) hI (fun H locs hI => ?_)
                  refine lv_if_ne (tgt := 87) hx hb dX4_readMap_82 (by decide) (fun c21 => ?_) (fun c21 => ?_)
                  · replace hq := i_f c21 hq
                    refine lv_aload_n hx hb dX4_readMap_87 rfl (lv_at hl 1 rfl) ?_
                    refine lv_dup hx hb dX4_readMap_88 rfl ?_
                    obtain ⟨v22, ev22, hq⟩ := b_s hq
                    refine fa_gi (own := RX4) (ref := "CoastlineRuler$Chart") (k := 1) hx hb hB inB_RX1 hown hI rfl (by decide) m_76 (fun _ h9 => h9) ev22 dX4_readMap_89 ?_
                    refine lv_iconst (v := (1 : Int32)) hx hb dX4_readMap_92 (by decide) ?_
                    refine lv_iadd hx hb dX4_readMap_93 ?_
                    obtain ⟨f23, ef23, hq⟩ := b_s hq
                    refine fa_pt (own := RX4) (ref := "CoastlineRuler$Chart") (k := 1) hx hb hB inB_RX1 tyX1_ok nmX1 hown hI rfl (by decide) m_76 (fun _ h9 => h9) (by decide) rfl rfl ef23 dX4_readMap_94 (fun H locs hI => ?_)
                    refine lv_iinc (v := x3 + (1 : Int32)) (lv' := [(3, .int (x3 + (1 : Int32))), (0, .ref x0), (2, .ref x2)]) hx hb dX4_readMap_97 hl (k := 2) rfl rfl (by decide) rfl (fun ls hl => ?_)
                    refine lv_goto (tgt := 46) hx hb dX4_readMap_100 (by decide) ?_
                    exact ih x0 x2 (x3 + (1 : Int32)) f23 H locs ls hI (lv_sub hl [1, 2, 0] rfl) hq
                  · replace hq := i_t c21 hq
                    exact hK85 v20.2 H locs ls hI (lv_sub hl [] rfl) hq
              · replace hq := i_t c15 hq
                exact hK62 f H locs ls hI (lv_sub hl [] rfl) hq
        refine hl46 _ ?_ _ ?_ _ ?_ FU a0 a2 (0 : Int32) f11 H locs ls hI (lv_sub hl [1, 3, 0] rfl) hq
        · intro f H locs ls hI hl hq
          refine lv_iconst (v := (1 : Int32)) hx hb dX4_readMap_62 (by decide) ?_
          exact ge_Wi hx hb hlocks hr (by decide +kernel) hI (congrArg (fun z => z.1) (Option.some.inj hq)) (congrArg (fun z => z.2) (Option.some.inj hq)) dX4_readMap_63
        · intro f H locs ls hI hl hq
          refine lv_iconst (v := (0 : Int32)) hx hb dX4_readMap_85 (by decide) ?_
          exact ge_Wi hx hb hlocks hr (by decide +kernel) hI (congrArg (fun z => z.1) (Option.some.inj hq)) (congrArg (fun z => z.2) (Option.some.inj hq)) dX4_readMap_86
        · intro x0 f H locs ls hI hl hq
          refine lv_aload_n hx hb dX4_readMap_103 rfl (lv_at hl 0 rfl) ?_
          obtain ⟨v24, ev24, hq⟩ := b_s hq
          refine fa_gr (own := RX4) (ref := "CoastlineRuler$Grammar") (k := 0) hx hb hB inB_RX4 hown hI rfl (by decide) m_136 (fun _ h9 => h9) ev24 dX4_readMap_104 ?_
          obtain ⟨v25, ev25, hq⟩ := b_s hq
          refine fa_gi (own := RX4) (ref := "CoastlineRuler$Tokens") (k := 3) hx hb hB inB_RX5 hown hI rfl (by decide) m_111 (fun _ h9 => h9) ev25 dX4_readMap_107 ?_
          refine lv_if_ne (tgt := 115) hx hb dX4_readMap_110 (by decide) (fun c26 => ?_) (fun c26 => ?_)
          · replace hq := i_f c26 hq
            refine lv_aload_n hx hb dX4_readMap_115 rfl (lv_at hl 0 rfl) ?_
            obtain ⟨v27, ev27, hq⟩ := b_s hq
            refine gr_q (g_runV (As := []) (rest := []) (ci := 7) hC (c_X4_verbHere l V g D cT f n x0 v27 ev27) k_X4_verbHere m_489 rfl rfl ⟨Nat.le_of_ble_eq_true rfl, Nat.le_of_ble_eq_true rfl⟩ hI rfl rfl (h_me_eq ev27).1 rfl hl.1 rfl (Nat.le_of_ble_eq_true rfl) dX4_readMap_116 ⟨by decide, by decide⟩) hI (fun H locs hI => ?_)
            refine lv_astore_nN2 (lv' := [(3, va_rf v27), (0, .ref x0)]) hx hb dX4_readMap_119 rfl hl (by decide) rfl (fun ls hl => ?_)
            refine lv_aload_n hx hb dX4_readMap_120 rfl (lv_at hl 1 rfl) ?_
            refine lv_aload_nN2 hx hb dX4_readMap_121 rfl (lv_at hl 0 rfl) ?_
            rcases v27 with _ | v28
            · refine lv_ifnullN (tgt := 136) hx hb dX4_readMap_122 (by decide) ?_
              refine lv_iconst (v := (1 : Int32)) hx hb dX4_readMap_136 (by decide) ?_
              obtain ⟨v35, ev35, hq⟩ := b_s hq
              refine gw_i (g_runV (As := [.int (1 : Int32)]) (rest := []) (ci := 7) hC (c_X4_fail l V g D cT f n x0 (1 : Int32) v35 ev35) k_X4_fail m_450 rfl rfl ⟨Nat.le_of_ble_eq_true rfl, Nat.le_of_ble_eq_true rfl⟩ hI rfl rfl (h_me_eq ev35).1 rfl hl.1 rfl (Nat.le_of_ble_eq_true rfl) dX4_readMap_137 ⟨by decide, by decide⟩) hI (fun H locs hI => ?_)
              obtain ⟨_, ev36, hq⟩ := b_s hq
              exact ge_Wi hx hb hlocks hr (h_bz_eq ev36).2.1 hI (congrArg (fun z => z.1) (Option.some.inj hq)) (congrArg (fun z => z.2) (Option.some.inj hq)) dX4_readMap_140
            · refine lv_ifnull hx hb dX4_readMap_122 ?_
              refine lv_aload_n hx hb dX4_readMap_125 rfl (lv_at hl 0 rfl) ?_
              obtain ⟨v29, ev29, hq⟩ := b_s hq
              refine fs_gi (own := RX4) (ref := "CoastlineRuler$Verb") (ci := 50) (k := 2) hx hb hB hown hI m_1277 (fun _ h9 => h9) ev29 dX4_readMap_126 ?_
              refine lv_if_eq (tgt := 136) hx hb dX4_readMap_129 (by decide) (fun c30 => ?_) (fun c30 => ?_)
              · replace hq := i_t c30 hq
                refine lv_iconst (v := (1 : Int32)) hx hb dX4_readMap_136 (by decide) ?_
                obtain ⟨v31, ev31, hq⟩ := b_s hq
                refine gw_i (g_runV (As := [.int (1 : Int32)]) (rest := []) (ci := 7) hC (c_X4_fail l V g D cT f n x0 (1 : Int32) v31 ev31) k_X4_fail m_450 rfl rfl ⟨Nat.le_of_ble_eq_true rfl, Nat.le_of_ble_eq_true rfl⟩ hI rfl rfl (h_me_eq ev31).1 rfl hl.1 rfl (Nat.le_of_ble_eq_true rfl) dX4_readMap_137 ⟨by decide, by decide⟩) hI (fun H locs hI => ?_)
                obtain ⟨_, ev32, hq⟩ := b_s hq
                exact ge_Wi hx hb hlocks hr (h_bz_eq ev32).2.1 hI (congrArg (fun z => z.1) (Option.some.inj hq)) (congrArg (fun z => z.2) (Option.some.inj hq)) dX4_readMap_140
              · replace hq := i_f c30 hq
                refine lv_iconst (v := (3 : Int32)) hx hb dX4_readMap_132 (by decide) ?_
                refine lv_goto (tgt := 137) hx hb dX4_readMap_133 (by decide) ?_
                obtain ⟨v33, ev33, hq⟩ := b_s hq
                refine gw_i (g_runV (As := [.int (3 : Int32)]) (rest := []) (ci := 7) hC (c_X4_fail l V g D cT f n x0 (3 : Int32) v33 ev33) k_X4_fail m_450 rfl rfl ⟨Nat.le_of_ble_eq_true rfl, Nat.le_of_ble_eq_true rfl⟩ hI rfl rfl (h_me_eq ev33).1 rfl hl.1 rfl (Nat.le_of_ble_eq_true rfl) dX4_readMap_137 ⟨by decide, by decide⟩) hI (fun H locs hI => ?_)
                obtain ⟨_, ev34, hq⟩ := b_s hq
                exact ge_Wi hx hb hlocks hr (h_bz_eq ev34).2.1 hI (congrArg (fun z => z.1) (Option.some.inj hq)) (congrArg (fun z => z.2) (Option.some.inj hq)) dX4_readMap_140
          · replace hq := i_t c26 hq
            refine lv_iconst (v := (1 : Int32)) hx hb dX4_readMap_113 (by decide) ?_
            exact ge_Wi hx hb hlocks hr (by decide +kernel) hI (congrArg (fun z => z.1) (Option.some.inj hq)) (congrArg (fun z => z.2) (Option.some.inj hq)) dX4_readMap_114
      · replace hq := i_t c7 hq
        refine lv_iconst (v := (0 : Int32)) hx hb dX4_readMap_29 (by decide) ?_
        exact ge_Wi hx hb hlocks hr (by decide +kernel) hI (congrArg (fun z => z.1) (Option.some.inj hq)) (congrArg (fun z => z.2) (Option.some.inj hq)) dX4_readMap_30

abbrev rm_X4_readLoneCoast : Room := { frames := 9, cells := 0, slots := 0, locals := 271 }
theorem k_X4_readLoneCoast : g_CV yX4_readLoneCoast cX4_readLoneCoast 3 (some .boolean) 2 := ⟨⟨m_1189, m_5, by decide +kernel⟩, m_1187, m_1188⟩
set_option maxHeartbeats 4000000 in
set_option maxRecDepth 100000 in
theorem c_X4_readLoneCoast (l : Launch) (V : Nat → Nat) (g : GH) (D : va_G) (cT : Nat → ClassId) (f : GH) (n : Nat) (a0 : Nat) (a1 : Int32) (a2 : Nat) (o : Int32 × GH) (hq : p_X4_readLoneCoast V g f a0 a1 a2 = some o) : Met l yX4_readLoneCoast (Cond.code yX4_readLoneCoast cX4_readLoneCoast 3 (some .boolean) :: g_B) rm_X4_readLoneCoast (va_Pc [.ref a0, .int a1, .ref a2] (g_I V g D cT f n)) (g_Wi V D cT o.1 o.2 n) 0 0 (g_A V) := by
  refine g_begin (own := RX4) [.ref a0, .int a1, .ref a2] [(0, .ref a0), (1, .int a1), (2, .ref a2)] (g_A V) (fun _ h => h) (by decide) rfl (Nat.le_of_ble_eq_true rfl) rfl ?_
  intro p e s m args below meth c hx hb hr hlocks hin hC hI ls hl
  obtain ⟨hx, hb, hml, hown, hB⟩ := id hC
  obtain ⟨H, hH⟩ : ∃ H, H = s.heap := ⟨_, rfl⟩
  obtain ⟨locs, hlocs⟩ : ∃ L : List Loc, L = [] := ⟨_, rfl⟩
  rw [← hH, ← hlocs] at hI ⊢
  clear hH hlocs
  unfold p_X4_readLoneCoast at hq
  replace hq := (h_me_eq hq).2
  refine lv_aload_n hx hb dX4_readLoneCoast_0 rfl (lv_at hl 0 rfl) ?_
  refine lv_iload_n hx hb dX4_readLoneCoast_1 rfl (lv_at hl 1 rfl) ?_
  obtain ⟨v1, ev1, hq⟩ := b_s hq
  refine gw_v (g_runV (As := [.int a1]) (rest := []) (ci := 7) hC (c_X4_begin l V g D cT f n a0 a1 v1 ev1) k_X4_begin m_375 rfl rfl ⟨Nat.le_of_ble_eq_true rfl, Nat.le_of_ble_eq_true rfl⟩ hI rfl rfl (h_me_eq ev1).1 rfl hl.1 rfl (Nat.le_of_ble_eq_true rfl) dX4_readLoneCoast_2 ⟨by decide, by decide⟩) hI (fun H locs hI => ?_)
  refine lv_aload_n hx hb dX4_readLoneCoast_5 rfl (lv_at hl 0 rfl) ?_
  refine lv_aload_n hx hb dX4_readLoneCoast_6 rfl (lv_at hl 2 rfl) ?_
  obtain ⟨v2, ev2, hq⟩ := b_s hq
  refine gw_i (g_runV (As := [.ref a2]) (rest := []) (ci := 7) hC (c_X4_readCoast l V g D cT v1 n a0 a2 v2 ev2) k_X4_readCoast m_465 rfl rfl ⟨Nat.le_of_ble_eq_true rfl, Nat.le_of_ble_eq_true rfl⟩ hI rfl rfl (h_me_eq ev2).1 rfl hl.1 rfl (Nat.le_of_ble_eq_true rfl) dX4_readLoneCoast_7 ⟨by decide, by decide⟩) hI (fun H locs hI => ?_)
  refine lv_if_eq (tgt := 25) hx hb dX4_readLoneCoast_10 (by decide) (fun c3 => ?_) (fun c3 => ?_)
  · replace hq := i_t c3 hq
    refine lv_iconst (v := (0 : Int32)) hx hb dX4_readLoneCoast_25 (by decide) ?_
    exact ge_Wi hx hb hlocks hr (by decide +kernel) hI (congrArg (fun z => z.1) (Option.some.inj hq)) (congrArg (fun z => z.2) (Option.some.inj hq)) dX4_readLoneCoast_26
  · replace hq := i_f c3 hq
    refine lv_aload_n hx hb dX4_readLoneCoast_13 rfl (lv_at hl 0 rfl) ?_
    refine lv_iconst (v := (0 : Int32)) hx hb dX4_readLoneCoast_14 (by decide) ?_
    obtain ⟨v4, ev4, hq⟩ := b_s hq
    refine gw_i (g_runV (As := [.int (0 : Int32)]) (rest := []) (ci := 7) hC (c_X4_take l V g D cT v2.2 n a0 (0 : Int32) v4 ev4) k_X4_take m_461 rfl rfl ⟨Nat.le_of_ble_eq_true rfl, Nat.le_of_ble_eq_true rfl⟩ hI rfl rfl (h_me_eq ev4).1 rfl hl.1 rfl (Nat.le_of_ble_eq_true rfl) dX4_readLoneCoast_15 ⟨by decide, by decide⟩) hI (fun H locs hI => ?_)
    refine lv_if_eq (tgt := 25) hx hb dX4_readLoneCoast_18 (by decide) (fun c5 => ?_) (fun c5 => ?_)
    · replace hq := i_t c5 hq
      refine lv_iconst (v := (0 : Int32)) hx hb dX4_readLoneCoast_25 (by decide) ?_
      exact ge_Wi hx hb hlocks hr (by decide +kernel) hI (congrArg (fun z => z.1) (Option.some.inj hq)) (congrArg (fun z => z.2) (Option.some.inj hq)) dX4_readLoneCoast_26
    · replace hq := i_f c5 hq
      refine lv_iconst (v := (1 : Int32)) hx hb dX4_readLoneCoast_21 (by decide) ?_
      refine lv_goto (tgt := 26) hx hb dX4_readLoneCoast_22 (by decide) ?_
      exact ge_Wi hx hb hlocks hr (by decide +kernel) hI (congrArg (fun z => z.1) (Option.some.inj hq)) (congrArg (fun z => z.2) (Option.some.inj hq)) dX4_readLoneCoast_26

abbrev rm_X5_init : Room := { frames := 2, cells := 1, slots := 700, locals := 120 }
theorem k_X5_init : g_CI yX5_init cX5_init 1 0 := ⟨⟨m_105, m_4, by decide +kernel⟩, rfl, m_104⟩
set_option maxHeartbeats 4000000 in
set_option maxRecDepth 100000 in
theorem c_X5_init (l : Launch) (V : Nat → Nat) (g : GH) (D : va_G) (cT : Nat → ClassId) (f : GH) (n : Nat) (a0 : Nat) (o : GH × Nat) (hq : p_X5_init V g f n a0 = some o) : Met l yX5_init (Cond.code yX5_init cX5_init 1 none :: g_B) rm_X5_init (va_Pc [.ref a0] (g_I V g D cT f n)) (g_Wv V D cT o.1 o.2) 1 700 (g_A V) := by
  refine g_begin (own := RX5) [.ref a0] [(0, .ref a0)] (g_A V) (fun _ h => h) (by decide) rfl (Nat.le_of_ble_eq_true rfl) rfl ?_
  intro p e s m args below meth c hx hb hr hlocks hin hC hI ls hl
  obtain ⟨hx, hb, hml, hown, hB⟩ := id hC
  obtain ⟨H, hH⟩ : ∃ H, H = s.heap := ⟨_, rfl⟩
  obtain ⟨locs, hlocs⟩ : ∃ L : List Loc, L = [] := ⟨_, rfl⟩
  rw [← hH, ← hlocs] at hI ⊢
  clear hH hlocs
  unfold p_X5_init at hq
  replace hq := (h_me_eq hq).2
  refine lv_aload_n hx hb dX5_init_0 rfl (lv_at hl 0 rfl) ?_
  refine W.objInit hx hb hown (hB _ m_106) (hB _ m_33) (hB _ m_34) rfl (by rw [hml]; exact hl.1) rfl dX5_init_1 (Nat.le_of_ble_eq_true rfl) (Nat.le_of_ble_eq_true rfl) ?_
  refine W.eq (g2 := F0 m 4 ls []) rfl ?_
  refine lv_aload_n hx hb dX5_init_4 rfl (lv_at hl 0 rfl) ?_
  refine lv_sipush (v := (700 : Int32)) hx hb dX5_init_5 (by decide) ?_
  obtain ⟨f1, ef1, hq⟩ := b_s hq
  refine fa_newa (atype := .byte) (N := 700) (t := 1) hx hb hB m_129 rfl (by decide) hI (fun _ => rfl) (by decide) (by decide +kernel) (by decide +kernel) (by decide) (by decide) ef1 dX5_init_8 (fun H locs hI => ?_)
  obtain ⟨f2, ef2, hq⟩ := b_s hq
  refine fa_ptF (own := RX5) (ref := "CoastlineRuler$Tokens") (k := 0) hx hb hB inB_RX5 tyX5_ok nmX5 hown hI rfl (by decide) m_107 (fun _ h9 => h9) (by decide) hin (by decide) rfl rfl ef2 dX5_init_10 (fun H locs hI => ?_)
  obtain rfl := Option.some.inj hq
  exact ge_Wv hx hb hlocks hr hI rfl dX5_init_13

abbrev rm_X5_append : Room := { frames := 2, cells := 0, slots := 0, locals := 120 }
theorem k_X5_append : g_CV yX5_append cX5_append 3 none 1 := ⟨⟨m_566, m_4, by decide +kernel⟩, m_564, m_565⟩
set_option maxHeartbeats 4000000 in
set_option maxRecDepth 100000 in
theorem c_X5_append (l : Launch) (V : Nat → Nat) (g : GH) (D : va_G) (cT : Nat → ClassId) (f : GH) (n : Nat) (a0 : Nat) (a1 : Int32) (o : GH) (hq : p_X5_append V g f a0 a1 = some o) : Met l yX5_append (Cond.code yX5_append cX5_append 3 none :: g_B) rm_X5_append (va_Pc [.ref a0, .int a1] (g_I V g D cT f n)) (g_Wv V D cT o n) 0 0 (g_A V) := by
  refine g_begin (own := RX5) [.ref a0, .int a1] [(0, .ref a0), (1, .int a1)] (g_A V) (fun _ h => h) (by decide) rfl (Nat.le_of_ble_eq_true rfl) rfl ?_
  intro p e s m args below meth c hx hb hr hlocks hin hC hI ls hl
  obtain ⟨hx, hb, hml, hown, hB⟩ := id hC
  obtain ⟨H, hH⟩ : ∃ H, H = s.heap := ⟨_, rfl⟩
  obtain ⟨locs, hlocs⟩ : ∃ L : List Loc, L = [] := ⟨_, rfl⟩
  rw [← hH, ← hlocs] at hI ⊢
  clear hH hlocs
  unfold p_X5_append at hq
  replace hq := (h_me_eq hq).2
  refine lv_bipush (v := (24 : Int32)) hx hb dX5_append_0 (by decide) ?_
  refine lv_istore_n (lv' := [(2, .int (24 : Int32)), (0, .ref a0), (1, .int a1)]) hx hb dX5_append_2 rfl hl (by decide) rfl (fun ls hl => ?_)
  have hl3 : ∀ (K46 : GH → Option GH) (hK46 : ∀ (f : GH) (H : Heap) (locs : List Loc) (ls : Array Slot), g_at (g_A V) V g D cT f n s H locs → lv_has ls 3 [] → K46 f = some o → W p l e rm_X5_append s m args below meth c H locs 0 0 (MQ below (g_Wv V D cT o n) args s 0 0 (g_A V)) (F0 m 46 ls [])) (N : Nat) (x0 : Nat) (x1 : Int32) (x2 : Int32) (f : GH) (H : Heap) (locs : List Loc) (ls : Array Slot), g_at (g_A V) V g D cT f n s H locs → lv_has ls 3 [(0, .ref x0), (1, .int x1), (2, .int x2)] → p_X5_append_l3 V g K46 N x0 x1 x2 f = some o → W p l e rm_X5_append s m args below meth c H locs 0 0 (MQ below (g_Wv V D cT o n) args s 0 0 (g_A V)) (F0 m 3 ls []) := by
    intro K46 hK46 N
    induction N with
    | zero =>
      intro x0 x1 x2 f H locs ls hI hl hq
      rw [p_X5_append_l3] at hq
      cases hq
    | succ N ih =>
      intro x0 x1 x2 f H locs ls hI hl hq
      rw [p_X5_append_l3] at hq
      refine lv_iload_n hx hb dX5_append_3 rfl (lv_at hl 2 rfl) ?_
      refine lv_if_lt (tgt := 46) hx hb dX5_append_4 (by decide) (fun c1 => ?_) (fun c1 => ?_)
      · replace hq := i_t c1 hq
        exact hK46 f H locs ls hI (lv_sub hl [] rfl) hq
      · replace hq := i_f c1 hq
        refine lv_aload_n hx hb dX5_append_7 rfl (lv_at hl 0 rfl) ?_
        obtain ⟨v2, ev2, hq⟩ := b_s hq
        refine fa_gi (own := RX5) (ref := "CoastlineRuler$Tokens") (k := 1) hx hb hB inB_RX5 hown hI rfl (by decide) m_109 (fun _ h9 => h9) ev2 dX5_append_8 ?_
        refine lv_sipush (v := (700 : Int32)) hx hb dX5_append_11 (by decide) ?_
        refine lv_icmp_ge (tgt := 46) hx hb dX5_append_14 (by decide) (fun c3 => ?_) (fun c3 => ?_)
        · replace hq := i_t c3 hq
          exact hK46 f H locs ls hI (lv_sub hl [] rfl) hq
        · replace hq := i_f c3 hq
          refine lv_aload_n hx hb dX5_append_17 rfl (lv_at hl 0 rfl) ?_
          obtain ⟨v4, ev4, hq⟩ := b_s hq
          refine fa_gr (own := RX5) (ref := "CoastlineRuler$Tokens") (k := 0) hx hb hB inB_RX5 hown hI rfl (by decide) m_107 (fun _ h9 => h9) ev4 dX5_append_18 ?_
          refine lv_aload_n hx hb dX5_append_21 rfl (lv_at hl 0 rfl) ?_
          obtain ⟨v5, ev5, hq⟩ := b_s hq
          refine fa_gi (own := RX5) (ref := "CoastlineRuler$Tokens") (k := 1) hx hb hB inB_RX5 hown hI rfl (by decide) m_109 (fun _ h9 => h9) ev5 dX5_append_22 ?_
          refine lv_iload_n hx hb dX5_append_25 rfl (lv_at hl 1 rfl) ?_
          refine lv_iload_n hx hb dX5_append_26 rfl (lv_at hl 2 rfl) ?_
          refine lv_ishr hx hb dX5_append_27 ?_
          refine lv_i2b (v := (x1 >>> (x2 &&& 31)).toInt8.toInt32) hx hb dX5_append_28 rfl ?_
          obtain ⟨f6, ef6, hq⟩ := b_s hq
          refine fa_sb hx hb hI ef6 dX5_append_29 (fun H locs hI => ?_)
          refine lv_aload_n hx hb dX5_append_30 rfl (lv_at hl 0 rfl) ?_
          refine lv_dup hx hb dX5_append_31 rfl ?_
          obtain ⟨v7, ev7, hq⟩ := b_s hq
          refine fa_gi (own := RX5) (ref := "CoastlineRuler$Tokens") (k := 1) hx hb hB inB_RX5 hown hI rfl (by decide) m_109 (fun _ h9 => h9) ev7 dX5_append_32 ?_
          refine lv_iconst (v := (1 : Int32)) hx hb dX5_append_35 (by decide) ?_
          refine lv_iadd hx hb dX5_append_36 ?_
          obtain ⟨f8, ef8, hq⟩ := b_s hq
          refine fa_pt (own := RX5) (ref := "CoastlineRuler$Tokens") (k := 1) hx hb hB inB_RX5 tyX5_ok nmX5 hown hI rfl (by decide) m_109 (fun _ h9 => h9) (by decide) rfl rfl ef8 dX5_append_37 (fun H locs hI => ?_)
          refine lv_iinc (v := x2 + (-8 : Int32)) (lv' := [(2, .int (x2 + (-8 : Int32))), (0, .ref x0), (1, .int x1)]) hx hb dX5_append_40 hl (k := 2) rfl rfl (by decide) rfl (fun ls hl => ?_)
          refine lv_goto (tgt := 3) hx hb dX5_append_43 (by decide) ?_
          exact ih x0 x1 (x2 + (-8 : Int32)) f8 H locs ls hI (lv_sub hl [1, 2, 0] rfl) hq
  refine hl3 _ ?_ FU a0 a1 (24 : Int32) f H locs ls hI (lv_sub hl [1, 2, 0] rfl) hq
  · intro f H locs ls hI hl hq
    exact ge_Wv hx hb hlocks hr hI (Option.some.inj hq) dX5_append_46

abbrev rm_X7_init : Room := { frames := 4, cells := 314, slots := 36774, locals := 167 }
theorem k_X7_init : g_CI yX7_init cX7_init 2 0 := ⟨⟨m_31, m_1, by decide +kernel⟩, rfl, m_30⟩
set_option maxHeartbeats 4000000 in
set_option maxRecDepth 100000 in
theorem sg_X7_init_17 {p : Program} {l : Launch} {e : Env} {s : State} {m : MethodId} {args : Array Value} {below : List Frame} {meth : Method} {c : Code} {V : Nat → Nat} {g : GH} {D : va_G} {cT : Nat → ClassId} {o : GH × Nat} (hx : p.tables.exec = Jvm.exec) (hb : c.code = cX7_init) (hr : meth.sig.returnType = none) (hlocks : meth.locks = false) (hin : meth.name = yX7_init.name) (hC : CallFix p m c cX7_init 2 s args g_B RX7) : ∀ (x0 : Nat) (f : GH) (n : Nat) (H : Heap) (locs : List Loc) (ls : Array Slot), g_at (g_A V) V g D cT f n s H locs → lv_has ls 2 [(0, .ref x0)] → p_X7_init_s17 V g x0 f n = some o → W p l e rm_X7_init s m args below meth c H locs 314 36774 (MQ below (g_Wv V D cT o.1 o.2) args s 314 36774 (g_A V)) (F0 m 182 ls []) := by
  intro x0 f n H locs ls hI hl hq
  obtain ⟨_, _, hml, hown, hB⟩ := id hC
  unfold p_X7_init_s17 at hq
  refine lv_aload_n hx hb dX7_init_182 rfl (lv_at hl 0 rfl) ?_
  obtain ⟨v144, ev144, hq⟩ := b_s hq
  refine fa_gr (own := RX7) (ref := "CoastlineRuler") (k := 0) hx hb hB inB_RX7 hown hI rfl (by decide) m_253 (fun _ h9 => h9) ev144 dX7_init_183 ?_
  refine fs_gs (i := 14) hx hb hown hI rfl (hB _ m_241) (fun _ h9 => h9) dX7_init_186 ?_
  refine lv_iconst (v := (1 : Int32)) hx hb dX7_init_189 (by decide) ?_
  obtain ⟨v145, ev145, hq⟩ := b_s hq
  refine gw_v (g_runV (As := [.ref (V 15), .int (1 : Int32)]) (rest := []) (ci := 4) hC (c_X1_place l V g D cT f n v144 (V 15) (1 : Int32) v145 ev145) k_X1_place m_230 rfl rfl ⟨Nat.le_of_ble_eq_true rfl, Nat.le_of_ble_eq_true rfl⟩ hI rfl rfl (h_me_eq ev145).1 rfl hl.1 rfl (Nat.le_of_ble_eq_true rfl) dX7_init_190 ⟨by decide, by decide⟩) hI (fun H locs hI => ?_)
  refine lv_aload_n hx hb dX7_init_193 rfl (lv_at hl 0 rfl) ?_
  obtain ⟨v146, ev146, hq⟩ := b_s hq
  refine fa_gr (own := RX7) (ref := "CoastlineRuler") (k := 0) hx hb hB inB_RX7 hown hI rfl (by decide) m_253 (fun _ h9 => h9) ev146 dX7_init_194 ?_
  refine fs_gs (i := 15) hx hb hown hI rfl (hB _ m_243) (fun _ h9 => h9) dX7_init_197 ?_
  refine lv_iconst (v := (1 : Int32)) hx hb dX7_init_200 (by decide) ?_
  obtain ⟨v147, ev147, hq⟩ := b_s hq
  refine gw_v (g_runV (As := [.ref (V 16), .int (1 : Int32)]) (rest := []) (ci := 4) hC (c_X1_place l V g D cT v145 n v146 (V 16) (1 : Int32) v147 ev147) k_X1_place m_230 rfl rfl ⟨Nat.le_of_ble_eq_true rfl, Nat.le_of_ble_eq_true rfl⟩ hI rfl rfl (h_me_eq ev147).1 rfl hl.1 rfl (Nat.le_of_ble_eq_true rfl) dX7_init_201 ⟨by decide, by decide⟩) hI (fun H locs hI => ?_)
  refine lv_aload_n hx hb dX7_init_204 rfl (lv_at hl 0 rfl) ?_
  obtain ⟨v148, ev148, hq⟩ := b_s hq
  refine fa_gr (own := RX7) (ref := "CoastlineRuler") (k := 0) hx hb hB inB_RX7 hown hI rfl (by decide) m_253 (fun _ h9 => h9) ev148 dX7_init_205 ?_
  obtain ⟨v149, ev149, hq⟩ := b_s hq
  refine gw_v (g_runV (As := []) (rest := []) (ci := 4) hC (c_X1_startLedgers l V g D cT v147 n v148 v149 ev149) k_X1_startLedgers m_245 rfl rfl ⟨Nat.le_of_ble_eq_true rfl, Nat.le_of_ble_eq_true rfl⟩ hI rfl rfl (h_me_eq ev149).1 rfl hl.1 rfl (Nat.le_of_ble_eq_true rfl) dX7_init_208 ⟨by decide, by decide⟩) hI (fun H locs hI => ?_)
  obtain rfl := Option.some.inj hq
  exact ge_Wv hx hb hlocks hr hI rfl dX7_init_211

set_option maxHeartbeats 4000000 in
set_option maxRecDepth 100000 in
theorem sg_X7_init_16 {p : Program} {l : Launch} {e : Env} {s : State} {m : MethodId} {args : Array Value} {below : List Frame} {meth : Method} {c : Code} {V : Nat → Nat} {g : GH} {D : va_G} {cT : Nat → ClassId} {o : GH × Nat} (hx : p.tables.exec = Jvm.exec) (hb : c.code = cX7_init) (hr : meth.sig.returnType = none) (hlocks : meth.locks = false) (hin : meth.name = yX7_init.name) (hC : CallFix p m c cX7_init 2 s args g_B RX7) : ∀ (x0 : Nat) (f : GH) (n : Nat) (H : Heap) (locs : List Loc) (ls : Array Slot), g_at (g_A V) V g D cT f n s H locs → lv_has ls 2 [(0, .ref x0), (1, .int (18 : Int32))] → p_X7_init_s16 V g x0 f n = some o → W p l e rm_X7_init s m args below meth c H locs 310 36363 (MQ below (g_Wv V D cT o.1 o.2) args s 314 36774 (g_A V)) (F0 m 165 ls []) := by
  intro x0 f n H locs ls hI hl hq
  obtain ⟨_, _, hml, hown, hB⟩ := id hC
  unfold p_X7_init_s16 at hq
  refine lv_iinc (v := (19 : Int32)) (lv' := [(1, .int (19 : Int32)), (0, .ref x0)]) hx hb dX7_init_165 hl (k := 1) rfl (by decide) (by decide) rfl (fun ls hl => ?_)
  refine lv_goto (tgt := 146) hx hb dX7_init_168 (by decide) ?_
  refine lv_iload_n hx hb dX7_init_146 rfl (lv_at hl 0 rfl) ?_
  refine lv_bipush (v := (20 : Int32)) hx hb dX7_init_147 (by decide) ?_
  refine lv_icmp_ge (tgt := 171) hx hb dX7_init_149 (by decide) (fun c => absurd c (by decide)) (fun _ => ?_)
  refine lv_aload_n hx hb dX7_init_152 rfl (lv_at hl 1 rfl) ?_
  obtain ⟨v138, ev138, hq⟩ := b_s hq
  refine fa_gr (own := RX7) (ref := "CoastlineRuler") (k := 9) hx hb hB inB_RX7 hown hI rfl (by decide) m_262 (fun _ h9 => h9) ev138 dX7_init_153 ?_
  refine lv_iload_n hx hb dX7_init_156 rfl (lv_at hl 0 rfl) ?_
  obtain ⟨f139, ef139, hq⟩ := b_s hq
  refine fa_new (own := RX7) (ci := 6) hx hb hB inB_RX3 tyX3_ok hown m_153 m_155 m_6 hI rfl (by decide +kernel) (by decide) (by decide) ef139 dX7_init_157 (fun H locs hI => ?_)
  refine lv_dup hx hb dX7_init_160 rfl ?_
  obtain ⟨v140, ev140, hq⟩ := b_s hq
  refine gw_v (g_runIN (As := []) (rest := [.ref n, .int (19 : Int32), .ref v138]) (j0 := 1) hC (c_X3_init l V g D cT f139 (n + 1) n v140 ev140) k_X3_init rfl rfl rfl ⟨Nat.le_of_ble_eq_true rfl, Nat.le_of_ble_eq_true rfl⟩ hI rfl hl.1 rfl (Nat.le_of_ble_eq_true rfl) dX7_init_161 ⟨by decide, by decide⟩) hI (fun H locs hI => ?_)
  obtain ⟨f141, ef141, hq⟩ := b_s hq
  refine fa_sq hx hb hI (by decide) (ci := 6) rfl rfl ef141 dX7_init_164 (fun H locs hI => ?_)
  refine lv_iinc (v := (20 : Int32)) (lv' := [(1, .int (20 : Int32)), (0, .ref x0)]) hx hb dX7_init_165 hl (k := 0) rfl (by decide) (by decide) rfl (fun ls hl => ?_)
  refine lv_goto (tgt := 146) hx hb dX7_init_168 (by decide) ?_
  refine lv_iload_n hx hb dX7_init_146 rfl (lv_at hl 0 rfl) ?_
  refine lv_bipush (v := (20 : Int32)) hx hb dX7_init_147 (by decide) ?_
  refine lv_icmp_ge (tgt := 171) hx hb dX7_init_149 (by decide) (fun _ => ?_) (fun c => absurd (by decide) c)
  refine lv_aload_n hx hb dX7_init_171 rfl (lv_at hl 1 rfl) ?_
  obtain ⟨v142, ev142, hq⟩ := b_s hq
  refine fa_gr (own := RX7) (ref := "CoastlineRuler") (k := 0) hx hb hB inB_RX7 hown hI rfl (by decide) m_253 (fun _ h9 => h9) ev142 dX7_init_172 ?_
  refine fs_gs (i := 13) hx hb hown hI rfl (hB _ m_228) (fun _ h9 => h9) dX7_init_175 ?_
  refine lv_iconst (v := (0 : Int32)) hx hb dX7_init_178 (by decide) ?_
  obtain ⟨v143, ev143, hq⟩ := b_s hq
  refine gw_v (g_runV (As := [.ref (V 14), .int (0 : Int32)]) (rest := []) (ci := 4) hC (c_X1_place l V g D cT f141 v140.2 v142 (V 14) (0 : Int32) v143 ev143) k_X1_place m_230 rfl rfl ⟨Nat.le_of_ble_eq_true rfl, Nat.le_of_ble_eq_true rfl⟩ hI rfl rfl (h_me_eq ev143).1 rfl hl.1 rfl (Nat.le_of_ble_eq_true rfl) dX7_init_179 ⟨by decide, by decide⟩) hI (fun H locs hI => ?_)
  exact sg_X7_init_17 hx hb hr hlocks hin hC x0 v143 v140.2 H locs ls hI (lv_sub hl [1] rfl) hq

set_option maxHeartbeats 4000000 in
set_option maxRecDepth 100000 in
theorem sg_X7_init_15 {p : Program} {l : Launch} {e : Env} {s : State} {m : MethodId} {args : Array Value} {below : List Frame} {meth : Method} {c : Code} {V : Nat → Nat} {g : GH} {D : va_G} {cT : Nat → ClassId} {o : GH × Nat} (hx : p.tables.exec = Jvm.exec) (hb : c.code = cX7_init) (hr : meth.sig.returnType = none) (hlocks : meth.locks = false) (hin : meth.name = yX7_init.name) (hC : CallFix p m c cX7_init 2 s args g_B RX7) : ∀ (x0 : Nat) (f : GH) (n : Nat) (H : Heap) (locs : List Loc) (ls : Array Slot), g_at (g_A V) V g D cT f n s H locs → lv_has ls 2 [(0, .ref x0), (1, .int (16 : Int32))] → p_X7_init_s15 V g x0 f n = some o → W p l e rm_X7_init s m args below meth c H locs 302 35541 (MQ below (g_Wv V D cT o.1 o.2) args s 314 36774 (g_A V)) (F0 m 165 ls []) := by
  intro x0 f n H locs ls hI hl hq
  obtain ⟨_, _, hml, hown, hB⟩ := id hC
  unfold p_X7_init_s15 at hq
  refine lv_iinc (v := (17 : Int32)) (lv' := [(1, .int (17 : Int32)), (0, .ref x0)]) hx hb dX7_init_165 hl (k := 1) rfl (by decide) (by decide) rfl (fun ls hl => ?_)
  refine lv_goto (tgt := 146) hx hb dX7_init_168 (by decide) ?_
  refine lv_iload_n hx hb dX7_init_146 rfl (lv_at hl 0 rfl) ?_
  refine lv_bipush (v := (20 : Int32)) hx hb dX7_init_147 (by decide) ?_
  refine lv_icmp_ge (tgt := 171) hx hb dX7_init_149 (by decide) (fun c => absurd c (by decide)) (fun _ => ?_)
  refine lv_aload_n hx hb dX7_init_152 rfl (lv_at hl 1 rfl) ?_
  obtain ⟨v130, ev130, hq⟩ := b_s hq
  refine fa_gr (own := RX7) (ref := "CoastlineRuler") (k := 9) hx hb hB inB_RX7 hown hI rfl (by decide) m_262 (fun _ h9 => h9) ev130 dX7_init_153 ?_
  refine lv_iload_n hx hb dX7_init_156 rfl (lv_at hl 0 rfl) ?_
  obtain ⟨f131, ef131, hq⟩ := b_s hq
  refine fa_new (own := RX7) (ci := 6) hx hb hB inB_RX3 tyX3_ok hown m_153 m_155 m_6 hI rfl (by decide +kernel) (by decide) (by decide) ef131 dX7_init_157 (fun H locs hI => ?_)
  refine lv_dup hx hb dX7_init_160 rfl ?_
  obtain ⟨v132, ev132, hq⟩ := b_s hq
  refine gw_v (g_runIN (As := []) (rest := [.ref n, .int (17 : Int32), .ref v130]) (j0 := 1) hC (c_X3_init l V g D cT f131 (n + 1) n v132 ev132) k_X3_init rfl rfl rfl ⟨Nat.le_of_ble_eq_true rfl, Nat.le_of_ble_eq_true rfl⟩ hI rfl hl.1 rfl (Nat.le_of_ble_eq_true rfl) dX7_init_161 ⟨by decide, by decide⟩) hI (fun H locs hI => ?_)
  obtain ⟨f133, ef133, hq⟩ := b_s hq
  refine fa_sq hx hb hI (by decide) (ci := 6) rfl rfl ef133 dX7_init_164 (fun H locs hI => ?_)
  refine lv_iinc (v := (18 : Int32)) (lv' := [(1, .int (18 : Int32)), (0, .ref x0)]) hx hb dX7_init_165 hl (k := 0) rfl (by decide) (by decide) rfl (fun ls hl => ?_)
  refine lv_goto (tgt := 146) hx hb dX7_init_168 (by decide) ?_
  refine lv_iload_n hx hb dX7_init_146 rfl (lv_at hl 0 rfl) ?_
  refine lv_bipush (v := (20 : Int32)) hx hb dX7_init_147 (by decide) ?_
  refine lv_icmp_ge (tgt := 171) hx hb dX7_init_149 (by decide) (fun c => absurd c (by decide)) (fun _ => ?_)
  refine lv_aload_n hx hb dX7_init_152 rfl (lv_at hl 1 rfl) ?_
  obtain ⟨v134, ev134, hq⟩ := b_s hq
  refine fa_gr (own := RX7) (ref := "CoastlineRuler") (k := 9) hx hb hB inB_RX7 hown hI rfl (by decide) m_262 (fun _ h9 => h9) ev134 dX7_init_153 ?_
  refine lv_iload_n hx hb dX7_init_156 rfl (lv_at hl 0 rfl) ?_
  obtain ⟨f135, ef135, hq⟩ := b_s hq
  refine fa_new (own := RX7) (ci := 6) hx hb hB inB_RX3 tyX3_ok hown m_153 m_155 m_6 hI rfl (by decide +kernel) (by decide) (by decide) ef135 dX7_init_157 (fun H locs hI => ?_)
  refine lv_dup hx hb dX7_init_160 rfl ?_
  obtain ⟨v136, ev136, hq⟩ := b_s hq
  refine gw_v (g_runIN (As := []) (rest := [.ref v132.2, .int (18 : Int32), .ref v134]) (j0 := 1) hC (c_X3_init l V g D cT f135 (v132.2 + 1) v132.2 v136 ev136) k_X3_init rfl rfl rfl ⟨Nat.le_of_ble_eq_true rfl, Nat.le_of_ble_eq_true rfl⟩ hI rfl hl.1 rfl (Nat.le_of_ble_eq_true rfl) dX7_init_161 ⟨by decide, by decide⟩) hI (fun H locs hI => ?_)
  obtain ⟨f137, ef137, hq⟩ := b_s hq
  refine fa_sq hx hb hI (by decide) (ci := 6) rfl rfl ef137 dX7_init_164 (fun H locs hI => ?_)
  exact sg_X7_init_16 hx hb hr hlocks hin hC x0 f137 v136.2 H locs ls hI (lv_sub hl [1, 0] rfl) hq

set_option maxHeartbeats 4000000 in
set_option maxRecDepth 100000 in
theorem sg_X7_init_14 {p : Program} {l : Launch} {e : Env} {s : State} {m : MethodId} {args : Array Value} {below : List Frame} {meth : Method} {c : Code} {V : Nat → Nat} {g : GH} {D : va_G} {cT : Nat → ClassId} {o : GH × Nat} (hx : p.tables.exec = Jvm.exec) (hb : c.code = cX7_init) (hr : meth.sig.returnType = none) (hlocks : meth.locks = false) (hin : meth.name = yX7_init.name) (hC : CallFix p m c cX7_init 2 s args g_B RX7) : ∀ (x0 : Nat) (f : GH) (n : Nat) (H : Heap) (locs : List Loc) (ls : Array Slot), g_at (g_A V) V g D cT f n s H locs → lv_has ls 2 [(0, .ref x0), (1, .int (14 : Int32))] → p_X7_init_s14 V g x0 f n = some o → W p l e rm_X7_init s m args below meth c H locs 294 34719 (MQ below (g_Wv V D cT o.1 o.2) args s 314 36774 (g_A V)) (F0 m 165 ls []) := by
  intro x0 f n H locs ls hI hl hq
  obtain ⟨_, _, hml, hown, hB⟩ := id hC
  unfold p_X7_init_s14 at hq
  refine lv_iinc (v := (15 : Int32)) (lv' := [(1, .int (15 : Int32)), (0, .ref x0)]) hx hb dX7_init_165 hl (k := 1) rfl (by decide) (by decide) rfl (fun ls hl => ?_)
  refine lv_goto (tgt := 146) hx hb dX7_init_168 (by decide) ?_
  refine lv_iload_n hx hb dX7_init_146 rfl (lv_at hl 0 rfl) ?_
  refine lv_bipush (v := (20 : Int32)) hx hb dX7_init_147 (by decide) ?_
  refine lv_icmp_ge (tgt := 171) hx hb dX7_init_149 (by decide) (fun c => absurd c (by decide)) (fun _ => ?_)
  refine lv_aload_n hx hb dX7_init_152 rfl (lv_at hl 1 rfl) ?_
  obtain ⟨v122, ev122, hq⟩ := b_s hq
  refine fa_gr (own := RX7) (ref := "CoastlineRuler") (k := 9) hx hb hB inB_RX7 hown hI rfl (by decide) m_262 (fun _ h9 => h9) ev122 dX7_init_153 ?_
  refine lv_iload_n hx hb dX7_init_156 rfl (lv_at hl 0 rfl) ?_
  obtain ⟨f123, ef123, hq⟩ := b_s hq
  refine fa_new (own := RX7) (ci := 6) hx hb hB inB_RX3 tyX3_ok hown m_153 m_155 m_6 hI rfl (by decide +kernel) (by decide) (by decide) ef123 dX7_init_157 (fun H locs hI => ?_)
  refine lv_dup hx hb dX7_init_160 rfl ?_
  obtain ⟨v124, ev124, hq⟩ := b_s hq
  refine gw_v (g_runIN (As := []) (rest := [.ref n, .int (15 : Int32), .ref v122]) (j0 := 1) hC (c_X3_init l V g D cT f123 (n + 1) n v124 ev124) k_X3_init rfl rfl rfl ⟨Nat.le_of_ble_eq_true rfl, Nat.le_of_ble_eq_true rfl⟩ hI rfl hl.1 rfl (Nat.le_of_ble_eq_true rfl) dX7_init_161 ⟨by decide, by decide⟩) hI (fun H locs hI => ?_)
  obtain ⟨f125, ef125, hq⟩ := b_s hq
  refine fa_sq hx hb hI (by decide) (ci := 6) rfl rfl ef125 dX7_init_164 (fun H locs hI => ?_)
  refine lv_iinc (v := (16 : Int32)) (lv' := [(1, .int (16 : Int32)), (0, .ref x0)]) hx hb dX7_init_165 hl (k := 0) rfl (by decide) (by decide) rfl (fun ls hl => ?_)
  refine lv_goto (tgt := 146) hx hb dX7_init_168 (by decide) ?_
  refine lv_iload_n hx hb dX7_init_146 rfl (lv_at hl 0 rfl) ?_
  refine lv_bipush (v := (20 : Int32)) hx hb dX7_init_147 (by decide) ?_
  refine lv_icmp_ge (tgt := 171) hx hb dX7_init_149 (by decide) (fun c => absurd c (by decide)) (fun _ => ?_)
  refine lv_aload_n hx hb dX7_init_152 rfl (lv_at hl 1 rfl) ?_
  obtain ⟨v126, ev126, hq⟩ := b_s hq
  refine fa_gr (own := RX7) (ref := "CoastlineRuler") (k := 9) hx hb hB inB_RX7 hown hI rfl (by decide) m_262 (fun _ h9 => h9) ev126 dX7_init_153 ?_
  refine lv_iload_n hx hb dX7_init_156 rfl (lv_at hl 0 rfl) ?_
  obtain ⟨f127, ef127, hq⟩ := b_s hq
  refine fa_new (own := RX7) (ci := 6) hx hb hB inB_RX3 tyX3_ok hown m_153 m_155 m_6 hI rfl (by decide +kernel) (by decide) (by decide) ef127 dX7_init_157 (fun H locs hI => ?_)
  refine lv_dup hx hb dX7_init_160 rfl ?_
  obtain ⟨v128, ev128, hq⟩ := b_s hq
  refine gw_v (g_runIN (As := []) (rest := [.ref v124.2, .int (16 : Int32), .ref v126]) (j0 := 1) hC (c_X3_init l V g D cT f127 (v124.2 + 1) v124.2 v128 ev128) k_X3_init rfl rfl rfl ⟨Nat.le_of_ble_eq_true rfl, Nat.le_of_ble_eq_true rfl⟩ hI rfl hl.1 rfl (Nat.le_of_ble_eq_true rfl) dX7_init_161 ⟨by decide, by decide⟩) hI (fun H locs hI => ?_)
  obtain ⟨f129, ef129, hq⟩ := b_s hq
  refine fa_sq hx hb hI (by decide) (ci := 6) rfl rfl ef129 dX7_init_164 (fun H locs hI => ?_)
  exact sg_X7_init_15 hx hb hr hlocks hin hC x0 f129 v128.2 H locs ls hI (lv_sub hl [1, 0] rfl) hq

set_option maxHeartbeats 4000000 in
set_option maxRecDepth 100000 in
theorem sg_X7_init_13 {p : Program} {l : Launch} {e : Env} {s : State} {m : MethodId} {args : Array Value} {below : List Frame} {meth : Method} {c : Code} {V : Nat → Nat} {g : GH} {D : va_G} {cT : Nat → ClassId} {o : GH × Nat} (hx : p.tables.exec = Jvm.exec) (hb : c.code = cX7_init) (hr : meth.sig.returnType = none) (hlocks : meth.locks = false) (hin : meth.name = yX7_init.name) (hC : CallFix p m c cX7_init 2 s args g_B RX7) : ∀ (x0 : Nat) (f : GH) (n : Nat) (H : Heap) (locs : List Loc) (ls : Array Slot), g_at (g_A V) V g D cT f n s H locs → lv_has ls 2 [(0, .ref x0), (1, .int (12 : Int32))] → p_X7_init_s13 V g x0 f n = some o → W p l e rm_X7_init s m args below meth c H locs 286 33897 (MQ below (g_Wv V D cT o.1 o.2) args s 314 36774 (g_A V)) (F0 m 165 ls []) := by
  intro x0 f n H locs ls hI hl hq
  obtain ⟨_, _, hml, hown, hB⟩ := id hC
  unfold p_X7_init_s13 at hq
  refine lv_iinc (v := (13 : Int32)) (lv' := [(1, .int (13 : Int32)), (0, .ref x0)]) hx hb dX7_init_165 hl (k := 1) rfl (by decide) (by decide) rfl (fun ls hl => ?_)
  refine lv_goto (tgt := 146) hx hb dX7_init_168 (by decide) ?_
  refine lv_iload_n hx hb dX7_init_146 rfl (lv_at hl 0 rfl) ?_
  refine lv_bipush (v := (20 : Int32)) hx hb dX7_init_147 (by decide) ?_
  refine lv_icmp_ge (tgt := 171) hx hb dX7_init_149 (by decide) (fun c => absurd c (by decide)) (fun _ => ?_)
  refine lv_aload_n hx hb dX7_init_152 rfl (lv_at hl 1 rfl) ?_
  obtain ⟨v114, ev114, hq⟩ := b_s hq
  refine fa_gr (own := RX7) (ref := "CoastlineRuler") (k := 9) hx hb hB inB_RX7 hown hI rfl (by decide) m_262 (fun _ h9 => h9) ev114 dX7_init_153 ?_
  refine lv_iload_n hx hb dX7_init_156 rfl (lv_at hl 0 rfl) ?_
  obtain ⟨f115, ef115, hq⟩ := b_s hq
  refine fa_new (own := RX7) (ci := 6) hx hb hB inB_RX3 tyX3_ok hown m_153 m_155 m_6 hI rfl (by decide +kernel) (by decide) (by decide) ef115 dX7_init_157 (fun H locs hI => ?_)
  refine lv_dup hx hb dX7_init_160 rfl ?_
  obtain ⟨v116, ev116, hq⟩ := b_s hq
  refine gw_v (g_runIN (As := []) (rest := [.ref n, .int (13 : Int32), .ref v114]) (j0 := 1) hC (c_X3_init l V g D cT f115 (n + 1) n v116 ev116) k_X3_init rfl rfl rfl ⟨Nat.le_of_ble_eq_true rfl, Nat.le_of_ble_eq_true rfl⟩ hI rfl hl.1 rfl (Nat.le_of_ble_eq_true rfl) dX7_init_161 ⟨by decide, by decide⟩) hI (fun H locs hI => ?_)
  obtain ⟨f117, ef117, hq⟩ := b_s hq
  refine fa_sq hx hb hI (by decide) (ci := 6) rfl rfl ef117 dX7_init_164 (fun H locs hI => ?_)
  refine lv_iinc (v := (14 : Int32)) (lv' := [(1, .int (14 : Int32)), (0, .ref x0)]) hx hb dX7_init_165 hl (k := 0) rfl (by decide) (by decide) rfl (fun ls hl => ?_)
  refine lv_goto (tgt := 146) hx hb dX7_init_168 (by decide) ?_
  refine lv_iload_n hx hb dX7_init_146 rfl (lv_at hl 0 rfl) ?_
  refine lv_bipush (v := (20 : Int32)) hx hb dX7_init_147 (by decide) ?_
  refine lv_icmp_ge (tgt := 171) hx hb dX7_init_149 (by decide) (fun c => absurd c (by decide)) (fun _ => ?_)
  refine lv_aload_n hx hb dX7_init_152 rfl (lv_at hl 1 rfl) ?_
  obtain ⟨v118, ev118, hq⟩ := b_s hq
  refine fa_gr (own := RX7) (ref := "CoastlineRuler") (k := 9) hx hb hB inB_RX7 hown hI rfl (by decide) m_262 (fun _ h9 => h9) ev118 dX7_init_153 ?_
  refine lv_iload_n hx hb dX7_init_156 rfl (lv_at hl 0 rfl) ?_
  obtain ⟨f119, ef119, hq⟩ := b_s hq
  refine fa_new (own := RX7) (ci := 6) hx hb hB inB_RX3 tyX3_ok hown m_153 m_155 m_6 hI rfl (by decide +kernel) (by decide) (by decide) ef119 dX7_init_157 (fun H locs hI => ?_)
  refine lv_dup hx hb dX7_init_160 rfl ?_
  obtain ⟨v120, ev120, hq⟩ := b_s hq
  refine gw_v (g_runIN (As := []) (rest := [.ref v116.2, .int (14 : Int32), .ref v118]) (j0 := 1) hC (c_X3_init l V g D cT f119 (v116.2 + 1) v116.2 v120 ev120) k_X3_init rfl rfl rfl ⟨Nat.le_of_ble_eq_true rfl, Nat.le_of_ble_eq_true rfl⟩ hI rfl hl.1 rfl (Nat.le_of_ble_eq_true rfl) dX7_init_161 ⟨by decide, by decide⟩) hI (fun H locs hI => ?_)
  obtain ⟨f121, ef121, hq⟩ := b_s hq
  refine fa_sq hx hb hI (by decide) (ci := 6) rfl rfl ef121 dX7_init_164 (fun H locs hI => ?_)
  exact sg_X7_init_14 hx hb hr hlocks hin hC x0 f121 v120.2 H locs ls hI (lv_sub hl [1, 0] rfl) hq

set_option maxHeartbeats 4000000 in
set_option maxRecDepth 100000 in
theorem sg_X7_init_12 {p : Program} {l : Launch} {e : Env} {s : State} {m : MethodId} {args : Array Value} {below : List Frame} {meth : Method} {c : Code} {V : Nat → Nat} {g : GH} {D : va_G} {cT : Nat → ClassId} {o : GH × Nat} (hx : p.tables.exec = Jvm.exec) (hb : c.code = cX7_init) (hr : meth.sig.returnType = none) (hlocks : meth.locks = false) (hin : meth.name = yX7_init.name) (hC : CallFix p m c cX7_init 2 s args g_B RX7) : ∀ (x0 : Nat) (f : GH) (n : Nat) (H : Heap) (locs : List Loc) (ls : Array Slot), g_at (g_A V) V g D cT f n s H locs → lv_has ls 2 [(0, .ref x0), (1, .int (10 : Int32))] → p_X7_init_s12 V g x0 f n = some o → W p l e rm_X7_init s m args below meth c H locs 278 33075 (MQ below (g_Wv V D cT o.1 o.2) args s 314 36774 (g_A V)) (F0 m 165 ls []) := by
  intro x0 f n H locs ls hI hl hq
  obtain ⟨_, _, hml, hown, hB⟩ := id hC
  unfold p_X7_init_s12 at hq
  refine lv_iinc (v := (11 : Int32)) (lv' := [(1, .int (11 : Int32)), (0, .ref x0)]) hx hb dX7_init_165 hl (k := 1) rfl (by decide) (by decide) rfl (fun ls hl => ?_)
  refine lv_goto (tgt := 146) hx hb dX7_init_168 (by decide) ?_
  refine lv_iload_n hx hb dX7_init_146 rfl (lv_at hl 0 rfl) ?_
  refine lv_bipush (v := (20 : Int32)) hx hb dX7_init_147 (by decide) ?_
  refine lv_icmp_ge (tgt := 171) hx hb dX7_init_149 (by decide) (fun c => absurd c (by decide)) (fun _ => ?_)
  refine lv_aload_n hx hb dX7_init_152 rfl (lv_at hl 1 rfl) ?_
  obtain ⟨v106, ev106, hq⟩ := b_s hq
  refine fa_gr (own := RX7) (ref := "CoastlineRuler") (k := 9) hx hb hB inB_RX7 hown hI rfl (by decide) m_262 (fun _ h9 => h9) ev106 dX7_init_153 ?_
  refine lv_iload_n hx hb dX7_init_156 rfl (lv_at hl 0 rfl) ?_
  obtain ⟨f107, ef107, hq⟩ := b_s hq
  refine fa_new (own := RX7) (ci := 6) hx hb hB inB_RX3 tyX3_ok hown m_153 m_155 m_6 hI rfl (by decide +kernel) (by decide) (by decide) ef107 dX7_init_157 (fun H locs hI => ?_)
  refine lv_dup hx hb dX7_init_160 rfl ?_
  obtain ⟨v108, ev108, hq⟩ := b_s hq
  refine gw_v (g_runIN (As := []) (rest := [.ref n, .int (11 : Int32), .ref v106]) (j0 := 1) hC (c_X3_init l V g D cT f107 (n + 1) n v108 ev108) k_X3_init rfl rfl rfl ⟨Nat.le_of_ble_eq_true rfl, Nat.le_of_ble_eq_true rfl⟩ hI rfl hl.1 rfl (Nat.le_of_ble_eq_true rfl) dX7_init_161 ⟨by decide, by decide⟩) hI (fun H locs hI => ?_)
  obtain ⟨f109, ef109, hq⟩ := b_s hq
  refine fa_sq hx hb hI (by decide) (ci := 6) rfl rfl ef109 dX7_init_164 (fun H locs hI => ?_)
  refine lv_iinc (v := (12 : Int32)) (lv' := [(1, .int (12 : Int32)), (0, .ref x0)]) hx hb dX7_init_165 hl (k := 0) rfl (by decide) (by decide) rfl (fun ls hl => ?_)
  refine lv_goto (tgt := 146) hx hb dX7_init_168 (by decide) ?_
  refine lv_iload_n hx hb dX7_init_146 rfl (lv_at hl 0 rfl) ?_
  refine lv_bipush (v := (20 : Int32)) hx hb dX7_init_147 (by decide) ?_
  refine lv_icmp_ge (tgt := 171) hx hb dX7_init_149 (by decide) (fun c => absurd c (by decide)) (fun _ => ?_)
  refine lv_aload_n hx hb dX7_init_152 rfl (lv_at hl 1 rfl) ?_
  obtain ⟨v110, ev110, hq⟩ := b_s hq
  refine fa_gr (own := RX7) (ref := "CoastlineRuler") (k := 9) hx hb hB inB_RX7 hown hI rfl (by decide) m_262 (fun _ h9 => h9) ev110 dX7_init_153 ?_
  refine lv_iload_n hx hb dX7_init_156 rfl (lv_at hl 0 rfl) ?_
  obtain ⟨f111, ef111, hq⟩ := b_s hq
  refine fa_new (own := RX7) (ci := 6) hx hb hB inB_RX3 tyX3_ok hown m_153 m_155 m_6 hI rfl (by decide +kernel) (by decide) (by decide) ef111 dX7_init_157 (fun H locs hI => ?_)
  refine lv_dup hx hb dX7_init_160 rfl ?_
  obtain ⟨v112, ev112, hq⟩ := b_s hq
  refine gw_v (g_runIN (As := []) (rest := [.ref v108.2, .int (12 : Int32), .ref v110]) (j0 := 1) hC (c_X3_init l V g D cT f111 (v108.2 + 1) v108.2 v112 ev112) k_X3_init rfl rfl rfl ⟨Nat.le_of_ble_eq_true rfl, Nat.le_of_ble_eq_true rfl⟩ hI rfl hl.1 rfl (Nat.le_of_ble_eq_true rfl) dX7_init_161 ⟨by decide, by decide⟩) hI (fun H locs hI => ?_)
  obtain ⟨f113, ef113, hq⟩ := b_s hq
  refine fa_sq hx hb hI (by decide) (ci := 6) rfl rfl ef113 dX7_init_164 (fun H locs hI => ?_)
  exact sg_X7_init_13 hx hb hr hlocks hin hC x0 f113 v112.2 H locs ls hI (lv_sub hl [1, 0] rfl) hq

set_option maxHeartbeats 4000000 in
set_option maxRecDepth 100000 in
theorem sg_X7_init_11 {p : Program} {l : Launch} {e : Env} {s : State} {m : MethodId} {args : Array Value} {below : List Frame} {meth : Method} {c : Code} {V : Nat → Nat} {g : GH} {D : va_G} {cT : Nat → ClassId} {o : GH × Nat} (hx : p.tables.exec = Jvm.exec) (hb : c.code = cX7_init) (hr : meth.sig.returnType = none) (hlocks : meth.locks = false) (hin : meth.name = yX7_init.name) (hC : CallFix p m c cX7_init 2 s args g_B RX7) : ∀ (x0 : Nat) (f : GH) (n : Nat) (H : Heap) (locs : List Loc) (ls : Array Slot), g_at (g_A V) V g D cT f n s H locs → lv_has ls 2 [(0, .ref x0), (1, .int (8 : Int32))] → p_X7_init_s11 V g x0 f n = some o → W p l e rm_X7_init s m args below meth c H locs 270 32253 (MQ below (g_Wv V D cT o.1 o.2) args s 314 36774 (g_A V)) (F0 m 165 ls []) := by
  intro x0 f n H locs ls hI hl hq
  obtain ⟨_, _, hml, hown, hB⟩ := id hC
  unfold p_X7_init_s11 at hq
  refine lv_iinc (v := (9 : Int32)) (lv' := [(1, .int (9 : Int32)), (0, .ref x0)]) hx hb dX7_init_165 hl (k := 1) rfl (by decide) (by decide) rfl (fun ls hl => ?_)
  refine lv_goto (tgt := 146) hx hb dX7_init_168 (by decide) ?_
  refine lv_iload_n hx hb dX7_init_146 rfl (lv_at hl 0 rfl) ?_
  refine lv_bipush (v := (20 : Int32)) hx hb dX7_init_147 (by decide) ?_
  refine lv_icmp_ge (tgt := 171) hx hb dX7_init_149 (by decide) (fun c => absurd c (by decide)) (fun _ => ?_)
  refine lv_aload_n hx hb dX7_init_152 rfl (lv_at hl 1 rfl) ?_
  obtain ⟨v98, ev98, hq⟩ := b_s hq
  refine fa_gr (own := RX7) (ref := "CoastlineRuler") (k := 9) hx hb hB inB_RX7 hown hI rfl (by decide) m_262 (fun _ h9 => h9) ev98 dX7_init_153 ?_
  refine lv_iload_n hx hb dX7_init_156 rfl (lv_at hl 0 rfl) ?_
  obtain ⟨f99, ef99, hq⟩ := b_s hq
  refine fa_new (own := RX7) (ci := 6) hx hb hB inB_RX3 tyX3_ok hown m_153 m_155 m_6 hI rfl (by decide +kernel) (by decide) (by decide) ef99 dX7_init_157 (fun H locs hI => ?_)
  refine lv_dup hx hb dX7_init_160 rfl ?_
  obtain ⟨v100, ev100, hq⟩ := b_s hq
  refine gw_v (g_runIN (As := []) (rest := [.ref n, .int (9 : Int32), .ref v98]) (j0 := 1) hC (c_X3_init l V g D cT f99 (n + 1) n v100 ev100) k_X3_init rfl rfl rfl ⟨Nat.le_of_ble_eq_true rfl, Nat.le_of_ble_eq_true rfl⟩ hI rfl hl.1 rfl (Nat.le_of_ble_eq_true rfl) dX7_init_161 ⟨by decide, by decide⟩) hI (fun H locs hI => ?_)
  obtain ⟨f101, ef101, hq⟩ := b_s hq
  refine fa_sq hx hb hI (by decide) (ci := 6) rfl rfl ef101 dX7_init_164 (fun H locs hI => ?_)
  refine lv_iinc (v := (10 : Int32)) (lv' := [(1, .int (10 : Int32)), (0, .ref x0)]) hx hb dX7_init_165 hl (k := 0) rfl (by decide) (by decide) rfl (fun ls hl => ?_)
  refine lv_goto (tgt := 146) hx hb dX7_init_168 (by decide) ?_
  refine lv_iload_n hx hb dX7_init_146 rfl (lv_at hl 0 rfl) ?_
  refine lv_bipush (v := (20 : Int32)) hx hb dX7_init_147 (by decide) ?_
  refine lv_icmp_ge (tgt := 171) hx hb dX7_init_149 (by decide) (fun c => absurd c (by decide)) (fun _ => ?_)
  refine lv_aload_n hx hb dX7_init_152 rfl (lv_at hl 1 rfl) ?_
  obtain ⟨v102, ev102, hq⟩ := b_s hq
  refine fa_gr (own := RX7) (ref := "CoastlineRuler") (k := 9) hx hb hB inB_RX7 hown hI rfl (by decide) m_262 (fun _ h9 => h9) ev102 dX7_init_153 ?_
  refine lv_iload_n hx hb dX7_init_156 rfl (lv_at hl 0 rfl) ?_
  obtain ⟨f103, ef103, hq⟩ := b_s hq
  refine fa_new (own := RX7) (ci := 6) hx hb hB inB_RX3 tyX3_ok hown m_153 m_155 m_6 hI rfl (by decide +kernel) (by decide) (by decide) ef103 dX7_init_157 (fun H locs hI => ?_)
  refine lv_dup hx hb dX7_init_160 rfl ?_
  obtain ⟨v104, ev104, hq⟩ := b_s hq
  refine gw_v (g_runIN (As := []) (rest := [.ref v100.2, .int (10 : Int32), .ref v102]) (j0 := 1) hC (c_X3_init l V g D cT f103 (v100.2 + 1) v100.2 v104 ev104) k_X3_init rfl rfl rfl ⟨Nat.le_of_ble_eq_true rfl, Nat.le_of_ble_eq_true rfl⟩ hI rfl hl.1 rfl (Nat.le_of_ble_eq_true rfl) dX7_init_161 ⟨by decide, by decide⟩) hI (fun H locs hI => ?_)
  obtain ⟨f105, ef105, hq⟩ := b_s hq
  refine fa_sq hx hb hI (by decide) (ci := 6) rfl rfl ef105 dX7_init_164 (fun H locs hI => ?_)
  exact sg_X7_init_12 hx hb hr hlocks hin hC x0 f105 v104.2 H locs ls hI (lv_sub hl [1, 0] rfl) hq

set_option maxHeartbeats 4000000 in
set_option maxRecDepth 100000 in
theorem sg_X7_init_10 {p : Program} {l : Launch} {e : Env} {s : State} {m : MethodId} {args : Array Value} {below : List Frame} {meth : Method} {c : Code} {V : Nat → Nat} {g : GH} {D : va_G} {cT : Nat → ClassId} {o : GH × Nat} (hx : p.tables.exec = Jvm.exec) (hb : c.code = cX7_init) (hr : meth.sig.returnType = none) (hlocks : meth.locks = false) (hin : meth.name = yX7_init.name) (hC : CallFix p m c cX7_init 2 s args g_B RX7) : ∀ (x0 : Nat) (f : GH) (n : Nat) (H : Heap) (locs : List Loc) (ls : Array Slot), g_at (g_A V) V g D cT f n s H locs → lv_has ls 2 [(0, .ref x0), (1, .int (6 : Int32))] → p_X7_init_s10 V g x0 f n = some o → W p l e rm_X7_init s m args below meth c H locs 262 31431 (MQ below (g_Wv V D cT o.1 o.2) args s 314 36774 (g_A V)) (F0 m 165 ls []) := by
  intro x0 f n H locs ls hI hl hq
  obtain ⟨_, _, hml, hown, hB⟩ := id hC
  unfold p_X7_init_s10 at hq
  refine lv_iinc (v := (7 : Int32)) (lv' := [(1, .int (7 : Int32)), (0, .ref x0)]) hx hb dX7_init_165 hl (k := 1) rfl (by decide) (by decide) rfl (fun ls hl => ?_)
  refine lv_goto (tgt := 146) hx hb dX7_init_168 (by decide) ?_
  refine lv_iload_n hx hb dX7_init_146 rfl (lv_at hl 0 rfl) ?_
  refine lv_bipush (v := (20 : Int32)) hx hb dX7_init_147 (by decide) ?_
  refine lv_icmp_ge (tgt := 171) hx hb dX7_init_149 (by decide) (fun c => absurd c (by decide)) (fun _ => ?_)
  refine lv_aload_n hx hb dX7_init_152 rfl (lv_at hl 1 rfl) ?_
  obtain ⟨v90, ev90, hq⟩ := b_s hq
  refine fa_gr (own := RX7) (ref := "CoastlineRuler") (k := 9) hx hb hB inB_RX7 hown hI rfl (by decide) m_262 (fun _ h9 => h9) ev90 dX7_init_153 ?_
  refine lv_iload_n hx hb dX7_init_156 rfl (lv_at hl 0 rfl) ?_
  obtain ⟨f91, ef91, hq⟩ := b_s hq
  refine fa_new (own := RX7) (ci := 6) hx hb hB inB_RX3 tyX3_ok hown m_153 m_155 m_6 hI rfl (by decide +kernel) (by decide) (by decide) ef91 dX7_init_157 (fun H locs hI => ?_)
  refine lv_dup hx hb dX7_init_160 rfl ?_
  obtain ⟨v92, ev92, hq⟩ := b_s hq
  refine gw_v (g_runIN (As := []) (rest := [.ref n, .int (7 : Int32), .ref v90]) (j0 := 1) hC (c_X3_init l V g D cT f91 (n + 1) n v92 ev92) k_X3_init rfl rfl rfl ⟨Nat.le_of_ble_eq_true rfl, Nat.le_of_ble_eq_true rfl⟩ hI rfl hl.1 rfl (Nat.le_of_ble_eq_true rfl) dX7_init_161 ⟨by decide, by decide⟩) hI (fun H locs hI => ?_)
  obtain ⟨f93, ef93, hq⟩ := b_s hq
  refine fa_sq hx hb hI (by decide) (ci := 6) rfl rfl ef93 dX7_init_164 (fun H locs hI => ?_)
  refine lv_iinc (v := (8 : Int32)) (lv' := [(1, .int (8 : Int32)), (0, .ref x0)]) hx hb dX7_init_165 hl (k := 0) rfl (by decide) (by decide) rfl (fun ls hl => ?_)
  refine lv_goto (tgt := 146) hx hb dX7_init_168 (by decide) ?_
  refine lv_iload_n hx hb dX7_init_146 rfl (lv_at hl 0 rfl) ?_
  refine lv_bipush (v := (20 : Int32)) hx hb dX7_init_147 (by decide) ?_
  refine lv_icmp_ge (tgt := 171) hx hb dX7_init_149 (by decide) (fun c => absurd c (by decide)) (fun _ => ?_)
  refine lv_aload_n hx hb dX7_init_152 rfl (lv_at hl 1 rfl) ?_
  obtain ⟨v94, ev94, hq⟩ := b_s hq
  refine fa_gr (own := RX7) (ref := "CoastlineRuler") (k := 9) hx hb hB inB_RX7 hown hI rfl (by decide) m_262 (fun _ h9 => h9) ev94 dX7_init_153 ?_
  refine lv_iload_n hx hb dX7_init_156 rfl (lv_at hl 0 rfl) ?_
  obtain ⟨f95, ef95, hq⟩ := b_s hq
  refine fa_new (own := RX7) (ci := 6) hx hb hB inB_RX3 tyX3_ok hown m_153 m_155 m_6 hI rfl (by decide +kernel) (by decide) (by decide) ef95 dX7_init_157 (fun H locs hI => ?_)
  refine lv_dup hx hb dX7_init_160 rfl ?_
  obtain ⟨v96, ev96, hq⟩ := b_s hq
  refine gw_v (g_runIN (As := []) (rest := [.ref v92.2, .int (8 : Int32), .ref v94]) (j0 := 1) hC (c_X3_init l V g D cT f95 (v92.2 + 1) v92.2 v96 ev96) k_X3_init rfl rfl rfl ⟨Nat.le_of_ble_eq_true rfl, Nat.le_of_ble_eq_true rfl⟩ hI rfl hl.1 rfl (Nat.le_of_ble_eq_true rfl) dX7_init_161 ⟨by decide, by decide⟩) hI (fun H locs hI => ?_)
  obtain ⟨f97, ef97, hq⟩ := b_s hq
  refine fa_sq hx hb hI (by decide) (ci := 6) rfl rfl ef97 dX7_init_164 (fun H locs hI => ?_)
  exact sg_X7_init_11 hx hb hr hlocks hin hC x0 f97 v96.2 H locs ls hI (lv_sub hl [1, 0] rfl) hq

set_option maxHeartbeats 4000000 in
set_option maxRecDepth 100000 in
theorem sg_X7_init_9 {p : Program} {l : Launch} {e : Env} {s : State} {m : MethodId} {args : Array Value} {below : List Frame} {meth : Method} {c : Code} {V : Nat → Nat} {g : GH} {D : va_G} {cT : Nat → ClassId} {o : GH × Nat} (hx : p.tables.exec = Jvm.exec) (hb : c.code = cX7_init) (hr : meth.sig.returnType = none) (hlocks : meth.locks = false) (hin : meth.name = yX7_init.name) (hC : CallFix p m c cX7_init 2 s args g_B RX7) : ∀ (x0 : Nat) (f : GH) (n : Nat) (H : Heap) (locs : List Loc) (ls : Array Slot), g_at (g_A V) V g D cT f n s H locs → lv_has ls 2 [(0, .ref x0), (1, .int (4 : Int32))] → p_X7_init_s9 V g x0 f n = some o → W p l e rm_X7_init s m args below meth c H locs 254 30609 (MQ below (g_Wv V D cT o.1 o.2) args s 314 36774 (g_A V)) (F0 m 165 ls []) := by
  intro x0 f n H locs ls hI hl hq
  obtain ⟨_, _, hml, hown, hB⟩ := id hC
  unfold p_X7_init_s9 at hq
  refine lv_iinc (v := (5 : Int32)) (lv' := [(1, .int (5 : Int32)), (0, .ref x0)]) hx hb dX7_init_165 hl (k := 1) rfl (by decide) (by decide) rfl (fun ls hl => ?_)
  refine lv_goto (tgt := 146) hx hb dX7_init_168 (by decide) ?_
  refine lv_iload_n hx hb dX7_init_146 rfl (lv_at hl 0 rfl) ?_
  refine lv_bipush (v := (20 : Int32)) hx hb dX7_init_147 (by decide) ?_
  refine lv_icmp_ge (tgt := 171) hx hb dX7_init_149 (by decide) (fun c => absurd c (by decide)) (fun _ => ?_)
  refine lv_aload_n hx hb dX7_init_152 rfl (lv_at hl 1 rfl) ?_
  obtain ⟨v82, ev82, hq⟩ := b_s hq
  refine fa_gr (own := RX7) (ref := "CoastlineRuler") (k := 9) hx hb hB inB_RX7 hown hI rfl (by decide) m_262 (fun _ h9 => h9) ev82 dX7_init_153 ?_
  refine lv_iload_n hx hb dX7_init_156 rfl (lv_at hl 0 rfl) ?_
  obtain ⟨f83, ef83, hq⟩ := b_s hq
  refine fa_new (own := RX7) (ci := 6) hx hb hB inB_RX3 tyX3_ok hown m_153 m_155 m_6 hI rfl (by decide +kernel) (by decide) (by decide) ef83 dX7_init_157 (fun H locs hI => ?_)
  refine lv_dup hx hb dX7_init_160 rfl ?_
  obtain ⟨v84, ev84, hq⟩ := b_s hq
  refine gw_v (g_runIN (As := []) (rest := [.ref n, .int (5 : Int32), .ref v82]) (j0 := 1) hC (c_X3_init l V g D cT f83 (n + 1) n v84 ev84) k_X3_init rfl rfl rfl ⟨Nat.le_of_ble_eq_true rfl, Nat.le_of_ble_eq_true rfl⟩ hI rfl hl.1 rfl (Nat.le_of_ble_eq_true rfl) dX7_init_161 ⟨by decide, by decide⟩) hI (fun H locs hI => ?_)
  obtain ⟨f85, ef85, hq⟩ := b_s hq
  refine fa_sq hx hb hI (by decide) (ci := 6) rfl rfl ef85 dX7_init_164 (fun H locs hI => ?_)
  refine lv_iinc (v := (6 : Int32)) (lv' := [(1, .int (6 : Int32)), (0, .ref x0)]) hx hb dX7_init_165 hl (k := 0) rfl (by decide) (by decide) rfl (fun ls hl => ?_)
  refine lv_goto (tgt := 146) hx hb dX7_init_168 (by decide) ?_
  refine lv_iload_n hx hb dX7_init_146 rfl (lv_at hl 0 rfl) ?_
  refine lv_bipush (v := (20 : Int32)) hx hb dX7_init_147 (by decide) ?_
  refine lv_icmp_ge (tgt := 171) hx hb dX7_init_149 (by decide) (fun c => absurd c (by decide)) (fun _ => ?_)
  refine lv_aload_n hx hb dX7_init_152 rfl (lv_at hl 1 rfl) ?_
  obtain ⟨v86, ev86, hq⟩ := b_s hq
  refine fa_gr (own := RX7) (ref := "CoastlineRuler") (k := 9) hx hb hB inB_RX7 hown hI rfl (by decide) m_262 (fun _ h9 => h9) ev86 dX7_init_153 ?_
  refine lv_iload_n hx hb dX7_init_156 rfl (lv_at hl 0 rfl) ?_
  obtain ⟨f87, ef87, hq⟩ := b_s hq
  refine fa_new (own := RX7) (ci := 6) hx hb hB inB_RX3 tyX3_ok hown m_153 m_155 m_6 hI rfl (by decide +kernel) (by decide) (by decide) ef87 dX7_init_157 (fun H locs hI => ?_)
  refine lv_dup hx hb dX7_init_160 rfl ?_
  obtain ⟨v88, ev88, hq⟩ := b_s hq
  refine gw_v (g_runIN (As := []) (rest := [.ref v84.2, .int (6 : Int32), .ref v86]) (j0 := 1) hC (c_X3_init l V g D cT f87 (v84.2 + 1) v84.2 v88 ev88) k_X3_init rfl rfl rfl ⟨Nat.le_of_ble_eq_true rfl, Nat.le_of_ble_eq_true rfl⟩ hI rfl hl.1 rfl (Nat.le_of_ble_eq_true rfl) dX7_init_161 ⟨by decide, by decide⟩) hI (fun H locs hI => ?_)
  obtain ⟨f89, ef89, hq⟩ := b_s hq
  refine fa_sq hx hb hI (by decide) (ci := 6) rfl rfl ef89 dX7_init_164 (fun H locs hI => ?_)
  exact sg_X7_init_10 hx hb hr hlocks hin hC x0 f89 v88.2 H locs ls hI (lv_sub hl [1, 0] rfl) hq

set_option maxHeartbeats 4000000 in
set_option maxRecDepth 100000 in
theorem sg_X7_init_8 {p : Program} {l : Launch} {e : Env} {s : State} {m : MethodId} {args : Array Value} {below : List Frame} {meth : Method} {c : Code} {V : Nat → Nat} {g : GH} {D : va_G} {cT : Nat → ClassId} {o : GH × Nat} (hx : p.tables.exec = Jvm.exec) (hb : c.code = cX7_init) (hr : meth.sig.returnType = none) (hlocks : meth.locks = false) (hin : meth.name = yX7_init.name) (hC : CallFix p m c cX7_init 2 s args g_B RX7) : ∀ (x0 : Nat) (f : GH) (n : Nat) (H : Heap) (locs : List Loc) (ls : Array Slot), g_at (g_A V) V g D cT f n s H locs → lv_has ls 2 [(0, .ref x0), (1, .int (2 : Int32))] → p_X7_init_s8 V g x0 f n = some o → W p l e rm_X7_init s m args below meth c H locs 246 29787 (MQ below (g_Wv V D cT o.1 o.2) args s 314 36774 (g_A V)) (F0 m 165 ls []) := by
  intro x0 f n H locs ls hI hl hq
  obtain ⟨_, _, hml, hown, hB⟩ := id hC
  unfold p_X7_init_s8 at hq
  refine lv_iinc (v := (3 : Int32)) (lv' := [(1, .int (3 : Int32)), (0, .ref x0)]) hx hb dX7_init_165 hl (k := 1) rfl (by decide) (by decide) rfl (fun ls hl => ?_)
  refine lv_goto (tgt := 146) hx hb dX7_init_168 (by decide) ?_
  refine lv_iload_n hx hb dX7_init_146 rfl (lv_at hl 0 rfl) ?_
  refine lv_bipush (v := (20 : Int32)) hx hb dX7_init_147 (by decide) ?_
  refine lv_icmp_ge (tgt := 171) hx hb dX7_init_149 (by decide) (fun c => absurd c (by decide)) (fun _ => ?_)
  refine lv_aload_n hx hb dX7_init_152 rfl (lv_at hl 1 rfl) ?_
  obtain ⟨v74, ev74, hq⟩ := b_s hq
  refine fa_gr (own := RX7) (ref := "CoastlineRuler") (k := 9) hx hb hB inB_RX7 hown hI rfl (by decide) m_262 (fun _ h9 => h9) ev74 dX7_init_153 ?_
  refine lv_iload_n hx hb dX7_init_156 rfl (lv_at hl 0 rfl) ?_
  obtain ⟨f75, ef75, hq⟩ := b_s hq
  refine fa_new (own := RX7) (ci := 6) hx hb hB inB_RX3 tyX3_ok hown m_153 m_155 m_6 hI rfl (by decide +kernel) (by decide) (by decide) ef75 dX7_init_157 (fun H locs hI => ?_)
  refine lv_dup hx hb dX7_init_160 rfl ?_
  obtain ⟨v76, ev76, hq⟩ := b_s hq
  refine gw_v (g_runIN (As := []) (rest := [.ref n, .int (3 : Int32), .ref v74]) (j0 := 1) hC (c_X3_init l V g D cT f75 (n + 1) n v76 ev76) k_X3_init rfl rfl rfl ⟨Nat.le_of_ble_eq_true rfl, Nat.le_of_ble_eq_true rfl⟩ hI rfl hl.1 rfl (Nat.le_of_ble_eq_true rfl) dX7_init_161 ⟨by decide, by decide⟩) hI (fun H locs hI => ?_)
  obtain ⟨f77, ef77, hq⟩ := b_s hq
  refine fa_sq hx hb hI (by decide) (ci := 6) rfl rfl ef77 dX7_init_164 (fun H locs hI => ?_)
  refine lv_iinc (v := (4 : Int32)) (lv' := [(1, .int (4 : Int32)), (0, .ref x0)]) hx hb dX7_init_165 hl (k := 0) rfl (by decide) (by decide) rfl (fun ls hl => ?_)
  refine lv_goto (tgt := 146) hx hb dX7_init_168 (by decide) ?_
  refine lv_iload_n hx hb dX7_init_146 rfl (lv_at hl 0 rfl) ?_
  refine lv_bipush (v := (20 : Int32)) hx hb dX7_init_147 (by decide) ?_
  refine lv_icmp_ge (tgt := 171) hx hb dX7_init_149 (by decide) (fun c => absurd c (by decide)) (fun _ => ?_)
  refine lv_aload_n hx hb dX7_init_152 rfl (lv_at hl 1 rfl) ?_
  obtain ⟨v78, ev78, hq⟩ := b_s hq
  refine fa_gr (own := RX7) (ref := "CoastlineRuler") (k := 9) hx hb hB inB_RX7 hown hI rfl (by decide) m_262 (fun _ h9 => h9) ev78 dX7_init_153 ?_
  refine lv_iload_n hx hb dX7_init_156 rfl (lv_at hl 0 rfl) ?_
  obtain ⟨f79, ef79, hq⟩ := b_s hq
  refine fa_new (own := RX7) (ci := 6) hx hb hB inB_RX3 tyX3_ok hown m_153 m_155 m_6 hI rfl (by decide +kernel) (by decide) (by decide) ef79 dX7_init_157 (fun H locs hI => ?_)
  refine lv_dup hx hb dX7_init_160 rfl ?_
  obtain ⟨v80, ev80, hq⟩ := b_s hq
  refine gw_v (g_runIN (As := []) (rest := [.ref v76.2, .int (4 : Int32), .ref v78]) (j0 := 1) hC (c_X3_init l V g D cT f79 (v76.2 + 1) v76.2 v80 ev80) k_X3_init rfl rfl rfl ⟨Nat.le_of_ble_eq_true rfl, Nat.le_of_ble_eq_true rfl⟩ hI rfl hl.1 rfl (Nat.le_of_ble_eq_true rfl) dX7_init_161 ⟨by decide, by decide⟩) hI (fun H locs hI => ?_)
  obtain ⟨f81, ef81, hq⟩ := b_s hq
  refine fa_sq hx hb hI (by decide) (ci := 6) rfl rfl ef81 dX7_init_164 (fun H locs hI => ?_)
  exact sg_X7_init_9 hx hb hr hlocks hin hC x0 f81 v80.2 H locs ls hI (lv_sub hl [1, 0] rfl) hq

set_option maxHeartbeats 4000000 in
set_option maxRecDepth 100000 in
theorem sg_X7_init_7 {p : Program} {l : Launch} {e : Env} {s : State} {m : MethodId} {args : Array Value} {below : List Frame} {meth : Method} {c : Code} {V : Nat → Nat} {g : GH} {D : va_G} {cT : Nat → ClassId} {o : GH × Nat} (hx : p.tables.exec = Jvm.exec) (hb : c.code = cX7_init) (hr : meth.sig.returnType = none) (hlocks : meth.locks = false) (hin : meth.name = yX7_init.name) (hC : CallFix p m c cX7_init 2 s args g_B RX7) : ∀ (x0 : Nat) (f : GH) (n : Nat) (H : Heap) (locs : List Loc) (ls : Array Slot), g_at (g_A V) V g D cT f n s H locs → lv_has ls 2 [(0, .ref x0), (1, .int (0 : Int32))] → p_X7_init_s7 V g x0 f n = some o → W p l e rm_X7_init s m args below meth c H locs 238 28965 (MQ below (g_Wv V D cT o.1 o.2) args s 314 36774 (g_A V)) (F0 m 165 ls []) := by
  intro x0 f n H locs ls hI hl hq
  obtain ⟨_, _, hml, hown, hB⟩ := id hC
  unfold p_X7_init_s7 at hq
  refine lv_iinc (v := (1 : Int32)) (lv' := [(1, .int (1 : Int32)), (0, .ref x0)]) hx hb dX7_init_165 hl (k := 1) rfl (by decide) (by decide) rfl (fun ls hl => ?_)
  refine lv_goto (tgt := 146) hx hb dX7_init_168 (by decide) ?_
  refine lv_iload_n hx hb dX7_init_146 rfl (lv_at hl 0 rfl) ?_
  refine lv_bipush (v := (20 : Int32)) hx hb dX7_init_147 (by decide) ?_
  refine lv_icmp_ge (tgt := 171) hx hb dX7_init_149 (by decide) (fun c => absurd c (by decide)) (fun _ => ?_)
  refine lv_aload_n hx hb dX7_init_152 rfl (lv_at hl 1 rfl) ?_
  obtain ⟨v66, ev66, hq⟩ := b_s hq
  refine fa_gr (own := RX7) (ref := "CoastlineRuler") (k := 9) hx hb hB inB_RX7 hown hI rfl (by decide) m_262 (fun _ h9 => h9) ev66 dX7_init_153 ?_
  refine lv_iload_n hx hb dX7_init_156 rfl (lv_at hl 0 rfl) ?_
  obtain ⟨f67, ef67, hq⟩ := b_s hq
  refine fa_new (own := RX7) (ci := 6) hx hb hB inB_RX3 tyX3_ok hown m_153 m_155 m_6 hI rfl (by decide +kernel) (by decide) (by decide) ef67 dX7_init_157 (fun H locs hI => ?_)
  refine lv_dup hx hb dX7_init_160 rfl ?_
  obtain ⟨v68, ev68, hq⟩ := b_s hq
  refine gw_v (g_runIN (As := []) (rest := [.ref n, .int (1 : Int32), .ref v66]) (j0 := 1) hC (c_X3_init l V g D cT f67 (n + 1) n v68 ev68) k_X3_init rfl rfl rfl ⟨Nat.le_of_ble_eq_true rfl, Nat.le_of_ble_eq_true rfl⟩ hI rfl hl.1 rfl (Nat.le_of_ble_eq_true rfl) dX7_init_161 ⟨by decide, by decide⟩) hI (fun H locs hI => ?_)
  obtain ⟨f69, ef69, hq⟩ := b_s hq
  refine fa_sq hx hb hI (by decide) (ci := 6) rfl rfl ef69 dX7_init_164 (fun H locs hI => ?_)
  refine lv_iinc (v := (2 : Int32)) (lv' := [(1, .int (2 : Int32)), (0, .ref x0)]) hx hb dX7_init_165 hl (k := 0) rfl (by decide) (by decide) rfl (fun ls hl => ?_)
  refine lv_goto (tgt := 146) hx hb dX7_init_168 (by decide) ?_
  refine lv_iload_n hx hb dX7_init_146 rfl (lv_at hl 0 rfl) ?_
  refine lv_bipush (v := (20 : Int32)) hx hb dX7_init_147 (by decide) ?_
  refine lv_icmp_ge (tgt := 171) hx hb dX7_init_149 (by decide) (fun c => absurd c (by decide)) (fun _ => ?_)
  refine lv_aload_n hx hb dX7_init_152 rfl (lv_at hl 1 rfl) ?_
  obtain ⟨v70, ev70, hq⟩ := b_s hq
  refine fa_gr (own := RX7) (ref := "CoastlineRuler") (k := 9) hx hb hB inB_RX7 hown hI rfl (by decide) m_262 (fun _ h9 => h9) ev70 dX7_init_153 ?_
  refine lv_iload_n hx hb dX7_init_156 rfl (lv_at hl 0 rfl) ?_
  obtain ⟨f71, ef71, hq⟩ := b_s hq
  refine fa_new (own := RX7) (ci := 6) hx hb hB inB_RX3 tyX3_ok hown m_153 m_155 m_6 hI rfl (by decide +kernel) (by decide) (by decide) ef71 dX7_init_157 (fun H locs hI => ?_)
  refine lv_dup hx hb dX7_init_160 rfl ?_
  obtain ⟨v72, ev72, hq⟩ := b_s hq
  refine gw_v (g_runIN (As := []) (rest := [.ref v68.2, .int (2 : Int32), .ref v70]) (j0 := 1) hC (c_X3_init l V g D cT f71 (v68.2 + 1) v68.2 v72 ev72) k_X3_init rfl rfl rfl ⟨Nat.le_of_ble_eq_true rfl, Nat.le_of_ble_eq_true rfl⟩ hI rfl hl.1 rfl (Nat.le_of_ble_eq_true rfl) dX7_init_161 ⟨by decide, by decide⟩) hI (fun H locs hI => ?_)
  obtain ⟨f73, ef73, hq⟩ := b_s hq
  refine fa_sq hx hb hI (by decide) (ci := 6) rfl rfl ef73 dX7_init_164 (fun H locs hI => ?_)
  exact sg_X7_init_8 hx hb hr hlocks hin hC x0 f73 v72.2 H locs ls hI (lv_sub hl [1, 0] rfl) hq

set_option maxHeartbeats 4000000 in
set_option maxRecDepth 100000 in
theorem sg_X7_init_6 {p : Program} {l : Launch} {e : Env} {s : State} {m : MethodId} {args : Array Value} {below : List Frame} {meth : Method} {c : Code} {V : Nat → Nat} {g : GH} {D : va_G} {cT : Nat → ClassId} {o : GH × Nat} (hx : p.tables.exec = Jvm.exec) (hb : c.code = cX7_init) (hr : meth.sig.returnType = none) (hlocks : meth.locks = false) (hin : meth.name = yX7_init.name) (hC : CallFix p m c cX7_init 2 s args g_B RX7) : ∀ (x0 : Nat) (f : GH) (n : Nat) (H : Heap) (locs : List Loc) (ls : Array Slot), g_at (g_A V) V g D cT f n s H locs → lv_has ls 2 [(0, .ref x0), (1, .int (7 : Int32))] → p_X7_init_s6 V g x0 f n = some o → W p l e rm_X7_init s m args below meth c H locs 214 26118 (MQ below (g_Wv V D cT o.1 o.2) args s 314 36774 (g_A V)) (F0 m 125 ls []) := by
  intro x0 f n H locs ls hI hl hq
  obtain ⟨_, _, hml, hown, hB⟩ := id hC
  unfold p_X7_init_s6 at hq
  refine lv_aload_n hx hb dX7_init_125 rfl (lv_at hl 0 rfl) ?_
  obtain ⟨v58, ev58, hq⟩ := b_s hq
  refine fa_gr (own := RX7) (ref := "CoastlineRuler") (k := 4) hx hb hB inB_RX7 hown hI rfl (by decide) m_257 (fun _ h9 => h9) ev58 dX7_init_126 ?_
  refine lv_iload_n hx hb dX7_init_129 rfl (lv_at hl 1 rfl) ?_
  obtain ⟨f59, ef59, hq⟩ := b_s hq
  refine fa_new (own := RX7) (ci := 4) hx hb hB inB_RX1 tyX1_ok hown m_35 m_36 m_2 hI rfl (by decide +kernel) (by decide) (by decide) ef59 dX7_init_130 (fun H locs hI => ?_)
  refine lv_dup hx hb dX7_init_133 rfl ?_
  obtain ⟨v60, ev60, hq⟩ := b_s hq
  refine gw_v (g_runI (As := []) (rest := [.ref n, .int (7 : Int32), .ref v58]) hC (c_X1_init l V g D cT f59 (n + 1) n v60 ev60) k_X1_init m_37 rfl rfl ⟨Nat.le_of_ble_eq_true rfl, Nat.le_of_ble_eq_true rfl⟩ hI rfl hl.1 rfl (Nat.le_of_ble_eq_true rfl) dX7_init_134 ⟨by decide, by decide⟩) hI (fun H locs hI => ?_)
  obtain ⟨f61, ef61, hq⟩ := b_s hq
  refine fa_sq hx hb hI (by decide) (ci := 4) rfl rfl ef61 dX7_init_137 (fun H locs hI => ?_)
  refine lv_iinc (v := (8 : Int32)) (lv' := [(1, .int (8 : Int32)), (0, .ref x0)]) hx hb dX7_init_138 hl (k := 1) rfl (by decide) (by decide) rfl (fun ls hl => ?_)
  refine lv_goto (tgt := 119) hx hb dX7_init_141 (by decide) ?_
  refine lv_iload_n hx hb dX7_init_119 rfl (lv_at hl 0 rfl) ?_
  refine lv_bipush (v := (8 : Int32)) hx hb dX7_init_120 (by decide) ?_
  refine lv_icmp_ge (tgt := 144) hx hb dX7_init_122 (by decide) (fun _ => ?_) (fun c => absurd (by decide) c)
  refine lv_iconst (v := (0 : Int32)) hx hb dX7_init_144 (by decide) ?_
  refine lv_istore_n (lv' := [(1, .int (0 : Int32)), (0, .ref x0)]) hx hb dX7_init_145 rfl hl (by decide) rfl (fun ls hl => ?_)
  refine lv_iload_n hx hb dX7_init_146 rfl (lv_at hl 0 rfl) ?_
  refine lv_bipush (v := (20 : Int32)) hx hb dX7_init_147 (by decide) ?_
  refine lv_icmp_ge (tgt := 171) hx hb dX7_init_149 (by decide) (fun c => absurd c (by decide)) (fun _ => ?_)
  refine lv_aload_n hx hb dX7_init_152 rfl (lv_at hl 1 rfl) ?_
  obtain ⟨v62, ev62, hq⟩ := b_s hq
  refine fa_gr (own := RX7) (ref := "CoastlineRuler") (k := 9) hx hb hB inB_RX7 hown hI rfl (by decide) m_262 (fun _ h9 => h9) ev62 dX7_init_153 ?_
  refine lv_iload_n hx hb dX7_init_156 rfl (lv_at hl 0 rfl) ?_
  obtain ⟨f63, ef63, hq⟩ := b_s hq
  refine fa_new (own := RX7) (ci := 6) hx hb hB inB_RX3 tyX3_ok hown m_153 m_155 m_6 hI rfl (by decide +kernel) (by decide) (by decide) ef63 dX7_init_157 (fun H locs hI => ?_)
  refine lv_dup hx hb dX7_init_160 rfl ?_
  obtain ⟨v64, ev64, hq⟩ := b_s hq
  refine gw_v (g_runIN (As := []) (rest := [.ref v60.2, .int (0 : Int32), .ref v62]) (j0 := 1) hC (c_X3_init l V g D cT f63 (v60.2 + 1) v60.2 v64 ev64) k_X3_init rfl rfl rfl ⟨Nat.le_of_ble_eq_true rfl, Nat.le_of_ble_eq_true rfl⟩ hI rfl hl.1 rfl (Nat.le_of_ble_eq_true rfl) dX7_init_161 ⟨by decide, by decide⟩) hI (fun H locs hI => ?_)
  obtain ⟨f65, ef65, hq⟩ := b_s hq
  refine fa_sq hx hb hI (by decide) (ci := 6) rfl rfl ef65 dX7_init_164 (fun H locs hI => ?_)
  exact sg_X7_init_7 hx hb hr hlocks hin hC x0 f65 v64.2 H locs ls hI (lv_sub hl [1, 0] rfl) hq

set_option maxHeartbeats 4000000 in
set_option maxRecDepth 100000 in
theorem sg_X7_init_5 {p : Program} {l : Launch} {e : Env} {s : State} {m : MethodId} {args : Array Value} {below : List Frame} {meth : Method} {c : Code} {V : Nat → Nat} {g : GH} {D : va_G} {cT : Nat → ClassId} {o : GH × Nat} (hx : p.tables.exec = Jvm.exec) (hb : c.code = cX7_init) (hr : meth.sig.returnType = none) (hlocks : meth.locks = false) (hin : meth.name = yX7_init.name) (hC : CallFix p m c cX7_init 2 s args g_B RX7) : ∀ (x0 : Nat) (f : GH) (n : Nat) (H : Heap) (locs : List Loc) (ls : Array Slot), g_at (g_A V) V g D cT f n s H locs → lv_has ls 2 [(0, .ref x0), (1, .int (5 : Int32))] → p_X7_init_s5 V g x0 f n = some o → W p l e rm_X7_init s m args below meth c H locs 174 21246 (MQ below (g_Wv V D cT o.1 o.2) args s 314 36774 (g_A V)) (F0 m 125 ls []) := by
  intro x0 f n H locs ls hI hl hq
  obtain ⟨_, _, hml, hown, hB⟩ := id hC
  unfold p_X7_init_s5 at hq
  refine lv_aload_n hx hb dX7_init_125 rfl (lv_at hl 0 rfl) ?_
  obtain ⟨v50, ev50, hq⟩ := b_s hq
  refine fa_gr (own := RX7) (ref := "CoastlineRuler") (k := 4) hx hb hB inB_RX7 hown hI rfl (by decide) m_257 (fun _ h9 => h9) ev50 dX7_init_126 ?_
  refine lv_iload_n hx hb dX7_init_129 rfl (lv_at hl 1 rfl) ?_
  obtain ⟨f51, ef51, hq⟩ := b_s hq
  refine fa_new (own := RX7) (ci := 4) hx hb hB inB_RX1 tyX1_ok hown m_35 m_36 m_2 hI rfl (by decide +kernel) (by decide) (by decide) ef51 dX7_init_130 (fun H locs hI => ?_)
  refine lv_dup hx hb dX7_init_133 rfl ?_
  obtain ⟨v52, ev52, hq⟩ := b_s hq
  refine gw_v (g_runI (As := []) (rest := [.ref n, .int (5 : Int32), .ref v50]) hC (c_X1_init l V g D cT f51 (n + 1) n v52 ev52) k_X1_init m_37 rfl rfl ⟨Nat.le_of_ble_eq_true rfl, Nat.le_of_ble_eq_true rfl⟩ hI rfl hl.1 rfl (Nat.le_of_ble_eq_true rfl) dX7_init_134 ⟨by decide, by decide⟩) hI (fun H locs hI => ?_)
  obtain ⟨f53, ef53, hq⟩ := b_s hq
  refine fa_sq hx hb hI (by decide) (ci := 4) rfl rfl ef53 dX7_init_137 (fun H locs hI => ?_)
  refine lv_iinc (v := (6 : Int32)) (lv' := [(1, .int (6 : Int32)), (0, .ref x0)]) hx hb dX7_init_138 hl (k := 1) rfl (by decide) (by decide) rfl (fun ls hl => ?_)
  refine lv_goto (tgt := 119) hx hb dX7_init_141 (by decide) ?_
  refine lv_iload_n hx hb dX7_init_119 rfl (lv_at hl 0 rfl) ?_
  refine lv_bipush (v := (8 : Int32)) hx hb dX7_init_120 (by decide) ?_
  refine lv_icmp_ge (tgt := 144) hx hb dX7_init_122 (by decide) (fun c => absurd c (by decide)) (fun _ => ?_)
  refine lv_aload_n hx hb dX7_init_125 rfl (lv_at hl 1 rfl) ?_
  obtain ⟨v54, ev54, hq⟩ := b_s hq
  refine fa_gr (own := RX7) (ref := "CoastlineRuler") (k := 4) hx hb hB inB_RX7 hown hI rfl (by decide) m_257 (fun _ h9 => h9) ev54 dX7_init_126 ?_
  refine lv_iload_n hx hb dX7_init_129 rfl (lv_at hl 0 rfl) ?_
  obtain ⟨f55, ef55, hq⟩ := b_s hq
  refine fa_new (own := RX7) (ci := 4) hx hb hB inB_RX1 tyX1_ok hown m_35 m_36 m_2 hI rfl (by decide +kernel) (by decide) (by decide) ef55 dX7_init_130 (fun H locs hI => ?_)
  refine lv_dup hx hb dX7_init_133 rfl ?_
  obtain ⟨v56, ev56, hq⟩ := b_s hq
  refine gw_v (g_runI (As := []) (rest := [.ref v52.2, .int (6 : Int32), .ref v54]) hC (c_X1_init l V g D cT f55 (v52.2 + 1) v52.2 v56 ev56) k_X1_init m_37 rfl rfl ⟨Nat.le_of_ble_eq_true rfl, Nat.le_of_ble_eq_true rfl⟩ hI rfl hl.1 rfl (Nat.le_of_ble_eq_true rfl) dX7_init_134 ⟨by decide, by decide⟩) hI (fun H locs hI => ?_)
  obtain ⟨f57, ef57, hq⟩ := b_s hq
  refine fa_sq hx hb hI (by decide) (ci := 4) rfl rfl ef57 dX7_init_137 (fun H locs hI => ?_)
  refine lv_iinc (v := (7 : Int32)) (lv' := [(1, .int (7 : Int32)), (0, .ref x0)]) hx hb dX7_init_138 hl (k := 0) rfl (by decide) (by decide) rfl (fun ls hl => ?_)
  refine lv_goto (tgt := 119) hx hb dX7_init_141 (by decide) ?_
  refine lv_iload_n hx hb dX7_init_119 rfl (lv_at hl 0 rfl) ?_
  refine lv_bipush (v := (8 : Int32)) hx hb dX7_init_120 (by decide) ?_
  refine lv_icmp_ge (tgt := 144) hx hb dX7_init_122 (by decide) (fun c => absurd c (by decide)) (fun _ => ?_)
  exact sg_X7_init_6 hx hb hr hlocks hin hC x0 f57 v56.2 H locs ls hI (lv_sub hl [1, 0] rfl) hq

set_option maxHeartbeats 4000000 in
set_option maxRecDepth 100000 in
theorem sg_X7_init_4 {p : Program} {l : Launch} {e : Env} {s : State} {m : MethodId} {args : Array Value} {below : List Frame} {meth : Method} {c : Code} {V : Nat → Nat} {g : GH} {D : va_G} {cT : Nat → ClassId} {o : GH × Nat} (hx : p.tables.exec = Jvm.exec) (hb : c.code = cX7_init) (hr : meth.sig.returnType = none) (hlocks : meth.locks = false) (hin : meth.name = yX7_init.name) (hC : CallFix p m c cX7_init 2 s args g_B RX7) : ∀ (x0 : Nat) (f : GH) (n : Nat) (H : Heap) (locs : List Loc) (ls : Array Slot), g_at (g_A V) V g D cT f n s H locs → lv_has ls 2 [(0, .ref x0), (1, .int (3 : Int32))] → p_X7_init_s4 V g x0 f n = some o → W p l e rm_X7_init s m args below meth c H locs 134 16374 (MQ below (g_Wv V D cT o.1 o.2) args s 314 36774 (g_A V)) (F0 m 125 ls []) := by
  intro x0 f n H locs ls hI hl hq
  obtain ⟨_, _, hml, hown, hB⟩ := id hC
  unfold p_X7_init_s4 at hq
  refine lv_aload_n hx hb dX7_init_125 rfl (lv_at hl 0 rfl) ?_
  obtain ⟨v42, ev42, hq⟩ := b_s hq
  refine fa_gr (own := RX7) (ref := "CoastlineRuler") (k := 4) hx hb hB inB_RX7 hown hI rfl (by decide) m_257 (fun _ h9 => h9) ev42 dX7_init_126 ?_
  refine lv_iload_n hx hb dX7_init_129 rfl (lv_at hl 1 rfl) ?_
  obtain ⟨f43, ef43, hq⟩ := b_s hq
  refine fa_new (own := RX7) (ci := 4) hx hb hB inB_RX1 tyX1_ok hown m_35 m_36 m_2 hI rfl (by decide +kernel) (by decide) (by decide) ef43 dX7_init_130 (fun H locs hI => ?_)
  refine lv_dup hx hb dX7_init_133 rfl ?_
  obtain ⟨v44, ev44, hq⟩ := b_s hq
  refine gw_v (g_runI (As := []) (rest := [.ref n, .int (3 : Int32), .ref v42]) hC (c_X1_init l V g D cT f43 (n + 1) n v44 ev44) k_X1_init m_37 rfl rfl ⟨Nat.le_of_ble_eq_true rfl, Nat.le_of_ble_eq_true rfl⟩ hI rfl hl.1 rfl (Nat.le_of_ble_eq_true rfl) dX7_init_134 ⟨by decide, by decide⟩) hI (fun H locs hI => ?_)
  obtain ⟨f45, ef45, hq⟩ := b_s hq
  refine fa_sq hx hb hI (by decide) (ci := 4) rfl rfl ef45 dX7_init_137 (fun H locs hI => ?_)
  refine lv_iinc (v := (4 : Int32)) (lv' := [(1, .int (4 : Int32)), (0, .ref x0)]) hx hb dX7_init_138 hl (k := 1) rfl (by decide) (by decide) rfl (fun ls hl => ?_)
  refine lv_goto (tgt := 119) hx hb dX7_init_141 (by decide) ?_
  refine lv_iload_n hx hb dX7_init_119 rfl (lv_at hl 0 rfl) ?_
  refine lv_bipush (v := (8 : Int32)) hx hb dX7_init_120 (by decide) ?_
  refine lv_icmp_ge (tgt := 144) hx hb dX7_init_122 (by decide) (fun c => absurd c (by decide)) (fun _ => ?_)
  refine lv_aload_n hx hb dX7_init_125 rfl (lv_at hl 1 rfl) ?_
  obtain ⟨v46, ev46, hq⟩ := b_s hq
  refine fa_gr (own := RX7) (ref := "CoastlineRuler") (k := 4) hx hb hB inB_RX7 hown hI rfl (by decide) m_257 (fun _ h9 => h9) ev46 dX7_init_126 ?_
  refine lv_iload_n hx hb dX7_init_129 rfl (lv_at hl 0 rfl) ?_
  obtain ⟨f47, ef47, hq⟩ := b_s hq
  refine fa_new (own := RX7) (ci := 4) hx hb hB inB_RX1 tyX1_ok hown m_35 m_36 m_2 hI rfl (by decide +kernel) (by decide) (by decide) ef47 dX7_init_130 (fun H locs hI => ?_)
  refine lv_dup hx hb dX7_init_133 rfl ?_
  obtain ⟨v48, ev48, hq⟩ := b_s hq
  refine gw_v (g_runI (As := []) (rest := [.ref v44.2, .int (4 : Int32), .ref v46]) hC (c_X1_init l V g D cT f47 (v44.2 + 1) v44.2 v48 ev48) k_X1_init m_37 rfl rfl ⟨Nat.le_of_ble_eq_true rfl, Nat.le_of_ble_eq_true rfl⟩ hI rfl hl.1 rfl (Nat.le_of_ble_eq_true rfl) dX7_init_134 ⟨by decide, by decide⟩) hI (fun H locs hI => ?_)
  obtain ⟨f49, ef49, hq⟩ := b_s hq
  refine fa_sq hx hb hI (by decide) (ci := 4) rfl rfl ef49 dX7_init_137 (fun H locs hI => ?_)
  refine lv_iinc (v := (5 : Int32)) (lv' := [(1, .int (5 : Int32)), (0, .ref x0)]) hx hb dX7_init_138 hl (k := 0) rfl (by decide) (by decide) rfl (fun ls hl => ?_)
  refine lv_goto (tgt := 119) hx hb dX7_init_141 (by decide) ?_
  refine lv_iload_n hx hb dX7_init_119 rfl (lv_at hl 0 rfl) ?_
  refine lv_bipush (v := (8 : Int32)) hx hb dX7_init_120 (by decide) ?_
  refine lv_icmp_ge (tgt := 144) hx hb dX7_init_122 (by decide) (fun c => absurd c (by decide)) (fun _ => ?_)
  exact sg_X7_init_5 hx hb hr hlocks hin hC x0 f49 v48.2 H locs ls hI (lv_sub hl [1, 0] rfl) hq

set_option maxHeartbeats 4000000 in
set_option maxRecDepth 100000 in
theorem sg_X7_init_3 {p : Program} {l : Launch} {e : Env} {s : State} {m : MethodId} {args : Array Value} {below : List Frame} {meth : Method} {c : Code} {V : Nat → Nat} {g : GH} {D : va_G} {cT : Nat → ClassId} {o : GH × Nat} (hx : p.tables.exec = Jvm.exec) (hb : c.code = cX7_init) (hr : meth.sig.returnType = none) (hlocks : meth.locks = false) (hin : meth.name = yX7_init.name) (hC : CallFix p m c cX7_init 2 s args g_B RX7) : ∀ (x0 : Nat) (f : GH) (n : Nat) (H : Heap) (locs : List Loc) (ls : Array Slot), g_at (g_A V) V g D cT f n s H locs → lv_has ls 2 [(0, .ref x0), (1, .int (1 : Int32))] → p_X7_init_s3 V g x0 f n = some o → W p l e rm_X7_init s m args below meth c H locs 94 11502 (MQ below (g_Wv V D cT o.1 o.2) args s 314 36774 (g_A V)) (F0 m 125 ls []) := by
  intro x0 f n H locs ls hI hl hq
  obtain ⟨_, _, hml, hown, hB⟩ := id hC
  unfold p_X7_init_s3 at hq
  refine lv_aload_n hx hb dX7_init_125 rfl (lv_at hl 0 rfl) ?_
  obtain ⟨v34, ev34, hq⟩ := b_s hq
  refine fa_gr (own := RX7) (ref := "CoastlineRuler") (k := 4) hx hb hB inB_RX7 hown hI rfl (by decide) m_257 (fun _ h9 => h9) ev34 dX7_init_126 ?_
  refine lv_iload_n hx hb dX7_init_129 rfl (lv_at hl 1 rfl) ?_
  obtain ⟨f35, ef35, hq⟩ := b_s hq
  refine fa_new (own := RX7) (ci := 4) hx hb hB inB_RX1 tyX1_ok hown m_35 m_36 m_2 hI rfl (by decide +kernel) (by decide) (by decide) ef35 dX7_init_130 (fun H locs hI => ?_)
  refine lv_dup hx hb dX7_init_133 rfl ?_
  obtain ⟨v36, ev36, hq⟩ := b_s hq
  refine gw_v (g_runI (As := []) (rest := [.ref n, .int (1 : Int32), .ref v34]) hC (c_X1_init l V g D cT f35 (n + 1) n v36 ev36) k_X1_init m_37 rfl rfl ⟨Nat.le_of_ble_eq_true rfl, Nat.le_of_ble_eq_true rfl⟩ hI rfl hl.1 rfl (Nat.le_of_ble_eq_true rfl) dX7_init_134 ⟨by decide, by decide⟩) hI (fun H locs hI => ?_)
  obtain ⟨f37, ef37, hq⟩ := b_s hq
  refine fa_sq hx hb hI (by decide) (ci := 4) rfl rfl ef37 dX7_init_137 (fun H locs hI => ?_)
  refine lv_iinc (v := (2 : Int32)) (lv' := [(1, .int (2 : Int32)), (0, .ref x0)]) hx hb dX7_init_138 hl (k := 1) rfl (by decide) (by decide) rfl (fun ls hl => ?_)
  refine lv_goto (tgt := 119) hx hb dX7_init_141 (by decide) ?_
  refine lv_iload_n hx hb dX7_init_119 rfl (lv_at hl 0 rfl) ?_
  refine lv_bipush (v := (8 : Int32)) hx hb dX7_init_120 (by decide) ?_
  refine lv_icmp_ge (tgt := 144) hx hb dX7_init_122 (by decide) (fun c => absurd c (by decide)) (fun _ => ?_)
  refine lv_aload_n hx hb dX7_init_125 rfl (lv_at hl 1 rfl) ?_
  obtain ⟨v38, ev38, hq⟩ := b_s hq
  refine fa_gr (own := RX7) (ref := "CoastlineRuler") (k := 4) hx hb hB inB_RX7 hown hI rfl (by decide) m_257 (fun _ h9 => h9) ev38 dX7_init_126 ?_
  refine lv_iload_n hx hb dX7_init_129 rfl (lv_at hl 0 rfl) ?_
  obtain ⟨f39, ef39, hq⟩ := b_s hq
  refine fa_new (own := RX7) (ci := 4) hx hb hB inB_RX1 tyX1_ok hown m_35 m_36 m_2 hI rfl (by decide +kernel) (by decide) (by decide) ef39 dX7_init_130 (fun H locs hI => ?_)
  refine lv_dup hx hb dX7_init_133 rfl ?_
  obtain ⟨v40, ev40, hq⟩ := b_s hq
  refine gw_v (g_runI (As := []) (rest := [.ref v36.2, .int (2 : Int32), .ref v38]) hC (c_X1_init l V g D cT f39 (v36.2 + 1) v36.2 v40 ev40) k_X1_init m_37 rfl rfl ⟨Nat.le_of_ble_eq_true rfl, Nat.le_of_ble_eq_true rfl⟩ hI rfl hl.1 rfl (Nat.le_of_ble_eq_true rfl) dX7_init_134 ⟨by decide, by decide⟩) hI (fun H locs hI => ?_)
  obtain ⟨f41, ef41, hq⟩ := b_s hq
  refine fa_sq hx hb hI (by decide) (ci := 4) rfl rfl ef41 dX7_init_137 (fun H locs hI => ?_)
  refine lv_iinc (v := (3 : Int32)) (lv' := [(1, .int (3 : Int32)), (0, .ref x0)]) hx hb dX7_init_138 hl (k := 0) rfl (by decide) (by decide) rfl (fun ls hl => ?_)
  refine lv_goto (tgt := 119) hx hb dX7_init_141 (by decide) ?_
  refine lv_iload_n hx hb dX7_init_119 rfl (lv_at hl 0 rfl) ?_
  refine lv_bipush (v := (8 : Int32)) hx hb dX7_init_120 (by decide) ?_
  refine lv_icmp_ge (tgt := 144) hx hb dX7_init_122 (by decide) (fun c => absurd c (by decide)) (fun _ => ?_)
  exact sg_X7_init_4 hx hb hr hlocks hin hC x0 f41 v40.2 H locs ls hI (lv_sub hl [1, 0] rfl) hq

set_option maxHeartbeats 4000000 in
set_option maxRecDepth 100000 in
theorem sg_X7_init_2 {p : Program} {l : Launch} {e : Env} {s : State} {m : MethodId} {args : Array Value} {below : List Frame} {meth : Method} {c : Code} {V : Nat → Nat} {g : GH} {D : va_G} {cT : Nat → ClassId} {o : GH × Nat} (hx : p.tables.exec = Jvm.exec) (hb : c.code = cX7_init) (hr : meth.sig.returnType = none) (hlocks : meth.locks = false) (hin : meth.name = yX7_init.name) (hC : CallFix p m c cX7_init 2 s args g_B RX7) : ∀ (x0 : Nat) (f : GH) (n : Nat) (H : Heap) (locs : List Loc) (ls : Array Slot), g_at (g_A V) V g D cT f n s H locs → lv_has ls 2 [(0, .ref x0)] → p_X7_init_s2 V g x0 f n = some o → W p l e rm_X7_init s m args below meth c H locs 72 8862 (MQ below (g_Wv V D cT o.1 o.2) args s 314 36774 (g_A V)) (F0 m 106 ls []) := by
  intro x0 f n H locs ls hI hl hq
  obtain ⟨_, _, hml, hown, hB⟩ := id hC
  unfold p_X7_init_s2 at hq
  refine lv_aload_n hx hb dX7_init_106 rfl (lv_at hl 0 rfl) ?_
  obtain ⟨f27, ef27, hq⟩ := b_s hq
  refine fa_new (own := RX7) (ci := 1) hx hb hB inB_RJ4 tyJ4_ok hown m_197 m_198 m_10 hI rfl (by decide +kernel) (by decide) (by decide) ef27 dX7_init_107 (fun H locs hI => ?_)
  refine lv_dup hx hb dX7_init_110 rfl ?_
  obtain ⟨v28, ev28, hq⟩ := b_s hq
  refine gw_v (g_runI (As := []) (rest := [.ref n, .ref x0]) hC (c_J4_init_da8c8 l V g D cT f27 (n + 1) n v28 ev28) k_J4_init_da8c8 m_199 rfl rfl ⟨Nat.le_of_ble_eq_true rfl, Nat.le_of_ble_eq_true rfl⟩ hI rfl hl.1 rfl (Nat.le_of_ble_eq_true rfl) dX7_init_111 ⟨by decide, by decide⟩) hI (fun H locs hI => ?_)
  obtain ⟨f29, ef29, hq⟩ := b_s hq
  refine fa_ptF (own := RX7) (ref := "CoastlineRuler") (k := 12) hx hb hB inB_RX7 tyX7_ok nmX7 hown hI rfl (by decide) m_265 (fun _ h9 => h9) (by decide) hin (by decide) rfl rfl ef29 dX7_init_114 (fun H locs hI => ?_)
  refine lv_iconst (v := (0 : Int32)) hx hb dX7_init_117 (by decide) ?_
  refine lv_istore_n (lv' := [(1, .int (0 : Int32)), (0, .ref x0)]) hx hb dX7_init_118 rfl hl (by decide) rfl (fun ls hl => ?_)
  refine lv_iload_n hx hb dX7_init_119 rfl (lv_at hl 0 rfl) ?_
  refine lv_bipush (v := (8 : Int32)) hx hb dX7_init_120 (by decide) ?_
  refine lv_icmp_ge (tgt := 144) hx hb dX7_init_122 (by decide) (fun c => absurd c (by decide)) (fun _ => ?_)
  refine lv_aload_n hx hb dX7_init_125 rfl (lv_at hl 1 rfl) ?_
  obtain ⟨v30, ev30, hq⟩ := b_s hq
  refine fa_gr (own := RX7) (ref := "CoastlineRuler") (k := 4) hx hb hB inB_RX7 hown hI rfl (by decide) m_257 (fun _ h9 => h9) ev30 dX7_init_126 ?_
  refine lv_iload_n hx hb dX7_init_129 rfl (lv_at hl 0 rfl) ?_
  obtain ⟨f31, ef31, hq⟩ := b_s hq
  refine fa_new (own := RX7) (ci := 4) hx hb hB inB_RX1 tyX1_ok hown m_35 m_36 m_2 hI rfl (by decide +kernel) (by decide) (by decide) ef31 dX7_init_130 (fun H locs hI => ?_)
  refine lv_dup hx hb dX7_init_133 rfl ?_
  obtain ⟨v32, ev32, hq⟩ := b_s hq
  refine gw_v (g_runI (As := []) (rest := [.ref v28.2, .int (0 : Int32), .ref v30]) hC (c_X1_init l V g D cT f31 (v28.2 + 1) v28.2 v32 ev32) k_X1_init m_37 rfl rfl ⟨Nat.le_of_ble_eq_true rfl, Nat.le_of_ble_eq_true rfl⟩ hI rfl hl.1 rfl (Nat.le_of_ble_eq_true rfl) dX7_init_134 ⟨by decide, by decide⟩) hI (fun H locs hI => ?_)
  obtain ⟨f33, ef33, hq⟩ := b_s hq
  refine fa_sq hx hb hI (by decide) (ci := 4) rfl rfl ef33 dX7_init_137 (fun H locs hI => ?_)
  refine lv_iinc (v := (1 : Int32)) (lv' := [(1, .int (1 : Int32)), (0, .ref x0)]) hx hb dX7_init_138 hl (k := 0) rfl (by decide) (by decide) rfl (fun ls hl => ?_)
  refine lv_goto (tgt := 119) hx hb dX7_init_141 (by decide) ?_
  refine lv_iload_n hx hb dX7_init_119 rfl (lv_at hl 0 rfl) ?_
  refine lv_bipush (v := (8 : Int32)) hx hb dX7_init_120 (by decide) ?_
  refine lv_icmp_ge (tgt := 144) hx hb dX7_init_122 (by decide) (fun c => absurd c (by decide)) (fun _ => ?_)
  exact sg_X7_init_3 hx hb hr hlocks hin hC x0 f33 v32.2 H locs ls hI (lv_sub hl [1, 0] rfl) hq

set_option maxHeartbeats 4000000 in
set_option maxRecDepth 100000 in
theorem sg_X7_init_1 {p : Program} {l : Launch} {e : Env} {s : State} {m : MethodId} {args : Array Value} {below : List Frame} {meth : Method} {c : Code} {V : Nat → Nat} {g : GH} {D : va_G} {cT : Nat → ClassId} {o : GH × Nat} (hx : p.tables.exec = Jvm.exec) (hb : c.code = cX7_init) (hr : meth.sig.returnType = none) (hlocks : meth.locks = false) (hin : meth.name = yX7_init.name) (hC : CallFix p m c cX7_init 2 s args g_B RX7) : ∀ (x0 : Nat) (f : GH) (n : Nat) (H : Heap) (locs : List Loc) (ls : Array Slot), g_at (g_A V) V g D cT f n s H locs → lv_has ls 2 [(0, .ref x0)] → p_X7_init_s1 V g x0 f n = some o → W p l e rm_X7_init s m args below meth c H locs 63 8022 (MQ below (g_Wv V D cT o.1 o.2) args s 314 36774 (g_A V)) (F0 m 57 ls []) := by
  intro x0 f n H locs ls hI hl hq
  obtain ⟨_, _, hml, hown, hB⟩ := id hC
  unfold p_X7_init_s1 at hq
  refine lv_aload_n hx hb dX7_init_57 rfl (lv_at hl 0 rfl) ?_
  obtain ⟨f15, ef15, hq⟩ := b_s hq
  refine fa_new (own := RX7) (ci := 7) hx hb hB inB_RX4 tyX4_ok hown m_130 m_131 m_5 hI rfl (by decide +kernel) (by decide) (by decide) ef15 dX7_init_58 (fun H locs hI => ?_)
  refine lv_dup hx hb dX7_init_61 rfl ?_
  refine lv_aload_n hx hb dX7_init_62 rfl (lv_at hl 0 rfl) ?_
  obtain ⟨v16, ev16, hq⟩ := b_s hq
  refine fa_gr (own := RX7) (ref := "CoastlineRuler") (k := 7) hx hb hB inB_RX7 hown hI rfl (by decide) m_260 (fun _ h9 => h9) ev16 dX7_init_63 ?_
  obtain ⟨v17, ev17, hq⟩ := b_s hq
  refine gw_v (g_runI (As := [.ref v16]) (rest := [.ref n, .ref x0]) hC (c_X4_init l V g D cT f15 (n + 1) n v16 v17 ev17) k_X4_init m_132 rfl rfl ⟨Nat.le_of_ble_eq_true rfl, Nat.le_of_ble_eq_true rfl⟩ hI rfl hl.1 rfl (Nat.le_of_ble_eq_true rfl) dX7_init_66 ⟨by decide, by decide⟩) hI (fun H locs hI => ?_)
  obtain ⟨f18, ef18, hq⟩ := b_s hq
  refine fa_ptF (own := RX7) (ref := "CoastlineRuler") (k := 8) hx hb hB inB_RX7 tyX7_ok nmX7 hown hI rfl (by decide) m_261 (fun _ h9 => h9) (by decide) hin (by decide) rfl rfl ef18 dX7_init_69 (fun H locs hI => ?_)
  refine lv_aload_n hx hb dX7_init_72 rfl (lv_at hl 0 rfl) ?_
  refine lv_bipush (v := (20 : Int32)) hx hb dX7_init_73 (by decide) ?_
  obtain ⟨f19, ef19, hq⟩ := b_s hq
  refine fa_newq (N := 20) (t := 6) (own := RX7) hx hb hown (hB _ m_153) (g_aox hI (i := 2) rfl) (by decide) rfl hI (by decide) (by decide +kernel) (by decide +kernel) (by decide) (by decide) ef19 dX7_init_75 (fun H locs hI => ?_)
  obtain ⟨f20, ef20, hq⟩ := b_s hq
  refine fa_ptF (own := RX7) (ref := "CoastlineRuler") (k := 9) hx hb hB inB_RX7 tyX7_ok nmX7 hown hI rfl (by decide) m_262 (fun _ h9 => h9) (by decide) hin (by decide) rfl rfl ef20 dX7_init_78 (fun H locs hI => ?_)
  refine lv_aload_n hx hb dX7_init_81 rfl (lv_at hl 0 rfl) ?_
  obtain ⟨f21, ef21, hq⟩ := b_s hq
  refine fa_new (own := RX7) (ci := 6) hx hb hB inB_RX3 tyX3_ok hown m_153 m_155 m_6 hI rfl (by decide +kernel) (by decide) (by decide) ef21 dX7_init_82 (fun H locs hI => ?_)
  refine lv_dup hx hb dX7_init_85 rfl ?_
  obtain ⟨v22, ev22, hq⟩ := b_s hq
  refine gw_v (g_runIN (As := []) (rest := [.ref (n + 2), .ref x0]) (j0 := 1) hC (c_X3_init l V g D cT f21 (n + 3) (n + 2) v22 ev22) k_X3_init rfl rfl rfl ⟨Nat.le_of_ble_eq_true rfl, Nat.le_of_ble_eq_true rfl⟩ hI rfl hl.1 rfl (Nat.le_of_ble_eq_true rfl) dX7_init_86 ⟨by decide, by decide⟩) hI (fun H locs hI => ?_)
  obtain ⟨f23, ef23, hq⟩ := b_s hq
  refine fa_ptF (own := RX7) (ref := "CoastlineRuler") (k := 10) hx hb hB inB_RX7 tyX7_ok nmX7 hown hI rfl (by decide) m_263 (fun _ h9 => h9) (by decide) hin (by decide) rfl rfl ef23 dX7_init_89 (fun H locs hI => ?_)
  refine lv_aload_n hx hb dX7_init_92 rfl (lv_at hl 0 rfl) ?_
  obtain ⟨f24, ef24, hq⟩ := b_s hq
  refine fa_new (own := RX7) (ci := 5) hx hb hB inB_RX2 tyX2_ok hown m_195 m_43 m_3 hI rfl (by decide +kernel) (by decide) (by decide) ef24 dX7_init_93 (fun H locs hI => ?_)
  refine lv_dup hx hb dX7_init_96 rfl ?_
  refine lv_sipush (v := (129 : Int32)) hx hb dX7_init_97 (by decide) ?_
  obtain ⟨v25, ev25, hq⟩ := b_s hq
  refine gw_v (g_runI (As := [.int (129 : Int32)]) (rest := [.ref v22.2, .ref x0]) hC (c_X2_init l V g D cT f24 (v22.2 + 1) v22.2 (129 : Int32) v25 ev25) k_X2_init m_196 rfl rfl ⟨Nat.le_of_ble_eq_true rfl, Nat.le_of_ble_eq_true rfl⟩ hI rfl hl.1 rfl (Nat.le_of_ble_eq_true rfl) dX7_init_100 ⟨by decide, by decide⟩) hI (fun H locs hI => ?_)
  obtain ⟨f26, ef26, hq⟩ := b_s hq
  refine fa_ptF (own := RX7) (ref := "CoastlineRuler") (k := 11) hx hb hB inB_RX7 tyX7_ok nmX7 hown hI rfl (by decide) m_264 (fun _ h9 => h9) (by decide) hin (by decide) rfl rfl ef26 dX7_init_103 (fun H locs hI => ?_)
  exact sg_X7_init_2 hx hb hr hlocks hin hC x0 f26 v25.2 H locs ls hI (lv_sub hl [0] rfl) hq

set_option maxHeartbeats 4000000 in
set_option maxRecDepth 100000 in
theorem c_X7_init (l : Launch) (V : Nat → Nat) (g : GH) (D : va_G) (cT : Nat → ClassId) (f : GH) (n : Nat) (a0 : Nat) (o : GH × Nat) (hq : p_X7_init V g f n a0 = some o) : Met l yX7_init (Cond.code yX7_init cX7_init 2 none :: g_B) rm_X7_init (va_Pc [.ref a0] (g_I V g D cT f n)) (g_Wv V D cT o.1 o.2) 314 36774 (g_A V) := by
  refine g_begin (own := RX7) [.ref a0] [(0, .ref a0)] (g_A V) (fun _ h => h) (by decide) rfl (Nat.le_of_ble_eq_true rfl) rfl ?_
  intro p e s m args below meth c hx hb hr hlocks hin hC hI ls hl
  obtain ⟨hx, hb, hml, hown, hB⟩ := id hC
  obtain ⟨H, hH⟩ : ∃ H, H = s.heap := ⟨_, rfl⟩
  obtain ⟨locs, hlocs⟩ : ∃ L : List Loc, L = [] := ⟨_, rfl⟩
  rw [← hH, ← hlocs] at hI ⊢
  clear hH hlocs
  unfold p_X7_init at hq
  replace hq := (h_me_eq hq).2
  refine lv_aload_n hx hb dX7_init_0 rfl (lv_at hl 0 rfl) ?_
  refine W.objInit hx hb hown (hB _ m_32) (hB _ m_33) (hB _ m_34) rfl (by rw [hml]; exact hl.1) rfl dX7_init_1 (Nat.le_of_ble_eq_true rfl) (Nat.le_of_ble_eq_true rfl) ?_
  refine W.eq (g2 := F0 m 4 ls []) rfl ?_
  refine lv_aload_n hx hb dX7_init_4 rfl (lv_at hl 0 rfl) ?_
  obtain ⟨f1, ef1, hq⟩ := b_s hq
  refine fa_new (own := RX7) (ci := 4) hx hb hB inB_RX1 tyX1_ok hown m_35 m_36 m_2 hI rfl (by decide +kernel) (by decide) (by decide) ef1 dX7_init_5 (fun H locs hI => ?_)
  refine lv_dup hx hb dX7_init_8 rfl ?_
  obtain ⟨v2, ev2, hq⟩ := b_s hq
  refine gw_v (g_runI (As := []) (rest := [.ref n, .ref a0]) hC (c_X1_init l V g D cT f1 (n + 1) n v2 ev2) k_X1_init m_37 rfl rfl ⟨Nat.le_of_ble_eq_true rfl, Nat.le_of_ble_eq_true rfl⟩ hI rfl hl.1 rfl (Nat.le_of_ble_eq_true rfl) dX7_init_9 ⟨by decide, by decide⟩) hI (fun H locs hI => ?_)
  obtain ⟨f3, ef3, hq⟩ := b_s hq
  refine fa_ptF (own := RX7) (ref := "CoastlineRuler") (k := 0) hx hb hB inB_RX7 tyX7_ok nmX7 hown hI rfl (by decide) m_253 (fun _ h9 => h9) (by decide) hin (by decide) rfl rfl ef3 dX7_init_12 (fun H locs hI => ?_)
  refine lv_aload_n hx hb dX7_init_15 rfl (lv_at hl 0 rfl) ?_
  obtain ⟨f4, ef4, hq⟩ := b_s hq
  refine fa_new (own := RX7) (ci := 4) hx hb hB inB_RX1 tyX1_ok hown m_35 m_36 m_2 hI rfl (by decide +kernel) (by decide) (by decide) ef4 dX7_init_16 (fun H locs hI => ?_)
  refine lv_dup hx hb dX7_init_19 rfl ?_
  obtain ⟨v5, ev5, hq⟩ := b_s hq
  refine gw_v (g_runI (As := []) (rest := [.ref v2.2, .ref a0]) hC (c_X1_init l V g D cT f4 (v2.2 + 1) v2.2 v5 ev5) k_X1_init m_37 rfl rfl ⟨Nat.le_of_ble_eq_true rfl, Nat.le_of_ble_eq_true rfl⟩ hI rfl hl.1 rfl (Nat.le_of_ble_eq_true rfl) dX7_init_20 ⟨by decide, by decide⟩) hI (fun H locs hI => ?_)
  obtain ⟨f6, ef6, hq⟩ := b_s hq
  refine fa_ptF (own := RX7) (ref := "CoastlineRuler") (k := 1) hx hb hB inB_RX7 tyX7_ok nmX7 hown hI rfl (by decide) m_254 (fun _ h9 => h9) (by decide) hin (by decide) rfl rfl ef6 dX7_init_23 (fun H locs hI => ?_)
  refine lv_aload_n hx hb dX7_init_26 rfl (lv_at hl 0 rfl) ?_
  obtain ⟨f7, ef7, hq⟩ := b_s hq
  refine fa_new (own := RX7) (ci := 4) hx hb hB inB_RX1 tyX1_ok hown m_35 m_36 m_2 hI rfl (by decide +kernel) (by decide) (by decide) ef7 dX7_init_27 (fun H locs hI => ?_)
  refine lv_dup hx hb dX7_init_30 rfl ?_
  obtain ⟨v8, ev8, hq⟩ := b_s hq
  refine gw_v (g_runI (As := []) (rest := [.ref v5.2, .ref a0]) hC (c_X1_init l V g D cT f7 (v5.2 + 1) v5.2 v8 ev8) k_X1_init m_37 rfl rfl ⟨Nat.le_of_ble_eq_true rfl, Nat.le_of_ble_eq_true rfl⟩ hI rfl hl.1 rfl (Nat.le_of_ble_eq_true rfl) dX7_init_31 ⟨by decide, by decide⟩) hI (fun H locs hI => ?_)
  obtain ⟨f9, ef9, hq⟩ := b_s hq
  refine fa_ptF (own := RX7) (ref := "CoastlineRuler") (k := 2) hx hb hB inB_RX7 tyX7_ok nmX7 hown hI rfl (by decide) m_255 (fun _ h9 => h9) (by decide) hin (by decide) rfl rfl ef9 dX7_init_34 (fun H locs hI => ?_)
  refine lv_aload_n hx hb dX7_init_37 rfl (lv_at hl 0 rfl) ?_
  refine lv_bipush (v := (8 : Int32)) hx hb dX7_init_38 (by decide) ?_
  obtain ⟨f10, ef10, hq⟩ := b_s hq
  refine fa_newq (N := 8) (t := 4) (own := RX7) hx hb hown (hB _ m_35) (g_aox hI (i := 0) rfl) (by decide) rfl hI (by decide) (by decide +kernel) (by decide +kernel) (by decide) (by decide) ef10 dX7_init_40 (fun H locs hI => ?_)
  obtain ⟨f11, ef11, hq⟩ := b_s hq
  refine fa_ptF (own := RX7) (ref := "CoastlineRuler") (k := 4) hx hb hB inB_RX7 tyX7_ok nmX7 hown hI rfl (by decide) m_257 (fun _ h9 => h9) (by decide) hin (by decide) rfl rfl ef11 dX7_init_43 (fun H locs hI => ?_)
  refine lv_aload_n hx hb dX7_init_46 rfl (lv_at hl 0 rfl) ?_
  obtain ⟨f12, ef12, hq⟩ := b_s hq
  refine fa_new (own := RX7) (ci := 8) hx hb hB inB_RX5 tyX5_ok hown m_101 m_102 m_4 hI rfl (by decide +kernel) (by decide) (by decide) ef12 dX7_init_47 (fun H locs hI => ?_)
  refine lv_dup hx hb dX7_init_50 rfl ?_
  obtain ⟨v13, ev13, hq⟩ := b_s hq
  refine gw_v (g_runIN (As := []) (rest := [.ref (v8.2 + 1), .ref a0]) (j0 := 0) hC (c_X5_init l V g D cT f12 (v8.2 + 2) (v8.2 + 1) v13 ev13) k_X5_init rfl rfl rfl ⟨Nat.le_of_ble_eq_true rfl, Nat.le_of_ble_eq_true rfl⟩ hI rfl hl.1 rfl (Nat.le_of_ble_eq_true rfl) dX7_init_51 ⟨by decide, by decide⟩) hI (fun H locs hI => ?_)
  obtain ⟨f14, ef14, hq⟩ := b_s hq
  refine fa_ptF (own := RX7) (ref := "CoastlineRuler") (k := 7) hx hb hB inB_RX7 tyX7_ok nmX7 hown hI rfl (by decide) m_260 (fun _ h9 => h9) (by decide) hin (by decide) rfl rfl ef14 dX7_init_54 (fun H locs hI => ?_)
  exact sg_X7_init_1 hx hb hr hlocks hin hC a0 f14 v13.2 H locs ls hI (lv_sub hl [0] rfl) hq


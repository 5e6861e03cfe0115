abbrev rm_X5_isWord : Room := { frames := 6, cells := 0, slots := 0, locals := 205 }
theorem k_X5_isWord : g_CV yX5_isWord cX5_isWord 3 (some .boolean) 1 := ⟨⟨m_652, m_4, by decide +kernel⟩, m_650, m_651⟩
set_option maxHeartbeats 4000000 in
set_option maxRecDepth 100000 in
theorem c_X5_isWord (l : Launch) (V : Nat → Nat) (g : GH) (D : va_G) (cT : Nat → ClassId) (f : GH) (n : Nat) (a0 : Nat) (a1 : Nat) (o : Int32) (hq : p_X5_isWord V g f a0 a1 = some o) : Met l yX5_isWord (Cond.code yX5_isWord cX5_isWord 3 (some .boolean) :: g_B) rm_X5_isWord (va_Pc [.ref a0, .ref a1] (g_I V g D cT f n)) (g_Ri o n) 0 0 g_no := by
  refine g_begin (own := RX5) [.ref a0, .ref a1] [(0, .ref a0), (1, .ref a1)] g_no (fun _ h => h.elim) (by decide) rfl (Nat.le_of_ble_eq_true rfl) rfl ?_
  intro p e s m args below meth c hx hb hr hlocks hin hC hI ls hl
  obtain ⟨hx, hb, hml, hown, hB⟩ := id hC
  obtain ⟨H, hH⟩ : ∃ H, H = s.heap := ⟨_, rfl⟩
  obtain ⟨locs, hlocs⟩ : ∃ L : List Loc, L = [] := ⟨_, rfl⟩
  rw [← hH, ← hlocs] at hI ⊢
  clear hH hlocs
  unfold p_X5_isWord at hq
  replace hq := (h_me_eq hq).2
  refine lv_aload_n hx hb dX5_isWord_0 rfl (lv_at hl 0 rfl) ?_
  obtain ⟨v1, ev1, hq⟩ := b_s hq
  refine fa_gi (own := RX5) (ref := "CoastlineRuler$Tokens") (k := 3) hx hb hB inB_RX5 hown hI rfl (by decide) m_115 (fun _ h9 => h9) ev1 dX5_isWord_1 ?_
  refine lv_iconst (v := (1 : Int32)) hx hb dX5_isWord_4 (by decide) ?_
  refine lv_icmp_ne (tgt := 24) hx hb dX5_isWord_5 (by decide) (fun c2 => ?_) (fun c2 => ?_)
  · replace hq := i_f c2 hq
    refine lv_iconst (v := (0 : Int32)) hx hb dX5_isWord_24 (by decide) ?_
    exact ge_Ri hx hb hlocks hr (by decide +kernel) hI hq dX5_isWord_25
  · replace hq := i_t c2 hq
    refine lv_aload_n hx hb dX5_isWord_8 rfl (lv_at hl 0 rfl) ?_
    obtain ⟨v3, ev3, hq⟩ := b_s hq
    refine fa_gi (own := RX5) (ref := "CoastlineRuler$Tokens") (k := 5) hx hb hB inB_RX5 hown hI rfl (by decide) m_118 (fun _ h9 => h9) ev3 dX5_isWord_9 ?_
    refine lv_aload_n hx hb dX5_isWord_12 rfl (lv_at hl 0 rfl) ?_
    obtain ⟨v4, ev4, hq⟩ := b_s hq
    refine fa_gi (own := RX5) (ref := "CoastlineRuler$Tokens") (k := 4) hx hb hB inB_RX5 hown hI rfl (by decide) m_116 (fun _ h9 => h9) ev4 dX5_isWord_13 ?_
    refine lv_isub hx hb dX5_isWord_16 ?_
    refine lv_aload_n hx hb dX5_isWord_17 rfl (lv_at hl 1 rfl) ?_
    obtain ⟨v5, ev5, hq⟩ := b_s hq
    refine gr_i (g_runVs (As := []) (rest := [.int (v3 - v4)]) (ci := 51) hC (c_J0_length_8abf5 l V g D cT f n a1 v5 ev5) k_J0_length_8abf5 m_653 rfl rfl ⟨Nat.le_of_ble_eq_true rfl, Nat.le_of_ble_eq_true rfl⟩ hI rfl (h_me_eq ev5).1 rfl hl.1 rfl (Nat.le_of_ble_eq_true rfl) dX5_isWord_18 ⟨by decide, by decide⟩) hI (fun H locs hI => ?_)
    refine lv_icmp_eq (tgt := 26) hx hb dX5_isWord_21 (by decide) (fun c6 => ?_) (fun c6 => ?_)
    · replace hq := i_t c6 hq
      refine lv_iconst (v := (0 : Int32)) hx hb dX5_isWord_26 (by decide) ?_
      refine lv_istore_n (lv' := [(2, .int (0 : Int32)), (0, .ref a0), (1, .ref a1)]) hx hb dX5_isWord_27 rfl hl (by decide) rfl (fun ls hl => ?_)
      have hl28 : ∀ (K55 : Option Int32) (hK55 : ∀  (H : Heap) (locs : List Loc) (ls : Array Slot), g_at g_no V g D cT f n s H locs → lv_has ls 3 [] → K55  = some o → W p l e rm_X5_isWord s m args below meth c H locs 0 0 (MQ below (g_Ri o n) args s 0 0 g_no) (F0 m 55 ls [])) (K63 : Option Int32) (hK63 : ∀  (H : Heap) (locs : List Loc) (ls : Array Slot), g_at g_no V g D cT f n s H locs → lv_has ls 3 [] → K63  = some o → W p l e rm_X5_isWord s m args below meth c H locs 0 0 (MQ below (g_Ri o n) args s 0 0 g_no) (F0 m 63 ls [])) (N : Nat) (x0 : Nat) (x1 : Nat) (x2 : Int32) (H : Heap) (locs : List Loc) (ls : Array Slot), g_at g_no V g D cT f n s H locs → lv_has ls 3 [(0, .ref x0), (1, .ref x1), (2, .int x2)] → p_X5_isWord_l28 V g f K55 K63 N x0 x1 x2 = some o → W p l e rm_X5_isWord s m args below meth c H locs 0 0 (MQ below (g_Ri o n) args s 0 0 g_no) (F0 m 28 ls []) := by
        intro K55 hK55 K63 hK63 N
        induction N with
        | zero =>
          intro x0 x1 x2 H locs ls hI hl hq
          rw [p_X5_isWord_l28] at hq
          cases hq
        | succ N ih =>
          intro x0 x1 x2 H locs ls hI hl hq
          rw [p_X5_isWord_l28] at hq
          refine lv_iload_n hx hb dX5_isWord_28 rfl (lv_at hl 2 rfl) ?_
          refine lv_aload_n hx hb dX5_isWord_29 rfl (lv_at hl 1 rfl) ?_
          obtain ⟨v7, ev7, hq⟩ := b_s hq
          refine gr_i (g_runVs (As := []) (rest := [.int x2]) (ci := 51) hC (c_J0_length_8abf5 l V g D cT f n x1 v7 ev7) k_J0_length_8abf5 m_653 rfl rfl ⟨Nat.le_of_ble_eq_true rfl, Nat.le_of_ble_eq_true rfl⟩ hI rfl (h_me_eq ev7).1 rfl hl.1 rfl (Nat.le_of_ble_eq_true rfl) dX5_isWord_30 ⟨by decide, by decide⟩) hI (fun H locs hI => ?_)
          refine lv_icmp_ge (tgt := 63) hx hb dX5_isWord_33 (by decide) (fun c8 => ?_) (fun c8 => ?_)
          · replace hq := i_t c8 hq
            exact hK63  H locs ls hI (lv_sub hl [] rfl) hq
          · replace hq := i_f c8 hq
            refine lv_aload_n hx hb dX5_isWord_36 rfl (lv_at hl 0 rfl) ?_
            obtain ⟨v9, ev9, hq⟩ := b_s hq
            refine fa_gr (own := RX5) (ref := "CoastlineRuler$Tokens") (k := 0) hx hb hB inB_RX5 hown hI rfl (by decide) m_110 (fun _ h9 => h9) ev9 dX5_isWord_37 ?_
            refine lv_aload_n hx hb dX5_isWord_40 rfl (lv_at hl 0 rfl) ?_
            obtain ⟨v10, ev10, hq⟩ := b_s hq
            refine fa_gi (own := RX5) (ref := "CoastlineRuler$Tokens") (k := 4) hx hb hB inB_RX5 hown hI rfl (by decide) m_116 (fun _ h9 => h9) ev10 dX5_isWord_41 ?_
            refine lv_iload_n hx hb dX5_isWord_44 rfl (lv_at hl 2 rfl) ?_
            refine lv_iadd hx hb dX5_isWord_45 ?_
            obtain ⟨v11, ev11, hq⟩ := b_s hq
            refine fa_lb hx hb hI ev11 dX5_isWord_46 ?_
            refine lv_aload_n hx hb dX5_isWord_47 rfl (lv_at hl 1 rfl) ?_
            refine lv_iload_n hx hb dX5_isWord_48 rfl (lv_at hl 2 rfl) ?_
            obtain ⟨v12, ev12, hq⟩ := b_s hq
            refine gr_i (g_runVs (As := [.int x2]) (rest := [.int v11]) (ci := 51) hC (c_J0_charAt_5068e l V g D cT f n x1 x2 v12 ev12) k_J0_charAt_5068e m_662 rfl rfl ⟨Nat.le_of_ble_eq_true rfl, Nat.le_of_ble_eq_true rfl⟩ hI rfl (h_me_eq ev12).1 rfl hl.1 rfl (Nat.le_of_ble_eq_true rfl) dX5_isWord_49 ⟨by decide, by decide⟩) hI (fun H locs hI => ?_)
            refine lv_icmp_eq (tgt := 57) hx hb dX5_isWord_52 (by decide) (fun c13 => ?_) (fun c13 => ?_)
            · replace hq := i_t c13 hq
              refine lv_iinc (v := x2 + (1 : Int32)) (lv' := [(2, .int (x2 + (1 : Int32))), (0, .ref x0), (1, .ref x1)]) hx hb dX5_isWord_57 hl (k := 2) rfl rfl (by decide) rfl (fun ls hl => ?_)
              refine lv_goto (tgt := 28) hx hb dX5_isWord_60 (by decide) ?_
              exact ih x0 x1 (x2 + (1 : Int32)) H locs ls hI (lv_sub hl [1, 2, 0] rfl) hq
            · replace hq := i_f c13 hq
              exact hK55  H locs ls hI (lv_sub hl [] rfl) hq
      refine hl28 _ ?_ _ ?_ FU a0 a1 (0 : Int32) H locs ls hI (lv_sub hl [1, 2, 0] rfl) hq
      · intro  H locs ls hI hl hq
        refine lv_iconst (v := (0 : Int32)) hx hb dX5_isWord_55 (by decide) ?_
        exact ge_Ri hx hb hlocks hr (by decide +kernel) hI hq dX5_isWord_56
      · intro  H locs ls hI hl hq
        refine lv_iconst (v := (1 : Int32)) hx hb dX5_isWord_63 (by decide) ?_
        exact ge_Ri hx hb hlocks hr (by decide +kernel) hI hq dX5_isWord_64
    · replace hq := i_f c6 hq
      refine lv_iconst (v := (0 : Int32)) hx hb dX5_isWord_24 (by decide) ?_
      exact ge_Ri hx hb hlocks hr (by decide +kernel) hI hq dX5_isWord_25

abbrev rm_X4_takeWord : Room := { frames := 7, cells := 0, slots := 0, locals := 227 }
theorem k_X4_takeWord : g_CV yX4_takeWord cX4_takeWord 2 (some .boolean) 1 := ⟨⟨m_648, m_5, by decide +kernel⟩, m_647, ms_5⟩
set_option maxHeartbeats 4000000 in
set_option maxRecDepth 100000 in
theorem c_X4_takeWord (l : Launch) (V : Nat → Nat) (g : GH) (D : va_G) (cT : Nat → ClassId) (f : GH) (n : Nat) (a0 : Nat) (a1 : Nat) (o : Int32 × GH) (hq : p_X4_takeWord V g f a0 a1 = some o) : Met l yX4_takeWord (Cond.code yX4_takeWord cX4_takeWord 2 (some .boolean) :: g_B) rm_X4_takeWord (va_Pc [.ref a0, .ref a1] (g_I V g D cT f n)) (g_Wi V D cT o.1 o.2 n) 0 0 (g_A V) := by
  refine g_begin (own := RX4) [.ref a0, .ref a1] [(0, .ref a0), (1, .ref a1)] (g_A V) (fun _ h => h) (by decide) rfl (Nat.le_of_ble_eq_true rfl) rfl ?_
  intro p e s m args below meth c hx hb hr hlocks hin hC hI ls hl
  obtain ⟨hx, hb, hml, hown, hB⟩ := id hC
  obtain ⟨H, hH⟩ : ∃ H, H = s.heap := ⟨_, rfl⟩
  obtain ⟨locs, hlocs⟩ : ∃ L : List Loc, L = [] := ⟨_, rfl⟩
  rw [← hH, ← hlocs] at hI ⊢
  clear hH hlocs
  unfold p_X4_takeWord at hq
  replace hq := (h_me_eq hq).2
  refine lv_aload_n hx hb dX4_takeWord_0 rfl (lv_at hl 0 rfl) ?_
  obtain ⟨v1, ev1, hq⟩ := b_s hq
  refine fa_gr (own := RX4) (ref := "CoastlineRuler$Grammar") (k := 0) hx hb hB inB_RX4 hown hI rfl (by decide) m_139 (fun _ h9 => h9) ev1 dX4_takeWord_1 ?_
  refine lv_aload_n hx hb dX4_takeWord_4 rfl (lv_at hl 1 rfl) ?_
  obtain ⟨v2, ev2, hq⟩ := b_s hq
  refine gr_i (g_runV (As := [.ref a1]) (rest := []) (ci := 8) hC (c_X5_isWord l V g D cT f n v1 a1 v2 ev2) k_X5_isWord m_649 rfl rfl ⟨Nat.le_of_ble_eq_true rfl, Nat.le_of_ble_eq_true rfl⟩ hI rfl rfl (h_me_eq ev2).1 rfl hl.1 rfl (Nat.le_of_ble_eq_true rfl) dX4_takeWord_5 ⟨by decide, by decide⟩) hI (fun H locs hI => ?_)
  refine lv_if_ne (tgt := 17) hx hb dX4_takeWord_8 (by decide) (fun c3 => ?_) (fun c3 => ?_)
  · replace hq := i_f c3 hq
    refine lv_aload_n hx hb dX4_takeWord_17 rfl (lv_at hl 0 rfl) ?_
    obtain ⟨v4, ev4, hq⟩ := b_s hq
    refine fa_gr (own := RX4) (ref := "CoastlineRuler$Grammar") (k := 0) hx hb hB inB_RX4 hown hI rfl (by decide) m_139 (fun _ h9 => h9) ev4 dX4_takeWord_18 ?_
    obtain ⟨v5, ev5, hq⟩ := b_s hq
    refine gw_v (g_runV (As := []) (rest := []) (ci := 8) hC (c_X5_advance l V g D cT f n v4 v5 ev5) k_X5_advance m_704 rfl rfl ⟨Nat.le_of_ble_eq_true rfl, Nat.le_of_ble_eq_true rfl⟩ hI rfl rfl (h_me_eq ev5).1 rfl hl.1 rfl (Nat.le_of_ble_eq_true rfl) dX4_takeWord_21 ⟨by decide, by decide⟩) hI (fun H locs hI => ?_)
    refine lv_iconst (v := (1 : Int32)) hx hb dX4_takeWord_24 (by decide) ?_
    exact ge_Wi hx hb hlocks hr (by decide +kernel) hI (congrArg (fun z => z.1) (Option.some.inj hq)) (congrArg (fun z => z.2) (Option.some.inj hq)) dX4_takeWord_25
  · replace hq := i_t c3 hq
    refine lv_aload_n hx hb dX4_takeWord_11 rfl (lv_at hl 0 rfl) ?_
    refine lv_iconst (v := (1 : Int32)) hx hb dX4_takeWord_12 (by decide) ?_
    obtain ⟨v6, ev6, hq⟩ := b_s hq
    refine gw_i (g_runV (As := [.int (1 : Int32)]) (rest := []) (ci := 7) hC (c_X4_fail l V g D cT f n a0 (1 : Int32) v6 ev6) k_X4_fail m_700 rfl rfl ⟨Nat.le_of_ble_eq_true rfl, Nat.le_of_ble_eq_true rfl⟩ hI rfl rfl (h_me_eq ev6).1 rfl hl.1 rfl (Nat.le_of_ble_eq_true rfl) dX4_takeWord_13 ⟨by decide, by decide⟩) hI (fun H locs hI => ?_)
    obtain ⟨_, ev7, hq⟩ := b_s hq
    exact ge_Wi hx hb hlocks hr (h_bz_eq ev7).2.1 hI (congrArg (fun z => z.1) (Option.some.inj hq)) (congrArg (fun z => z.2) (Option.some.inj hq)) dX4_takeWord_16

abbrev rm_X4_readCoast : Room := { frames := 8, cells := 0, slots := 0, locals := 248 }
theorem k_X4_readCoast : g_CV yX4_readCoast cX4_readCoast 4 (some .boolean) 1 := ⟨⟨m_718, m_5, by decide +kernel⟩, m_717, ms_9⟩
set_option maxHeartbeats 4000000 in
set_option maxRecDepth 100000 in
theorem c_X4_readCoast (l : Launch) (V : Nat → Nat) (g : GH) (D : va_G) (cT : Nat → ClassId) (f : GH) (n : Nat) (a0 : Nat) (a1 : Nat) (o : Int32 × GH) (hq : p_X4_readCoast V g f a0 a1 = some o) : Met l yX4_readCoast (Cond.code yX4_readCoast cX4_readCoast 4 (some .boolean) :: g_B) rm_X4_readCoast (va_Pc [.ref a0, .ref a1] (g_I V g D cT f n)) (g_Wi V D cT o.1 o.2 n) 0 0 (g_A V) := by
  refine g_begin (own := RX4) [.ref a0, .ref a1] [(0, .ref a0), (1, .ref a1)] (g_A V) (fun _ h => h) (by decide) rfl (Nat.le_of_ble_eq_true rfl) rfl ?_
  intro p e s m args below meth c hx hb hr hlocks hin hC hI ls hl
  obtain ⟨hx, hb, hml, hown, hB⟩ := id hC
  obtain ⟨H, hH⟩ : ∃ H, H = s.heap := ⟨_, rfl⟩
  obtain ⟨locs, hlocs⟩ : ∃ L : List Loc, L = [] := ⟨_, rfl⟩
  rw [← hH, ← hlocs] at hI ⊢
  clear hH hlocs
  unfold p_X4_readCoast at hq
  replace hq := (h_me_eq hq).2
  refine lv_aload_n hx hb dX4_readCoast_0 rfl (lv_at hl 1 rfl) ?_
  refine lv_aload_n hx hb dX4_readCoast_1 rfl (lv_at hl 0 rfl) ?_
  obtain ⟨v1, ev1, hq⟩ := b_s hq
  refine fa_gr (own := RX4) (ref := "CoastlineRuler$Grammar") (k := 0) hx hb hB inB_RX4 hown hI rfl (by decide) m_139 (fun _ h9 => h9) ev1 dX4_readCoast_2 ?_
  refine lv_ldcS hx hb hown (g_rtq hI rt_6) dX4_readCoast_5 ?_
  obtain ⟨v2, ev2, hq⟩ := b_s hq
  refine gr_i (g_runV (As := [.ref (V 26)]) (rest := [.ref a1]) (ci := 8) hC (c_X5_isWord l V g D cT f n v1 (V 26) v2 ev2) k_X5_isWord m_649 rfl rfl ⟨Nat.le_of_ble_eq_true rfl, Nat.le_of_ble_eq_true rfl⟩ hI rfl rfl (h_me_eq ev2).1 rfl hl.1 rfl (Nat.le_of_ble_eq_true rfl) dX4_readCoast_7 ⟨by decide, by decide⟩) hI (fun H locs hI => ?_)
  obtain ⟨_, ev3, hq⟩ := b_s hq
  obtain ⟨f4, ef4, hq⟩ := b_s hq
  refine fa_pt (own := RX4) (ref := "CoastlineRuler$Coast") (k := 3) hx hb hB inB_RX2 tyX2_ok nmX2 hown hI rfl (by decide) m_64 (fun _ h9 => h9) (by decide) (h_bz_eq ev3).2.1 (h_bz_eq ev3).2.2 ef4 dX4_readCoast_10 (fun H locs hI => ?_)
  refine lv_aload_n hx hb dX4_readCoast_13 rfl (lv_at hl 1 rfl) ?_
  refine lv_iconst (v := (0 : Int32)) hx hb dX4_readCoast_14 (by decide) ?_
  obtain ⟨f5, ef5, hq⟩ := b_s hq
  refine fa_pt (own := RX4) (ref := "CoastlineRuler$Coast") (k := 2) hx hb hB inB_RX2 tyX2_ok nmX2 hown hI rfl (by decide) m_60 (fun _ h9 => h9) (by decide) rfl rfl ef5 dX4_readCoast_15 (fun H locs hI => ?_)
  refine lv_aload_n hx hb dX4_readCoast_18 rfl (lv_at hl 0 rfl) ?_
  refine lv_aload_n hx hb dX4_readCoast_19 rfl (lv_at hl 1 rfl) ?_
  obtain ⟨v6, ev6, hq⟩ := b_s hq
  refine fa_gi (own := RX4) (ref := "CoastlineRuler$Coast") (k := 3) hx hb hB inB_RX2 hown hI rfl (by decide) m_64 (fun _ h9 => h9) ev6 dX4_readCoast_20 ?_
  have hj33 : ∀ (x0 : Nat) (x1 : Nat) (t0 : Nat) (t1 : Nat) (f : GH) (H : Heap) (locs : List Loc) (ls : Array Slot), g_at (g_A V) V g D cT f n s H locs → lv_has ls 4 [(0, .ref x0), (1, .ref x1)] → p_X4_readCoast_j33 V g x0 x1 t0 t1 f = some o → W p l e rm_X4_readCoast s m args below meth c H locs 0 0 (MQ below (g_Wi V D cT o.1 o.2 n) args s 0 0 (g_A V)) (F0 m 33 ls [.ref t0, .ref t1]) := by
    intro x0 x1 t0 t1 f H locs ls hI hl hq
    unfold p_X4_readCoast_j33 at hq
    obtain ⟨v7, ev7, hq⟩ := b_s hq
    refine gw_i (g_runV (As := [.ref t0]) (rest := []) (ci := 7) hC (c_X4_takeWord l V g D cT f n t1 t0 v7 ev7) k_X4_takeWord m_645 rfl rfl ⟨Nat.le_of_ble_eq_true rfl, Nat.le_of_ble_eq_true rfl⟩ hI rfl rfl (h_me_eq ev7).1 rfl hl.1 rfl (Nat.le_of_ble_eq_true rfl) dX4_readCoast_33 ⟨by decide, by decide⟩) hI (fun H locs hI => ?_)
    refine lv_if_ne (tgt := 41) hx hb dX4_readCoast_36 (by decide) (fun c8 => ?_) (fun c8 => ?_)
    · replace hq := i_f c8 hq
      refine lv_iconst (v := (0 : Int32)) hx hb dX4_readCoast_41 (by decide) ?_
      refine lv_istore_n (lv' := [(2, .int (0 : Int32)), (0, .ref x0), (1, .ref x1)]) hx hb dX4_readCoast_42 rfl hl (by decide) rfl (fun ls hl => ?_)
      have hl43 : ∀ (K62 : GH → Option (Int32 × GH)) (hK62 : ∀ (f : GH) (H : Heap) (locs : List Loc) (ls : Array Slot), g_at (g_A V) V g D cT f n s H locs → lv_has ls 4 [] → K62 f = some o → W p l e rm_X4_readCoast s m args below meth c H locs 0 0 (MQ below (g_Wi V D cT o.1 o.2 n) args s 0 0 (g_A V)) (F0 m 62 ls [])) (K82 : GH → Option (Int32 × GH)) (hK82 : ∀ (f : GH) (H : Heap) (locs : List Loc) (ls : Array Slot), g_at (g_A V) V g D cT f n s H locs → lv_has ls 4 [] → K82 f = some o → W p l e rm_X4_readCoast s m args below meth c H locs 0 0 (MQ below (g_Wi V D cT o.1 o.2 n) args s 0 0 (g_A V)) (F0 m 82 ls [])) (K108 : Nat → Nat → GH → Option (Int32 × GH)) (hK108 : ∀ (x0 : Nat) (x1 : Nat) (f : GH) (H : Heap) (locs : List Loc) (ls : Array Slot), g_at (g_A V) V g D cT f n s H locs → lv_has ls 4 [(0, .ref x0), (1, .ref x1)] → K108 x0 x1 f = some o → W p l e rm_X4_readCoast s m args below meth c H locs 0 0 (MQ below (g_Wi V D cT o.1 o.2 n) args s 0 0 (g_A V)) (F0 m 108 ls [])) (K146 : Nat → GH → Option (Int32 × GH)) (hK146 : ∀ (x0 : Nat) (f : GH) (H : Heap) (locs : List Loc) (ls : Array Slot), g_at (g_A V) V g D cT f n s H locs → lv_has ls 4 [(0, .ref x0)] → K146 x0 f = some o → W p l e rm_X4_readCoast s m args below meth c H locs 0 0 (MQ below (g_Wi V D cT o.1 o.2 n) args s 0 0 (g_A V)) (F0 m 146 ls [])) (N : Nat) (x0 : Nat) (x1 : Nat) (x2 : Int32) (f : GH) (H : Heap) (locs : List Loc) (ls : Array Slot), g_at (g_A V) V g D cT f n s H locs → lv_has ls 4 [(0, .ref x0), (1, .ref x1), (2, .int x2)] → p_X4_readCoast_l43 V g K62 K82 K108 K146 N x0 x1 x2 f = some o → W p l e rm_X4_readCoast s m args below meth c H locs 0 0 (MQ below (g_Wi V D cT o.1 o.2 n) args s 0 0 (g_A V)) (F0 m 43 ls []) := by
        intro K62 hK62 K82 hK82 K108 hK108 K146 hK146 N
        induction N with
        | zero =>
          intro x0 x1 x2 f H locs ls hI hl hq
          rw [p_X4_readCoast_l43] at hq
          cases hq
        | succ N ih =>
          intro x0 x1 x2 f H locs ls hI hl hq
          rw [p_X4_readCoast_l43] at hq
          refine lv_iload_n hx hb dX4_readCoast_43 rfl (lv_at hl 2 rfl) ?_
          refine lv_bipush (v := (33 : Int32)) hx hb dX4_readCoast_44 (by decide) ?_
          refine lv_icmp_ge (tgt := 146) hx hb dX4_readCoast_46 (by decide) (fun c9 => ?_) (fun c9 => ?_)
          · replace hq := i_t c9 hq
            exact hK146 x0 f H locs ls hI (lv_sub hl [0] rfl) hq
          · replace hq := i_f c9 hq
            refine lv_aload_n hx hb dX4_readCoast_49 rfl (lv_at hl 0 rfl) ?_
            refine lv_sipush (v := (-1000 : Int32)) hx hb dX4_readCoast_50 (by decide) ?_
            refine lv_sipush (v := (1000 : Int32)) hx hb dX4_readCoast_53 (by decide) ?_
            obtain ⟨v10, ev10, hq⟩ := b_s hq
            refine gw_i (g_runV (As := [.int (-1000 : Int32), .int (1000 : Int32)]) (rest := []) (ci := 7) hC (c_X4_readInteger l V g D cT f n x0 (-1000 : Int32) (1000 : Int32) v10 ev10) k_X4_readInteger m_721 rfl rfl ⟨Nat.le_of_ble_eq_true rfl, Nat.le_of_ble_eq_true rfl⟩ hI rfl rfl (h_me_eq ev10).1 rfl hl.1 rfl (Nat.le_of_ble_eq_true rfl) dX4_readCoast_56 ⟨by decide, by decide⟩) hI (fun H locs hI => ?_)
            refine lv_if_ne (tgt := 64) hx hb dX4_readCoast_59 (by decide) (fun c11 => ?_) (fun c11 => ?_)
            · replace hq := i_f c11 hq
              refine lv_aload_n hx hb dX4_readCoast_64 rfl (lv_at hl 0 rfl) ?_
              obtain ⟨v12, ev12, hq⟩ := b_s hq
              refine fa_gi (own := RX4) (ref := "CoastlineRuler$Grammar") (k := 3) hx hb hB inB_RX4 hown hI rfl (by decide) m_144 (fun _ h9 => h9) ev12 dX4_readCoast_65 ?_
              refine lv_istore_n (lv' := [(3, .int v12), (0, .ref x0), (1, .ref x1), (2, .int x2)]) hx hb dX4_readCoast_68 rfl hl (by decide) rfl (fun ls hl => ?_)
              refine lv_aload_n hx hb dX4_readCoast_69 rfl (lv_at hl 1 rfl) ?_
              refine lv_sipush (v := (-1000 : Int32)) hx hb dX4_readCoast_70 (by decide) ?_
              refine lv_sipush (v := (1000 : Int32)) hx hb dX4_readCoast_73 (by decide) ?_
              obtain ⟨v13, ev13, hq⟩ := b_s hq
              refine gw_i (g_runV (As := [.int (-1000 : Int32), .int (1000 : Int32)]) (rest := []) (ci := 7) hC (c_X4_readInteger l V g D cT v10.2 n x0 (-1000 : Int32) (1000 : Int32) v13 ev13) k_X4_readInteger m_721 rfl rfl ⟨Nat.le_of_ble_eq_true rfl, Nat.le_of_ble_eq_true rfl⟩ hI rfl rfl (h_me_eq ev13).1 rfl hl.1 rfl (Nat.le_of_ble_eq_true rfl) dX4_readCoast_76 ⟨by decide, by decide⟩) hI (fun H locs hI => ?_)
              refine lv_if_ne (tgt := 84) hx hb dX4_readCoast_79 (by decide) (fun c14 => ?_) (fun c14 => ?_)
              · replace hq := i_f c14 hq
                refine lv_aload_n hx hb dX4_readCoast_84 rfl (lv_at hl 2 rfl) ?_
                refine lv_aload_n hx hb dX4_readCoast_85 rfl (lv_at hl 2 rfl) ?_
                obtain ⟨v15, ev15, hq⟩ := b_s hq
                refine fa_gi (own := RX4) (ref := "CoastlineRuler$Coast") (k := 2) hx hb hB inB_RX2 hown hI rfl (by decide) m_60 (fun _ h9 => h9) ev15 dX4_readCoast_86 ?_
                refine lv_iload_n hx hb dX4_readCoast_89 rfl (lv_at hl 0 rfl) ?_
                refine lv_aload_n hx hb dX4_readCoast_90 rfl (lv_at hl 1 rfl) ?_
                obtain ⟨v16, ev16, hq⟩ := b_s hq
                refine fa_gi (own := RX4) (ref := "CoastlineRuler$Grammar") (k := 3) hx hb hB inB_RX4 hown hI rfl (by decide) m_144 (fun _ h9 => h9) ev16 dX4_readCoast_91 ?_
                obtain ⟨v17, ev17, hq⟩ := b_s hq
                refine gw_v (g_runV (As := [.int v15, .int v12, .int v16]) (rest := []) (ci := 5) hC (c_X2_insert l V g D cT v13.2 n x1 v15 v12 v16 v17 ev17) k_X2_insert m_730 rfl rfl ⟨Nat.le_of_ble_eq_true rfl, Nat.le_of_ble_eq_true rfl⟩ hI rfl rfl (h_me_eq ev17).1 rfl hl.1 rfl (Nat.le_of_ble_eq_true rfl) dX4_readCoast_94 ⟨by decide, by decide⟩) hI (fun H locs hI => ?_)
                refine lv_aload_n hx hb dX4_readCoast_97 rfl (lv_at hl 1 rfl) ?_
                obtain ⟨v18, ev18, hq⟩ := b_s hq
                refine fa_gr (own := RX4) (ref := "CoastlineRuler$Grammar") (k := 0) hx hb hB inB_RX4 hown hI rfl (by decide) m_139 (fun _ h9 => h9) ev18 dX4_readCoast_98 ?_
                obtain ⟨v19, ev19, hq⟩ := b_s hq
                refine fa_gi (own := RX4) (ref := "CoastlineRuler$Tokens") (k := 3) hx hb hB inB_RX5 hown hI rfl (by decide) m_114 (fun _ h9 => h9) ev19 dX4_readCoast_101 ?_
                refine lv_iconst (v := (4 : Int32)) hx hb dX4_readCoast_104 (by decide) ?_
                refine lv_icmp_eq (tgt := 133) hx hb dX4_readCoast_105 (by decide) (fun c20 => ?_) (fun c20 => ?_)
                · replace hq := i_t c20 hq
                  refine lv_aload_n hx hb dX4_readCoast_133 rfl (lv_at hl 1 rfl) ?_
                  obtain ⟨v21, ev21, hq⟩ := b_s hq
                  refine fa_gr (own := RX4) (ref := "CoastlineRuler$Grammar") (k := 0) hx hb hB inB_RX4 hown hI rfl (by decide) m_139 (fun _ h9 => h9) ev21 dX4_readCoast_134 ?_
                  obtain ⟨v22, ev22, hq⟩ := b_s hq
                  refine gw_v (g_runV (As := []) (rest := []) (ci := 8) hC (c_X5_advance l V g D cT v17 n v21 v22 ev22) k_X5_advance m_704 rfl rfl ⟨Nat.le_of_ble_eq_true rfl, Nat.le_of_ble_eq_true rfl⟩ hI rfl rfl (h_me_eq ev22).1 rfl hl.1 rfl (Nat.le_of_ble_eq_true rfl) dX4_readCoast_137 ⟨by decide, by decide⟩) hI (fun H locs hI => ?_)
                  refine lv_iinc (v := x2 + (1 : Int32)) (lv' := [(2, .int (x2 + (1 : Int32))), (3, .int v12), (0, .ref x0), (1, .ref x1)]) hx hb dX4_readCoast_140 hl (k := 3) rfl rfl (by decide) rfl (fun ls hl => ?_)
                  refine lv_goto (tgt := 43) hx hb dX4_readCoast_143 (by decide) ?_
                  exact ih x0 x1 (x2 + (1 : Int32)) v22 H locs ls hI (lv_sub hl [2, 3, 0] rfl) hq
                · replace hq := i_f c20 hq
                  exact hK108 x0 x1 v17 H locs ls hI (lv_sub hl [1, 2] rfl) hq
              · replace hq := i_t c14 hq
                exact hK82 v13.2 H locs ls hI (lv_sub hl [] rfl) hq
            · replace hq := i_t c11 hq
              exact hK62 v10.2 H locs ls hI (lv_sub hl [] rfl) hq
      refine hl43 _ ?_ _ ?_ _ ?_ _ ?_ FU x0 x1 (0 : Int32) v7.2 H locs ls hI (lv_sub hl [1, 2, 0] rfl) hq
      · intro f H locs ls hI hl hq
        refine lv_iconst (v := (0 : Int32)) hx hb dX4_readCoast_62 (by decide) ?_
        exact ge_Wi hx hb hlocks hr (by decide +kernel) hI (congrArg (fun z => z.1) (Option.some.inj hq)) (congrArg (fun z => z.2) (Option.some.inj hq)) dX4_readCoast_63
      · intro f H locs ls hI hl hq
        refine lv_iconst (v := (0 : Int32)) hx hb dX4_readCoast_82 (by decide) ?_
        exact ge_Wi hx hb hlocks hr (by decide +kernel) hI (congrArg (fun z => z.1) (Option.some.inj hq)) (congrArg (fun z => z.2) (Option.some.inj hq)) dX4_readCoast_83
      · intro x0 x1 f H locs ls hI hl hq
        refine lv_aload_n hx hb dX4_readCoast_108 rfl (lv_at hl 1 rfl) ?_
        obtain ⟨v23, ev23, hq⟩ := b_s hq
        refine fa_gi (own := RX4) (ref := "CoastlineRuler$Coast") (k := 2) hx hb hB inB_RX2 hown hI rfl (by decide) m_60 (fun _ h9 => h9) ev23 dX4_readCoast_109 ?_
        refine lv_aload_n hx hb dX4_readCoast_112 rfl (lv_at hl 1 rfl) ?_
        obtain ⟨v24, ev24, hq⟩ := b_s hq
        refine gr_i (g_runV (As := []) (rest := [.int v23]) (ci := 5) hC (c_X2_neededPoints l V g D cT f n x1 v24 ev24) k_X2_neededPoints m_731 rfl rfl ⟨Nat.le_of_ble_eq_true rfl, Nat.le_of_ble_eq_true rfl⟩ hI rfl rfl (h_me_eq ev24).1 rfl hl.1 rfl (Nat.le_of_ble_eq_true rfl) dX4_readCoast_113 ⟨by decide, by decide⟩) hI (fun H locs hI => ?_)
        refine lv_icmp_ge (tgt := 127) hx hb dX4_readCoast_116 (by decide) (fun c25 => ?_) (fun c25 => ?_)
        · replace hq := i_t c25 hq
          refine lv_iconst (v := (1 : Int32)) hx hb dX4_readCoast_127 (by decide) ?_
          refine lv_goto (tgt := 132) hx hb dX4_readCoast_128 (by decide) ?_
          exact ge_Wi hx hb hlocks hr (by decide +kernel) hI (congrArg (fun z => z.1) (Option.some.inj hq)) (congrArg (fun z => z.2) (Option.some.inj hq)) dX4_readCoast_132
        · replace hq := i_f c25 hq
          refine lv_aload_n hx hb dX4_readCoast_119 rfl (lv_at hl 0 rfl) ?_
          refine lv_iconst (v := (1 : Int32)) hx hb dX4_readCoast_120 (by decide) ?_
          obtain ⟨v26, ev26, hq⟩ := b_s hq
          refine gw_i (g_runV (As := [.int (1 : Int32)]) (rest := []) (ci := 7) hC (c_X4_fail l V g D cT f n x0 (1 : Int32) v26 ev26) k_X4_fail m_700 rfl rfl ⟨Nat.le_of_ble_eq_true rfl, Nat.le_of_ble_eq_true rfl⟩ hI rfl rfl (h_me_eq ev26).1 rfl hl.1 rfl (Nat.le_of_ble_eq_true rfl) dX4_readCoast_121 ⟨by decide, by decide⟩) hI (fun H locs hI => ?_)
          refine lv_if_eq (tgt := 131) hx hb dX4_readCoast_124 (by decide) (fun c27 => ?_) (fun c27 => ?_)
          · replace hq := i_t c27 hq
            refine lv_iconst (v := (0 : Int32)) hx hb dX4_readCoast_131 (by decide) ?_
            exact ge_Wi hx hb hlocks hr (by decide +kernel) hI (congrArg (fun z => z.1) (Option.some.inj hq)) (congrArg (fun z => z.2) (Option.some.inj hq)) dX4_readCoast_132
          · replace hq := i_f c27 hq
            refine lv_iconst (v := (1 : Int32)) hx hb dX4_readCoast_127 (by decide) ?_
            refine lv_goto (tgt := 132) hx hb dX4_readCoast_128 (by decide) ?_
            exact ge_Wi hx hb hlocks hr (by decide +kernel) hI (congrArg (fun z => z.1) (Option.some.inj hq)) (congrArg (fun z => z.2) (Option.some.inj hq)) dX4_readCoast_132
      · intro x0 f H locs ls hI hl hq
        refine lv_aload_n hx hb dX4_readCoast_146 rfl (lv_at hl 0 rfl) ?_
        obtain ⟨v28, ev28, hq⟩ := b_s hq
        refine gw_i (g_runV (As := []) (rest := []) (ci := 7) hC (c_X4_refusePoint l V g D cT f n x0 v28 ev28) k_X4_refusePoint m_732 rfl rfl ⟨Nat.le_of_ble_eq_true rfl, Nat.le_of_ble_eq_true rfl⟩ hI rfl rfl (h_me_eq ev28).1 rfl hl.1 rfl (Nat.le_of_ble_eq_true rfl) dX4_readCoast_147 ⟨by decide, by decide⟩) hI (fun H locs hI => ?_)
        obtain ⟨_, ev29, hq⟩ := b_s hq
        exact ge_Wi hx hb hlocks hr (h_bz_eq ev29).2.1 hI (congrArg (fun z => z.1) (Option.some.inj hq)) (congrArg (fun z => z.2) (Option.some.inj hq)) dX4_readCoast_150
    · replace hq := i_t c8 hq
      refine lv_iconst (v := (0 : Int32)) hx hb dX4_readCoast_39 (by decide) ?_
      exact ge_Wi hx hb hlocks hr (by decide +kernel) hI (congrArg (fun z => z.1) (Option.some.inj hq)) (congrArg (fun z => z.2) (Option.some.inj hq)) dX4_readCoast_40
  refine lv_if_eq (tgt := 31) hx hb dX4_readCoast_23 (by decide) (fun c30 => ?_) (fun c30 => ?_)
  · replace hq := i_t c30 hq
    refine lv_ldcS hx hb hown (g_rtq hI rt_7) dX4_readCoast_31 ?_
    exact hj33 a0 a1 (V 27) a0 f5 H locs ls hI (lv_sub hl [0, 1] rfl) hq
  · replace hq := i_f c30 hq
    refine lv_ldcS hx hb hown (g_rtq hI rt_6) dX4_readCoast_26 ?_
    refine lv_goto (tgt := 33) hx hb dX4_readCoast_28 (by decide) ?_
    exact hj33 a0 a1 (V 26) a0 f5 H locs ls hI (lv_sub hl [0, 1] rfl) hq

abbrev rm_X4_readMetric : Room := { frames := 8, cells := 0, slots := 0, locals := 248 }
theorem k_X4_readMetric : g_CV yX4_readMetric cX4_readMetric 1 (some .boolean) 0 := ⟨⟨m_708, m_5, by decide +kernel⟩, m_707, ms_7⟩
set_option maxHeartbeats 4000000 in
set_option maxRecDepth 100000 in
theorem c_X4_readMetric (l : Launch) (V : Nat → Nat) (g : GH) (D : va_G) (cT : Nat → ClassId) (f : GH) (n : Nat) (a0 : Nat) (o : Int32 × GH) (hq : p_X4_readMetric V g f a0 = some o) : Met l yX4_readMetric (Cond.code yX4_readMetric cX4_readMetric 1 (some .boolean) :: g_B) rm_X4_readMetric (va_Pc [.ref a0] (g_I V g D cT f n)) (g_Wi V D cT o.1 o.2 n) 0 0 (g_A V) := by
  refine g_begin (own := RX4) [.ref a0] [(0, .ref a0)] (g_A V) (fun _ h => h) (by decide) rfl (Nat.le_of_ble_eq_true rfl) rfl ?_
  intro p e s m args below meth c hx hb hr hlocks hin hC hI ls hl
  obtain ⟨hx, hb, hml, hown, hB⟩ := id hC
  obtain ⟨H, hH⟩ : ∃ H, H = s.heap := ⟨_, rfl⟩
  obtain ⟨locs, hlocs⟩ : ∃ L : List Loc, L = [] := ⟨_, rfl⟩
  rw [← hH, ← hlocs] at hI ⊢
  clear hH hlocs
  unfold p_X4_readMetric at hq
  replace hq := (h_me_eq hq).2
  refine lv_aload_n hx hb dX4_readMetric_0 rfl (lv_at hl 0 rfl) ?_
  refine lv_aload_n hx hb dX4_readMetric_1 rfl (lv_at hl 0 rfl) ?_
  obtain ⟨v1, ev1, hq⟩ := b_s hq
  refine fa_gr (own := RX4) (ref := "CoastlineRuler$Grammar") (k := 0) hx hb hB inB_RX4 hown hI rfl (by decide) m_139 (fun _ h9 => h9) ev1 dX4_readMetric_2 ?_
  refine lv_ldcS hx hb hown (g_rtq hI rt_4) dX4_readMetric_5 ?_
  obtain ⟨v2, ev2, hq⟩ := b_s hq
  refine gr_i (g_runV (As := [.ref (V 24)]) (rest := [.ref a0]) (ci := 8) hC (c_X5_isWord l V g D cT f n v1 (V 24) v2 ev2) k_X5_isWord m_649 rfl rfl ⟨Nat.le_of_ble_eq_true rfl, Nat.le_of_ble_eq_true rfl⟩ hI rfl rfl (h_me_eq ev2).1 rfl hl.1 rfl (Nat.le_of_ble_eq_true rfl) dX4_readMetric_7 ⟨by decide, by decide⟩) hI (fun H locs hI => ?_)
  obtain ⟨_, ev3, hq⟩ := b_s hq
  obtain ⟨f4, ef4, hq⟩ := b_s hq
  refine fa_pt (own := RX4) (ref := "CoastlineRuler$Grammar") (k := 4) hx hb hB inB_RX4 tyX4_ok nmX4 hown hI rfl (by decide) m_145 (fun _ h9 => h9) (by decide) (h_bz_eq ev3).2.1 (h_bz_eq ev3).2.2 ef4 dX4_readMetric_10 (fun H locs hI => ?_)
  refine lv_aload_n hx hb dX4_readMetric_13 rfl (lv_at hl 0 rfl) ?_
  refine lv_aload_n hx hb dX4_readMetric_14 rfl (lv_at hl 0 rfl) ?_
  obtain ⟨v5, ev5, hq⟩ := b_s hq
  refine fa_gi (own := RX4) (ref := "CoastlineRuler$Grammar") (k := 4) hx hb hB inB_RX4 hown hI rfl (by decide) m_145 (fun _ h9 => h9) ev5 dX4_readMetric_15 ?_
  refine lv_if_eq (tgt := 26) hx hb dX4_readMetric_18 (by decide) (fun c6 => ?_) (fun c6 => ?_)
  · replace hq := i_t c6 hq
    refine lv_ldcS hx hb hown (g_rtq hI rt_5) dX4_readMetric_26 ?_
    obtain ⟨v7, ev7, hq⟩ := b_s hq
    refine gw_i (g_runV (As := [.ref (V 25)]) (rest := []) (ci := 7) hC (c_X4_takeWord l V g D cT f4 n a0 (V 25) v7 ev7) k_X4_takeWord m_645 rfl rfl ⟨Nat.le_of_ble_eq_true rfl, Nat.le_of_ble_eq_true rfl⟩ hI rfl rfl (h_me_eq ev7).1 rfl hl.1 rfl (Nat.le_of_ble_eq_true rfl) dX4_readMetric_28 ⟨by decide, by decide⟩) hI (fun H locs hI => ?_)
    obtain ⟨_, ev8, hq⟩ := b_s hq
    exact ge_Wi hx hb hlocks hr (h_bz_eq ev8).2.1 hI (congrArg (fun z => z.1) (Option.some.inj hq)) (congrArg (fun z => z.2) (Option.some.inj hq)) dX4_readMetric_31
  · replace hq := i_f c6 hq
    refine lv_ldcS hx hb hown (g_rtq hI rt_4) dX4_readMetric_21 ?_
    refine lv_goto (tgt := 28) hx hb dX4_readMetric_23 (by decide) ?_
    obtain ⟨v9, ev9, hq⟩ := b_s hq
    refine gw_i (g_runV (As := [.ref (V 24)]) (rest := []) (ci := 7) hC (c_X4_takeWord l V g D cT f4 n a0 (V 24) v9 ev9) k_X4_takeWord m_645 rfl rfl ⟨Nat.le_of_ble_eq_true rfl, Nat.le_of_ble_eq_true rfl⟩ hI rfl rfl (h_me_eq ev9).1 rfl hl.1 rfl (Nat.le_of_ble_eq_true rfl) dX4_readMetric_28 ⟨by decide, by decide⟩) hI (fun H locs hI => ?_)
    obtain ⟨_, ev10, hq⟩ := b_s hq
    exact ge_Wi hx hb hlocks hr (h_bz_eq ev10).2.1 hI (congrArg (fun z => z.1) (Option.some.inj hq)) (congrArg (fun z => z.2) (Option.some.inj hq)) dX4_readMetric_31

abbrev rm_X4_take : Room := { frames := 4, cells := 0, slots := 0, locals := 163 }
theorem k_X4_take : g_CV yX4_take cX4_take 2 (some .boolean) 1 := ⟨⟨m_714, m_5, by decide +kernel⟩, m_713, ms_8⟩
set_option maxHeartbeats 4000000 in
set_option maxRecDepth 100000 in
theorem c_X4_take (l : Launch) (V : Nat → Nat) (g : GH) (D : va_G) (cT : Nat → ClassId) (f : GH) (n : Nat) (a0 : Nat) (a1 : Int32) (o : Int32 × GH) (hq : p_X4_take V g f a0 a1 = some o) : Met l yX4_take (Cond.code yX4_take cX4_take 2 (some .boolean) :: g_B) rm_X4_take (va_Pc [.ref a0, .int a1] (g_I V g D cT f n)) (g_Wi V D cT o.1 o.2 n) 0 0 (g_A V) := by
  refine g_begin (own := RX4) [.ref a0, .int a1] [(0, .ref a0), (1, .int a1)] (g_A V) (fun _ h => h) (by decide) rfl (Nat.le_of_ble_eq_true rfl) rfl ?_
  intro p e s m args below meth c hx hb hr hlocks hin hC hI ls hl
  obtain ⟨hx, hb, hml, hown, hB⟩ := id hC
  obtain ⟨H, hH⟩ : ∃ H, H = s.heap := ⟨_, rfl⟩
  obtain ⟨locs, hlocs⟩ : ∃ L : List Loc, L = [] := ⟨_, rfl⟩
  rw [← hH, ← hlocs] at hI ⊢
  clear hH hlocs
  unfold p_X4_take at hq
  replace hq := (h_me_eq hq).2
  refine lv_aload_n hx hb dX4_take_0 rfl (lv_at hl 0 rfl) ?_
  obtain ⟨v1, ev1, hq⟩ := b_s hq
  refine fa_gr (own := RX4) (ref := "CoastlineRuler$Grammar") (k := 0) hx hb hB inB_RX4 hown hI rfl (by decide) m_139 (fun _ h9 => h9) ev1 dX4_take_1 ?_
  obtain ⟨v2, ev2, hq⟩ := b_s hq
  refine fa_gi (own := RX4) (ref := "CoastlineRuler$Tokens") (k := 3) hx hb hB inB_RX5 hown hI rfl (by decide) m_114 (fun _ h9 => h9) ev2 dX4_take_4 ?_
  refine lv_iload_n hx hb dX4_take_7 rfl (lv_at hl 1 rfl) ?_
  refine lv_icmp_eq (tgt := 17) hx hb dX4_take_8 (by decide) (fun c3 => ?_) (fun c3 => ?_)
  · replace hq := i_t c3 hq
    refine lv_aload_n hx hb dX4_take_17 rfl (lv_at hl 0 rfl) ?_
    obtain ⟨v4, ev4, hq⟩ := b_s hq
    refine fa_gr (own := RX4) (ref := "CoastlineRuler$Grammar") (k := 0) hx hb hB inB_RX4 hown hI rfl (by decide) m_139 (fun _ h9 => h9) ev4 dX4_take_18 ?_
    obtain ⟨v5, ev5, hq⟩ := b_s hq
    refine gw_v (g_runV (As := []) (rest := []) (ci := 8) hC (c_X5_advance l V g D cT f n v4 v5 ev5) k_X5_advance m_704 rfl rfl ⟨Nat.le_of_ble_eq_true rfl, Nat.le_of_ble_eq_true rfl⟩ hI rfl rfl (h_me_eq ev5).1 rfl hl.1 rfl (Nat.le_of_ble_eq_true rfl) dX4_take_21 ⟨by decide, by decide⟩) hI (fun H locs hI => ?_)
    refine lv_iconst (v := (1 : Int32)) hx hb dX4_take_24 (by decide) ?_
    exact ge_Wi hx hb hlocks hr (by decide +kernel) hI (congrArg (fun z => z.1) (Option.some.inj hq)) (congrArg (fun z => z.2) (Option.some.inj hq)) dX4_take_25
  · replace hq := i_f c3 hq
    refine lv_aload_n hx hb dX4_take_11 rfl (lv_at hl 0 rfl) ?_
    refine lv_iconst (v := (1 : Int32)) hx hb dX4_take_12 (by decide) ?_
    obtain ⟨v6, ev6, hq⟩ := b_s hq
    refine gw_i (g_runV (As := [.int (1 : Int32)]) (rest := []) (ci := 7) hC (c_X4_fail l V g D cT f n a0 (1 : Int32) v6 ev6) k_X4_fail m_700 rfl rfl ⟨Nat.le_of_ble_eq_true rfl, Nat.le_of_ble_eq_true rfl⟩ hI rfl rfl (h_me_eq ev6).1 rfl hl.1 rfl (Nat.le_of_ble_eq_true rfl) dX4_take_13 ⟨by decide, by decide⟩) hI (fun H locs hI => ?_)
    obtain ⟨_, ev7, hq⟩ := b_s hq
    exact ge_Wi hx hb hlocks hr (h_bz_eq ev7).2.1 hI (congrArg (fun z => z.1) (Option.some.inj hq)) (congrArg (fun z => z.2) (Option.some.inj hq)) dX4_take_16

abbrev rm_X4_verbHere : Room := { frames := 7, cells := 0, slots := 0, locals := 227 }
theorem k_X4_verbHere : g_CV yX4_verbHere cX4_verbHere 2 (some (.object "CoastlineRuler$Verb")) 0 := ⟨⟨m_739, m_5, by decide +kernel⟩, m_738, ms_12⟩
set_option maxHeartbeats 4000000 in
set_option maxRecDepth 100000 in
theorem c_X4_verbHere (l : Launch) (V : Nat → Nat) (g : GH) (D : va_G) (cT : Nat → ClassId) (f : GH) (n : Nat) (a0 : Nat) (o : Option Nat) (hq : p_X4_verbHere V g f a0 = some o) : Met l yX4_verbHere (Cond.code yX4_verbHere cX4_verbHere 2 (some (.object "CoastlineRuler$Verb")) :: g_B) rm_X4_verbHere (va_Pc [.ref a0] (g_I V g D cT f n)) (g_Rq o n) 0 0 g_no := by
  refine g_begin (own := RX4) [.ref a0] [(0, .ref a0)] g_no (fun _ h => h.elim) (by decide) rfl (Nat.le_of_ble_eq_true rfl) rfl ?_
  intro p e s m args below meth c hx hb hr hlocks hin hC hI ls hl
  obtain ⟨hx, hb, hml, hown, hB⟩ := id hC
  obtain ⟨H, hH⟩ : ∃ H, H = s.heap := ⟨_, rfl⟩
  obtain ⟨locs, hlocs⟩ : ∃ L : List Loc, L = [] := ⟨_, rfl⟩
  rw [← hH, ← hlocs] at hI ⊢
  clear hH hlocs
  unfold p_X4_verbHere at hq
  replace hq := (h_me_eq hq).2
  refine lv_iconst (v := (0 : Int32)) hx hb dX4_verbHere_0 (by decide) ?_
  refine lv_istore_n (lv' := [(1, .int (0 : Int32)), (0, .ref a0)]) hx hb dX4_verbHere_1 rfl hl (by decide) rfl (fun ls hl => ?_)
  have hl2 : ∀ (K28 : Int32 → Option (Option Nat)) (hK28 : ∀ (x1 : Int32) (H : Heap) (locs : List Loc) (ls : Array Slot), g_at g_no V g D cT f n s H locs → lv_has ls 2 [(1, .int x1)] → K28 x1 = some o → W p l e rm_X4_verbHere s m args below meth c H locs 0 0 (MQ below (g_Rq o n) args s 0 0 g_no) (F0 m 28 ls [])) (K40 : Option (Option Nat)) (hK40 : ∀  (H : Heap) (locs : List Loc) (ls : Array Slot), g_at g_no V g D cT f n s H locs → lv_has ls 2 [] → K40  = some o → W p l e rm_X4_verbHere s m args below meth c H locs 0 0 (MQ below (g_Rq o n) args s 0 0 g_no) (F0 m 40 ls [])) (N : Nat) (x0 : Nat) (x1 : Int32) (H : Heap) (locs : List Loc) (ls : Array Slot), g_at g_no V g D cT f n s H locs → lv_has ls 2 [(0, .ref x0), (1, .int x1)] → p_X4_verbHere_l2 V g f K28 K40 N x0 x1 = some o → W p l e rm_X4_verbHere s m args below meth c H locs 0 0 (MQ below (g_Rq o n) args s 0 0 g_no) (F0 m 2 ls []) := by
    intro K28 hK28 K40 hK40 N
    induction N with
    | zero =>
      intro x0 x1 H locs ls hI hl hq
      rw [p_X4_verbHere_l2] at hq
      cases hq
    | succ N ih =>
      intro x0 x1 H locs ls hI hl hq
      rw [p_X4_verbHere_l2] at hq
      refine lv_iload_n hx hb dX4_verbHere_2 rfl (lv_at hl 1 rfl) ?_
      refine fs_gsN (i := 11) (j := 3) hx hb hown hI rfl rfl (fun _ h9 => h9) dX4_verbHere_3 ?_
      obtain ⟨v1, ev1, hq⟩ := b_s hq
      refine fs_al hx hb hI (by decide) ev1 dX4_verbHere_6 ?_
      refine lv_icmp_ge (tgt := 40) hx hb dX4_verbHere_7 (by decide) (fun c2 => ?_) (fun c2 => ?_)
      · replace hq := i_t c2 hq
        exact hK40  H locs ls hI (lv_sub hl [] rfl) hq
      · replace hq := i_f c2 hq
        refine lv_aload_n hx hb dX4_verbHere_10 rfl (lv_at hl 0 rfl) ?_
        obtain ⟨v3, ev3, hq⟩ := b_s hq
        refine fa_gr (own := RX4) (ref := "CoastlineRuler$Grammar") (k := 0) hx hb hB inB_RX4 hown hI rfl (by decide) m_139 (fun _ h9 => h9) ev3 dX4_verbHere_11 ?_
        refine fs_gsN (i := 11) (j := 3) hx hb hown hI rfl rfl (fun _ h9 => h9) dX4_verbHere_14 ?_
        refine lv_iload_n hx hb dX4_verbHere_17 rfl (lv_at hl 1 rfl) ?_
        obtain ⟨v4, ev4, hq⟩ := b_s hq
        refine fs_lq hx hb hI (by decide) rfl ev4 dX4_verbHere_18 ?_
        obtain ⟨v5, ev5, hq⟩ := b_s hq
        refine fs_gr (own := RX4) (ref := "CoastlineRuler$Verb") (ci := 50) (k := 1) hx hb hB hown hI m_2221 (fun _ h9 => h9) ev5 dX4_verbHere_19 ?_
        obtain ⟨v6, ev6, hq⟩ := b_s hq
        refine gr_i (g_runV (As := [.ref v5]) (rest := []) (ci := 8) hC (c_X5_isWord l V g D cT f n v3 v5 v6 ev6) k_X5_isWord m_649 rfl rfl ⟨Nat.le_of_ble_eq_true rfl, Nat.le_of_ble_eq_true rfl⟩ hI rfl rfl (h_me_eq ev6).1 rfl hl.1 rfl (Nat.le_of_ble_eq_true rfl) dX4_verbHere_22 ⟨by decide, by decide⟩) hI (fun H locs hI => ?_)
        refine lv_if_eq (tgt := 34) hx hb dX4_verbHere_25 (by decide) (fun c7 => ?_) (fun c7 => ?_)
        · replace hq := i_t c7 hq
          refine lv_iinc (v := x1 + (1 : Int32)) (lv' := [(1, .int (x1 + (1 : Int32))), (0, .ref x0)]) hx hb dX4_verbHere_34 hl (k := 1) rfl rfl (by decide) rfl (fun ls hl => ?_)
          refine lv_goto (tgt := 2) hx hb dX4_verbHere_37 (by decide) ?_
          exact ih x0 (x1 + (1 : Int32)) H locs ls hI (lv_sub hl [1, 0] rfl) hq
        · replace hq := i_f c7 hq
          exact hK28 x1 H locs ls hI (lv_sub hl [1] rfl) hq
  refine hl2 _ ?_ _ ?_ FU a0 (0 : Int32) H locs ls hI (lv_sub hl [1, 0] rfl) hq
  · intro x1 H locs ls hI hl hq
    refine fs_gsN (i := 11) (j := 3) hx hb hown hI rfl rfl (fun _ h9 => h9) dX4_verbHere_28 ?_
    refine lv_iload_n hx hb dX4_verbHere_31 rfl (lv_at hl 0 rfl) ?_
    obtain ⟨v8, ev8, hq⟩ := b_s hq
    refine fs_lq hx hb hI (by decide) rfl ev8 dX4_verbHere_32 ?_
    exact ge_Rq hx hb hlocks hr (Or.inl ⟨_, rfl⟩) hI hq dX4_verbHere_33
  · intro  H locs ls hI hl hq
    refine lv_nullN hx hb dX4_verbHere_40 ?_
    exact ge_Rq hx hb hlocks hr (Or.inl ⟨_, rfl⟩) hI hq dX4_verbHere_41

abbrev rm_X4_readMap : Room := { frames := 9, cells := 0, slots := 0, locals := 271 }
theorem k_X4_readMap : g_CV yX4_readMap cX4_readMap 4 (some .boolean) 2 := ⟨⟨m_624, m_5, by decide +kernel⟩, m_622, m_623⟩
set_option maxHeartbeats 4000000 in
set_option maxRecDepth 100000 in
theorem c_X4_readMap (l : Launch) (V : Nat → Nat) (g : GH) (D : va_G) (cT : Nat → ClassId) (f : GH) (n : Nat) (a0 : Nat) (a1 : Int32) (a2 : Nat) (o : Int32 × GH) (hq : p_X4_readMap V g f a0 a1 a2 = some o) : Met l yX4_readMap (Cond.code yX4_readMap cX4_readMap 4 (some .boolean) :: g_B) rm_X4_readMap (va_Pc [.ref a0, .int a1, .ref a2] (g_I V g D cT f n)) (g_Wi V D cT o.1 o.2 n) 0 0 (g_A V) := by
  refine g_begin (own := RX4) [.ref a0, .int a1, .ref a2] [(0, .ref a0), (1, .int a1), (2, .ref a2)] (g_A V) (fun _ h => h) (by decide) rfl (Nat.le_of_ble_eq_true rfl) rfl ?_
  intro p e s m args below meth c hx hb hr hlocks hin hC hI ls hl
  obtain ⟨hx, hb, hml, hown, hB⟩ := id hC
  obtain ⟨H, hH⟩ : ∃ H, H = s.heap := ⟨_, rfl⟩
  obtain ⟨locs, hlocs⟩ : ∃ L : List Loc, L = [] := ⟨_, rfl⟩
  rw [← hH, ← hlocs] at hI ⊢
  clear hH hlocs
  unfold p_X4_readMap at hq
  replace hq := (h_me_eq hq).2
  refine lv_aload_n hx hb dX4_readMap_0 rfl (lv_at hl 0 rfl) ?_
  refine lv_iload_n hx hb dX4_readMap_1 rfl (lv_at hl 1 rfl) ?_
  obtain ⟨v1, ev1, hq⟩ := b_s hq
  refine gw_v (g_runV (As := [.int a1]) (rest := []) (ci := 7) hC (c_X4_begin l V g D cT f n a0 a1 v1 ev1) k_X4_begin m_625 rfl rfl ⟨Nat.le_of_ble_eq_true rfl, Nat.le_of_ble_eq_true rfl⟩ hI rfl rfl (h_me_eq ev1).1 rfl hl.1 rfl (Nat.le_of_ble_eq_true rfl) dX4_readMap_2 ⟨by decide, by decide⟩) hI (fun H locs hI => ?_)
  refine lv_aload_n hx hb dX4_readMap_5 rfl (lv_at hl 0 rfl) ?_
  refine lv_ldcS hx hb hown (g_rtq hI rt_3) dX4_readMap_6 ?_
  obtain ⟨v2, ev2, hq⟩ := b_s hq
  refine gw_i (g_runV (As := [.ref (V 23)]) (rest := []) (ci := 7) hC (c_X4_takeWord l V g D cT v1 n a0 (V 23) v2 ev2) k_X4_takeWord m_645 rfl rfl ⟨Nat.le_of_ble_eq_true rfl, Nat.le_of_ble_eq_true rfl⟩ hI rfl rfl (h_me_eq ev2).1 rfl hl.1 rfl (Nat.le_of_ble_eq_true rfl) dX4_readMap_8 ⟨by decide, by decide⟩) hI (fun H locs hI => ?_)
  refine lv_if_eq (tgt := 29) hx hb dX4_readMap_11 (by decide) (fun c3 => ?_) (fun c3 => ?_)
  · replace hq := i_t c3 hq
    refine lv_iconst (v := (0 : Int32)) hx hb dX4_readMap_29 (by decide) ?_
    exact ge_Wi hx hb hlocks hr (by decide +kernel) hI (congrArg (fun z => z.1) (Option.some.inj hq)) (congrArg (fun z => z.2) (Option.some.inj hq)) dX4_readMap_30
  · replace hq := i_f c3 hq
    refine lv_aload_n hx hb dX4_readMap_14 rfl (lv_at hl 0 rfl) ?_
    obtain ⟨v4, ev4, hq⟩ := b_s hq
    refine gw_i (g_runV (As := []) (rest := []) (ci := 7) hC (c_X4_readMetric l V g D cT v2.2 n a0 v4 ev4) k_X4_readMetric m_705 rfl rfl ⟨Nat.le_of_ble_eq_true rfl, Nat.le_of_ble_eq_true rfl⟩ hI rfl rfl (h_me_eq ev4).1 rfl hl.1 rfl (Nat.le_of_ble_eq_true rfl) dX4_readMap_15 ⟨by decide, by decide⟩) hI (fun H locs hI => ?_)
    refine lv_if_eq (tgt := 29) hx hb dX4_readMap_18 (by decide) (fun c5 => ?_) (fun c5 => ?_)
    · replace hq := i_t c5 hq
      refine lv_iconst (v := (0 : Int32)) hx hb dX4_readMap_29 (by decide) ?_
      exact ge_Wi hx hb hlocks hr (by decide +kernel) hI (congrArg (fun z => z.1) (Option.some.inj hq)) (congrArg (fun z => z.2) (Option.some.inj hq)) dX4_readMap_30
    · replace hq := i_f c5 hq
      refine lv_aload_n hx hb dX4_readMap_21 rfl (lv_at hl 0 rfl) ?_
      refine lv_iconst (v := (3 : Int32)) hx hb dX4_readMap_22 (by decide) ?_
      obtain ⟨v6, ev6, hq⟩ := b_s hq
      refine gw_i (g_runV (As := [.int (3 : Int32)]) (rest := []) (ci := 7) hC (c_X4_take l V g D cT v4.2 n a0 (3 : Int32) v6 ev6) k_X4_take m_711 rfl rfl ⟨Nat.le_of_ble_eq_true rfl, Nat.le_of_ble_eq_true rfl⟩ hI rfl rfl (h_me_eq ev6).1 rfl hl.1 rfl (Nat.le_of_ble_eq_true rfl) dX4_readMap_23 ⟨by decide, by decide⟩) hI (fun H locs hI => ?_)
      refine lv_if_ne (tgt := 31) hx hb dX4_readMap_26 (by decide) (fun c7 => ?_) (fun c7 => ?_)
      · replace hq := i_f c7 hq
        refine lv_aload_n hx hb dX4_readMap_31 rfl (lv_at hl 2 rfl) ?_
        refine lv_aload_n hx hb dX4_readMap_32 rfl (lv_at hl 0 rfl) ?_
        obtain ⟨v8, ev8, hq⟩ := b_s hq
        refine fa_gi (own := RX4) (ref := "CoastlineRuler$Grammar") (k := 4) hx hb hB inB_RX4 hown hI rfl (by decide) m_145 (fun _ h9 => h9) ev8 dX4_readMap_33 ?_
        obtain ⟨_, ev9, hq⟩ := b_s hq
        obtain ⟨f10, ef10, hq⟩ := b_s hq
        refine fa_pt (own := RX4) (ref := "CoastlineRuler$Chart") (k := 2) hx hb hB inB_RX1 tyX1_ok nmX1 hown hI rfl (by decide) m_81 (fun _ h9 => h9) (by decide) (h_bz_eq ev9).2.1 (h_bz_eq ev9).2.2 ef10 dX4_readMap_36 (fun H locs hI => ?_)
        refine lv_aload_n hx hb dX4_readMap_39 rfl (lv_at hl 2 rfl) ?_
        refine lv_iconst (v := (0 : Int32)) hx hb dX4_readMap_40 (by decide) ?_
        obtain ⟨f11, ef11, hq⟩ := b_s hq
        refine fa_pt (own := RX4) (ref := "CoastlineRuler$Chart") (k := 1) hx hb hB inB_RX1 tyX1_ok nmX1 hown hI rfl (by decide) m_79 (fun _ h9 => h9) (by decide) rfl rfl ef11 dX4_readMap_41 (fun H locs hI => ?_)
        refine lv_iconst (v := (0 : Int32)) hx hb dX4_readMap_44 (by decide) ?_
        refine lv_istore_n (lv' := [(3, .int (0 : Int32)), (0, .ref a0), (1, .int a1), (2, .ref a2)]) hx hb dX4_readMap_45 rfl hl (by decide) rfl (fun ls hl => ?_)
        have hl46 : ∀ (K62 : GH → Option (Int32 × GH)) (hK62 : ∀ (f : GH) (H : Heap) (locs : List Loc) (ls : Array Slot), g_at (g_A V) V g D cT f n s H locs → lv_has ls 4 [] → K62 f = some o → W p l e rm_X4_readMap s m args below meth c H locs 0 0 (MQ below (g_Wi V D cT o.1 o.2 n) args s 0 0 (g_A V)) (F0 m 62 ls [])) (K85 : GH → Option (Int32 × GH)) (hK85 : ∀ (f : GH) (H : Heap) (locs : List Loc) (ls : Array Slot), g_at (g_A V) V g D cT f n s H locs → lv_has ls 4 [] → K85 f = some o → W p l e rm_X4_readMap s m args below meth c H locs 0 0 (MQ below (g_Wi V D cT o.1 o.2 n) args s 0 0 (g_A V)) (F0 m 85 ls [])) (K103 : Nat → GH → Option (Int32 × GH)) (hK103 : ∀ (x0 : Nat) (f : GH) (H : Heap) (locs : List Loc) (ls : Array Slot), g_at (g_A V) V g D cT f n s H locs → lv_has ls 4 [(0, .ref x0)] → K103 x0 f = some o → W p l e rm_X4_readMap s m args below meth c H locs 0 0 (MQ below (g_Wi V D cT o.1 o.2 n) args s 0 0 (g_A V)) (F0 m 103 ls [])) (N : Nat) (x0 : Nat) (x2 : Nat) (x3 : Int32) (f : GH) (H : Heap) (locs : List Loc) (ls : Array Slot), g_at (g_A V) V g D cT f n s H locs → lv_has ls 4 [(0, .ref x0), (2, .ref x2), (3, .int x3)] → p_X4_readMap_l46 V g K62 K85 K103 N x0 x2 x3 f = some o → W p l e rm_X4_readMap s m args below meth c H locs 0 0 (MQ below (g_Wi V D cT o.1 o.2 n) args s 0 0 (g_A V)) (F0 m 46 ls []) := by
          intro K62 hK62 K85 hK85 K103 hK103 N
          induction N with
          | zero =>
            intro x0 x2 x3 f H locs ls hI hl hq
            rw [p_X4_readMap_l46] at hq
            cases hq
          | succ N ih =>
            intro x0 x2 x3 f H locs ls hI hl hq
            rw [p_X4_readMap_l46] at hq
            refine lv_iload_n hx hb dX4_readMap_46 rfl (lv_at hl 2 rfl) ?_
            refine lv_bipush (v := (6 : Int32)) hx hb dX4_readMap_47 (by decide) ?_
            refine lv_icmp_ge (tgt := 103) hx hb dX4_readMap_49 (by decide) (fun c12 => ?_) (fun c12 => ?_)
            · replace hq := i_t c12 hq
              exact hK103 x0 f H locs ls hI (lv_sub hl [0] rfl) hq
            · replace hq := i_f c12 hq
              refine lv_aload_n hx hb dX4_readMap_52 rfl (lv_at hl 0 rfl) ?_
              obtain ⟨v13, ev13, hq⟩ := b_s hq
              refine fa_gr (own := RX4) (ref := "CoastlineRuler$Grammar") (k := 0) hx hb hB inB_RX4 hown hI rfl (by decide) m_139 (fun _ h9 => h9) ev13 dX4_readMap_53 ?_
              obtain ⟨v14, ev14, hq⟩ := b_s hq
              refine fa_gi (own := RX4) (ref := "CoastlineRuler$Tokens") (k := 3) hx hb hB inB_RX5 hown hI rfl (by decide) m_114 (fun _ h9 => h9) ev14 dX4_readMap_56 ?_
              refine lv_if_ne (tgt := 64) hx hb dX4_readMap_59 (by decide) (fun c15 => ?_) (fun c15 => ?_)
              · replace hq := i_f c15 hq
                refine lv_aload_n hx hb dX4_readMap_64 rfl (lv_at hl 0 rfl) ?_
                refine lv_aload_n hx hb dX4_readMap_65 rfl (lv_at hl 1 rfl) ?_
                obtain ⟨v16, ev16, hq⟩ := b_s hq
                refine fa_gr (own := RX4) (ref := "CoastlineRuler$Chart") (k := 0) hx hb hB inB_RX1 hown hI rfl (by decide) m_76 (fun _ h9 => h9) ev16 dX4_readMap_66 ?_
                refine lv_iload_n hx hb dX4_readMap_69 rfl (lv_at hl 2 rfl) ?_
                obtain ⟨v17, ev17, hq⟩ := b_s hq
                refine fa_lq hx hb hI (by decide) rfl ev17 dX4_readMap_70 ?_
                obtain ⟨v18, ev18, hq⟩ := b_s hq
                refine gw_i (g_runV (As := [.ref v17]) (rest := []) (ci := 7) hC (c_X4_readCoast l V g D cT f n x0 v17 v18 ev18) k_X4_readCoast m_715 rfl rfl ⟨Nat.le_of_ble_eq_true rfl, Nat.le_of_ble_eq_true rfl⟩ hI rfl rfl (h_me_eq ev18).1 rfl hl.1 rfl (Nat.le_of_ble_eq_true rfl) dX4_readMap_71 ⟨by decide, by decide⟩) hI (fun H locs hI => ?_)
                refine lv_if_eq (tgt := 85) hx hb dX4_readMap_74 (by decide) (fun c19 => ?_) (fun c19 => ?_)
                · replace hq := i_t c19 hq
                  exact hK85 v18.2 H locs ls hI (lv_sub hl [] rfl) hq
                · replace hq := i_f c19 hq
                  refine lv_aload_n hx hb dX4_readMap_77 rfl (lv_at hl 0 rfl) ?_
                  refine lv_iconst (v := (3 : Int32)) hx hb dX4_readMap_78 (by decide) ?_
                  obtain ⟨v20, ev20, hq⟩ := b_s hq
                  refine gw_i (g_runV (As := [.int (3 : Int32)]) (rest := []) (ci := 7) hC (c_X4_take l V g D cT v18.2 n x0 (3 : Int32) v20 ev20) k_X4_take m_711 rfl rfl ⟨Nat.le_of_ble_eq_true rfl, Nat.le_of_ble_eq_true rfl⟩ hI rfl rfl (h_me_eq ev20).1 rfl hl.1 rfl (Nat.le_of_ble_eq_true rfl) dX4_readMap_79 ⟨by decide, by decide⟩) hI (fun H locs hI => ?_)
                  refine lv_if_ne (tgt := 87) hx hb dX4_readMap_82 (by decide) (fun c21 => ?_) (fun c21 => ?_)
                  · replace hq := i_f c21 hq
                    refine lv_aload_n hx hb dX4_readMap_87 rfl (lv_at hl 1 rfl) ?_
                    refine lv_dup hx hb dX4_readMap_88 rfl ?_
                    obtain ⟨v22, ev22, hq⟩ := b_s hq
                    refine fa_gi (own := RX4) (ref := "CoastlineRuler$Chart") (k := 1) hx hb hB inB_RX1 hown hI rfl (by decide) m_79 (fun _ h9 => h9) ev22 dX4_readMap_89 ?_
                    refine lv_iconst (v := (1 : Int32)) hx hb dX4_readMap_92 (by decide) ?_
                    refine lv_iadd hx hb dX4_readMap_93 ?_
                    obtain ⟨f23, ef23, hq⟩ := b_s hq
                    refine fa_pt (own := RX4) (ref := "CoastlineRuler$Chart") (k := 1) hx hb hB inB_RX1 tyX1_ok nmX1 hown hI rfl (by decide) m_79 (fun _ h9 => h9) (by decide) rfl rfl ef23 dX4_readMap_94 (fun H locs hI => ?_)
                    refine lv_iinc (v := x3 + (1 : Int32)) (lv' := [(3, .int (x3 + (1 : Int32))), (0, .ref x0), (2, .ref x2)]) hx hb dX4_readMap_97 hl (k := 2) rfl rfl (by decide) rfl (fun ls hl => ?_)
                    refine lv_goto (tgt := 46) hx hb dX4_readMap_100 (by decide) ?_
                    exact ih x0 x2 (x3 + (1 : Int32)) f23 H locs ls hI (lv_sub hl [1, 2, 0] rfl) hq
                  · replace hq := i_t c21 hq
                    exact hK85 v20.2 H locs ls hI (lv_sub hl [] rfl) hq
              · replace hq := i_t c15 hq
                exact hK62 f H locs ls hI (lv_sub hl [] rfl) hq
        refine hl46 _ ?_ _ ?_ _ ?_ FU a0 a2 (0 : Int32) f11 H locs ls hI (lv_sub hl [1, 3, 0] rfl) hq
        · intro f H locs ls hI hl hq
          refine lv_iconst (v := (1 : Int32)) hx hb dX4_readMap_62 (by decide) ?_
          exact ge_Wi hx hb hlocks hr (by decide +kernel) hI (congrArg (fun z => z.1) (Option.some.inj hq)) (congrArg (fun z => z.2) (Option.some.inj hq)) dX4_readMap_63
        · intro f H locs ls hI hl hq
          refine lv_iconst (v := (0 : Int32)) hx hb dX4_readMap_85 (by decide) ?_
          exact ge_Wi hx hb hlocks hr (by decide +kernel) hI (congrArg (fun z => z.1) (Option.some.inj hq)) (congrArg (fun z => z.2) (Option.some.inj hq)) dX4_readMap_86
        · intro x0 f H locs ls hI hl hq
          refine lv_aload_n hx hb dX4_readMap_103 rfl (lv_at hl 0 rfl) ?_
          obtain ⟨v24, ev24, hq⟩ := b_s hq
          refine fa_gr (own := RX4) (ref := "CoastlineRuler$Grammar") (k := 0) hx hb hB inB_RX4 hown hI rfl (by decide) m_139 (fun _ h9 => h9) ev24 dX4_readMap_104 ?_
          obtain ⟨v25, ev25, hq⟩ := b_s hq
          refine fa_gi (own := RX4) (ref := "CoastlineRuler$Tokens") (k := 3) hx hb hB inB_RX5 hown hI rfl (by decide) m_114 (fun _ h9 => h9) ev25 dX4_readMap_107 ?_
          refine lv_if_ne (tgt := 115) hx hb dX4_readMap_110 (by decide) (fun c26 => ?_) (fun c26 => ?_)
          · replace hq := i_f c26 hq
            refine lv_aload_n hx hb dX4_readMap_115 rfl (lv_at hl 0 rfl) ?_
            obtain ⟨v27, ev27, hq⟩ := b_s hq
            refine gr_q (g_runV (As := []) (rest := []) (ci := 7) hC (c_X4_verbHere l V g D cT f n x0 v27 ev27) k_X4_verbHere m_736 rfl rfl ⟨Nat.le_of_ble_eq_true rfl, Nat.le_of_ble_eq_true rfl⟩ hI rfl rfl (h_me_eq ev27).1 rfl hl.1 rfl (Nat.le_of_ble_eq_true rfl) dX4_readMap_116 ⟨by decide, by decide⟩) hI (fun H locs hI => ?_)
            refine lv_astore_nN2 (lv' := [(3, va_rf v27), (0, .ref x0)]) hx hb dX4_readMap_119 rfl hl (by decide) rfl (fun ls hl => ?_)
            refine lv_aload_n hx hb dX4_readMap_120 rfl (lv_at hl 1 rfl) ?_
            refine lv_aload_nN2 hx hb dX4_readMap_121 rfl (lv_at hl 0 rfl) ?_
            rcases v27 with _ | v28
            · refine lv_ifnullN (tgt := 136) hx hb dX4_readMap_122 (by decide) ?_
              refine lv_iconst (v := (1 : Int32)) hx hb dX4_readMap_136 (by decide) ?_
              obtain ⟨v35, ev35, hq⟩ := b_s hq
              refine gw_i (g_runV (As := [.int (1 : Int32)]) (rest := []) (ci := 7) hC (c_X4_fail l V g D cT f n x0 (1 : Int32) v35 ev35) k_X4_fail m_700 rfl rfl ⟨Nat.le_of_ble_eq_true rfl, Nat.le_of_ble_eq_true rfl⟩ hI rfl rfl (h_me_eq ev35).1 rfl hl.1 rfl (Nat.le_of_ble_eq_true rfl) dX4_readMap_137 ⟨by decide, by decide⟩) hI (fun H locs hI => ?_)
              obtain ⟨_, ev36, hq⟩ := b_s hq
              exact ge_Wi hx hb hlocks hr (h_bz_eq ev36).2.1 hI (congrArg (fun z => z.1) (Option.some.inj hq)) (congrArg (fun z => z.2) (Option.some.inj hq)) dX4_readMap_140
            · refine lv_ifnull hx hb dX4_readMap_122 ?_
              refine lv_aload_n hx hb dX4_readMap_125 rfl (lv_at hl 0 rfl) ?_
              obtain ⟨v29, ev29, hq⟩ := b_s hq
              refine fs_gi (own := RX4) (ref := "CoastlineRuler$Verb") (ci := 50) (k := 2) hx hb hB hown hI m_2222 (fun _ h9 => h9) ev29 dX4_readMap_126 ?_
              refine lv_if_eq (tgt := 136) hx hb dX4_readMap_129 (by decide) (fun c30 => ?_) (fun c30 => ?_)
              · replace hq := i_t c30 hq
                refine lv_iconst (v := (1 : Int32)) hx hb dX4_readMap_136 (by decide) ?_
                obtain ⟨v31, ev31, hq⟩ := b_s hq
                refine gw_i (g_runV (As := [.int (1 : Int32)]) (rest := []) (ci := 7) hC (c_X4_fail l V g D cT f n x0 (1 : Int32) v31 ev31) k_X4_fail m_700 rfl rfl ⟨Nat.le_of_ble_eq_true rfl, Nat.le_of_ble_eq_true rfl⟩ hI rfl rfl (h_me_eq ev31).1 rfl hl.1 rfl (Nat.le_of_ble_eq_true rfl) dX4_readMap_137 ⟨by decide, by decide⟩) hI (fun H locs hI => ?_)
                obtain ⟨_, ev32, hq⟩ := b_s hq
                exact ge_Wi hx hb hlocks hr (h_bz_eq ev32).2.1 hI (congrArg (fun z => z.1) (Option.some.inj hq)) (congrArg (fun z => z.2) (Option.some.inj hq)) dX4_readMap_140
              · replace hq := i_f c30 hq
                refine lv_iconst (v := (3 : Int32)) hx hb dX4_readMap_132 (by decide) ?_
                refine lv_goto (tgt := 137) hx hb dX4_readMap_133 (by decide) ?_
                obtain ⟨v33, ev33, hq⟩ := b_s hq
                refine gw_i (g_runV (As := [.int (3 : Int32)]) (rest := []) (ci := 7) hC (c_X4_fail l V g D cT f n x0 (3 : Int32) v33 ev33) k_X4_fail m_700 rfl rfl ⟨Nat.le_of_ble_eq_true rfl, Nat.le_of_ble_eq_true rfl⟩ hI rfl rfl (h_me_eq ev33).1 rfl hl.1 rfl (Nat.le_of_ble_eq_true rfl) dX4_readMap_137 ⟨by decide, by decide⟩) hI (fun H locs hI => ?_)
                obtain ⟨_, ev34, hq⟩ := b_s hq
                exact ge_Wi hx hb hlocks hr (h_bz_eq ev34).2.1 hI (congrArg (fun z => z.1) (Option.some.inj hq)) (congrArg (fun z => z.2) (Option.some.inj hq)) dX4_readMap_140
          · replace hq := i_t c26 hq
            refine lv_iconst (v := (1 : Int32)) hx hb dX4_readMap_113 (by decide) ?_
            exact ge_Wi hx hb hlocks hr (by decide +kernel) hI (congrArg (fun z => z.1) (Option.some.inj hq)) (congrArg (fun z => z.2) (Option.some.inj hq)) dX4_readMap_114
      · replace hq := i_t c7 hq
        refine lv_iconst (v := (0 : Int32)) hx hb dX4_readMap_29 (by decide) ?_
        exact ge_Wi hx hb hlocks hr (by decide +kernel) hI (congrArg (fun z => z.1) (Option.some.inj hq)) (congrArg (fun z => z.2) (Option.some.inj hq)) dX4_readMap_30

abbrev rm_X4_readLoneCoast : Room := { frames := 9, cells := 0, slots := 0, locals := 271 }
theorem k_X4_readLoneCoast : g_CV yX4_readLoneCoast cX4_readLoneCoast 3 (some .boolean) 2 := ⟨⟨m_1088, m_5, by decide +kernel⟩, m_1086, m_1087⟩
set_option maxHeartbeats 4000000 in
set_option maxRecDepth 100000 in
theorem c_X4_readLoneCoast (l : Launch) (V : Nat → Nat) (g : GH) (D : va_G) (cT : Nat → ClassId) (f : GH) (n : Nat) (a0 : Nat) (a1 : Int32) (a2 : Nat) (o : Int32 × GH) (hq : p_X4_readLoneCoast V g f a0 a1 a2 = some o) : Met l yX4_readLoneCoast (Cond.code yX4_readLoneCoast cX4_readLoneCoast 3 (some .boolean) :: g_B) rm_X4_readLoneCoast (va_Pc [.ref a0, .int a1, .ref a2] (g_I V g D cT f n)) (g_Wi V D cT o.1 o.2 n) 0 0 (g_A V) := by
  refine g_begin (own := RX4) [.ref a0, .int a1, .ref a2] [(0, .ref a0), (1, .int a1), (2, .ref a2)] (g_A V) (fun _ h => h) (by decide) rfl (Nat.le_of_ble_eq_true rfl) rfl ?_
  intro p e s m args below meth c hx hb hr hlocks hin hC hI ls hl
  obtain ⟨hx, hb, hml, hown, hB⟩ := id hC
  obtain ⟨H, hH⟩ : ∃ H, H = s.heap := ⟨_, rfl⟩
  obtain ⟨locs, hlocs⟩ : ∃ L : List Loc, L = [] := ⟨_, rfl⟩
  rw [← hH, ← hlocs] at hI ⊢
  clear hH hlocs
  unfold p_X4_readLoneCoast at hq
  replace hq := (h_me_eq hq).2
  refine lv_aload_n hx hb dX4_readLoneCoast_0 rfl (lv_at hl 0 rfl) ?_
  refine lv_iload_n hx hb dX4_readLoneCoast_1 rfl (lv_at hl 1 rfl) ?_
  obtain ⟨v1, ev1, hq⟩ := b_s hq
  refine gw_v (g_runV (As := [.int a1]) (rest := []) (ci := 7) hC (c_X4_begin l V g D cT f n a0 a1 v1 ev1) k_X4_begin m_625 rfl rfl ⟨Nat.le_of_ble_eq_true rfl, Nat.le_of_ble_eq_true rfl⟩ hI rfl rfl (h_me_eq ev1).1 rfl hl.1 rfl (Nat.le_of_ble_eq_true rfl) dX4_readLoneCoast_2 ⟨by decide, by decide⟩) hI (fun H locs hI => ?_)
  refine lv_aload_n hx hb dX4_readLoneCoast_5 rfl (lv_at hl 0 rfl) ?_
  refine lv_aload_n hx hb dX4_readLoneCoast_6 rfl (lv_at hl 2 rfl) ?_
  obtain ⟨v2, ev2, hq⟩ := b_s hq
  refine gw_i (g_runV (As := [.ref a2]) (rest := []) (ci := 7) hC (c_X4_readCoast l V g D cT v1 n a0 a2 v2 ev2) k_X4_readCoast m_715 rfl rfl ⟨Nat.le_of_ble_eq_true rfl, Nat.le_of_ble_eq_true rfl⟩ hI rfl rfl (h_me_eq ev2).1 rfl hl.1 rfl (Nat.le_of_ble_eq_true rfl) dX4_readLoneCoast_7 ⟨by decide, by decide⟩) hI (fun H locs hI => ?_)
  refine lv_if_eq (tgt := 25) hx hb dX4_readLoneCoast_10 (by decide) (fun c3 => ?_) (fun c3 => ?_)
  · replace hq := i_t c3 hq
    refine lv_iconst (v := (0 : Int32)) hx hb dX4_readLoneCoast_25 (by decide) ?_
    exact ge_Wi hx hb hlocks hr (by decide +kernel) hI (congrArg (fun z => z.1) (Option.some.inj hq)) (congrArg (fun z => z.2) (Option.some.inj hq)) dX4_readLoneCoast_26
  · replace hq := i_f c3 hq
    refine lv_aload_n hx hb dX4_readLoneCoast_13 rfl (lv_at hl 0 rfl) ?_
    refine lv_iconst (v := (0 : Int32)) hx hb dX4_readLoneCoast_14 (by decide) ?_
    obtain ⟨v4, ev4, hq⟩ := b_s hq
    refine gw_i (g_runV (As := [.int (0 : Int32)]) (rest := []) (ci := 7) hC (c_X4_take l V g D cT v2.2 n a0 (0 : Int32) v4 ev4) k_X4_take m_711 rfl rfl ⟨Nat.le_of_ble_eq_true rfl, Nat.le_of_ble_eq_true rfl⟩ hI rfl rfl (h_me_eq ev4).1 rfl hl.1 rfl (Nat.le_of_ble_eq_true rfl) dX4_readLoneCoast_15 ⟨by decide, by decide⟩) hI (fun H locs hI => ?_)
    refine lv_if_eq (tgt := 25) hx hb dX4_readLoneCoast_18 (by decide) (fun c5 => ?_) (fun c5 => ?_)
    · replace hq := i_t c5 hq
      refine lv_iconst (v := (0 : Int32)) hx hb dX4_readLoneCoast_25 (by decide) ?_
      exact ge_Wi hx hb hlocks hr (by decide +kernel) hI (congrArg (fun z => z.1) (Option.some.inj hq)) (congrArg (fun z => z.2) (Option.some.inj hq)) dX4_readLoneCoast_26
    · replace hq := i_f c5 hq
      refine lv_iconst (v := (1 : Int32)) hx hb dX4_readLoneCoast_21 (by decide) ?_
      refine lv_goto (tgt := 26) hx hb dX4_readLoneCoast_22 (by decide) ?_
      exact ge_Wi hx hb hlocks hr (by decide +kernel) hI (congrArg (fun z => z.1) (Option.some.inj hq)) (congrArg (fun z => z.2) (Option.some.inj hq)) dX4_readLoneCoast_26

abbrev rm_X4_readArguments : Room := { frames := 5, cells := 0, slots := 0, locals := 186 }
theorem k_X4_readArguments : g_CV yX4_readArguments cX4_readArguments 3 (some .boolean) 1 := ⟨⟨m_1180, m_5, by decide +kernel⟩, m_1179, ms_17⟩
set_option maxHeartbeats 4000000 in
set_option maxRecDepth 100000 in
theorem c_X4_readArguments (l : Launch) (V : Nat → Nat) (g : GH) (D : va_G) (cT : Nat → ClassId) (f : GH) (n : Nat) (a0 : Nat) (a1 : Nat) (o : Int32 × GH) (hq : p_X4_readArguments V g f a0 a1 = some o) : Met l yX4_readArguments (Cond.code yX4_readArguments cX4_readArguments 3 (some .boolean) :: g_B) rm_X4_readArguments (va_Pc [.ref a0, .ref a1] (g_I V g D cT f n)) (g_Wi V D cT o.1 o.2 n) 0 0 (g_A V) := by
  refine g_begin (own := RX4) [.ref a0, .ref a1] [(0, .ref a0), (1, .ref a1)] (g_A V) (fun _ h => h) (by decide) rfl (Nat.le_of_ble_eq_true rfl) rfl ?_
  intro p e s m args below meth c hx hb hr hlocks hin hC hI ls hl
  obtain ⟨hx, hb, hml, hown, hB⟩ := id hC
  obtain ⟨H, hH⟩ : ∃ H, H = s.heap := ⟨_, rfl⟩
  obtain ⟨locs, hlocs⟩ : ∃ L : List Loc, L = [] := ⟨_, rfl⟩
  rw [← hH, ← hlocs] at hI ⊢
  clear hH hlocs
  unfold p_X4_readArguments at hq
  replace hq := (h_me_eq hq).2
  refine lv_aload_n hx hb dX4_readArguments_0 rfl (lv_at hl 1 rfl) ?_
  obtain ⟨v1, ev1, hq⟩ := b_s hq
  refine fa_gr (own := RX4) (ref := "CoastlineRuler$Command") (k := 0) hx hb hB inB_RX3 hown hI rfl (by decide) m_170 (fun _ h9 => h9) ev1 dX4_readArguments_1 ?_
  refine lv_astore_n (lv' := [(2, .ref v1), (0, .ref a0), (1, .ref a1)]) hx hb dX4_readArguments_4 rfl hl (by decide) rfl (fun ls hl => ?_)
  refine lv_aload_n hx hb dX4_readArguments_5 rfl (lv_at hl 1 rfl) ?_
  refine lv_iconst (v := (0 : Int32)) hx hb dX4_readArguments_6 (by decide) ?_
  refine lv_iconst (v := (5 : Int32)) hx hb dX4_readArguments_7 (by decide) ?_
  obtain ⟨v2, ev2, hq⟩ := b_s hq
  refine gw_i (g_runV (As := [.int (0 : Int32), .int (5 : Int32)]) (rest := []) (ci := 7) hC (c_X4_readInteger l V g D cT f n a0 (0 : Int32) (5 : Int32) v2 ev2) k_X4_readInteger m_721 rfl rfl ⟨Nat.le_of_ble_eq_true rfl, Nat.le_of_ble_eq_true rfl⟩ hI rfl rfl (h_me_eq ev2).1 rfl hl.1 rfl (Nat.le_of_ble_eq_true rfl) dX4_readArguments_8 ⟨by decide, by decide⟩) hI (fun H locs hI => ?_)
  refine lv_if_ne (tgt := 16) hx hb dX4_readArguments_11 (by decide) (fun c3 => ?_) (fun c3 => ?_)
  · replace hq := i_f c3 hq
    refine lv_aload_n hx hb dX4_readArguments_16 rfl (lv_at hl 2 rfl) ?_
    refine lv_aload_n hx hb dX4_readArguments_17 rfl (lv_at hl 1 rfl) ?_
    obtain ⟨v4, ev4, hq⟩ := b_s hq
    refine fa_gi (own := RX4) (ref := "CoastlineRuler$Grammar") (k := 3) hx hb hB inB_RX4 hown hI rfl (by decide) m_144 (fun _ h9 => h9) ev4 dX4_readArguments_18 ?_
    obtain ⟨f5, ef5, hq⟩ := b_s hq
    refine fa_pt (own := RX4) (ref := "CoastlineRuler$Command") (k := 1) hx hb hB inB_RX3 tyX3_ok nmX3 hown hI rfl (by decide) m_174 (fun _ h9 => h9) (by decide) rfl rfl ef5 dX4_readArguments_21 (fun H locs hI => ?_)
    refine lv_aload_n hx hb dX4_readArguments_24 rfl (lv_at hl 0 rfl) ?_
    obtain ⟨v6, ev6, hq⟩ := b_s hq
    refine fs_gi (own := RX4) (ref := "CoastlineRuler$Verb") (ci := 50) (k := 3) hx hb hB hown hI m_2227 (fun _ h9 => h9) ev6 dX4_readArguments_25 ?_
    have hj52 : ∀ (x0 : Nat) (x1 : Nat) (x2 : Nat) (f : GH) (H : Heap) (locs : List Loc) (ls : Array Slot), g_at (g_A V) V g D cT f n s H locs → lv_has ls 3 [(0, .ref x0), (1, .ref x1), (2, .ref x2)] → p_X4_readArguments_j52 V g x0 x1 x2 f = some o → W p l e rm_X4_readArguments s m args below meth c H locs 0 0 (MQ below (g_Wi V D cT o.1 o.2 n) args s 0 0 (g_A V)) (F0 m 52 ls []) := by
      intro x0 x1 x2 f H locs ls hI hl hq
      unfold p_X4_readArguments_j52 at hq
      refine lv_aload_n hx hb dX4_readArguments_52 rfl (lv_at hl 2 rfl) ?_
      obtain ⟨v7, ev7, hq⟩ := b_s hq
      refine fs_gi (own := RX4) (ref := "CoastlineRuler$Verb") (ci := 50) (k := 4) hx hb hB hown hI m_2228 (fun _ h9 => h9) ev7 dX4_readArguments_53 ?_
      have hj85 : ∀ (x0 : Nat) (x1 : Nat) (x2 : Nat) (f : GH) (H : Heap) (locs : List Loc) (ls : Array Slot), g_at (g_A V) V g D cT f n s H locs → lv_has ls 3 [(0, .ref x0), (1, .ref x1), (2, .ref x2)] → p_X4_readArguments_j85 V g x0 x1 x2 f = some o → W p l e rm_X4_readArguments s m args below meth c H locs 0 0 (MQ below (g_Wi V D cT o.1 o.2 n) args s 0 0 (g_A V)) (F0 m 85 ls []) := by
        intro x0 x1 x2 f H locs ls hI hl hq
        unfold p_X4_readArguments_j85 at hq
        refine lv_aload_n hx hb dX4_readArguments_85 rfl (lv_at hl 2 rfl) ?_
        obtain ⟨v8, ev8, hq⟩ := b_s hq
        refine fs_gi (own := RX4) (ref := "CoastlineRuler$Verb") (ci := 50) (k := 4) hx hb hB hown hI m_2228 (fun _ h9 => h9) ev8 dX4_readArguments_86 ?_
        refine lv_iconst (v := (1 : Int32)) hx hb dX4_readArguments_89 (by decide) ?_
        refine lv_icmp_le (tgt := 119) hx hb dX4_readArguments_90 (by decide) (fun c9 => ?_) (fun c9 => ?_)
        · replace hq := i_t c9 hq
          refine lv_iconst (v := (1 : Int32)) hx hb dX4_readArguments_119 (by decide) ?_
          exact ge_Wi hx hb hlocks hr (by decide +kernel) hI (congrArg (fun z => z.1) (Option.some.inj hq)) (congrArg (fun z => z.2) (Option.some.inj hq)) dX4_readArguments_120
        · replace hq := i_f c9 hq
          refine lv_aload_n hx hb dX4_readArguments_93 rfl (lv_at hl 0 rfl) ?_
          refine lv_aload_n hx hb dX4_readArguments_94 rfl (lv_at hl 2 rfl) ?_
          obtain ⟨v10, ev10, hq⟩ := b_s hq
          refine fs_gi (own := RX4) (ref := "CoastlineRuler$Verb") (ci := 50) (k := 5) hx hb hB hown hI m_2229 (fun _ h9 => h9) ev10 dX4_readArguments_95 ?_
          refine lv_ineg hx hb dX4_readArguments_98 ?_
          refine lv_aload_n hx hb dX4_readArguments_99 rfl (lv_at hl 2 rfl) ?_
          obtain ⟨v11, ev11, hq⟩ := b_s hq
          refine fs_gi (own := RX4) (ref := "CoastlineRuler$Verb") (ci := 50) (k := 5) hx hb hB hown hI m_2229 (fun _ h9 => h9) ev11 dX4_readArguments_100 ?_
          obtain ⟨v12, ev12, hq⟩ := b_s hq
          refine gw_i (g_runV (As := [.int (-v10), .int v11]) (rest := []) (ci := 7) hC (c_X4_readInteger l V g D cT f n x0 (-v10) v11 v12 ev12) k_X4_readInteger m_721 rfl rfl ⟨Nat.le_of_ble_eq_true rfl, Nat.le_of_ble_eq_true rfl⟩ hI rfl rfl (h_me_eq ev12).1 rfl hl.1 rfl (Nat.le_of_ble_eq_true rfl) dX4_readArguments_103 ⟨by decide, by decide⟩) hI (fun H locs hI => ?_)
          refine lv_if_ne (tgt := 111) hx hb dX4_readArguments_106 (by decide) (fun c13 => ?_) (fun c13 => ?_)
          · replace hq := i_f c13 hq
            refine lv_aload_n hx hb dX4_readArguments_111 rfl (lv_at hl 1 rfl) ?_
            refine lv_aload_n hx hb dX4_readArguments_112 rfl (lv_at hl 0 rfl) ?_
            obtain ⟨v14, ev14, hq⟩ := b_s hq
            refine fa_gi (own := RX4) (ref := "CoastlineRuler$Grammar") (k := 3) hx hb hB inB_RX4 hown hI rfl (by decide) m_144 (fun _ h9 => h9) ev14 dX4_readArguments_113 ?_
            obtain ⟨f15, ef15, hq⟩ := b_s hq
            refine fa_pt (own := RX4) (ref := "CoastlineRuler$Command") (k := 4) hx hb hB inB_RX3 tyX3_ok nmX3 hown hI rfl (by decide) m_183 (fun _ h9 => h9) (by decide) rfl rfl ef15 dX4_readArguments_116 (fun H locs hI => ?_)
            refine lv_iconst (v := (1 : Int32)) hx hb dX4_readArguments_119 (by decide) ?_
            exact ge_Wi hx hb hlocks hr (by decide +kernel) hI (congrArg (fun z => z.1) (Option.some.inj hq)) (congrArg (fun z => z.2) (Option.some.inj hq)) dX4_readArguments_120
          · replace hq := i_t c13 hq
            refine lv_iconst (v := (0 : Int32)) hx hb dX4_readArguments_109 (by decide) ?_
            exact ge_Wi hx hb hlocks hr (by decide +kernel) hI (congrArg (fun z => z.1) (Option.some.inj hq)) (congrArg (fun z => z.2) (Option.some.inj hq)) dX4_readArguments_110
      refine lv_if_le (tgt := 85) hx hb dX4_readArguments_56 (by decide) (fun c16 => ?_) (fun c16 => ?_)
      · replace hq := i_t c16 hq
        exact hj85 x0 x1 x2 f H locs ls hI (lv_sub hl [0, 1, 2] rfl) hq
      · replace hq := i_f c16 hq
        refine lv_aload_n hx hb dX4_readArguments_59 rfl (lv_at hl 0 rfl) ?_
        refine lv_aload_n hx hb dX4_readArguments_60 rfl (lv_at hl 2 rfl) ?_
        obtain ⟨v17, ev17, hq⟩ := b_s hq
        refine fs_gi (own := RX4) (ref := "CoastlineRuler$Verb") (ci := 50) (k := 5) hx hb hB hown hI m_2229 (fun _ h9 => h9) ev17 dX4_readArguments_61 ?_
        refine lv_ineg hx hb dX4_readArguments_64 ?_
        refine lv_aload_n hx hb dX4_readArguments_65 rfl (lv_at hl 2 rfl) ?_
        obtain ⟨v18, ev18, hq⟩ := b_s hq
        refine fs_gi (own := RX4) (ref := "CoastlineRuler$Verb") (ci := 50) (k := 5) hx hb hB hown hI m_2229 (fun _ h9 => h9) ev18 dX4_readArguments_66 ?_
        obtain ⟨v19, ev19, hq⟩ := b_s hq
        refine gw_i (g_runV (As := [.int (-v17), .int v18]) (rest := []) (ci := 7) hC (c_X4_readInteger l V g D cT f n x0 (-v17) v18 v19 ev19) k_X4_readInteger m_721 rfl rfl ⟨Nat.le_of_ble_eq_true rfl, Nat.le_of_ble_eq_true rfl⟩ hI rfl rfl (h_me_eq ev19).1 rfl hl.1 rfl (Nat.le_of_ble_eq_true rfl) dX4_readArguments_69 ⟨by decide, by decide⟩) hI (fun H locs hI => ?_)
        refine lv_if_ne (tgt := 77) hx hb dX4_readArguments_72 (by decide) (fun c20 => ?_) (fun c20 => ?_)
        · replace hq := i_f c20 hq
          refine lv_aload_n hx hb dX4_readArguments_77 rfl (lv_at hl 1 rfl) ?_
          refine lv_aload_n hx hb dX4_readArguments_78 rfl (lv_at hl 0 rfl) ?_
          obtain ⟨v21, ev21, hq⟩ := b_s hq
          refine fa_gi (own := RX4) (ref := "CoastlineRuler$Grammar") (k := 3) hx hb hB inB_RX4 hown hI rfl (by decide) m_144 (fun _ h9 => h9) ev21 dX4_readArguments_79 ?_
          obtain ⟨f22, ef22, hq⟩ := b_s hq
          refine fa_pt (own := RX4) (ref := "CoastlineRuler$Command") (k := 3) hx hb hB inB_RX3 tyX3_ok nmX3 hown hI rfl (by decide) m_180 (fun _ h9 => h9) (by decide) rfl rfl ef22 dX4_readArguments_82 (fun H locs hI => ?_)
          exact hj85 x0 x1 x2 f22 H locs ls hI (lv_sub hl [0, 1, 2] rfl) hq
        · replace hq := i_t c20 hq
          refine lv_iconst (v := (0 : Int32)) hx hb dX4_readArguments_75 (by decide) ?_
          exact ge_Wi hx hb hlocks hr (by decide +kernel) hI (congrArg (fun z => z.1) (Option.some.inj hq)) (congrArg (fun z => z.2) (Option.some.inj hq)) dX4_readArguments_76
    refine lv_if_eq (tgt := 52) hx hb dX4_readArguments_28 (by decide) (fun c23 => ?_) (fun c23 => ?_)
    · replace hq := i_t c23 hq
      exact hj52 a0 a1 v1 f5 H locs ls hI (lv_sub hl [1, 2, 0] rfl) hq
    · replace hq := i_f c23 hq
      refine lv_aload_n hx hb dX4_readArguments_31 rfl (lv_at hl 1 rfl) ?_
      refine lv_iconst (v := (0 : Int32)) hx hb dX4_readArguments_32 (by decide) ?_
      refine lv_sipush (v := (128 : Int32)) hx hb dX4_readArguments_33 (by decide) ?_
      obtain ⟨v24, ev24, hq⟩ := b_s hq
      refine gw_i (g_runV (As := [.int (0 : Int32), .int (128 : Int32)]) (rest := []) (ci := 7) hC (c_X4_readInteger l V g D cT f5 n a0 (0 : Int32) (128 : Int32) v24 ev24) k_X4_readInteger m_721 rfl rfl ⟨Nat.le_of_ble_eq_true rfl, Nat.le_of_ble_eq_true rfl⟩ hI rfl rfl (h_me_eq ev24).1 rfl hl.1 rfl (Nat.le_of_ble_eq_true rfl) dX4_readArguments_36 ⟨by decide, by decide⟩) hI (fun H locs hI => ?_)
      refine lv_if_ne (tgt := 44) hx hb dX4_readArguments_39 (by decide) (fun c25 => ?_) (fun c25 => ?_)
      · replace hq := i_f c25 hq
        refine lv_aload_n hx hb dX4_readArguments_44 rfl (lv_at hl 2 rfl) ?_
        refine lv_aload_n hx hb dX4_readArguments_45 rfl (lv_at hl 1 rfl) ?_
        obtain ⟨v26, ev26, hq⟩ := b_s hq
        refine fa_gi (own := RX4) (ref := "CoastlineRuler$Grammar") (k := 3) hx hb hB inB_RX4 hown hI rfl (by decide) m_144 (fun _ h9 => h9) ev26 dX4_readArguments_46 ?_
        obtain ⟨f27, ef27, hq⟩ := b_s hq
        refine fa_pt (own := RX4) (ref := "CoastlineRuler$Command") (k := 2) hx hb hB inB_RX3 tyX3_ok nmX3 hown hI rfl (by decide) m_177 (fun _ h9 => h9) (by decide) rfl rfl ef27 dX4_readArguments_49 (fun H locs hI => ?_)
        exact hj52 a0 a1 v1 f27 H locs ls hI (lv_sub hl [1, 2, 0] rfl) hq
      · replace hq := i_t c25 hq
        refine lv_iconst (v := (0 : Int32)) hx hb dX4_readArguments_42 (by decide) ?_
        exact ge_Wi hx hb hlocks hr (by decide +kernel) hI (congrArg (fun z => z.1) (Option.some.inj hq)) (congrArg (fun z => z.2) (Option.some.inj hq)) dX4_readArguments_43
  · replace hq := i_t c3 hq
    refine lv_iconst (v := (0 : Int32)) hx hb dX4_readArguments_14 (by decide) ?_
    exact ge_Wi hx hb hlocks hr (by decide +kernel) hI (congrArg (fun z => z.1) (Option.some.inj hq)) (congrArg (fun z => z.2) (Option.some.inj hq)) dX4_readArguments_15

abbrev rm_X4_readCommand : Room := { frames := 9, cells := 0, slots := 0, locals := 271 }
theorem k_X4_readCommand : g_CV yX4_readCommand cX4_readCommand 4 (some .boolean) 1 := ⟨⟨m_1174, m_5, by decide +kernel⟩, m_1173, ms_16⟩
set_option maxHeartbeats 4000000 in
set_option maxRecDepth 100000 in
theorem c_X4_readCommand (l : Launch) (V : Nat → Nat) (g : GH) (D : va_G) (cT : Nat → ClassId) (f : GH) (n : Nat) (a0 : Nat) (a1 : Nat) (o : Int32 × GH) (hq : p_X4_readCommand V g f a0 a1 = some o) : Met l yX4_readCommand (Cond.code yX4_readCommand cX4_readCommand 4 (some .boolean) :: g_B) rm_X4_readCommand (va_Pc [.ref a0, .ref a1] (g_I V g D cT f n)) (g_Wi V D cT o.1 o.2 n) 0 0 (g_A V) := by
  refine g_begin (own := RX4) [.ref a0, .ref a1] [(0, .ref a0), (1, .ref a1)] (g_A V) (fun _ h => h) (by decide) rfl (Nat.le_of_ble_eq_true rfl) rfl ?_
  intro p e s m args below meth c hx hb hr hlocks hin hC hI ls hl
  obtain ⟨hx, hb, hml, hown, hB⟩ := id hC
  obtain ⟨H, hH⟩ : ∃ H, H = s.heap := ⟨_, rfl⟩
  obtain ⟨locs, hlocs⟩ : ∃ L : List Loc, L = [] := ⟨_, rfl⟩
  rw [← hH, ← hlocs] at hI ⊢
  clear hH hlocs
  unfold p_X4_readCommand at hq
  replace hq := (h_me_eq hq).2
  refine lv_aload_n hx hb dX4_readCommand_0 rfl (lv_at hl 0 rfl) ?_
  obtain ⟨v1, ev1, hq⟩ := b_s hq
  refine gr_q (g_runV (As := []) (rest := []) (ci := 7) hC (c_X4_verbHere l V g D cT f n a0 v1 ev1) k_X4_verbHere m_736 rfl rfl ⟨Nat.le_of_ble_eq_true rfl, Nat.le_of_ble_eq_true rfl⟩ hI rfl rfl (h_me_eq ev1).1 rfl hl.1 rfl (Nat.le_of_ble_eq_true rfl) dX4_readCommand_1 ⟨by decide, by decide⟩) hI (fun H locs hI => ?_)
  refine lv_astore_nN2 (lv' := [(2, va_rf v1), (0, .ref a0), (1, .ref a1)]) hx hb dX4_readCommand_4 rfl hl (by decide) rfl (fun ls hl => ?_)
  refine lv_aload_nN2 hx hb dX4_readCommand_5 rfl (lv_at hl 0 rfl) ?_
  rcases v1 with _ | v2
  · refine lv_ifnonnullN hx hb dX4_readCommand_6 ?_
    refine lv_aload_n hx hb dX4_readCommand_9 rfl (lv_at hl 1 rfl) ?_
    refine lv_iconst (v := (1 : Int32)) hx hb dX4_readCommand_10 (by decide) ?_
    obtain ⟨v19, ev19, hq⟩ := b_s hq
    refine gw_i (g_runV (As := [.int (1 : Int32)]) (rest := []) (ci := 7) hC (c_X4_fail l V g D cT f n a0 (1 : Int32) v19 ev19) k_X4_fail m_700 rfl rfl ⟨Nat.le_of_ble_eq_true rfl, Nat.le_of_ble_eq_true rfl⟩ hI rfl rfl (h_me_eq ev19).1 rfl hl.1 rfl (Nat.le_of_ble_eq_true rfl) dX4_readCommand_11 ⟨by decide, by decide⟩) hI (fun H locs hI => ?_)
    obtain ⟨_, ev20, hq⟩ := b_s hq
    exact ge_Wi hx hb hlocks hr (h_bz_eq ev20).2.1 hI (congrArg (fun z => z.1) (Option.some.inj hq)) (congrArg (fun z => z.2) (Option.some.inj hq)) dX4_readCommand_14
  · refine lv_ifnonnull (tgt := 15) hx hb dX4_readCommand_6 (by decide) ?_
    refine lv_aload_n hx hb dX4_readCommand_15 rfl (lv_at hl 2 rfl) ?_
    refine lv_aload_n hx hb dX4_readCommand_16 rfl (lv_at hl 0 rfl) ?_
    refine lv_iconst (v := (0 : Int32)) hx hb dX4_readCommand_17 (by decide) ?_
    refine lv_iconst (v := (0 : Int32)) hx hb dX4_readCommand_18 (by decide) ?_
    refine lv_iconst (v := (0 : Int32)) hx hb dX4_readCommand_19 (by decide) ?_
    refine lv_iconst (v := (0 : Int32)) hx hb dX4_readCommand_20 (by decide) ?_
    obtain ⟨v3, ev3, hq⟩ := b_s hq
    refine gw_v (g_runV (As := [.ref v2, .int (0 : Int32), .int (0 : Int32), .int (0 : Int32), .int (0 : Int32)]) (rest := []) (ci := 6) hC (c_X3_set l V g D cT f n a1 v2 (0 : Int32) (0 : Int32) (0 : Int32) (0 : Int32) v3 ev3) k_X3_set m_1175 rfl rfl ⟨Nat.le_of_ble_eq_true rfl, Nat.le_of_ble_eq_true rfl⟩ hI rfl rfl (h_me_eq ev3).1 rfl hl.1 rfl (Nat.le_of_ble_eq_true rfl) dX4_readCommand_21 ⟨by decide, by decide⟩) hI (fun H locs hI => ?_)
    refine lv_aload_n hx hb dX4_readCommand_24 rfl (lv_at hl 0 rfl) ?_
    obtain ⟨v4, ev4, hq⟩ := b_s hq
    refine fs_gi (own := RX4) (ref := "CoastlineRuler$Verb") (ci := 50) (k := 2) hx hb hB hown hI m_2222 (fun _ h9 => h9) ev4 dX4_readCommand_25 ?_
    refine lv_if_eq (tgt := 40) hx hb dX4_readCommand_28 (by decide) (fun c5 => ?_) (fun c5 => ?_)
    · replace hq := i_t c5 hq
      refine lv_aload_n hx hb dX4_readCommand_40 rfl (lv_at hl 1 rfl) ?_
      obtain ⟨v6, ev6, hq⟩ := b_s hq
      refine fa_gr (own := RX4) (ref := "CoastlineRuler$Grammar") (k := 0) hx hb hB inB_RX4 hown hI rfl (by decide) m_139 (fun _ h9 => h9) ev6 dX4_readCommand_41 ?_
      obtain ⟨v7, ev7, hq⟩ := b_s hq
      refine gw_v (g_runV (As := []) (rest := []) (ci := 8) hC (c_X5_advance l V g D cT v3 n v6 v7 ev7) k_X5_advance m_704 rfl rfl ⟨Nat.le_of_ble_eq_true rfl, Nat.le_of_ble_eq_true rfl⟩ hI rfl rfl (h_me_eq ev7).1 rfl hl.1 rfl (Nat.le_of_ble_eq_true rfl) dX4_readCommand_44 ⟨by decide, by decide⟩) hI (fun H locs hI => ?_)
      refine lv_aload_n hx hb dX4_readCommand_47 rfl (lv_at hl 0 rfl) ?_
      refine fs_gs (i := 10) hx hb hown hI rfl (hB _ m_1176) (fun _ h9 => h9) dX4_readCommand_48 ?_
      refine lv_acmp_ne (rx := (some v2)) (ry := (some (V 11))) (tgt := 69) hx hb dX4_readCommand_51 (by decide) (fun c8 => ?_) (fun c8 => ?_)
      · replace hq := i_f c8 hq
        refine lv_aload_n hx hb dX4_readCommand_69 rfl (lv_at hl 1 rfl) ?_
        refine lv_aload_n hx hb dX4_readCommand_70 rfl (lv_at hl 2 rfl) ?_
        obtain ⟨v9, ev9, hq⟩ := b_s hq
        refine gw_i (g_runV (As := [.ref a1]) (rest := []) (ci := 7) hC (c_X4_readArguments l V g D cT v7 n a0 a1 v9 ev9) k_X4_readArguments m_1177 rfl rfl ⟨Nat.le_of_ble_eq_true rfl, Nat.le_of_ble_eq_true rfl⟩ hI rfl rfl (h_me_eq ev9).1 rfl hl.1 rfl (Nat.le_of_ble_eq_true rfl) dX4_readCommand_71 ⟨by decide, by decide⟩) hI (fun H locs hI => ?_)
        obtain ⟨_, ev10, hq⟩ := b_s hq
        exact ge_Wi hx hb hlocks hr (h_bz_eq ev10).2.1 hI (congrArg (fun z => z.1) (Option.some.inj hq)) (congrArg (fun z => z.2) (Option.some.inj hq)) dX4_readCommand_74
      · replace hq := i_t c8 hq
        refine lv_aload_n hx hb dX4_readCommand_54 rfl (lv_at hl 1 rfl) ?_
        obtain ⟨v11, ev11, hq⟩ := b_s hq
        refine gw_i (g_runV (As := []) (rest := []) (ci := 7) hC (c_X4_readMetric l V g D cT v7 n a0 v11 ev11) k_X4_readMetric m_705 rfl rfl ⟨Nat.le_of_ble_eq_true rfl, Nat.le_of_ble_eq_true rfl⟩ hI rfl rfl (h_me_eq ev11).1 rfl hl.1 rfl (Nat.le_of_ble_eq_true rfl) dX4_readCommand_55 ⟨by decide, by decide⟩) hI (fun H locs hI => ?_)
        refine lv_istore_n (lv' := [(3, .int v11.1), (2, .ref v2), (0, .ref a0), (1, .ref a1)]) hx hb dX4_readCommand_58 rfl hl (by decide) rfl (fun ls hl => ?_)
        refine lv_aload_n hx hb dX4_readCommand_59 rfl (lv_at hl 3 rfl) ?_
        refine lv_aload_n hx hb dX4_readCommand_60 rfl (lv_at hl 2 rfl) ?_
        obtain ⟨v12, ev12, hq⟩ := b_s hq
        refine fa_gi (own := RX4) (ref := "CoastlineRuler$Grammar") (k := 4) hx hb hB inB_RX4 hown hI rfl (by decide) m_145 (fun _ h9 => h9) ev12 dX4_readCommand_61 ?_
        obtain ⟨_, ev13, hq⟩ := b_s hq
        obtain ⟨f14, ef14, hq⟩ := b_s hq
        refine fa_pt (own := RX4) (ref := "CoastlineRuler$Command") (k := 5) hx hb hB inB_RX3 tyX3_ok nmX3 hown hI rfl (by decide) m_185 (fun _ h9 => h9) (by decide) (h_bz_eq ev13).2.1 (h_bz_eq ev13).2.2 ef14 dX4_readCommand_64 (fun H locs hI => ?_)
        refine lv_iload_n hx hb dX4_readCommand_67 rfl (lv_at hl 0 rfl) ?_
        obtain ⟨_, ev15, hq⟩ := b_s hq
        exact ge_Wi hx hb hlocks hr (h_bz_eq ev15).2.1 hI (congrArg (fun z => z.1) (Option.some.inj hq)) (congrArg (fun z => z.2) (Option.some.inj hq)) dX4_readCommand_68
    · replace hq := i_f c5 hq
      refine lv_aload_n hx hb dX4_readCommand_31 rfl (lv_at hl 1 rfl) ?_
      refine lv_aload_n hx hb dX4_readCommand_32 rfl (lv_at hl 2 rfl) ?_
      obtain ⟨v16, ev16, hq⟩ := b_s hq
      refine fa_gr (own := RX4) (ref := "CoastlineRuler$Command") (k := 6) hx hb hB inB_RX3 hown hI rfl (by decide) m_189 (fun _ h9 => h9) ev16 dX4_readCommand_33 ?_
      obtain ⟨v17, ev17, hq⟩ := b_s hq
      refine gw_i (g_runV (As := [.ref v16]) (rest := []) (ci := 7) hC (c_X4_readCoast l V g D cT v3 n a0 v16 v17 ev17) k_X4_readCoast m_715 rfl rfl ⟨Nat.le_of_ble_eq_true rfl, Nat.le_of_ble_eq_true rfl⟩ hI rfl rfl (h_me_eq ev17).1 rfl hl.1 rfl (Nat.le_of_ble_eq_true rfl) dX4_readCommand_36 ⟨by decide, by decide⟩) hI (fun H locs hI => ?_)
      obtain ⟨_, ev18, hq⟩ := b_s hq
      exact ge_Wi hx hb hlocks hr (h_bz_eq ev18).2.1 hI (congrArg (fun z => z.1) (Option.some.inj hq)) (congrArg (fun z => z.2) (Option.some.inj hq)) dX4_readCommand_39

abbrev rm_X4_readScript : Room := { frames := 10, cells := 0, slots := 0, locals := 294 }
theorem k_X4_readScript : g_CV yX4_readScript cX4_readScript 4 (some .int) 2 := ⟨⟨m_1170, m_5, by decide +kernel⟩, m_1168, m_1169⟩
set_option maxHeartbeats 4000000 in
set_option maxRecDepth 100000 in
theorem c_X4_readScript (l : Launch) (V : Nat → Nat) (g : GH) (D : va_G) (cT : Nat → ClassId) (f : GH) (n : Nat) (a0 : Nat) (a1 : Int32) (a2 : Nat) (o : Int32 × GH) (hq : p_X4_readScript V g f a0 a1 a2 = some o) : Met l yX4_readScript (Cond.code yX4_readScript cX4_readScript 4 (some .int) :: g_B) rm_X4_readScript (va_Pc [.ref a0, .int a1, .ref a2] (g_I V g D cT f n)) (g_Wi V D cT o.1 o.2 n) 0 0 (g_A V) := by
  refine g_begin (own := RX4) [.ref a0, .int a1, .ref a2] [(0, .ref a0), (1, .int a1), (2, .ref a2)] (g_A V) (fun _ h => h) (by decide) rfl (Nat.le_of_ble_eq_true rfl) rfl ?_
  intro p e s m args below meth c hx hb hr hlocks hin hC hI ls hl
  obtain ⟨hx, hb, hml, hown, hB⟩ := id hC
  obtain ⟨H, hH⟩ : ∃ H, H = s.heap := ⟨_, rfl⟩
  obtain ⟨locs, hlocs⟩ : ∃ L : List Loc, L = [] := ⟨_, rfl⟩
  rw [← hH, ← hlocs] at hI ⊢
  clear hH hlocs
  unfold p_X4_readScript at hq
  replace hq := (h_me_eq hq).2
  refine lv_aload_n hx hb dX4_readScript_0 rfl (lv_at hl 0 rfl) ?_
  refine lv_iload_n hx hb dX4_readScript_1 rfl (lv_at hl 1 rfl) ?_
  obtain ⟨v1, ev1, hq⟩ := b_s hq
  refine gw_v (g_runV (As := [.int a1]) (rest := []) (ci := 7) hC (c_X4_begin l V g D cT f n a0 a1 v1 ev1) k_X4_begin m_625 rfl rfl ⟨Nat.le_of_ble_eq_true rfl, Nat.le_of_ble_eq_true rfl⟩ hI rfl rfl (h_me_eq ev1).1 rfl hl.1 rfl (Nat.le_of_ble_eq_true rfl) dX4_readScript_2 ⟨by decide, by decide⟩) hI (fun H locs hI => ?_)
  refine lv_iconst (v := (0 : Int32)) hx hb dX4_readScript_5 (by decide) ?_
  refine lv_istore_n (lv' := [(3, .int (0 : Int32)), (0, .ref a0), (1, .int a1), (2, .ref a2)]) hx hb dX4_readScript_6 rfl hl (by decide) rfl (fun ls hl => ?_)
  have hl7 : ∀ (K23 : Int32 → GH → Option (Int32 × GH)) (hK23 : ∀ (x3 : Int32) (f : GH) (H : Heap) (locs : List Loc) (ls : Array Slot), g_at (g_A V) V g D cT f n s H locs → lv_has ls 4 [(3, .int x3)] → K23 x3 f = some o → W p l e rm_X4_readScript s m args below meth c H locs 0 0 (MQ below (g_Wi V D cT o.1 o.2 n) args s 0 0 (g_A V)) (F0 m 23 ls [])) (K43 : GH → Option (Int32 × GH)) (hK43 : ∀ (f : GH) (H : Heap) (locs : List Loc) (ls : Array Slot), g_at (g_A V) V g D cT f n s H locs → lv_has ls 4 [] → K43 f = some o → W p l e rm_X4_readScript s m args below meth c H locs 0 0 (MQ below (g_Wi V D cT o.1 o.2 n) args s 0 0 (g_A V)) (F0 m 43 ls [])) (K51 : Nat → Nat → GH → Option (Int32 × GH)) (hK51 : ∀ (x0 : Nat) (x2 : Nat) (f : GH) (H : Heap) (locs : List Loc) (ls : Array Slot), g_at (g_A V) V g D cT f n s H locs → lv_has ls 4 [(0, .ref x0), (2, .ref x2)] → K51 x0 x2 f = some o → W p l e rm_X4_readScript s m args below meth c H locs 0 0 (MQ below (g_Wi V D cT o.1 o.2 n) args s 0 0 (g_A V)) (F0 m 51 ls [])) (N : Nat) (x0 : Nat) (x2 : Nat) (x3 : Int32) (f : GH) (H : Heap) (locs : List Loc) (ls : Array Slot), g_at (g_A V) V g D cT f n s H locs → lv_has ls 4 [(0, .ref x0), (2, .ref x2), (3, .int x3)] → p_X4_readScript_l7 V g K23 K43 K51 N x0 x2 x3 f = some o → W p l e rm_X4_readScript s m args below meth c H locs 0 0 (MQ below (g_Wi V D cT o.1 o.2 n) args s 0 0 (g_A V)) (F0 m 7 ls []) := by
    intro K23 hK23 K43 hK43 K51 hK51 N
    induction N with
    | zero =>
      intro x0 x2 x3 f H locs ls hI hl hq
      rw [p_X4_readScript_l7] at hq
      cases hq
    | succ N ih =>
      intro x0 x2 x3 f H locs ls hI hl hq
      rw [p_X4_readScript_l7] at hq
      refine lv_iload_n hx hb dX4_readScript_7 rfl (lv_at hl 2 rfl) ?_
      refine lv_aload_n hx hb dX4_readScript_8 rfl (lv_at hl 1 rfl) ?_
      obtain ⟨v2, ev2, hq⟩ := b_s hq
      refine fa_al hx hb hI (by decide) ev2 dX4_readScript_9 ?_
      refine lv_icmp_ge (tgt := 51) hx hb dX4_readScript_10 (by decide) (fun c3 => ?_) (fun c3 => ?_)
      · replace hq := i_t c3 hq
        exact hK51 x0 x2 f H locs ls hI (lv_sub hl [0, 1] rfl) hq
      · replace hq := i_f c3 hq
        refine lv_aload_n hx hb dX4_readScript_13 rfl (lv_at hl 0 rfl) ?_
        obtain ⟨v4, ev4, hq⟩ := b_s hq
        refine fa_gr (own := RX4) (ref := "CoastlineRuler$Grammar") (k := 0) hx hb hB inB_RX4 hown hI rfl (by decide) m_139 (fun _ h9 => h9) ev4 dX4_readScript_14 ?_
        obtain ⟨v5, ev5, hq⟩ := b_s hq
        refine fa_gi (own := RX4) (ref := "CoastlineRuler$Tokens") (k := 3) hx hb hB inB_RX5 hown hI rfl (by decide) m_114 (fun _ h9 => h9) ev5 dX4_readScript_17 ?_
        refine lv_if_ne (tgt := 25) hx hb dX4_readScript_20 (by decide) (fun c6 => ?_) (fun c6 => ?_)
        · replace hq := i_f c6 hq
          refine lv_aload_n hx hb dX4_readScript_25 rfl (lv_at hl 0 rfl) ?_
          refine lv_aload_n hx hb dX4_readScript_26 rfl (lv_at hl 1 rfl) ?_
          refine lv_iload_n hx hb dX4_readScript_27 rfl (lv_at hl 2 rfl) ?_
          obtain ⟨v7, ev7, hq⟩ := b_s hq
          refine fa_lq hx hb hI (by decide) rfl ev7 dX4_readScript_28 ?_
          obtain ⟨v8, ev8, hq⟩ := b_s hq
          refine gw_i (g_runV (As := [.ref v7]) (rest := []) (ci := 7) hC (c_X4_readCommand l V g D cT f n x0 v7 v8 ev8) k_X4_readCommand m_1171 rfl rfl ⟨Nat.le_of_ble_eq_true rfl, Nat.le_of_ble_eq_true rfl⟩ hI rfl rfl (h_me_eq ev8).1 rfl hl.1 rfl (Nat.le_of_ble_eq_true rfl) dX4_readScript_29 ⟨by decide, by decide⟩) hI (fun H locs hI => ?_)
          refine lv_if_eq (tgt := 43) hx hb dX4_readScript_32 (by decide) (fun c9 => ?_) (fun c9 => ?_)
          · replace hq := i_t c9 hq
            exact hK43 v8.2 H locs ls hI (lv_sub hl [] rfl) hq
          · replace hq := i_f c9 hq
            refine lv_aload_n hx hb dX4_readScript_35 rfl (lv_at hl 0 rfl) ?_
            refine lv_iconst (v := (3 : Int32)) hx hb dX4_readScript_36 (by decide) ?_
            obtain ⟨v10, ev10, hq⟩ := b_s hq
            refine gw_i (g_runV (As := [.int (3 : Int32)]) (rest := []) (ci := 7) hC (c_X4_take l V g D cT v8.2 n x0 (3 : Int32) v10 ev10) k_X4_take m_711 rfl rfl ⟨Nat.le_of_ble_eq_true rfl, Nat.le_of_ble_eq_true rfl⟩ hI rfl rfl (h_me_eq ev10).1 rfl hl.1 rfl (Nat.le_of_ble_eq_true rfl) dX4_readScript_37 ⟨by decide, by decide⟩) hI (fun H locs hI => ?_)
            refine lv_if_ne (tgt := 45) hx hb dX4_readScript_40 (by decide) (fun c11 => ?_) (fun c11 => ?_)
            · replace hq := i_f c11 hq
              refine lv_iinc (v := x3 + (1 : Int32)) (lv' := [(3, .int (x3 + (1 : Int32))), (0, .ref x0), (2, .ref x2)]) hx hb dX4_readScript_45 hl (k := 2) rfl rfl (by decide) rfl (fun ls hl => ?_)
              refine lv_goto (tgt := 7) hx hb dX4_readScript_48 (by decide) ?_
              exact ih x0 x2 (x3 + (1 : Int32)) v10.2 H locs ls hI (lv_sub hl [1, 2, 0] rfl) hq
            · replace hq := i_t c11 hq
              exact hK43 v10.2 H locs ls hI (lv_sub hl [] rfl) hq
        · replace hq := i_t c6 hq
          exact hK23 x3 f H locs ls hI (lv_sub hl [2] rfl) hq
  refine hl7 _ ?_ _ ?_ _ ?_ FU a0 a2 (0 : Int32) v1 H locs ls hI (lv_sub hl [1, 3, 0] rfl) hq
  · intro x3 f H locs ls hI hl hq
    refine lv_iload_n hx hb dX4_readScript_23 rfl (lv_at hl 0 rfl) ?_
    exact ge_Wi hx hb hlocks hr rfl hI (congrArg (fun z => z.1) (Option.some.inj hq)) (congrArg (fun z => z.2) (Option.some.inj hq)) dX4_readScript_24
  · intro f H locs ls hI hl hq
    refine lv_iconst (v := (-1 : Int32)) hx hb dX4_readScript_43 (by decide) ?_
    exact ge_Wi hx hb hlocks hr rfl hI (congrArg (fun z => z.1) (Option.some.inj hq)) (congrArg (fun z => z.2) (Option.some.inj hq)) dX4_readScript_44
  · intro x0 x2 f H locs ls hI hl hq
    refine lv_aload_n hx hb dX4_readScript_51 rfl (lv_at hl 0 rfl) ?_
    obtain ⟨v12, ev12, hq⟩ := b_s hq
    refine fa_gr (own := RX4) (ref := "CoastlineRuler$Grammar") (k := 0) hx hb hB inB_RX4 hown hI rfl (by decide) m_139 (fun _ h9 => h9) ev12 dX4_readScript_52 ?_
    obtain ⟨v13, ev13, hq⟩ := b_s hq
    refine fa_gi (own := RX4) (ref := "CoastlineRuler$Tokens") (k := 3) hx hb hB inB_RX5 hown hI rfl (by decide) m_114 (fun _ h9 => h9) ev13 dX4_readScript_55 ?_
    refine lv_if_ne (tgt := 64) hx hb dX4_readScript_58 (by decide) (fun c14 => ?_) (fun c14 => ?_)
    · replace hq := i_f c14 hq
      refine lv_aload_n hx hb dX4_readScript_64 rfl (lv_at hl 0 rfl) ?_
      refine lv_aload_n hx hb dX4_readScript_65 rfl (lv_at hl 0 rfl) ?_
      obtain ⟨v15, ev15, hq⟩ := b_s hq
      refine gr_q (g_runV (As := []) (rest := [.ref x0]) (ci := 7) hC (c_X4_verbHere l V g D cT f n x0 v15 ev15) k_X4_verbHere m_736 rfl rfl ⟨Nat.le_of_ble_eq_true rfl, Nat.le_of_ble_eq_true rfl⟩ hI rfl rfl (h_me_eq ev15).1 rfl hl.1 rfl (Nat.le_of_ble_eq_true rfl) dX4_readScript_66 ⟨by decide, by decide⟩) hI (fun H locs hI => ?_)
      rcases v15 with _ | v16
      · refine lv_ifnonnullN hx hb dX4_readScript_69 ?_
        refine lv_iconst (v := (1 : Int32)) hx hb dX4_readScript_72 (by decide) ?_
        refine lv_goto (tgt := 77) hx hb dX4_readScript_73 (by decide) ?_
        obtain ⟨v18, ev18, hq⟩ := b_s hq
        refine gw_i (g_runV (As := [.int (1 : Int32)]) (rest := []) (ci := 7) hC (c_X4_fail l V g D cT f n x0 (1 : Int32) v18 ev18) k_X4_fail m_700 rfl rfl ⟨Nat.le_of_ble_eq_true rfl, Nat.le_of_ble_eq_true rfl⟩ hI rfl rfl (h_me_eq ev18).1 rfl hl.1 rfl (Nat.le_of_ble_eq_true rfl) dX4_readScript_77 ⟨by decide, by decide⟩) hI (fun H locs hI => ?_)
        refine lv_pop hx hb dX4_readScript_80 rfl ?_
        refine lv_iconst (v := (-1 : Int32)) hx hb dX4_readScript_81 (by decide) ?_
        exact ge_Wi hx hb hlocks hr rfl hI (congrArg (fun z => z.1) (Option.some.inj hq)) (congrArg (fun z => z.2) (Option.some.inj hq)) dX4_readScript_82
      · refine lv_ifnonnull (tgt := 76) hx hb dX4_readScript_69 (by decide) ?_
        refine lv_iconst (v := (3 : Int32)) hx hb dX4_readScript_76 (by decide) ?_
        obtain ⟨v17, ev17, hq⟩ := b_s hq
        refine gw_i (g_runV (As := [.int (3 : Int32)]) (rest := []) (ci := 7) hC (c_X4_fail l V g D cT f n x0 (3 : Int32) v17 ev17) k_X4_fail m_700 rfl rfl ⟨Nat.le_of_ble_eq_true rfl, Nat.le_of_ble_eq_true rfl⟩ hI rfl rfl (h_me_eq ev17).1 rfl hl.1 rfl (Nat.le_of_ble_eq_true rfl) dX4_readScript_77 ⟨by decide, by decide⟩) hI (fun H locs hI => ?_)
        refine lv_pop hx hb dX4_readScript_80 rfl ?_
        refine lv_iconst (v := (-1 : Int32)) hx hb dX4_readScript_81 (by decide) ?_
        exact ge_Wi hx hb hlocks hr rfl hI (congrArg (fun z => z.1) (Option.some.inj hq)) (congrArg (fun z => z.2) (Option.some.inj hq)) dX4_readScript_82
    · replace hq := i_t c14 hq
      refine lv_aload_n hx hb dX4_readScript_61 rfl (lv_at hl 1 rfl) ?_
      obtain ⟨v19, ev19, hq⟩ := b_s hq
      refine fa_al hx hb hI (by decide) ev19 dX4_readScript_62 ?_
      exact ge_Wi hx hb hlocks hr rfl hI (congrArg (fun z => z.1) (Option.some.inj hq)) (congrArg (fun z => z.2) (Option.some.inj hq)) dX4_readScript_63


def p_X8_readPoint_j93 (V : Nat → Nat) (g : GH) (x0 : Nat) (t0 : Int32) (t1 : Nat) (f : GH) : Option GH :=
  (p_X8_check V g f t1 t0 (3 : Int32)).bind fun v6 =>
  (p_X8_readSigned V g v6 x0 (1000 : Int32)).bind fun v7 =>
  (p_X8_readSigned V g v7.2 x0 (1000 : Int32)).bind fun v8 =>
  (h_gi v8.2 x0 10 18).bind fun v9 =>
  (if v9 = (0 : Int32) then
    (p_X8_tellPoint V g v8.2 x0 v7.1 v8.1).bind fun v11 =>
    some v11
  else
    some v8.2)
def p_X8_readPoint_j88 (V : Nat → Nat) (g : GH) (K93 : Nat → Int32 → Nat → GH → Option GH) (x0 : Nat) (t0 : Nat) (f : GH) : Option GH :=
  K93 x0 (1 : Int32) t0 f
def p_X8_readPoint_j65 (V : Nat → Nat) (g : GH) (x0 : Nat) (t0 : Int32) (t1 : Nat) (f : GH) : Option GH :=
  (p_X8_check V g f t1 t0 (2 : Int32)).bind fun v4 =>
  (h_gi v4 x0 10 18).bind fun v5 =>
  (if v5 = (0 : Int32) then
    (h_gr v4 x0 10 22).bind fun v13 =>
    (h_li v4 v13 0 (1 : Int32)).bind fun v14 =>
    (if (33 : Int32) ≤ v14 then
      p_X8_readPoint_j93 V g x0 (0 : Int32) x0 v4
    else
      p_X8_readPoint_j88 V g (p_X8_readPoint_j93 V g) x0 x0 v4)
  else
    p_X8_readPoint_j88 V g (p_X8_readPoint_j93 V g) x0 x0 v4)
def p_X8_readPoint_j60 (V : Nat → Nat) (g : GH) (K65 : Nat → Int32 → Nat → GH → Option GH) (x0 : Nat) (t0 : Nat) (f : GH) : Option GH :=
  K65 x0 (1 : Int32) t0 f
def p_X8_readPoint_j30 (V : Nat → Nat) (g : GH) (x0 : Nat) (t0 : Int32) (t1 : Nat) (f : GH) : Option GH :=
  (p_X8_check V g f t1 t0 (1 : Int32)).bind fun v2 =>
  (h_gi v2 x0 10 18).bind fun v3 =>
  (if v3 = (0 : Int32) then
    (h_gi v2 x0 10 17).bind fun v17 =>
    (if v17 = (2 : Int32) then
      (p_X8_value V g v2 x0).bind fun v19 =>
      (if (1000 : Int32) < v19 then
        p_X8_readPoint_j65 V g x0 (0 : Int32) x0 v2
      else
        p_X8_readPoint_j60 V g (p_X8_readPoint_j65 V g) x0 x0 v2)
    else
      p_X8_readPoint_j60 V g (p_X8_readPoint_j65 V g) x0 x0 v2)
  else
    p_X8_readPoint_j60 V g (p_X8_readPoint_j65 V g) x0 x0 v2)
def p_X8_readPoint_j25 (V : Nat → Nat) (g : GH) (K30 : Nat → Int32 → Nat → GH → Option GH) (x0 : Nat) (t0 : Nat) (f : GH) : Option GH :=
  K30 x0 (1 : Int32) t0 f
def p_X8_readPoint (V : Nat → Nat) (g f : GH) (a0 : Nat) : Option GH :=
  h_me f a0 10 <|
  (h_gi f a0 10 18).bind fun v1 =>
  (if v1 = (0 : Int32) then
    (h_gi f a0 10 17).bind fun v22 =>
    (if v22 = (2 : Int32) then
      p_X8_readPoint_j25 V g (p_X8_readPoint_j30 V g) a0 a0 f
    else
      (p_X8_isSymbol V g f a0 (45 : Int32)).bind fun v24 =>
      (if v24 = (0 : Int32) then
        p_X8_readPoint_j30 V g a0 (0 : Int32) a0 f
      else
        p_X8_readPoint_j25 V g (p_X8_readPoint_j30 V g) a0 a0 f))
  else
    p_X8_readPoint_j25 V g (p_X8_readPoint_j30 V g) a0 a0 f)
abbrev rm_X8_readPoint : Room := { frames := 8, cells := 0, slots := 0, locals := 248 }
theorem k_X8_readPoint : g_CV yX8_readPoint cX8_readPoint 3 none 0 := ⟨⟨m_2150, m_14, by decide +kernel⟩, m_2149, ms_90⟩
set_option maxHeartbeats 4000000 in
set_option maxRecDepth 100000 in
theorem c_X8_readPoint (l : Launch) (V : Nat → Nat) (g : GH) (D : va_G) (cT : Nat → ClassId) (f : GH) (n : Nat) (a0 : Nat) (o : GH) (hq : p_X8_readPoint V g f a0 = some o) : Met l yX8_readPoint (Cond.code yX8_readPoint cX8_readPoint 3 none :: g_B) rm_X8_readPoint (va_Pc [.ref a0] (g_I V g D cT f n)) (g_Wv V D cT o n) 0 0 (g_A V) := by
  refine g_begin (own := RX8) [.ref a0] [(0, .ref a0)] (g_A V) (fun _ h => h) (by decide) rfl (Nat.le_of_ble_eq_true rfl) rfl ?_
  intro p e s m args below meth c hx hb hr hlocks hin hC hI ls hl
  obtain ⟨hx, hb, hml, hown, hB⟩ := id hC
  obtain ⟨H, hH⟩ : ∃ H, H = s.heap := ⟨_, rfl⟩
  obtain ⟨locs, hlocs⟩ : ∃ L : List Loc, L = [] := ⟨_, rfl⟩
  rw [← hH, ← hlocs] at hI ⊢
  clear hH hlocs
  unfold p_X8_readPoint at hq
  replace hq := (h_me_eq hq).2
  refine lv_aload_n hx hb dX8_readPoint_0 rfl (lv_at hl 0 rfl) ?_
  refine lv_aload_n hx hb dX8_readPoint_1 rfl (lv_at hl 0 rfl) ?_
  obtain ⟨v1, ev1, hq⟩ := b_s hq
  refine fa_gi (own := RX8) (ref := "CoastlineRulerModel") (k := 18) hx hb hB inB_RX8 hown hI rfl (by decide) m_1549 (fun _ h9 => h9) ev1 dX8_readPoint_2 ?_
  have hj30 : ∀ (x0 : Nat) (t0 : Int32) (t1 : Nat) (f : GH) (H : Heap) (locs : List Loc) (ls : Array Slot), g_at (g_A V) V g D cT f n s H locs → lv_has ls 3 [(0, .ref x0)] → p_X8_readPoint_j30 V g x0 t0 t1 f = some o → W p l e rm_X8_readPoint s m args below meth c H locs 0 0 (MQ below (g_Wv V D cT o n) args s 0 0 (g_A V)) (F0 m 30 ls [.int t0, .ref t1]) := by
    intro x0 t0 t1 f H locs ls hI hl hq
    unfold p_X8_readPoint_j30 at hq
    refine lv_iconst (v := (1 : Int32)) hx hb dX8_readPoint_30 (by decide) ?_
    obtain ⟨v2, ev2, hq⟩ := b_s hq
    refine gw_v (g_runV (As := [.int t0, .int (1 : Int32)]) (rest := []) (ci := 10) hC (c_X8_check l V g D cT f n t1 t0 (1 : Int32) v2 ev2) k_X8_check m_2113 rfl rfl ⟨Nat.le_of_ble_eq_true rfl, Nat.le_of_ble_eq_true rfl⟩ hI rfl rfl (h_me_eq ev2).1 rfl hl.1 rfl (Nat.le_of_ble_eq_true rfl) dX8_readPoint_31 ⟨by decide, by decide⟩) hI (fun H locs hI => ?_)
    refine lv_aload_n hx hb dX8_readPoint_34 rfl (lv_at hl 0 rfl) ?_
    refine lv_aload_n hx hb dX8_readPoint_35 rfl (lv_at hl 0 rfl) ?_
    obtain ⟨v3, ev3, hq⟩ := b_s hq
    refine fa_gi (own := RX8) (ref := "CoastlineRulerModel") (k := 18) hx hb hB inB_RX8 hown hI rfl (by decide) m_1549 (fun _ h9 => h9) ev3 dX8_readPoint_36 ?_
    have hj65 : ∀ (x0 : Nat) (t0 : Int32) (t1 : Nat) (f : GH) (H : Heap) (locs : List Loc) (ls : Array Slot), g_at (g_A V) V g D cT f n s H locs → lv_has ls 3 [(0, .ref x0)] → p_X8_readPoint_j65 V g x0 t0 t1 f = some o → W p l e rm_X8_readPoint s m args below meth c H locs 0 0 (MQ below (g_Wv V D cT o n) args s 0 0 (g_A V)) (F0 m 65 ls [.int t0, .ref t1]) := by
      intro x0 t0 t1 f H locs ls hI hl hq
      unfold p_X8_readPoint_j65 at hq
      refine lv_iconst (v := (2 : Int32)) hx hb dX8_readPoint_65 (by decide) ?_
      obtain ⟨v4, ev4, hq⟩ := b_s hq
      refine gw_v (g_runV (As := [.int t0, .int (2 : Int32)]) (rest := []) (ci := 10) hC (c_X8_check l V g D cT f n t1 t0 (2 : Int32) v4 ev4) k_X8_check m_2113 rfl rfl ⟨Nat.le_of_ble_eq_true rfl, Nat.le_of_ble_eq_true rfl⟩ hI rfl rfl (h_me_eq ev4).1 rfl hl.1 rfl (Nat.le_of_ble_eq_true rfl) dX8_readPoint_66 ⟨by decide, by decide⟩) hI (fun H locs hI => ?_)
      refine lv_aload_n hx hb dX8_readPoint_69 rfl (lv_at hl 0 rfl) ?_
      refine lv_aload_n hx hb dX8_readPoint_70 rfl (lv_at hl 0 rfl) ?_
      obtain ⟨v5, ev5, hq⟩ := b_s hq
      refine fa_gi (own := RX8) (ref := "CoastlineRulerModel") (k := 18) hx hb hB inB_RX8 hown hI rfl (by decide) m_1549 (fun _ h9 => h9) ev5 dX8_readPoint_71 ?_
      have hj93 : ∀ (x0 : Nat) (t0 : Int32) (t1 : Nat) (f : GH) (H : Heap) (locs : List Loc) (ls : Array Slot), g_at (g_A V) V g D cT f n s H locs → lv_has ls 3 [(0, .ref x0)] → p_X8_readPoint_j93 V g x0 t0 t1 f = some o → W p l e rm_X8_readPoint s m args below meth c H locs 0 0 (MQ below (g_Wv V D cT o n) args s 0 0 (g_A V)) (F0 m 93 ls [.int t0, .ref t1]) := by
        intro x0 t0 t1 f H locs ls hI hl hq
        unfold p_X8_readPoint_j93 at hq
        refine lv_iconst (v := (3 : Int32)) hx hb dX8_readPoint_93 (by decide) ?_
        obtain ⟨v6, ev6, hq⟩ := b_s hq
        refine gw_v (g_runV (As := [.int t0, .int (3 : Int32)]) (rest := []) (ci := 10) hC (c_X8_check l V g D cT f n t1 t0 (3 : Int32) v6 ev6) k_X8_check m_2113 rfl rfl ⟨Nat.le_of_ble_eq_true rfl, Nat.le_of_ble_eq_true rfl⟩ hI rfl rfl (h_me_eq ev6).1 rfl hl.1 rfl (Nat.le_of_ble_eq_true rfl) dX8_readPoint_94 ⟨by decide, by decide⟩) hI (fun H locs hI => ?_)
        refine lv_aload_n hx hb dX8_readPoint_97 rfl (lv_at hl 0 rfl) ?_
        refine lv_sipush (v := (1000 : Int32)) hx hb dX8_readPoint_98 (by decide) ?_
        obtain ⟨v7, ev7, hq⟩ := b_s hq
        refine gw_i (g_runV (As := [.int (1000 : Int32)]) (rest := []) (ci := 10) hC (c_X8_readSigned l V g D cT v6 n x0 (1000 : Int32) v7 ev7) k_X8_readSigned m_2156 rfl rfl ⟨Nat.le_of_ble_eq_true rfl, Nat.le_of_ble_eq_true rfl⟩ hI rfl rfl (h_me_eq ev7).1 rfl hl.1 rfl (Nat.le_of_ble_eq_true rfl) dX8_readPoint_101 ⟨by decide, by decide⟩) hI (fun H locs hI => ?_)
        refine lv_istore_n (lv' := [(1, .int v7.1), (0, .ref x0)]) hx hb dX8_readPoint_104 rfl hl (by decide) rfl (fun ls hl => ?_)
        refine lv_aload_n hx hb dX8_readPoint_105 rfl (lv_at hl 1 rfl) ?_
        refine lv_sipush (v := (1000 : Int32)) hx hb dX8_readPoint_106 (by decide) ?_
        obtain ⟨v8, ev8, hq⟩ := b_s hq
        refine gw_i (g_runV (As := [.int (1000 : Int32)]) (rest := []) (ci := 10) hC (c_X8_readSigned l V g D cT v7.2 n x0 (1000 : Int32) v8 ev8) k_X8_readSigned m_2156 rfl rfl ⟨Nat.le_of_ble_eq_true rfl, Nat.le_of_ble_eq_true rfl⟩ hI rfl rfl (h_me_eq ev8).1 rfl hl.1 rfl (Nat.le_of_ble_eq_true rfl) dX8_readPoint_109 ⟨by decide, by decide⟩) hI (fun H locs hI => ?_)
        refine lv_istore_n (lv' := [(2, .int v8.1), (1, .int v7.1), (0, .ref x0)]) hx hb dX8_readPoint_112 rfl hl (by decide) rfl (fun ls hl => ?_)
        refine lv_aload_n hx hb dX8_readPoint_113 rfl (lv_at hl 2 rfl) ?_
        obtain ⟨v9, ev9, hq⟩ := b_s hq
        refine fa_gi (own := RX8) (ref := "CoastlineRulerModel") (k := 18) hx hb hB inB_RX8 hown hI rfl (by decide) m_1549 (fun _ h9 => h9) ev9 dX8_readPoint_114 ?_
        refine lv_if_ne (tgt := 126) hx hb dX8_readPoint_117 (by decide) (fun c10 => ?_) (fun c10 => ?_)
        · replace hq := i_f c10 hq
          exact ge_Wv hx hb hlocks hr hI (Option.some.inj hq) dX8_readPoint_126
        · replace hq := i_t c10 hq
          refine lv_aload_n hx hb dX8_readPoint_120 rfl (lv_at hl 2 rfl) ?_
          refine lv_iload_n hx hb dX8_readPoint_121 rfl (lv_at hl 1 rfl) ?_
          refine lv_iload_n hx hb dX8_readPoint_122 rfl (lv_at hl 0 rfl) ?_
          obtain ⟨v11, ev11, hq⟩ := b_s hq
          refine gw_v (g_runV (As := [.int v7.1, .int v8.1]) (rest := []) (ci := 10) hC (c_X8_tellPoint l V g D cT v8.2 n x0 v7.1 v8.1 v11 ev11) k_X8_tellPoint m_1507 rfl rfl ⟨Nat.le_of_ble_eq_true rfl, Nat.le_of_ble_eq_true rfl⟩ hI rfl rfl (h_me_eq ev11).1 rfl hl.1 rfl (Nat.le_of_ble_eq_true rfl) dX8_readPoint_123 ⟨by decide, by decide⟩) hI (fun H locs hI => ?_)
          exact ge_Wv hx hb hlocks hr hI (Option.some.inj hq) dX8_readPoint_126
      have hj88 : ∀ (x0 : Nat) (t0 : Nat) (f : GH) (H : Heap) (locs : List Loc) (ls : Array Slot), g_at (g_A V) V g D cT f n s H locs → lv_has ls 3 [(0, .ref x0)] → p_X8_readPoint_j88 V g (p_X8_readPoint_j93 V g) x0 t0 f = some o → W p l e rm_X8_readPoint s m args below meth c H locs 0 0 (MQ below (g_Wv V D cT o n) args s 0 0 (g_A V)) (F0 m 88 ls [.ref t0]) := by
        intro x0 t0 f H locs ls hI hl hq
        unfold p_X8_readPoint_j88 at hq
        refine lv_iconst (v := (1 : Int32)) hx hb dX8_readPoint_88 (by decide) ?_
        refine lv_goto (tgt := 93) hx hb dX8_readPoint_89 (by decide) ?_
        exact hj93 x0 (1 : Int32) t0 f H locs ls hI (lv_sub hl [0] rfl) hq
      refine lv_if_ne (tgt := 88) hx hb dX8_readPoint_74 (by decide) (fun c12 => ?_) (fun c12 => ?_)
      · replace hq := i_f c12 hq
        exact hj88 x0 x0 v4 H locs ls hI (lv_sub hl [0] rfl) hq
      · replace hq := i_t c12 hq
        refine lv_aload_n hx hb dX8_readPoint_77 rfl (lv_at hl 0 rfl) ?_
        obtain ⟨v13, ev13, hq⟩ := b_s hq
        refine fa_gr (own := RX8) (ref := "CoastlineRulerModel") (k := 22) hx hb hB inB_RX8 hown hI rfl (by decide) m_1553 (fun _ h9 => h9) ev13 dX8_readPoint_78 ?_
        refine lv_iconst (v := (1 : Int32)) hx hb dX8_readPoint_81 (by decide) ?_
        obtain ⟨v14, ev14, hq⟩ := b_s hq
        refine fa_li hx hb hI ev14 dX8_readPoint_82 ?_
        refine lv_bipush (v := (33 : Int32)) hx hb dX8_readPoint_83 (by decide) ?_
        refine lv_icmp_ge (tgt := 92) hx hb dX8_readPoint_85 (by decide) (fun c15 => ?_) (fun c15 => ?_)
        · replace hq := i_t c15 hq
          refine lv_iconst (v := (0 : Int32)) hx hb dX8_readPoint_92 (by decide) ?_
          exact hj93 x0 (0 : Int32) x0 v4 H locs ls hI (lv_sub hl [0] rfl) hq
        · replace hq := i_f c15 hq
          exact hj88 x0 x0 v4 H locs ls hI (lv_sub hl [0] rfl) hq
    have hj60 : ∀ (x0 : Nat) (t0 : Nat) (f : GH) (H : Heap) (locs : List Loc) (ls : Array Slot), g_at (g_A V) V g D cT f n s H locs → lv_has ls 3 [(0, .ref x0)] → p_X8_readPoint_j60 V g (p_X8_readPoint_j65 V g) x0 t0 f = some o → W p l e rm_X8_readPoint s m args below meth c H locs 0 0 (MQ below (g_Wv V D cT o n) args s 0 0 (g_A V)) (F0 m 60 ls [.ref t0]) := by
      intro x0 t0 f H locs ls hI hl hq
      unfold p_X8_readPoint_j60 at hq
      refine lv_iconst (v := (1 : Int32)) hx hb dX8_readPoint_60 (by decide) ?_
      refine lv_goto (tgt := 65) hx hb dX8_readPoint_61 (by decide) ?_
      exact hj65 x0 (1 : Int32) t0 f H locs ls hI (lv_sub hl [0] rfl) hq
    refine lv_if_ne (tgt := 60) hx hb dX8_readPoint_39 (by decide) (fun c16 => ?_) (fun c16 => ?_)
    · replace hq := i_f c16 hq
      exact hj60 x0 x0 v2 H locs ls hI (lv_sub hl [0] rfl) hq
    · replace hq := i_t c16 hq
      refine lv_aload_n hx hb dX8_readPoint_42 rfl (lv_at hl 0 rfl) ?_
      obtain ⟨v17, ev17, hq⟩ := b_s hq
      refine fa_gi (own := RX8) (ref := "CoastlineRulerModel") (k := 17) hx hb hB inB_RX8 hown hI rfl (by decide) m_1548 (fun _ h9 => h9) ev17 dX8_readPoint_43 ?_
      refine lv_iconst (v := (2 : Int32)) hx hb dX8_readPoint_46 (by decide) ?_
      refine lv_icmp_ne (tgt := 60) hx hb dX8_readPoint_47 (by decide) (fun c18 => ?_) (fun c18 => ?_)
      · replace hq := i_f c18 hq
        exact hj60 x0 x0 v2 H locs ls hI (lv_sub hl [0] rfl) hq
      · replace hq := i_t c18 hq
        refine lv_aload_n hx hb dX8_readPoint_50 rfl (lv_at hl 0 rfl) ?_
        obtain ⟨v19, ev19, hq⟩ := b_s hq
        refine gr_i (g_runV (As := []) (rest := [.ref x0]) (ci := 10) hC (c_X8_value l V g D cT v2 n x0 v19 ev19) k_X8_value m_2151 rfl rfl ⟨Nat.le_of_ble_eq_true rfl, Nat.le_of_ble_eq_true rfl⟩ hI rfl rfl (h_me_eq ev19).1 rfl hl.1 rfl (Nat.le_of_ble_eq_true rfl) dX8_readPoint_51 ⟨by decide, by decide⟩) hI (fun H locs hI => ?_)
        refine lv_sipush (v := (1000 : Int32)) hx hb dX8_readPoint_54 (by decide) ?_
        refine lv_icmp_gt (tgt := 64) hx hb dX8_readPoint_57 (by decide) (fun c20 => ?_) (fun c20 => ?_)
        · replace hq := i_t c20 hq
          refine lv_iconst (v := (0 : Int32)) hx hb dX8_readPoint_64 (by decide) ?_
          exact hj65 x0 (0 : Int32) x0 v2 H locs ls hI (lv_sub hl [0] rfl) hq
        · replace hq := i_f c20 hq
          exact hj60 x0 x0 v2 H locs ls hI (lv_sub hl [0] rfl) hq
  have hj25 : ∀ (x0 : Nat) (t0 : Nat) (f : GH) (H : Heap) (locs : List Loc) (ls : Array Slot), g_at (g_A V) V g D cT f n s H locs → lv_has ls 3 [(0, .ref x0)] → p_X8_readPoint_j25 V g (p_X8_readPoint_j30 V g) x0 t0 f = some o → W p l e rm_X8_readPoint s m args below meth c H locs 0 0 (MQ below (g_Wv V D cT o n) args s 0 0 (g_A V)) (F0 m 25 ls [.ref t0]) := by
    intro x0 t0 f H locs ls hI hl hq
    unfold p_X8_readPoint_j25 at hq
    refine lv_iconst (v := (1 : Int32)) hx hb dX8_readPoint_25 (by decide) ?_
    refine lv_goto (tgt := 30) hx hb dX8_readPoint_26 (by decide) ?_
    exact hj30 x0 (1 : Int32) t0 f H locs ls hI (lv_sub hl [0] rfl) hq
  refine lv_if_ne (tgt := 25) hx hb dX8_readPoint_5 (by decide) (fun c21 => ?_) (fun c21 => ?_)
  · replace hq := i_f c21 hq
    exact hj25 a0 a0 f H locs ls hI (lv_sub hl [0] rfl) hq
  · replace hq := i_t c21 hq
    refine lv_aload_n hx hb dX8_readPoint_8 rfl (lv_at hl 0 rfl) ?_
    obtain ⟨v22, ev22, hq⟩ := b_s hq
    refine fa_gi (own := RX8) (ref := "CoastlineRulerModel") (k := 17) hx hb hB inB_RX8 hown hI rfl (by decide) m_1548 (fun _ h9 => h9) ev22 dX8_readPoint_9 ?_
    refine lv_iconst (v := (2 : Int32)) hx hb dX8_readPoint_12 (by decide) ?_
    refine lv_icmp_eq (tgt := 25) hx hb dX8_readPoint_13 (by decide) (fun c23 => ?_) (fun c23 => ?_)
    · replace hq := i_t c23 hq
      exact hj25 a0 a0 f H locs ls hI (lv_sub hl [0] rfl) hq
    · replace hq := i_f c23 hq
      refine lv_aload_n hx hb dX8_readPoint_16 rfl (lv_at hl 0 rfl) ?_
      refine lv_bipush (v := (45 : Int32)) hx hb dX8_readPoint_17 (by decide) ?_
      obtain ⟨v24, ev24, hq⟩ := b_s hq
      refine gr_i (g_runV (As := [.int (45 : Int32)]) (rest := [.ref a0]) (ci := 10) hC (c_X8_isSymbol l V g D cT f n a0 (45 : Int32) v24 ev24) k_X8_isSymbol m_2131 rfl rfl ⟨Nat.le_of_ble_eq_true rfl, Nat.le_of_ble_eq_true rfl⟩ hI rfl rfl (h_me_eq ev24).1 rfl hl.1 rfl (Nat.le_of_ble_eq_true rfl) dX8_readPoint_19 ⟨by decide, by decide⟩) hI (fun H locs hI => ?_)
      refine lv_if_eq (tgt := 29) hx hb dX8_readPoint_22 (by decide) (fun c25 => ?_) (fun c25 => ?_)
      · replace hq := i_t c25 hq
        refine lv_iconst (v := (0 : Int32)) hx hb dX8_readPoint_29 (by decide) ?_
        exact hj30 a0 (0 : Int32) a0 f H locs ls hI (lv_sub hl [0] rfl) hq
      · replace hq := i_f c25 hq
        exact hj25 a0 a0 f H locs ls hI (lv_sub hl [0] rfl) hq

def p_X8_readPoints_l9 (V : Nat → Nat) (g : GH) (K29 : Nat → Int32 → GH → Option GH) : Nat → Nat → Int32 → GH → Option GH
  | 0, _, _, _ => none
  | N + 1, x0, x1, f =>
    (p_X8_isSymbol V g f x0 (44 : Int32)).bind fun v3 =>
    (if v3 = (0 : Int32) then
      K29 x0 x1 f
    else
      (p_X8_advance V g f x0).bind fun v5 =>
      (p_X8_readPoint V g v5 x0).bind fun v6 =>
      p_X8_readPoints_l9 V g K29 N x0 x1 v6)
def p_X8_readPoints (V : Nat → Nat) (g f : GH) (a0 : Nat) (a1 : Int32) : Option GH :=
  h_me f a0 10 <|
  (p_X8_startCoast V g f a0 a1).bind fun v1 =>
  (p_X8_readPoint V g v1 a0).bind fun v2 =>
  p_X8_readPoints_l9 V g (fun x0 x1 f =>
    (h_gi f x0 10 18).bind fun v7 =>
    (if v7 = (0 : Int32) then
      (h_gr f x0 10 22).bind fun v10 =>
      (h_li f v10 0 (1 : Int32)).bind fun v11 =>
      (if v11 < ((2 : Int32) + x1) then
        (p_X8_check V g f x0 (0 : Int32) (1 : Int32)).bind fun v13 =>
        some v13
      else
        (p_X8_check V g f x0 (1 : Int32) (1 : Int32)).bind fun v14 =>
        some v14)
    else
      (p_X8_check V g f x0 (1 : Int32) (1 : Int32)).bind fun v9 =>
      some v9)) FU a0 a1 v2
abbrev rm_X8_readPoints : Room := { frames := 9, cells := 0, slots := 0, locals := 270 }
theorem k_X8_readPoints : g_CV yX8_readPoints cX8_readPoints 2 none 1 := ⟨⟨m_2146, m_14, by decide +kernel⟩, m_2145, ms_89⟩
set_option maxHeartbeats 4000000 in
set_option maxRecDepth 100000 in
theorem c_X8_readPoints (l : Launch) (V : Nat → Nat) (g : GH) (D : va_G) (cT : Nat → ClassId) (f : GH) (n : Nat) (a0 : Nat) (a1 : Int32) (o : GH) (hq : p_X8_readPoints V g f a0 a1 = some o) : Met l yX8_readPoints (Cond.code yX8_readPoints cX8_readPoints 2 none :: g_B) rm_X8_readPoints (va_Pc [.ref a0, .int a1] (g_I V g D cT f n)) (g_Wv V D cT o n) 0 0 (g_A V) := by
  refine g_begin (own := RX8) [.ref a0, .int a1] [(0, .ref a0), (1, .int a1)] (g_A V) (fun _ h => h) (by decide) rfl (Nat.le_of_ble_eq_true rfl) rfl ?_
  intro p e s m args below meth c hx hb hr hlocks hin hC hI ls hl
  obtain ⟨hx, hb, hml, hown, hB⟩ := id hC
  obtain ⟨H, hH⟩ : ∃ H, H = s.heap := ⟨_, rfl⟩
  obtain ⟨locs, hlocs⟩ : ∃ L : List Loc, L = [] := ⟨_, rfl⟩
  rw [← hH, ← hlocs] at hI ⊢
  clear hH hlocs
  unfold p_X8_readPoints at hq
  replace hq := (h_me_eq hq).2
  refine lv_aload_n hx hb dX8_readPoints_0 rfl (lv_at hl 0 rfl) ?_
  refine lv_iload_n hx hb dX8_readPoints_1 rfl (lv_at hl 1 rfl) ?_
  obtain ⟨v1, ev1, hq⟩ := b_s hq
  refine gw_v (g_runV (As := [.int a1]) (rest := []) (ci := 10) hC (c_X8_startCoast l V g D cT f n a0 a1 v1 ev1) k_X8_startCoast m_1503 rfl rfl ⟨Nat.le_of_ble_eq_true rfl, Nat.le_of_ble_eq_true rfl⟩ hI rfl rfl (h_me_eq ev1).1 rfl hl.1 rfl (Nat.le_of_ble_eq_true rfl) dX8_readPoints_2 ⟨by decide, by decide⟩) hI (fun H locs hI => ?_)
  refine lv_aload_n hx hb dX8_readPoints_5 rfl (lv_at hl 0 rfl) ?_
  obtain ⟨v2, ev2, hq⟩ := b_s hq
  refine gw_v (g_runV (As := []) (rest := []) (ci := 10) hC (c_X8_readPoint l V g D cT v1 n a0 v2 ev2) k_X8_readPoint m_2147 rfl rfl ⟨Nat.le_of_ble_eq_true rfl, Nat.le_of_ble_eq_true rfl⟩ hI rfl rfl (h_me_eq ev2).1 rfl hl.1 rfl (Nat.le_of_ble_eq_true rfl) dX8_readPoints_6 ⟨by decide, by decide⟩) hI (fun H locs hI => ?_)
  have hl9 : ∀ (K29 : Nat → Int32 → GH → Option GH) (hK29 : ∀ (x0 : Nat) (x1 : Int32) (f : GH) (H : Heap) (locs : List Loc) (ls : Array Slot), g_at (g_A V) V g D cT f n s H locs → lv_has ls 2 [(0, .ref x0), (1, .int x1)] → K29 x0 x1 f = some o → W p l e rm_X8_readPoints s m args below meth c H locs 0 0 (MQ below (g_Wv V D cT o n) args s 0 0 (g_A V)) (F0 m 29 ls [])) (N : Nat) (x0 : Nat) (x1 : Int32) (f : GH) (H : Heap) (locs : List Loc) (ls : Array Slot), g_at (g_A V) V g D cT f n s H locs → lv_has ls 2 [(0, .ref x0), (1, .int x1)] → p_X8_readPoints_l9 V g K29 N x0 x1 f = some o → W p l e rm_X8_readPoints s m args below meth c H locs 0 0 (MQ below (g_Wv V D cT o n) args s 0 0 (g_A V)) (F0 m 9 ls []) := by
    intro K29 hK29 N
    induction N with
    | zero =>
      intro x0 x1 f H locs ls hI hl hq
      rw [p_X8_readPoints_l9] at hq
      cases hq
    | succ N ih =>
      intro x0 x1 f H locs ls hI hl hq
      rw [p_X8_readPoints_l9] at hq
      refine lv_aload_n hx hb dX8_readPoints_9 rfl (lv_at hl 0 rfl) ?_
      refine lv_bipush (v := (44 : Int32)) hx hb dX8_readPoints_10 (by decide) ?_
      obtain ⟨v3, ev3, hq⟩ := b_s hq
      refine gr_i (g_runV (As := [.int (44 : Int32)]) (rest := []) (ci := 10) hC (c_X8_isSymbol l V g D cT f n x0 (44 : Int32) v3 ev3) k_X8_isSymbol m_2131 rfl rfl ⟨Nat.le_of_ble_eq_true rfl, Nat.le_of_ble_eq_true rfl⟩ hI rfl rfl (h_me_eq ev3).1 rfl hl.1 rfl (Nat.le_of_ble_eq_true rfl) dX8_readPoints_12 ⟨by decide, by decide⟩) hI (fun H locs hI => ?_)
      refine lv_if_eq (tgt := 29) hx hb dX8_readPoints_15 (by decide) (fun c4 => ?_) (fun c4 => ?_)
      · replace hq := i_t c4 hq
        exact hK29 x0 x1 f H locs ls hI (lv_sub hl [0, 1] rfl) hq
      · replace hq := i_f c4 hq
        refine lv_aload_n hx hb dX8_readPoints_18 rfl (lv_at hl 0 rfl) ?_
        obtain ⟨v5, ev5, hq⟩ := b_s hq
        refine gw_v (g_runV (As := []) (rest := []) (ci := 10) hC (c_X8_advance l V g D cT f n x0 v5 ev5) k_X8_advance m_2117 rfl rfl ⟨Nat.le_of_ble_eq_true rfl, Nat.le_of_ble_eq_true rfl⟩ hI rfl rfl (h_me_eq ev5).1 rfl hl.1 rfl (Nat.le_of_ble_eq_true rfl) dX8_readPoints_19 ⟨by decide, by decide⟩) hI (fun H locs hI => ?_)
        refine lv_aload_n hx hb dX8_readPoints_22 rfl (lv_at hl 0 rfl) ?_
        obtain ⟨v6, ev6, hq⟩ := b_s hq
        refine gw_v (g_runV (As := []) (rest := []) (ci := 10) hC (c_X8_readPoint l V g D cT v5 n x0 v6 ev6) k_X8_readPoint m_2147 rfl rfl ⟨Nat.le_of_ble_eq_true rfl, Nat.le_of_ble_eq_true rfl⟩ hI rfl rfl (h_me_eq ev6).1 rfl hl.1 rfl (Nat.le_of_ble_eq_true rfl) dX8_readPoints_23 ⟨by decide, by decide⟩) hI (fun H locs hI => ?_)
        refine lv_goto (tgt := 9) hx hb dX8_readPoints_26 (by decide) ?_
        exact ih x0 x1 v6 H locs ls hI (lv_sub hl [0, 1] rfl) hq
  refine hl9 _ ?_ FU a0 a1 v2 H locs ls hI (lv_sub hl [0, 1] rfl) hq
  · intro x0 x1 f H locs ls hI hl hq
    refine lv_aload_n hx hb dX8_readPoints_29 rfl (lv_at hl 0 rfl) ?_
    refine lv_aload_n hx hb dX8_readPoints_30 rfl (lv_at hl 0 rfl) ?_
    obtain ⟨v7, ev7, hq⟩ := b_s hq
    refine fa_gi (own := RX8) (ref := "CoastlineRulerModel") (k := 18) hx hb hB inB_RX8 hown hI rfl (by decide) m_1549 (fun _ h9 => h9) ev7 dX8_readPoints_31 ?_
    refine lv_if_ne (tgt := 49) hx hb dX8_readPoints_34 (by decide) (fun c8 => ?_) (fun c8 => ?_)
    · replace hq := i_f c8 hq
      refine lv_iconst (v := (1 : Int32)) hx hb dX8_readPoints_49 (by decide) ?_
      refine lv_goto (tgt := 54) hx hb dX8_readPoints_50 (by decide) ?_
      refine lv_iconst (v := (1 : Int32)) hx hb dX8_readPoints_54 (by decide) ?_
      obtain ⟨v9, ev9, hq⟩ := b_s hq
      refine gw_v (g_runV (As := [.int (1 : Int32), .int (1 : Int32)]) (rest := []) (ci := 10) hC (c_X8_check l V g D cT f n x0 (1 : Int32) (1 : Int32) v9 ev9) k_X8_check m_2113 rfl rfl ⟨Nat.le_of_ble_eq_true rfl, Nat.le_of_ble_eq_true rfl⟩ hI rfl rfl (h_me_eq ev9).1 rfl hl.1 rfl (Nat.le_of_ble_eq_true rfl) dX8_readPoints_55 ⟨by decide, by decide⟩) hI (fun H locs hI => ?_)
      exact ge_Wv hx hb hlocks hr hI (Option.some.inj hq) dX8_readPoints_58
    · replace hq := i_t c8 hq
      refine lv_aload_n hx hb dX8_readPoints_37 rfl (lv_at hl 0 rfl) ?_
      obtain ⟨v10, ev10, hq⟩ := b_s hq
      refine fa_gr (own := RX8) (ref := "CoastlineRulerModel") (k := 22) hx hb hB inB_RX8 hown hI rfl (by decide) m_1553 (fun _ h9 => h9) ev10 dX8_readPoints_38 ?_
      refine lv_iconst (v := (1 : Int32)) hx hb dX8_readPoints_41 (by decide) ?_
      obtain ⟨v11, ev11, hq⟩ := b_s hq
      refine fa_li hx hb hI ev11 dX8_readPoints_42 ?_
      refine lv_iconst (v := (2 : Int32)) hx hb dX8_readPoints_43 (by decide) ?_
      refine lv_iload_n hx hb dX8_readPoints_44 rfl (lv_at hl 1 rfl) ?_
      refine lv_iadd hx hb dX8_readPoints_45 ?_
      refine lv_icmp_lt (tgt := 53) hx hb dX8_readPoints_46 (by decide) (fun c12 => ?_) (fun c12 => ?_)
      · replace hq := i_t c12 hq
        refine lv_iconst (v := (0 : Int32)) hx hb dX8_readPoints_53 (by decide) ?_
        refine lv_iconst (v := (1 : Int32)) hx hb dX8_readPoints_54 (by decide) ?_
        obtain ⟨v13, ev13, hq⟩ := b_s hq
        refine gw_v (g_runV (As := [.int (0 : Int32), .int (1 : Int32)]) (rest := []) (ci := 10) hC (c_X8_check l V g D cT f n x0 (0 : Int32) (1 : Int32) v13 ev13) k_X8_check m_2113 rfl rfl ⟨Nat.le_of_ble_eq_true rfl, Nat.le_of_ble_eq_true rfl⟩ hI rfl rfl (h_me_eq ev13).1 rfl hl.1 rfl (Nat.le_of_ble_eq_true rfl) dX8_readPoints_55 ⟨by decide, by decide⟩) hI (fun H locs hI => ?_)
        exact ge_Wv hx hb hlocks hr hI (Option.some.inj hq) dX8_readPoints_58
      · replace hq := i_f c12 hq
        refine lv_iconst (v := (1 : Int32)) hx hb dX8_readPoints_49 (by decide) ?_
        refine lv_goto (tgt := 54) hx hb dX8_readPoints_50 (by decide) ?_
        refine lv_iconst (v := (1 : Int32)) hx hb dX8_readPoints_54 (by decide) ?_
        obtain ⟨v14, ev14, hq⟩ := b_s hq
        refine gw_v (g_runV (As := [.int (1 : Int32), .int (1 : Int32)]) (rest := []) (ci := 10) hC (c_X8_check l V g D cT f n x0 (1 : Int32) (1 : Int32) v14 ev14) k_X8_check m_2113 rfl rfl ⟨Nat.le_of_ble_eq_true rfl, Nat.le_of_ble_eq_true rfl⟩ hI rfl rfl (h_me_eq ev14).1 rfl hl.1 rfl (Nat.le_of_ble_eq_true rfl) dX8_readPoints_55 ⟨by decide, by decide⟩) hI (fun H locs hI => ?_)
        exact ge_Wv hx hb hlocks hr hI (Option.some.inj hq) dX8_readPoints_58

def p_X8_isCoastHere (V : Nat → Nat) (g f : GH) (a0 : Nat) : Option Int32 :=
  h_me f a0 10 <|
  (p_X8_isWord V g f a0 (V 27)).bind fun v1 =>
  (if v1 = (0 : Int32) then
    (p_X8_isWord V g f a0 (V 26)).bind fun v3 =>
    (if v3 = (0 : Int32) then
      some (0 : Int32)
    else
      some (1 : Int32))
  else
    some (1 : Int32))
abbrev rm_X8_isCoastHere : Room := { frames := 7, cells := 0, slots := 0, locals := 228 }
theorem k_X8_isCoastHere : g_CV yX8_isCoastHere cX8_isCoastHere 1 (some .boolean) 0 := ⟨⟨m_2138, m_14, by decide +kernel⟩, m_2137, ms_87⟩
set_option maxHeartbeats 4000000 in
set_option maxRecDepth 100000 in
theorem c_X8_isCoastHere (l : Launch) (V : Nat → Nat) (g : GH) (D : va_G) (cT : Nat → ClassId) (f : GH) (n : Nat) (a0 : Nat) (o : Int32) (hq : p_X8_isCoastHere V g f a0 = some o) : Met l yX8_isCoastHere (Cond.code yX8_isCoastHere cX8_isCoastHere 1 (some .boolean) :: g_B) rm_X8_isCoastHere (va_Pc [.ref a0] (g_I V g D cT f n)) (g_Ri o n) 0 0 g_no := by
  refine g_begin (own := RX8) [.ref a0] [(0, .ref a0)] g_no (fun _ h => h.elim) (by decide) rfl (Nat.le_of_ble_eq_true rfl) rfl ?_
  intro p e s m args below meth c hx hb hr hlocks hin hC hI ls hl
  obtain ⟨hx, hb, hml, hown, hB⟩ := id hC
  obtain ⟨H, hH⟩ : ∃ H, H = s.heap := ⟨_, rfl⟩
  obtain ⟨locs, hlocs⟩ : ∃ L : List Loc, L = [] := ⟨_, rfl⟩
  rw [← hH, ← hlocs] at hI ⊢
  clear hH hlocs
  unfold p_X8_isCoastHere at hq
  replace hq := (h_me_eq hq).2
  refine lv_aload_n hx hb dX8_isCoastHere_0 rfl (lv_at hl 0 rfl) ?_
  refine lv_ldcS hx hb hown (g_rtx hI (i := 20) rfl) dX8_isCoastHere_1 ?_
  obtain ⟨v1, ev1, hq⟩ := b_s hq
  refine gr_i (g_runV (As := [.ref (V 27)]) (rest := []) (ci := 10) hC (c_X8_isWord l V g D cT f n a0 (V 27) v1 ev1) k_X8_isWord m_2107 rfl rfl ⟨Nat.le_of_ble_eq_true rfl, Nat.le_of_ble_eq_true rfl⟩ hI rfl rfl (h_me_eq ev1).1 rfl hl.1 rfl (Nat.le_of_ble_eq_true rfl) dX8_isCoastHere_3 ⟨by decide, by decide⟩) hI (fun H locs hI => ?_)
  refine lv_if_ne (tgt := 18) hx hb dX8_isCoastHere_6 (by decide) (fun c2 => ?_) (fun c2 => ?_)
  · replace hq := i_f c2 hq
    refine lv_iconst (v := (1 : Int32)) hx hb dX8_isCoastHere_18 (by decide) ?_
    refine lv_goto (tgt := 23) hx hb dX8_isCoastHere_19 (by decide) ?_
    exact ge_Ri hx hb hlocks hr (by decide +kernel) hI hq dX8_isCoastHere_23
  · replace hq := i_t c2 hq
    refine lv_aload_n hx hb dX8_isCoastHere_9 rfl (lv_at hl 0 rfl) ?_
    refine lv_ldcS hx hb hown (g_rtx hI (i := 30) rfl) dX8_isCoastHere_10 ?_
    obtain ⟨v3, ev3, hq⟩ := b_s hq
    refine gr_i (g_runV (As := [.ref (V 26)]) (rest := []) (ci := 10) hC (c_X8_isWord l V g D cT f n a0 (V 26) v3 ev3) k_X8_isWord m_2107 rfl rfl ⟨Nat.le_of_ble_eq_true rfl, Nat.le_of_ble_eq_true rfl⟩ hI rfl rfl (h_me_eq ev3).1 rfl hl.1 rfl (Nat.le_of_ble_eq_true rfl) dX8_isCoastHere_12 ⟨by decide, by decide⟩) hI (fun H locs hI => ?_)
    refine lv_if_eq (tgt := 22) hx hb dX8_isCoastHere_15 (by decide) (fun c4 => ?_) (fun c4 => ?_)
    · replace hq := i_t c4 hq
      refine lv_iconst (v := (0 : Int32)) hx hb dX8_isCoastHere_22 (by decide) ?_
      exact ge_Ri hx hb hlocks hr (by decide +kernel) hI hq dX8_isCoastHere_23
    · replace hq := i_f c4 hq
      refine lv_iconst (v := (1 : Int32)) hx hb dX8_isCoastHere_18 (by decide) ?_
      refine lv_goto (tgt := 23) hx hb dX8_isCoastHere_19 (by decide) ?_
      exact ge_Ri hx hb hlocks hr (by decide +kernel) hI hq dX8_isCoastHere_23

def p_X8_readCoast (V : Nat → Nat) (g f : GH) (a0 : Nat) : Option GH :=
  h_me f a0 10 <|
  (p_X8_isCoastHere V g f a0).bind fun v1 =>
  (p_X8_check V g f a0 v1 (1 : Int32)).bind fun v2 =>
  (p_X8_isWord V g v2 a0 (V 26)).bind fun v3 =>
  (if v3 = (0 : Int32) then
    (p_X8_advance V g v2 a0).bind fun v5 =>
    (p_X8_readPoints V g v5 a0 (0 : Int32)).bind fun v6 =>
    some v6
  else
    (p_X8_advance V g v2 a0).bind fun v7 =>
    (p_X8_readPoints V g v7 a0 (1 : Int32)).bind fun v8 =>
    some v8)
abbrev rm_X8_readCoast : Room := { frames := 10, cells := 0, slots := 0, locals := 291 }
theorem k_X8_readCoast : g_CV yX8_readCoast cX8_readCoast 2 none 0 := ⟨⟨m_2142, m_14, by decide +kernel⟩, m_2141, ms_88⟩
set_option maxHeartbeats 4000000 in
set_option maxRecDepth 100000 in
theorem c_X8_readCoast (l : Launch) (V : Nat → Nat) (g : GH) (D : va_G) (cT : Nat → ClassId) (f : GH) (n : Nat) (a0 : Nat) (o : GH) (hq : p_X8_readCoast V g f a0 = some o) : Met l yX8_readCoast (Cond.code yX8_readCoast cX8_readCoast 2 none :: g_B) rm_X8_readCoast (va_Pc [.ref a0] (g_I V g D cT f n)) (g_Wv V D cT o n) 0 0 (g_A V) := by
  refine g_begin (own := RX8) [.ref a0] [(0, .ref a0)] (g_A V) (fun _ h => h) (by decide) rfl (Nat.le_of_ble_eq_true rfl) rfl ?_
  intro p e s m args below meth c hx hb hr hlocks hin hC hI ls hl
  obtain ⟨hx, hb, hml, hown, hB⟩ := id hC
  obtain ⟨H, hH⟩ : ∃ H, H = s.heap := ⟨_, rfl⟩
  obtain ⟨locs, hlocs⟩ : ∃ L : List Loc, L = [] := ⟨_, rfl⟩
  rw [← hH, ← hlocs] at hI ⊢
  clear hH hlocs
  unfold p_X8_readCoast at hq
  replace hq := (h_me_eq hq).2
  refine lv_aload_n hx hb dX8_readCoast_0 rfl (lv_at hl 0 rfl) ?_
  refine lv_aload_n hx hb dX8_readCoast_1 rfl (lv_at hl 0 rfl) ?_
  obtain ⟨v1, ev1, hq⟩ := b_s hq
  refine gr_i (g_runV (As := []) (rest := [.ref a0]) (ci := 10) hC (c_X8_isCoastHere l V g D cT f n a0 v1 ev1) k_X8_isCoastHere m_2135 rfl rfl ⟨Nat.le_of_ble_eq_true rfl, Nat.le_of_ble_eq_true rfl⟩ hI rfl rfl (h_me_eq ev1).1 rfl hl.1 rfl (Nat.le_of_ble_eq_true rfl) dX8_readCoast_2 ⟨by decide, by decide⟩) hI (fun H locs hI => ?_)
  refine lv_iconst (v := (1 : Int32)) hx hb dX8_readCoast_5 (by decide) ?_
  obtain ⟨v2, ev2, hq⟩ := b_s hq
  refine gw_v (g_runV (As := [.int v1, .int (1 : Int32)]) (rest := []) (ci := 10) hC (c_X8_check l V g D cT f n a0 v1 (1 : Int32) v2 ev2) k_X8_check m_2113 rfl rfl ⟨Nat.le_of_ble_eq_true rfl, Nat.le_of_ble_eq_true rfl⟩ hI rfl rfl (h_me_eq ev2).1 rfl hl.1 rfl (Nat.le_of_ble_eq_true rfl) dX8_readCoast_6 ⟨by decide, by decide⟩) hI (fun H locs hI => ?_)
  refine lv_aload_n hx hb dX8_readCoast_9 rfl (lv_at hl 0 rfl) ?_
  refine lv_ldcS hx hb hown (g_rtx hI (i := 30) rfl) dX8_readCoast_10 ?_
  obtain ⟨v3, ev3, hq⟩ := b_s hq
  refine gr_i (g_runV (As := [.ref (V 26)]) (rest := []) (ci := 10) hC (c_X8_isWord l V g D cT v2 n a0 (V 26) v3 ev3) k_X8_isWord m_2107 rfl rfl ⟨Nat.le_of_ble_eq_true rfl, Nat.le_of_ble_eq_true rfl⟩ hI rfl rfl (h_me_eq ev3).1 rfl hl.1 rfl (Nat.le_of_ble_eq_true rfl) dX8_readCoast_12 ⟨by decide, by decide⟩) hI (fun H locs hI => ?_)
  refine lv_if_eq (tgt := 22) hx hb dX8_readCoast_15 (by decide) (fun c4 => ?_) (fun c4 => ?_)
  · replace hq := i_t c4 hq
    refine lv_iconst (v := (0 : Int32)) hx hb dX8_readCoast_22 (by decide) ?_
    refine lv_istore_n (lv' := [(1, .int (0 : Int32)), (0, .ref a0)]) hx hb dX8_readCoast_23 rfl hl (by decide) rfl (fun ls hl => ?_)
    refine lv_aload_n hx hb dX8_readCoast_24 rfl (lv_at hl 1 rfl) ?_
    obtain ⟨v5, ev5, hq⟩ := b_s hq
    refine gw_v (g_runV (As := []) (rest := []) (ci := 10) hC (c_X8_advance l V g D cT v2 n a0 v5 ev5) k_X8_advance m_2117 rfl rfl ⟨Nat.le_of_ble_eq_true rfl, Nat.le_of_ble_eq_true rfl⟩ hI rfl rfl (h_me_eq ev5).1 rfl hl.1 rfl (Nat.le_of_ble_eq_true rfl) dX8_readCoast_25 ⟨by decide, by decide⟩) hI (fun H locs hI => ?_)
    refine lv_aload_n hx hb dX8_readCoast_28 rfl (lv_at hl 1 rfl) ?_
    refine lv_iload_n hx hb dX8_readCoast_29 rfl (lv_at hl 0 rfl) ?_
    obtain ⟨v6, ev6, hq⟩ := b_s hq
    refine gw_v (g_runV (As := [.int (0 : Int32)]) (rest := []) (ci := 10) hC (c_X8_readPoints l V g D cT v5 n a0 (0 : Int32) v6 ev6) k_X8_readPoints m_2143 rfl rfl ⟨Nat.le_of_ble_eq_true rfl, Nat.le_of_ble_eq_true rfl⟩ hI rfl rfl (h_me_eq ev6).1 rfl hl.1 rfl (Nat.le_of_ble_eq_true rfl) dX8_readCoast_30 ⟨by decide, by decide⟩) hI (fun H locs hI => ?_)
    exact ge_Wv hx hb hlocks hr hI (Option.some.inj hq) dX8_readCoast_33
  · replace hq := i_f c4 hq
    refine lv_iconst (v := (1 : Int32)) hx hb dX8_readCoast_18 (by decide) ?_
    refine lv_goto (tgt := 23) hx hb dX8_readCoast_19 (by decide) ?_
    refine lv_istore_n (lv' := [(1, .int (1 : Int32)), (0, .ref a0)]) hx hb dX8_readCoast_23 rfl hl (by decide) rfl (fun ls hl => ?_)
    refine lv_aload_n hx hb dX8_readCoast_24 rfl (lv_at hl 1 rfl) ?_
    obtain ⟨v7, ev7, hq⟩ := b_s hq
    refine gw_v (g_runV (As := []) (rest := []) (ci := 10) hC (c_X8_advance l V g D cT v2 n a0 v7 ev7) k_X8_advance m_2117 rfl rfl ⟨Nat.le_of_ble_eq_true rfl, Nat.le_of_ble_eq_true rfl⟩ hI rfl rfl (h_me_eq ev7).1 rfl hl.1 rfl (Nat.le_of_ble_eq_true rfl) dX8_readCoast_25 ⟨by decide, by decide⟩) hI (fun H locs hI => ?_)
    refine lv_aload_n hx hb dX8_readCoast_28 rfl (lv_at hl 1 rfl) ?_
    refine lv_iload_n hx hb dX8_readCoast_29 rfl (lv_at hl 0 rfl) ?_
    obtain ⟨v8, ev8, hq⟩ := b_s hq
    refine gw_v (g_runV (As := [.int (1 : Int32)]) (rest := []) (ci := 10) hC (c_X8_readPoints l V g D cT v7 n a0 (1 : Int32) v8 ev8) k_X8_readPoints m_2143 rfl rfl ⟨Nat.le_of_ble_eq_true rfl, Nat.le_of_ble_eq_true rfl⟩ hI rfl rfl (h_me_eq ev8).1 rfl hl.1 rfl (Nat.le_of_ble_eq_true rfl) dX8_readCoast_30 ⟨by decide, by decide⟩) hI (fun H locs hI => ?_)
    exact ge_Wv hx hb hlocks hr hI (Option.some.inj hq) dX8_readCoast_33

def p_X8_readMetric (V : Nat → Nat) (g f : GH) (a0 : Nat) : Option (Int32 × GH) :=
  h_me f a0 10 <|
  (p_X8_isWord V g f a0 (V 24)).bind fun v1 =>
  (if v1 = (0 : Int32) then
    (p_X8_isWord V g f a0 (V 25)).bind fun v6 =>
    (if v6 = (0 : Int32) then
      (p_X8_check V g f a0 (0 : Int32) (1 : Int32)).bind fun v8 =>
      (p_X8_advance V g v8 a0).bind fun v9 =>
      (h_bz v1).bind fun _ =>
      some (v1, v9)
    else
      (p_X8_check V g f a0 (1 : Int32) (1 : Int32)).bind fun v11 =>
      (p_X8_advance V g v11 a0).bind fun v12 =>
      (h_bz v1).bind fun _ =>
      some (v1, v12))
  else
    (p_X8_check V g f a0 (1 : Int32) (1 : Int32)).bind fun v3 =>
    (p_X8_advance V g v3 a0).bind fun v4 =>
    (h_bz v1).bind fun _ =>
    some (v1, v4))
abbrev rm_X8_readMetric : Room := { frames := 7, cells := 0, slots := 0, locals := 228 }
theorem k_X8_readMetric : g_CV yX8_readMetric cX8_readMetric 2 (some .boolean) 0 := ⟨⟨m_2124, m_14, by decide +kernel⟩, m_2123, ms_84⟩
set_option maxHeartbeats 4000000 in
set_option maxRecDepth 100000 in
theorem c_X8_readMetric (l : Launch) (V : Nat → Nat) (g : GH) (D : va_G) (cT : Nat → ClassId) (f : GH) (n : Nat) (a0 : Nat) (o : Int32 × GH) (hq : p_X8_readMetric V g f a0 = some o) : Met l yX8_readMetric (Cond.code yX8_readMetric cX8_readMetric 2 (some .boolean) :: g_B) rm_X8_readMetric (va_Pc [.ref a0] (g_I V g D cT f n)) (g_Wi V D cT o.1 o.2 n) 0 0 (g_A V) := by
  refine g_begin (own := RX8) [.ref a0] [(0, .ref a0)] (g_A V) (fun _ h => h) (by decide) rfl (Nat.le_of_ble_eq_true rfl) rfl ?_
  intro p e s m args below meth c hx hb hr hlocks hin hC hI ls hl
  obtain ⟨hx, hb, hml, hown, hB⟩ := id hC
  obtain ⟨H, hH⟩ : ∃ H, H = s.heap := ⟨_, rfl⟩
  obtain ⟨locs, hlocs⟩ : ∃ L : List Loc, L = [] := ⟨_, rfl⟩
  rw [← hH, ← hlocs] at hI ⊢
  clear hH hlocs
  unfold p_X8_readMetric at hq
  replace hq := (h_me_eq hq).2
  refine lv_aload_n hx hb dX8_readMetric_0 rfl (lv_at hl 0 rfl) ?_
  refine lv_ldcSw hx hb hown (g_rtx hI (i := 32) rfl) dX8_readMetric_1 ?_
  obtain ⟨v1, ev1, hq⟩ := b_s hq
  refine gr_i (g_runV (As := [.ref (V 24)]) (rest := []) (ci := 10) hC (c_X8_isWord l V g D cT f n a0 (V 24) v1 ev1) k_X8_isWord m_2107 rfl rfl ⟨Nat.le_of_ble_eq_true rfl, Nat.le_of_ble_eq_true rfl⟩ hI rfl rfl (h_me_eq ev1).1 rfl hl.1 rfl (Nat.le_of_ble_eq_true rfl) dX8_readMetric_4 ⟨by decide, by decide⟩) hI (fun H locs hI => ?_)
  refine lv_istore_n (lv' := [(1, .int v1), (0, .ref a0)]) hx hb dX8_readMetric_7 rfl hl (by decide) rfl (fun ls hl => ?_)
  refine lv_aload_n hx hb dX8_readMetric_8 rfl (lv_at hl 1 rfl) ?_
  refine lv_iload_n hx hb dX8_readMetric_9 rfl (lv_at hl 0 rfl) ?_
  refine lv_if_ne (tgt := 23) hx hb dX8_readMetric_10 (by decide) (fun c2 => ?_) (fun c2 => ?_)
  · replace hq := i_f c2 hq
    refine lv_iconst (v := (1 : Int32)) hx hb dX8_readMetric_23 (by decide) ?_
    refine lv_goto (tgt := 28) hx hb dX8_readMetric_24 (by decide) ?_
    refine lv_iconst (v := (1 : Int32)) hx hb dX8_readMetric_28 (by decide) ?_
    obtain ⟨v3, ev3, hq⟩ := b_s hq
    refine gw_v (g_runV (As := [.int (1 : Int32), .int (1 : Int32)]) (rest := []) (ci := 10) hC (c_X8_check l V g D cT f n a0 (1 : Int32) (1 : Int32) v3 ev3) k_X8_check m_2113 rfl rfl ⟨Nat.le_of_ble_eq_true rfl, Nat.le_of_ble_eq_true rfl⟩ hI rfl rfl (h_me_eq ev3).1 rfl hl.1 rfl (Nat.le_of_ble_eq_true rfl) dX8_readMetric_29 ⟨by decide, by decide⟩) hI (fun H locs hI => ?_)
    refine lv_aload_n hx hb dX8_readMetric_32 rfl (lv_at hl 1 rfl) ?_
    obtain ⟨v4, ev4, hq⟩ := b_s hq
    refine gw_v (g_runV (As := []) (rest := []) (ci := 10) hC (c_X8_advance l V g D cT v3 n a0 v4 ev4) k_X8_advance m_2117 rfl rfl ⟨Nat.le_of_ble_eq_true rfl, Nat.le_of_ble_eq_true rfl⟩ hI rfl rfl (h_me_eq ev4).1 rfl hl.1 rfl (Nat.le_of_ble_eq_true rfl) dX8_readMetric_33 ⟨by decide, by decide⟩) hI (fun H locs hI => ?_)
    refine lv_iload_n hx hb dX8_readMetric_36 rfl (lv_at hl 0 rfl) ?_
    obtain ⟨_, ev5, hq⟩ := b_s hq
    exact ge_Wi hx hb hlocks hr (h_bz_eq ev5).2.1 hI (congrArg (fun z => z.1) (Option.some.inj hq)) (congrArg (fun z => z.2) (Option.some.inj hq)) dX8_readMetric_37
  · replace hq := i_t c2 hq
    refine lv_aload_n hx hb dX8_readMetric_13 rfl (lv_at hl 1 rfl) ?_
    refine lv_ldcSw hx hb hown (g_rtx hI (i := 33) rfl) dX8_readMetric_14 ?_
    obtain ⟨v6, ev6, hq⟩ := b_s hq
    refine gr_i (g_runV (As := [.ref (V 25)]) (rest := [.ref a0]) (ci := 10) hC (c_X8_isWord l V g D cT f n a0 (V 25) v6 ev6) k_X8_isWord m_2107 rfl rfl ⟨Nat.le_of_ble_eq_true rfl, Nat.le_of_ble_eq_true rfl⟩ hI rfl rfl (h_me_eq ev6).1 rfl hl.1 rfl (Nat.le_of_ble_eq_true rfl) dX8_readMetric_17 ⟨by decide, by decide⟩) hI (fun H locs hI => ?_)
    refine lv_if_eq (tgt := 27) hx hb dX8_readMetric_20 (by decide) (fun c7 => ?_) (fun c7 => ?_)
    · replace hq := i_t c7 hq
      refine lv_iconst (v := (0 : Int32)) hx hb dX8_readMetric_27 (by decide) ?_
      refine lv_iconst (v := (1 : Int32)) hx hb dX8_readMetric_28 (by decide) ?_
      obtain ⟨v8, ev8, hq⟩ := b_s hq
      refine gw_v (g_runV (As := [.int (0 : Int32), .int (1 : Int32)]) (rest := []) (ci := 10) hC (c_X8_check l V g D cT f n a0 (0 : Int32) (1 : Int32) v8 ev8) k_X8_check m_2113 rfl rfl ⟨Nat.le_of_ble_eq_true rfl, Nat.le_of_ble_eq_true rfl⟩ hI rfl rfl (h_me_eq ev8).1 rfl hl.1 rfl (Nat.le_of_ble_eq_true rfl) dX8_readMetric_29 ⟨by decide, by decide⟩) hI (fun H locs hI => ?_)
      refine lv_aload_n hx hb dX8_readMetric_32 rfl (lv_at hl 1 rfl) ?_
      obtain ⟨v9, ev9, hq⟩ := b_s hq
      refine gw_v (g_runV (As := []) (rest := []) (ci := 10) hC (c_X8_advance l V g D cT v8 n a0 v9 ev9) k_X8_advance m_2117 rfl rfl ⟨Nat.le_of_ble_eq_true rfl, Nat.le_of_ble_eq_true rfl⟩ hI rfl rfl (h_me_eq ev9).1 rfl hl.1 rfl (Nat.le_of_ble_eq_true rfl) dX8_readMetric_33 ⟨by decide, by decide⟩) hI (fun H locs hI => ?_)
      refine lv_iload_n hx hb dX8_readMetric_36 rfl (lv_at hl 0 rfl) ?_
      obtain ⟨_, ev10, hq⟩ := b_s hq
      exact ge_Wi hx hb hlocks hr (h_bz_eq ev10).2.1 hI (congrArg (fun z => z.1) (Option.some.inj hq)) (congrArg (fun z => z.2) (Option.some.inj hq)) dX8_readMetric_37
    · replace hq := i_f c7 hq
      refine lv_iconst (v := (1 : Int32)) hx hb dX8_readMetric_23 (by decide) ?_
      refine lv_goto (tgt := 28) hx hb dX8_readMetric_24 (by decide) ?_
      refine lv_iconst (v := (1 : Int32)) hx hb dX8_readMetric_28 (by decide) ?_
      obtain ⟨v11, ev11, hq⟩ := b_s hq
      refine gw_v (g_runV (As := [.int (1 : Int32), .int (1 : Int32)]) (rest := []) (ci := 10) hC (c_X8_check l V g D cT f n a0 (1 : Int32) (1 : Int32) v11 ev11) k_X8_check m_2113 rfl rfl ⟨Nat.le_of_ble_eq_true rfl, Nat.le_of_ble_eq_true rfl⟩ hI rfl rfl (h_me_eq ev11).1 rfl hl.1 rfl (Nat.le_of_ble_eq_true rfl) dX8_readMetric_29 ⟨by decide, by decide⟩) hI (fun H locs hI => ?_)
      refine lv_aload_n hx hb dX8_readMetric_32 rfl (lv_at hl 1 rfl) ?_
      obtain ⟨v12, ev12, hq⟩ := b_s hq
      refine gw_v (g_runV (As := []) (rest := []) (ci := 10) hC (c_X8_advance l V g D cT v11 n a0 v12 ev12) k_X8_advance m_2117 rfl rfl ⟨Nat.le_of_ble_eq_true rfl, Nat.le_of_ble_eq_true rfl⟩ hI rfl rfl (h_me_eq ev12).1 rfl hl.1 rfl (Nat.le_of_ble_eq_true rfl) dX8_readMetric_33 ⟨by decide, by decide⟩) hI (fun H locs hI => ?_)
      refine lv_iload_n hx hb dX8_readMetric_36 rfl (lv_at hl 0 rfl) ?_
      obtain ⟨_, ev13, hq⟩ := b_s hq
      exact ge_Wi hx hb hlocks hr (h_bz_eq ev13).2.1 hI (congrArg (fun z => z.1) (Option.some.inj hq)) (congrArg (fun z => z.2) (Option.some.inj hq)) dX8_readMetric_37

def p_X8_readMap_j86 (V : Nat → Nat) (g : GH) (K39 : Nat → GH → Option GH) (x0 : Nat) (t0 : Int32) (t1 : Nat) (f : GH) : Option GH :=
  (p_X8_check V g f t1 t0 (3 : Int32)).bind fun v16 =>
  (h_gi v16 x0 10 18).bind fun v17 =>
  (if v17 = (0 : Int32) then
    (p_X8_readCoast V g v16 x0).bind fun v22 =>
    (p_X8_expect V g v22 x0 (59 : Int32)).bind fun v23 =>
    (h_gi v23 x0 10 18).bind fun v24 =>
    (if v24 = (0 : Int32) then
      (p_X8_layTold V g v23 x0).bind fun v26 =>
      K39 x0 v26
    else
      K39 x0 v23)
  else
    (h_gi v16 x0 10 18).bind fun v19 =>
    (if v19 = (0 : Int32) then
      (p_X8_layTold V g v16 x0).bind fun v21 =>
      K39 x0 v21
    else
      K39 x0 v16))
def p_X8_readMap_j81 (V : Nat → Nat) (g : GH) (K86 : Nat → Int32 → Nat → GH → Option GH) (x0 : Nat) (t0 : Nat) (f : GH) : Option GH :=
  K86 x0 (1 : Int32) t0 f
def p_X8_readMap_l39 (V : Nat → Nat) (g : GH) (K121 : GH → Option GH) : Nat → Nat → GH → Option GH
  | 0, _, _ => none
  | N + 1, x0, f =>
    (h_gi f x0 10 18).bind fun v9 =>
    (if v9 = (0 : Int32) then
      (h_gi f x0 10 17).bind fun v11 =>
      (if v11 = (0 : Int32) then
        K121 f
      else
        (p_X8_isCoastHere V g f x0).bind fun v13 =>
        (p_X8_check V g f x0 v13 (1 : Int32)).bind fun v14 =>
        (h_gi v14 x0 10 18).bind fun v15 =>
        (if v15 = (0 : Int32) then
          (h_gr v14 x0 10 5).bind fun v28 =>
          (h_li v14 v28 0 (1 : Int32)).bind fun v29 =>
          (if (6 : Int32) ≤ v29 then
            p_X8_readMap_j86 V g (p_X8_readMap_l39 V g K121 N) x0 (0 : Int32) x0 v14
          else
            p_X8_readMap_j81 V g (p_X8_readMap_j86 V g (p_X8_readMap_l39 V g K121 N)) x0 x0 v14)
        else
          p_X8_readMap_j81 V g (p_X8_readMap_j86 V g (p_X8_readMap_l39 V g K121 N)) x0 x0 v14))
    else
      K121 f)
def p_X8_readMap (V : Nat → Nat) (g f : GH) (a0 : Nat) : Option GH :=
  h_me f a0 10 <|
  (p_X8_isWord V g f a0 (V 23)).bind fun v1 =>
  (p_X8_check V g f a0 v1 (1 : Int32)).bind fun v2 =>
  (p_X8_advance V g v2 a0).bind fun v3 =>
  (p_X8_readMetric V g v3 a0).bind fun v4 =>
  (p_X8_expect V g v4.2 a0 (59 : Int32)).bind fun v5 =>
  (h_gr v5 a0 10 5).bind fun v6 =>
  (h_si v5 v6 0 (1 : Int32) (0 : Int32)).bind fun f7 =>
  (p_X8_setMetric V g f7 a0 v4.1).bind fun v8 =>
  p_X8_readMap_l39 V g (fun f =>
    some f) FU a0 v8
abbrev rm_X8_readMap : Room := { frames := 11, cells := 0, slots := 0, locals := 312 }
theorem k_X8_readMap : g_CV yX8_readMap cX8_readMap 2 none 0 := ⟨⟨m_2105, m_14, by decide +kernel⟩, m_2104, ms_80⟩
set_option maxHeartbeats 4000000 in
set_option maxRecDepth 100000 in
theorem c_X8_readMap (l : Launch) (V : Nat → Nat) (g : GH) (D : va_G) (cT : Nat → ClassId) (f : GH) (n : Nat) (a0 : Nat) (o : GH) (hq : p_X8_readMap V g f a0 = some o) : Met l yX8_readMap (Cond.code yX8_readMap cX8_readMap 2 none :: g_B) rm_X8_readMap (va_Pc [.ref a0] (g_I V g D cT f n)) (g_Wv V D cT o n) 0 0 (g_A V) := by
  refine g_begin (own := RX8) [.ref a0] [(0, .ref a0)] (g_A V) (fun _ h => h) (by decide) rfl (Nat.le_of_ble_eq_true rfl) rfl ?_
  intro p e s m args below meth c hx hb hr hlocks hin hC hI ls hl
  obtain ⟨hx, hb, hml, hown, hB⟩ := id hC
  obtain ⟨H, hH⟩ : ∃ H, H = s.heap := ⟨_, rfl⟩
  obtain ⟨locs, hlocs⟩ : ∃ L : List Loc, L = [] := ⟨_, rfl⟩
  rw [← hH, ← hlocs] at hI ⊢
  clear hH hlocs
  unfold p_X8_readMap at hq
  replace hq := (h_me_eq hq).2
  refine lv_aload_n hx hb dX8_readMap_0 rfl (lv_at hl 0 rfl) ?_
  refine lv_aload_n hx hb dX8_readMap_1 rfl (lv_at hl 0 rfl) ?_
  refine lv_ldcSw hx hb hown (g_rtx hI (i := 31) rfl) dX8_readMap_2 ?_
  obtain ⟨v1, ev1, hq⟩ := b_s hq
  refine gr_i (g_runV (As := [.ref (V 23)]) (rest := [.ref a0]) (ci := 10) hC (c_X8_isWord l V g D cT f n a0 (V 23) v1 ev1) k_X8_isWord m_2107 rfl rfl ⟨Nat.le_of_ble_eq_true rfl, Nat.le_of_ble_eq_true rfl⟩ hI rfl rfl (h_me_eq ev1).1 rfl hl.1 rfl (Nat.le_of_ble_eq_true rfl) dX8_readMap_5 ⟨by decide, by decide⟩) hI (fun H locs hI => ?_)
  refine lv_iconst (v := (1 : Int32)) hx hb dX8_readMap_8 (by decide) ?_
  obtain ⟨v2, ev2, hq⟩ := b_s hq
  refine gw_v (g_runV (As := [.int v1, .int (1 : Int32)]) (rest := []) (ci := 10) hC (c_X8_check l V g D cT f n a0 v1 (1 : Int32) v2 ev2) k_X8_check m_2113 rfl rfl ⟨Nat.le_of_ble_eq_true rfl, Nat.le_of_ble_eq_true rfl⟩ hI rfl rfl (h_me_eq ev2).1 rfl hl.1 rfl (Nat.le_of_ble_eq_true rfl) dX8_readMap_9 ⟨by decide, by decide⟩) hI (fun H locs hI => ?_)
  refine lv_aload_n hx hb dX8_readMap_12 rfl (lv_at hl 0 rfl) ?_
  obtain ⟨v3, ev3, hq⟩ := b_s hq
  refine gw_v (g_runV (As := []) (rest := []) (ci := 10) hC (c_X8_advance l V g D cT v2 n a0 v3 ev3) k_X8_advance m_2117 rfl rfl ⟨Nat.le_of_ble_eq_true rfl, Nat.le_of_ble_eq_true rfl⟩ hI rfl rfl (h_me_eq ev3).1 rfl hl.1 rfl (Nat.le_of_ble_eq_true rfl) dX8_readMap_13 ⟨by decide, by decide⟩) hI (fun H locs hI => ?_)
  refine lv_aload_n hx hb dX8_readMap_16 rfl (lv_at hl 0 rfl) ?_
  obtain ⟨v4, ev4, hq⟩ := b_s hq
  refine gw_i (g_runV (As := []) (rest := []) (ci := 10) hC (c_X8_readMetric l V g D cT v3 n a0 v4 ev4) k_X8_readMetric m_2121 rfl rfl ⟨Nat.le_of_ble_eq_true rfl, Nat.le_of_ble_eq_true rfl⟩ hI rfl rfl (h_me_eq ev4).1 rfl hl.1 rfl (Nat.le_of_ble_eq_true rfl) dX8_readMap_17 ⟨by decide, by decide⟩) hI (fun H locs hI => ?_)
  refine lv_istore_n (lv' := [(1, .int v4.1), (0, .ref a0)]) hx hb dX8_readMap_20 rfl hl (by decide) rfl (fun ls hl => ?_)
  refine lv_aload_n hx hb dX8_readMap_21 rfl (lv_at hl 1 rfl) ?_
  refine lv_bipush (v := (59 : Int32)) hx hb dX8_readMap_22 (by decide) ?_
  obtain ⟨v5, ev5, hq⟩ := b_s hq
  refine gw_v (g_runV (As := [.int (59 : Int32)]) (rest := []) (ci := 10) hC (c_X8_expect l V g D cT v4.2 n a0 (59 : Int32) v5 ev5) k_X8_expect m_2127 rfl rfl ⟨Nat.le_of_ble_eq_true rfl, Nat.le_of_ble_eq_true rfl⟩ hI rfl rfl (h_me_eq ev5).1 rfl hl.1 rfl (Nat.le_of_ble_eq_true rfl) dX8_readMap_24 ⟨by decide, by decide⟩) hI (fun H locs hI => ?_)
  refine lv_aload_n hx hb dX8_readMap_27 rfl (lv_at hl 1 rfl) ?_
  obtain ⟨v6, ev6, hq⟩ := b_s hq
  refine fa_gr (own := RX8) (ref := "CoastlineRulerModel") (k := 5) hx hb hB inB_RX8 hown hI rfl (by decide) m_1536 (fun _ h9 => h9) ev6 dX8_readMap_28 ?_
  refine lv_iconst (v := (1 : Int32)) hx hb dX8_readMap_31 (by decide) ?_
  refine lv_iconst (v := (0 : Int32)) hx hb dX8_readMap_32 (by decide) ?_
  obtain ⟨f7, ef7, hq⟩ := b_s hq
  refine fa_si hx hb hI ef7 dX8_readMap_33 (fun H locs hI => ?_)
  refine lv_aload_n hx hb dX8_readMap_34 rfl (lv_at hl 1 rfl) ?_
  refine lv_iload_n hx hb dX8_readMap_35 rfl (lv_at hl 0 rfl) ?_
  obtain ⟨v8, ev8, hq⟩ := b_s hq
  refine gw_v (g_runV (As := [.int v4.1]) (rest := []) (ci := 10) hC (c_X8_setMetric l V g D cT f7 n a0 v4.1 v8 ev8) k_X8_setMetric m_2022 rfl rfl ⟨Nat.le_of_ble_eq_true rfl, Nat.le_of_ble_eq_true rfl⟩ hI rfl rfl (h_me_eq ev8).1 rfl hl.1 rfl (Nat.le_of_ble_eq_true rfl) dX8_readMap_36 ⟨by decide, by decide⟩) hI (fun H locs hI => ?_)
  have hl39 : ∀ (K121 : GH → Option GH) (hK121 : ∀ (f : GH) (H : Heap) (locs : List Loc) (ls : Array Slot), g_at (g_A V) V g D cT f n s H locs → lv_has ls 2 [] → K121 f = some o → W p l e rm_X8_readMap s m args below meth c H locs 0 0 (MQ below (g_Wv V D cT o n) args s 0 0 (g_A V)) (F0 m 121 ls [])) (N : Nat) (x0 : Nat) (f : GH) (H : Heap) (locs : List Loc) (ls : Array Slot), g_at (g_A V) V g D cT f n s H locs → lv_has ls 2 [(0, .ref x0)] → p_X8_readMap_l39 V g K121 N x0 f = some o → W p l e rm_X8_readMap s m args below meth c H locs 0 0 (MQ below (g_Wv V D cT o n) args s 0 0 (g_A V)) (F0 m 39 ls []) := by
    intro K121 hK121 N
    induction N with
    | zero =>
      intro x0 f H locs ls hI hl hq
      rw [p_X8_readMap_l39] at hq
      cases hq
    | succ N ih =>
      intro x0 f H locs ls hI hl hq
      rw [p_X8_readMap_l39] at hq
      refine lv_aload_n hx hb dX8_readMap_39 rfl (lv_at hl 0 rfl) ?_
      obtain ⟨v9, ev9, hq⟩ := b_s hq
      refine fa_gi (own := RX8) (ref := "CoastlineRulerModel") (k := 18) hx hb hB inB_RX8 hown hI rfl (by decide) m_1549 (fun _ h9 => h9) ev9 dX8_readMap_40 ?_
      refine lv_if_ne (tgt := 121) hx hb dX8_readMap_43 (by decide) (fun c10 => ?_) (fun c10 => ?_)
      · replace hq := i_f c10 hq
        exact hK121 f H locs ls hI (lv_sub hl [] rfl) hq
      · replace hq := i_t c10 hq
        refine lv_aload_n hx hb dX8_readMap_46 rfl (lv_at hl 0 rfl) ?_
        obtain ⟨v11, ev11, hq⟩ := b_s hq
        refine fa_gi (own := RX8) (ref := "CoastlineRulerModel") (k := 17) hx hb hB inB_RX8 hown hI rfl (by decide) m_1548 (fun _ h9 => h9) ev11 dX8_readMap_47 ?_
        refine lv_if_eq (tgt := 121) hx hb dX8_readMap_50 (by decide) (fun c12 => ?_) (fun c12 => ?_)
        · replace hq := i_t c12 hq
          exact hK121 f H locs ls hI (lv_sub hl [] rfl) hq
        · replace hq := i_f c12 hq
          refine lv_aload_n hx hb dX8_readMap_53 rfl (lv_at hl 0 rfl) ?_
          refine lv_aload_n hx hb dX8_readMap_54 rfl (lv_at hl 0 rfl) ?_
          obtain ⟨v13, ev13, hq⟩ := b_s hq
          refine gr_i (g_runV (As := []) (rest := [.ref x0]) (ci := 10) hC (c_X8_isCoastHere l V g D cT f n x0 v13 ev13) k_X8_isCoastHere m_2135 rfl rfl ⟨Nat.le_of_ble_eq_true rfl, Nat.le_of_ble_eq_true rfl⟩ hI rfl rfl (h_me_eq ev13).1 rfl hl.1 rfl (Nat.le_of_ble_eq_true rfl) dX8_readMap_55 ⟨by decide, by decide⟩) hI (fun H locs hI => ?_)
          refine lv_iconst (v := (1 : Int32)) hx hb dX8_readMap_58 (by decide) ?_
          obtain ⟨v14, ev14, hq⟩ := b_s hq
          refine gw_v (g_runV (As := [.int v13, .int (1 : Int32)]) (rest := []) (ci := 10) hC (c_X8_check l V g D cT f n x0 v13 (1 : Int32) v14 ev14) k_X8_check m_2113 rfl rfl ⟨Nat.le_of_ble_eq_true rfl, Nat.le_of_ble_eq_true rfl⟩ hI rfl rfl (h_me_eq ev14).1 rfl hl.1 rfl (Nat.le_of_ble_eq_true rfl) dX8_readMap_59 ⟨by decide, by decide⟩) hI (fun H locs hI => ?_)
          refine lv_aload_n hx hb dX8_readMap_62 rfl (lv_at hl 0 rfl) ?_
          refine lv_aload_n hx hb dX8_readMap_63 rfl (lv_at hl 0 rfl) ?_
          obtain ⟨v15, ev15, hq⟩ := b_s hq
          refine fa_gi (own := RX8) (ref := "CoastlineRulerModel") (k := 18) hx hb hB inB_RX8 hown hI rfl (by decide) m_1549 (fun _ h9 => h9) ev15 dX8_readMap_64 ?_
          have hj86 : ∀ (x0 : Nat) (t0 : Int32) (t1 : Nat) (f : GH) (H : Heap) (locs : List Loc) (ls : Array Slot), g_at (g_A V) V g D cT f n s H locs → lv_has ls 2 [(0, .ref x0)] → p_X8_readMap_j86 V g (p_X8_readMap_l39 V g K121 N) x0 t0 t1 f = some o → W p l e rm_X8_readMap s m args below meth c H locs 0 0 (MQ below (g_Wv V D cT o n) args s 0 0 (g_A V)) (F0 m 86 ls [.int t0, .ref t1]) := by
            intro x0 t0 t1 f H locs ls hI hl hq
            unfold p_X8_readMap_j86 at hq
            refine lv_iconst (v := (3 : Int32)) hx hb dX8_readMap_86 (by decide) ?_
            obtain ⟨v16, ev16, hq⟩ := b_s hq
            refine gw_v (g_runV (As := [.int t0, .int (3 : Int32)]) (rest := []) (ci := 10) hC (c_X8_check l V g D cT f n t1 t0 (3 : Int32) v16 ev16) k_X8_check m_2113 rfl rfl ⟨Nat.le_of_ble_eq_true rfl, Nat.le_of_ble_eq_true rfl⟩ hI rfl rfl (h_me_eq ev16).1 rfl hl.1 rfl (Nat.le_of_ble_eq_true rfl) dX8_readMap_87 ⟨by decide, by decide⟩) hI (fun H locs hI => ?_)
            refine lv_aload_n hx hb dX8_readMap_90 rfl (lv_at hl 0 rfl) ?_
            obtain ⟨v17, ev17, hq⟩ := b_s hq
            refine fa_gi (own := RX8) (ref := "CoastlineRulerModel") (k := 18) hx hb hB inB_RX8 hown hI rfl (by decide) m_1549 (fun _ h9 => h9) ev17 dX8_readMap_91 ?_
            refine lv_if_ne (tgt := 107) hx hb dX8_readMap_94 (by decide) (fun c18 => ?_) (fun c18 => ?_)
            · replace hq := i_f c18 hq
              refine lv_aload_n hx hb dX8_readMap_107 rfl (lv_at hl 0 rfl) ?_
              obtain ⟨v19, ev19, hq⟩ := b_s hq
              refine fa_gi (own := RX8) (ref := "CoastlineRulerModel") (k := 18) hx hb hB inB_RX8 hown hI rfl (by decide) m_1549 (fun _ h9 => h9) ev19 dX8_readMap_108 ?_
              refine lv_if_ne (tgt := 39) hx hb dX8_readMap_111 (by decide) (fun c20 => ?_) (fun c20 => ?_)
              · replace hq := i_f c20 hq
                exact ih x0 v16 H locs ls hI (lv_sub hl [0] rfl) hq
              · replace hq := i_t c20 hq
                refine lv_aload_n hx hb dX8_readMap_114 rfl (lv_at hl 0 rfl) ?_
                obtain ⟨v21, ev21, hq⟩ := b_s hq
                refine gw_v (g_runV (As := []) (rest := []) (ci := 10) hC (c_X8_layTold l V g D cT v16 n x0 v21 ev21) k_X8_layTold m_1511 rfl rfl ⟨Nat.le_of_ble_eq_true rfl, Nat.le_of_ble_eq_true rfl⟩ hI rfl rfl (h_me_eq ev21).1 rfl hl.1 rfl (Nat.le_of_ble_eq_true rfl) dX8_readMap_115 ⟨by decide, by decide⟩) hI (fun H locs hI => ?_)
                refine lv_goto (tgt := 39) hx hb dX8_readMap_118 (by decide) ?_
                exact ih x0 v21 H locs ls hI (lv_sub hl [0] rfl) hq
            · replace hq := i_t c18 hq
              refine lv_aload_n hx hb dX8_readMap_97 rfl (lv_at hl 0 rfl) ?_
              obtain ⟨v22, ev22, hq⟩ := b_s hq
              refine gw_v (g_runV (As := []) (rest := []) (ci := 10) hC (c_X8_readCoast l V g D cT v16 n x0 v22 ev22) k_X8_readCoast m_2139 rfl rfl ⟨Nat.le_of_ble_eq_true rfl, Nat.le_of_ble_eq_true rfl⟩ hI rfl rfl (h_me_eq ev22).1 rfl hl.1 rfl (Nat.le_of_ble_eq_true rfl) dX8_readMap_98 ⟨by decide, by decide⟩) hI (fun H locs hI => ?_)
              refine lv_aload_n hx hb dX8_readMap_101 rfl (lv_at hl 0 rfl) ?_
              refine lv_bipush (v := (59 : Int32)) hx hb dX8_readMap_102 (by decide) ?_
              obtain ⟨v23, ev23, hq⟩ := b_s hq
              refine gw_v (g_runV (As := [.int (59 : Int32)]) (rest := []) (ci := 10) hC (c_X8_expect l V g D cT v22 n x0 (59 : Int32) v23 ev23) k_X8_expect m_2127 rfl rfl ⟨Nat.le_of_ble_eq_true rfl, Nat.le_of_ble_eq_true rfl⟩ hI rfl rfl (h_me_eq ev23).1 rfl hl.1 rfl (Nat.le_of_ble_eq_true rfl) dX8_readMap_104 ⟨by decide, by decide⟩) hI (fun H locs hI => ?_)
              refine lv_aload_n hx hb dX8_readMap_107 rfl (lv_at hl 0 rfl) ?_
              obtain ⟨v24, ev24, hq⟩ := b_s hq
              refine fa_gi (own := RX8) (ref := "CoastlineRulerModel") (k := 18) hx hb hB inB_RX8 hown hI rfl (by decide) m_1549 (fun _ h9 => h9) ev24 dX8_readMap_108 ?_
              refine lv_if_ne (tgt := 39) hx hb dX8_readMap_111 (by decide) (fun c25 => ?_) (fun c25 => ?_)
              · replace hq := i_f c25 hq
                exact ih x0 v23 H locs ls hI (lv_sub hl [0] rfl) hq
              · replace hq := i_t c25 hq
                refine lv_aload_n hx hb dX8_readMap_114 rfl (lv_at hl 0 rfl) ?_
                obtain ⟨v26, ev26, hq⟩ := b_s hq
                refine gw_v (g_runV (As := []) (rest := []) (ci := 10) hC (c_X8_layTold l V g D cT v23 n x0 v26 ev26) k_X8_layTold m_1511 rfl rfl ⟨Nat.le_of_ble_eq_true rfl, Nat.le_of_ble_eq_true rfl⟩ hI rfl rfl (h_me_eq ev26).1 rfl hl.1 rfl (Nat.le_of_ble_eq_true rfl) dX8_readMap_115 ⟨by decide, by decide⟩) hI (fun H locs hI => ?_)
                refine lv_goto (tgt := 39) hx hb dX8_readMap_118 (by decide) ?_
                exact ih x0 v26 H locs ls hI (lv_sub hl [0] rfl) hq
          have hj81 : ∀ (x0 : Nat) (t0 : Nat) (f : GH) (H : Heap) (locs : List Loc) (ls : Array Slot), g_at (g_A V) V g D cT f n s H locs → lv_has ls 2 [(0, .ref x0)] → p_X8_readMap_j81 V g (p_X8_readMap_j86 V g (p_X8_readMap_l39 V g K121 N)) x0 t0 f = some o → W p l e rm_X8_readMap s m args below meth c H locs 0 0 (MQ below (g_Wv V D cT o n) args s 0 0 (g_A V)) (F0 m 81 ls [.ref t0]) := by
            intro x0 t0 f H locs ls hI hl hq
            unfold p_X8_readMap_j81 at hq
            refine lv_iconst (v := (1 : Int32)) hx hb dX8_readMap_81 (by decide) ?_
            refine lv_goto (tgt := 86) hx hb dX8_readMap_82 (by decide) ?_
            exact hj86 x0 (1 : Int32) t0 f H locs ls hI (lv_sub hl [0] rfl) hq
          refine lv_if_ne (tgt := 81) hx hb dX8_readMap_67 (by decide) (fun c27 => ?_) (fun c27 => ?_)
          · replace hq := i_f c27 hq
            exact hj81 x0 x0 v14 H locs ls hI (lv_sub hl [0] rfl) hq
          · replace hq := i_t c27 hq
            refine lv_aload_n hx hb dX8_readMap_70 rfl (lv_at hl 0 rfl) ?_
            obtain ⟨v28, ev28, hq⟩ := b_s hq
            refine fa_gr (own := RX8) (ref := "CoastlineRulerModel") (k := 5) hx hb hB inB_RX8 hown hI rfl (by decide) m_1536 (fun _ h9 => h9) ev28 dX8_readMap_71 ?_
            refine lv_iconst (v := (1 : Int32)) hx hb dX8_readMap_74 (by decide) ?_
            obtain ⟨v29, ev29, hq⟩ := b_s hq
            refine fa_li hx hb hI ev29 dX8_readMap_75 ?_
            refine lv_bipush (v := (6 : Int32)) hx hb dX8_readMap_76 (by decide) ?_
            refine lv_icmp_ge (tgt := 85) hx hb dX8_readMap_78 (by decide) (fun c30 => ?_) (fun c30 => ?_)
            · replace hq := i_t c30 hq
              refine lv_iconst (v := (0 : Int32)) hx hb dX8_readMap_85 (by decide) ?_
              exact hj86 x0 (0 : Int32) x0 v14 H locs ls hI (lv_sub hl [0] rfl) hq
            · replace hq := i_f c30 hq
              exact hj81 x0 x0 v14 H locs ls hI (lv_sub hl [0] rfl) hq
  refine hl39 _ ?_ FU a0 v8 H locs ls hI (lv_sub hl [1] rfl) hq
  · intro f H locs ls hI hl hq
    exact ge_Wv hx hb hlocks hr hI (Option.some.inj hq) dX8_readMap_121

def p_X8_isLength (V : Nat → Nat) (g f : GH) (a0 : Nat) (a1 : Int32) : Option Int32 :=
  h_me f a0 10 <|
  (h_gi f a0 10 13).bind fun v1 =>
  (p_X8_inRange V g f a1 (0 : Int32) v1).bind fun v2 =>
  (h_bz v2).bind fun _ =>
  some v2
abbrev rm_X8_isLength : Room := { frames := 3, cells := 0, slots := 0, locals := 142 }
theorem k_X8_isLength : g_CV yX8_isLength cX8_isLength 2 (some .boolean) 1 := ⟨⟨m_2081, m_14, by decide +kernel⟩, m_2080, ms_74⟩
set_option maxHeartbeats 4000000 in
set_option maxRecDepth 100000 in
theorem c_X8_isLength (l : Launch) (V : Nat → Nat) (g : GH) (D : va_G) (cT : Nat → ClassId) (f : GH) (n : Nat) (a0 : Nat) (a1 : Int32) (o : Int32) (hq : p_X8_isLength V g f a0 a1 = some o) : Met l yX8_isLength (Cond.code yX8_isLength cX8_isLength 2 (some .boolean) :: g_B) rm_X8_isLength (va_Pc [.ref a0, .int a1] (g_I V g D cT f n)) (g_Ri o n) 0 0 g_no := by
  refine g_begin (own := RX8) [.ref a0, .int a1] [(0, .ref a0), (1, .int a1)] g_no (fun _ h => h.elim) (by decide) rfl (Nat.le_of_ble_eq_true rfl) rfl ?_
  intro p e s m args below meth c hx hb hr hlocks hin hC hI ls hl
  obtain ⟨hx, hb, hml, hown, hB⟩ := id hC
  obtain ⟨H, hH⟩ : ∃ H, H = s.heap := ⟨_, rfl⟩
  obtain ⟨locs, hlocs⟩ : ∃ L : List Loc, L = [] := ⟨_, rfl⟩
  rw [← hH, ← hlocs] at hI ⊢
  clear hH hlocs
  unfold p_X8_isLength at hq
  replace hq := (h_me_eq hq).2
  refine lv_iload_n hx hb dX8_isLength_0 rfl (lv_at hl 1 rfl) ?_
  refine lv_iconst (v := (0 : Int32)) hx hb dX8_isLength_1 (by decide) ?_
  refine lv_aload_n hx hb dX8_isLength_2 rfl (lv_at hl 0 rfl) ?_
  obtain ⟨v1, ev1, hq⟩ := b_s hq
  refine fa_gi (own := RX8) (ref := "CoastlineRulerModel") (k := 13) hx hb hB inB_RX8 hown hI rfl (by decide) m_1544 (fun _ h9 => h9) ev1 dX8_isLength_3 ?_
  obtain ⟨v2, ev2, hq⟩ := b_s hq
  refine gr_i (g_runS (As := [.int a1, .int (0 : Int32), .int v1]) (rest := []) hC (c_X8_inRange l V g D cT f n a1 (0 : Int32) v1 v2 ev2) k_X8_inRange m_1634 rfl rfl ⟨Nat.le_of_ble_eq_true rfl, Nat.le_of_ble_eq_true rfl⟩ hI rfl hl.1 rfl (Nat.le_of_ble_eq_true rfl) dX8_isLength_6 ⟨by decide, by decide⟩) hI (fun H locs hI => ?_)
  obtain ⟨_, ev3, hq⟩ := b_s hq
  exact ge_Ri hx hb hlocks hr (h_bz_eq ev3).2.1 hI hq dX8_isLength_9

def p_X8_loadMap (V : Nat → Nat) (g f : GH) (a0 : Nat) (a1 : Int32) : Option (Int32 × GH) :=
  h_me f a0 10 <|
  (p_X8_isLength V g f a0 a1).bind fun v1 =>
  (p_X8_lacks V g f a0 v1).bind fun v2 =>
  (if v2.1 = (0 : Int32) then
    (p_X8_startText V g v2.2 a0 a1).bind fun v4 =>
    (h_gr v4 a0 10 1).bind fun v5 =>
    (h_pt v4 a0 10 5 (.ref v5)).bind fun f6 =>
    (p_X8_readMap V g f6 a0).bind fun v7 =>
    (p_X8_restartLedgers V g v7 a0).bind fun v8 =>
    (h_gr v8 a0 10 0).bind fun v9 =>
    (h_pt v8 a0 10 5 (.ref v9)).bind fun f10 =>
    (p_X8_isFaulty V g f10 a0).bind fun v11 =>
    (if v11.1 = (0 : Int32) then
      (h_gr v11.2 a0 10 1).bind fun v13 =>
      (h_gr v11.2 a0 10 0).bind fun v14 =>
      (p_X8_copy V g v11.2 v13 (0 : Int32) v14 (0 : Int32)).bind fun v15 =>
      (h_pt v15 a0 10 6 (.int (0 : Int32))).bind fun f16 =>
      (h_pt f16 a0 10 9 (.int (0 : Int32))).bind fun f17 =>
      (h_gr f17 a0 10 5).bind fun v18 =>
      (h_li f17 v18 0 (1 : Int32)).bind fun v19 =>
      some (v19, f17)
    else
      some ((-1 : Int32), v11.2))
  else
    some ((0 : Int32), v2.2))
abbrev rm_X8_loadMap : Room := { frames := 12, cells := 0, slots := 0, locals := 333 }
theorem k_X8_loadMap : g_CV yX8_loadMap cX8_loadMap 2 (some .int) 1 := ⟨⟨m_2077, m_14, by decide +kernel⟩, m_2075, m_2076⟩
set_option maxHeartbeats 4000000 in
set_option maxRecDepth 100000 in
theorem c_X8_loadMap (l : Launch) (V : Nat → Nat) (g : GH) (D : va_G) (cT : Nat → ClassId) (f : GH) (n : Nat) (a0 : Nat) (a1 : Int32) (o : Int32 × GH) (hq : p_X8_loadMap V g f a0 a1 = some o) : Met l yX8_loadMap (Cond.code yX8_loadMap cX8_loadMap 2 (some .int) :: g_B) rm_X8_loadMap (va_Pc [.ref a0, .int a1] (g_I V g D cT f n)) (g_Wi V D cT o.1 o.2 n) 0 0 (g_A V) := by
  refine g_begin (own := RX8) [.ref a0, .int a1] [(0, .ref a0), (1, .int a1)] (g_A V) (fun _ h => h) (by decide) rfl (Nat.le_of_ble_eq_true rfl) rfl ?_
  intro p e s m args below meth c hx hb hr hlocks hin hC hI ls hl
  obtain ⟨hx, hb, hml, hown, hB⟩ := id hC
  obtain ⟨H, hH⟩ : ∃ H, H = s.heap := ⟨_, rfl⟩
  obtain ⟨locs, hlocs⟩ : ∃ L : List Loc, L = [] := ⟨_, rfl⟩
  rw [← hH, ← hlocs] at hI ⊢
  clear hH hlocs
  unfold p_X8_loadMap at hq
  replace hq := (h_me_eq hq).2
  refine lv_aload_n hx hb dX8_loadMap_0 rfl (lv_at hl 0 rfl) ?_
  refine lv_aload_n hx hb dX8_loadMap_1 rfl (lv_at hl 0 rfl) ?_
  refine lv_iload_n hx hb dX8_loadMap_2 rfl (lv_at hl 1 rfl) ?_
  obtain ⟨v1, ev1, hq⟩ := b_s hq
  refine gr_i (g_runV (As := [.int a1]) (rest := [.ref a0]) (ci := 10) hC (c_X8_isLength l V g D cT f n a0 a1 v1 ev1) k_X8_isLength m_2078 rfl rfl ⟨Nat.le_of_ble_eq_true rfl, Nat.le_of_ble_eq_true rfl⟩ hI rfl rfl (h_me_eq ev1).1 rfl hl.1 rfl (Nat.le_of_ble_eq_true rfl) dX8_loadMap_3 ⟨by decide, by decide⟩) hI (fun H locs hI => ?_)
  obtain ⟨v2, ev2, hq⟩ := b_s hq
  refine gw_i (g_runV (As := [.int v1]) (rest := []) (ci := 10) hC (c_X8_lacks l V g D cT f n a0 v1 v2 ev2) k_X8_lacks m_1637 rfl rfl ⟨Nat.le_of_ble_eq_true rfl, Nat.le_of_ble_eq_true rfl⟩ hI rfl rfl (h_me_eq ev2).1 rfl hl.1 rfl (Nat.le_of_ble_eq_true rfl) dX8_loadMap_6 ⟨by decide, by decide⟩) hI (fun H locs hI => ?_)
  refine lv_if_eq (tgt := 14) hx hb dX8_loadMap_9 (by decide) (fun c3 => ?_) (fun c3 => ?_)
  · replace hq := i_t c3 hq
    refine lv_aload_n hx hb dX8_loadMap_14 rfl (lv_at hl 0 rfl) ?_
    refine lv_iload_n hx hb dX8_loadMap_15 rfl (lv_at hl 1 rfl) ?_
    obtain ⟨v4, ev4, hq⟩ := b_s hq
    refine gw_v (g_runV (As := [.int a1]) (rest := []) (ci := 10) hC (c_X8_startText l V g D cT v2.2 n a0 a1 v4 ev4) k_X8_startText m_2082 rfl rfl ⟨Nat.le_of_ble_eq_true rfl, Nat.le_of_ble_eq_true rfl⟩ hI rfl rfl (h_me_eq ev4).1 rfl hl.1 rfl (Nat.le_of_ble_eq_true rfl) dX8_loadMap_16 ⟨by decide, by decide⟩) hI (fun H locs hI => ?_)
    refine lv_aload_n hx hb dX8_loadMap_19 rfl (lv_at hl 0 rfl) ?_
    refine lv_aload_n hx hb dX8_loadMap_20 rfl (lv_at hl 0 rfl) ?_
    obtain ⟨v5, ev5, hq⟩ := b_s hq
    refine fa_gr (own := RX8) (ref := "CoastlineRulerModel") (k := 1) hx hb hB inB_RX8 hown hI rfl (by decide) m_1532 (fun _ h9 => h9) ev5 dX8_loadMap_21 ?_
    obtain ⟨f6, ef6, hq⟩ := b_s hq
    refine fa_pt (own := RX8) (ref := "CoastlineRulerModel") (k := 5) hx hb hB inB_RX8 tyX8_ok nmX8 hown hI rfl (by decide) m_1536 (fun _ h9 => h9) (by decide) rfl rfl ef6 dX8_loadMap_24 (fun H locs hI => ?_)
    refine lv_aload_n hx hb dX8_loadMap_27 rfl (lv_at hl 0 rfl) ?_
    obtain ⟨v7, ev7, hq⟩ := b_s hq
    refine gw_v (g_runV (As := []) (rest := []) (ci := 10) hC (c_X8_readMap l V g D cT f6 n a0 v7 ev7) k_X8_readMap m_2102 rfl rfl ⟨Nat.le_of_ble_eq_true rfl, Nat.le_of_ble_eq_true rfl⟩ hI rfl rfl (h_me_eq ev7).1 rfl hl.1 rfl (Nat.le_of_ble_eq_true rfl) dX8_loadMap_28 ⟨by decide, by decide⟩) hI (fun H locs hI => ?_)
    refine lv_aload_n hx hb dX8_loadMap_31 rfl (lv_at hl 0 rfl) ?_
    obtain ⟨v8, ev8, hq⟩ := b_s hq
    refine gw_v (g_runV (As := []) (rest := []) (ci := 10) hC (c_X8_restartLedgers l V g D cT v7 n a0 v8 ev8) k_X8_restartLedgers m_1519 rfl rfl ⟨Nat.le_of_ble_eq_true rfl, Nat.le_of_ble_eq_true rfl⟩ hI rfl rfl (h_me_eq ev8).1 rfl hl.1 rfl (Nat.le_of_ble_eq_true rfl) dX8_loadMap_32 ⟨by decide, by decide⟩) hI (fun H locs hI => ?_)
    refine lv_aload_n hx hb dX8_loadMap_35 rfl (lv_at hl 0 rfl) ?_
    refine lv_aload_n hx hb dX8_loadMap_36 rfl (lv_at hl 0 rfl) ?_
    obtain ⟨v9, ev9, hq⟩ := b_s hq
    refine fa_gr (own := RX8) (ref := "CoastlineRulerModel") (k := 0) hx hb hB inB_RX8 hown hI rfl (by decide) m_1531 (fun _ h9 => h9) ev9 dX8_loadMap_37 ?_
    obtain ⟨f10, ef10, hq⟩ := b_s hq
    refine fa_pt (own := RX8) (ref := "CoastlineRulerModel") (k := 5) hx hb hB inB_RX8 tyX8_ok nmX8 hown hI rfl (by decide) m_1536 (fun _ h9 => h9) (by decide) rfl rfl ef10 dX8_loadMap_40 (fun H locs hI => ?_)
    refine lv_aload_n hx hb dX8_loadMap_43 rfl (lv_at hl 0 rfl) ?_
    obtain ⟨v11, ev11, hq⟩ := b_s hq
    refine gw_i (g_runV (As := []) (rest := []) (ci := 10) hC (c_X8_isFaulty l V g D cT f10 n a0 v11 ev11) k_X8_isFaulty m_2168 rfl rfl ⟨Nat.le_of_ble_eq_true rfl, Nat.le_of_ble_eq_true rfl⟩ hI rfl rfl (h_me_eq ev11).1 rfl hl.1 rfl (Nat.le_of_ble_eq_true rfl) dX8_loadMap_44 ⟨by decide, by decide⟩) hI (fun H locs hI => ?_)
    refine lv_if_eq (tgt := 52) hx hb dX8_loadMap_47 (by decide) (fun c12 => ?_) (fun c12 => ?_)
    · replace hq := i_t c12 hq
      refine lv_aload_n hx hb dX8_loadMap_52 rfl (lv_at hl 0 rfl) ?_
      obtain ⟨v13, ev13, hq⟩ := b_s hq
      refine fa_gr (own := RX8) (ref := "CoastlineRulerModel") (k := 1) hx hb hB inB_RX8 hown hI rfl (by decide) m_1532 (fun _ h9 => h9) ev13 dX8_loadMap_53 ?_
      refine lv_iconst (v := (0 : Int32)) hx hb dX8_loadMap_56 (by decide) ?_
      refine lv_aload_n hx hb dX8_loadMap_57 rfl (lv_at hl 0 rfl) ?_
      obtain ⟨v14, ev14, hq⟩ := b_s hq
      refine fa_gr (own := RX8) (ref := "CoastlineRulerModel") (k := 0) hx hb hB inB_RX8 hown hI rfl (by decide) m_1531 (fun _ h9 => h9) ev14 dX8_loadMap_58 ?_
      refine lv_iconst (v := (0 : Int32)) hx hb dX8_loadMap_61 (by decide) ?_
      obtain ⟨v15, ev15, hq⟩ := b_s hq
      refine gw_v (g_runS (As := [.ref v13, .int (0 : Int32), .ref v14, .int (0 : Int32)]) (rest := []) hC (c_X8_copy l V g D cT v11.2 n v13 (0 : Int32) v14 (0 : Int32) v15 ev15) k_X8_copy m_1944 rfl rfl ⟨Nat.le_of_ble_eq_true rfl, Nat.le_of_ble_eq_true rfl⟩ hI rfl hl.1 rfl (Nat.le_of_ble_eq_true rfl) dX8_loadMap_62 ⟨by decide, by decide⟩) hI (fun H locs hI => ?_)
      refine lv_aload_n hx hb dX8_loadMap_65 rfl (lv_at hl 0 rfl) ?_
      refine lv_iconst (v := (0 : Int32)) hx hb dX8_loadMap_66 (by decide) ?_
      obtain ⟨f16, ef16, hq⟩ := b_s hq
      refine fa_pt (own := RX8) (ref := "CoastlineRulerModel") (k := 6) hx hb hB inB_RX8 tyX8_ok nmX8 hown hI rfl (by decide) m_1537 (fun _ h9 => h9) (by decide) rfl rfl ef16 dX8_loadMap_67 (fun H locs hI => ?_)
      refine lv_aload_n hx hb dX8_loadMap_70 rfl (lv_at hl 0 rfl) ?_
      refine lv_iconst (v := (0 : Int32)) hx hb dX8_loadMap_71 (by decide) ?_
      obtain ⟨f17, ef17, hq⟩ := b_s hq
      refine fa_pt (own := RX8) (ref := "CoastlineRulerModel") (k := 9) hx hb hB inB_RX8 tyX8_ok nmX8 hown hI rfl (by decide) m_1540 (fun _ h9 => h9) (by decide) (by decide +kernel) (by decide +kernel) ef17 dX8_loadMap_72 (fun H locs hI => ?_)
      refine lv_aload_n hx hb dX8_loadMap_75 rfl (lv_at hl 0 rfl) ?_
      obtain ⟨v18, ev18, hq⟩ := b_s hq
      refine fa_gr (own := RX8) (ref := "CoastlineRulerModel") (k := 5) hx hb hB inB_RX8 hown hI rfl (by decide) m_1536 (fun _ h9 => h9) ev18 dX8_loadMap_76 ?_
      refine lv_iconst (v := (1 : Int32)) hx hb dX8_loadMap_79 (by decide) ?_
      obtain ⟨v19, ev19, hq⟩ := b_s hq
      refine fa_li hx hb hI ev19 dX8_loadMap_80 ?_
      exact ge_Wi hx hb hlocks hr rfl hI (congrArg (fun z => z.1) (Option.some.inj hq)) (congrArg (fun z => z.2) (Option.some.inj hq)) dX8_loadMap_81
    · replace hq := i_f c12 hq
      refine lv_iconst (v := (-1 : Int32)) hx hb dX8_loadMap_50 (by decide) ?_
      exact ge_Wi hx hb hlocks hr rfl hI (congrArg (fun z => z.1) (Option.some.inj hq)) (congrArg (fun z => z.2) (Option.some.inj hq)) dX8_loadMap_51
  · replace hq := i_f c3 hq
    refine lv_iconst (v := (0 : Int32)) hx hb dX8_loadMap_12 (by decide) ?_
    exact ge_Wi hx hb hlocks hr rfl hI (congrArg (fun z => z.1) (Option.some.inj hq)) (congrArg (fun z => z.2) (Option.some.inj hq)) dX8_loadMap_13

def p_X8_doAdd (V : Nat → Nat) (g f : GH) (a0 : Nat) : Option (Int32 × GH) :=
  h_me f a0 10 <|
  (h_gr f a0 10 5).bind fun v1 =>
  (h_li f v1 0 (1 : Int32)).bind fun v2 =>
  (if v2 = (6 : Int32) then
    some ((2 : Int32), f)
  else
    (h_gr f a0 10 5).bind fun v4 =>
    (h_li f v4 0 (3 : Int32)).bind fun v5 =>
    (h_gr f a0 10 22).bind fun v6 =>
    (h_li f v6 0 (1 : Int32)).bind fun v7 =>
    (h_si f v4 0 (3 : Int32) (v5 + v7)).bind fun f8 =>
    (p_X8_layTold V g f8 a0).bind fun v9 =>
    some ((0 : Int32), v9))
abbrev rm_X8_doAdd : Room := { frames := 4, cells := 0, slots := 0, locals := 160 }
theorem k_X8_doAdd : g_CV yX8_doAdd cX8_doAdd 1 (some .int) 0 := ⟨⟨m_2183, m_14, by decide +kernel⟩, m_2182, ms_97⟩
set_option maxHeartbeats 4000000 in
set_option maxRecDepth 100000 in
theorem c_X8_doAdd (l : Launch) (V : Nat → Nat) (g : GH) (D : va_G) (cT : Nat → ClassId) (f : GH) (n : Nat) (a0 : Nat) (o : Int32 × GH) (hq : p_X8_doAdd V g f a0 = some o) : Met l yX8_doAdd (Cond.code yX8_doAdd cX8_doAdd 1 (some .int) :: g_B) rm_X8_doAdd (va_Pc [.ref a0] (g_I V g D cT f n)) (g_Wi V D cT o.1 o.2 n) 0 0 (g_A V) := by
  refine g_begin (own := RX8) [.ref a0] [(0, .ref a0)] (g_A V) (fun _ h => h) (by decide) rfl (Nat.le_of_ble_eq_true rfl) rfl ?_
  intro p e s m args below meth c hx hb hr hlocks hin hC hI ls hl
  obtain ⟨hx, hb, hml, hown, hB⟩ := id hC
  obtain ⟨H, hH⟩ : ∃ H, H = s.heap := ⟨_, rfl⟩
  obtain ⟨locs, hlocs⟩ : ∃ L : List Loc, L = [] := ⟨_, rfl⟩
  rw [← hH, ← hlocs] at hI ⊢
  clear hH hlocs
  unfold p_X8_doAdd at hq
  replace hq := (h_me_eq hq).2
  refine lv_aload_n hx hb dX8_doAdd_0 rfl (lv_at hl 0 rfl) ?_
  obtain ⟨v1, ev1, hq⟩ := b_s hq
  refine fa_gr (own := RX8) (ref := "CoastlineRulerModel") (k := 5) hx hb hB inB_RX8 hown hI rfl (by decide) m_1536 (fun _ h9 => h9) ev1 dX8_doAdd_1 ?_
  refine lv_iconst (v := (1 : Int32)) hx hb dX8_doAdd_4 (by decide) ?_
  obtain ⟨v2, ev2, hq⟩ := b_s hq
  refine fa_li hx hb hI ev2 dX8_doAdd_5 ?_
  refine lv_bipush (v := (6 : Int32)) hx hb dX8_doAdd_6 (by decide) ?_
  refine lv_icmp_ne (tgt := 13) hx hb dX8_doAdd_8 (by decide) (fun c3 => ?_) (fun c3 => ?_)
  · replace hq := i_f c3 hq
    refine lv_aload_n hx hb dX8_doAdd_13 rfl (lv_at hl 0 rfl) ?_
    obtain ⟨v4, ev4, hq⟩ := b_s hq
    refine fa_gr (own := RX8) (ref := "CoastlineRulerModel") (k := 5) hx hb hB inB_RX8 hown hI rfl (by decide) m_1536 (fun _ h9 => h9) ev4 dX8_doAdd_14 ?_
    refine lv_iconst (v := (3 : Int32)) hx hb dX8_doAdd_17 (by decide) ?_
    refine lv_dup2_11 hx hb dX8_doAdd_18 rfl rfl ?_
    obtain ⟨v5, ev5, hq⟩ := b_s hq
    refine fa_li hx hb hI ev5 dX8_doAdd_19 ?_
    refine lv_aload_n hx hb dX8_doAdd_20 rfl (lv_at hl 0 rfl) ?_
    obtain ⟨v6, ev6, hq⟩ := b_s hq
    refine fa_gr (own := RX8) (ref := "CoastlineRulerModel") (k := 22) hx hb hB inB_RX8 hown hI rfl (by decide) m_1553 (fun _ h9 => h9) ev6 dX8_doAdd_21 ?_
    refine lv_iconst (v := (1 : Int32)) hx hb dX8_doAdd_24 (by decide) ?_
    obtain ⟨v7, ev7, hq⟩ := b_s hq
    refine fa_li hx hb hI ev7 dX8_doAdd_25 ?_
    refine lv_iadd hx hb dX8_doAdd_26 ?_
    obtain ⟨f8, ef8, hq⟩ := b_s hq
    refine fa_si hx hb hI ef8 dX8_doAdd_27 (fun H locs hI => ?_)
    refine lv_aload_n hx hb dX8_doAdd_28 rfl (lv_at hl 0 rfl) ?_
    obtain ⟨v9, ev9, hq⟩ := b_s hq
    refine gw_v (g_runV (As := []) (rest := []) (ci := 10) hC (c_X8_layTold l V g D cT f8 n a0 v9 ev9) k_X8_layTold m_1511 rfl rfl ⟨Nat.le_of_ble_eq_true rfl, Nat.le_of_ble_eq_true rfl⟩ hI rfl rfl (h_me_eq ev9).1 rfl hl.1 rfl (Nat.le_of_ble_eq_true rfl) dX8_doAdd_29 ⟨by decide, by decide⟩) hI (fun H locs hI => ?_)
    refine lv_iconst (v := (0 : Int32)) hx hb dX8_doAdd_32 (by decide) ?_
    exact ge_Wi hx hb hlocks hr rfl hI (congrArg (fun z => z.1) (Option.some.inj hq)) (congrArg (fun z => z.2) (Option.some.inj hq)) dX8_doAdd_33
  · replace hq := i_t c3 hq
    refine lv_iconst (v := (2 : Int32)) hx hb dX8_doAdd_11 (by decide) ?_
    exact ge_Wi hx hb hlocks hr rfl hI (congrArg (fun z => z.1) (Option.some.inj hq)) (congrArg (fun z => z.2) (Option.some.inj hq)) dX8_doAdd_12

def p_X8_addCoast_j59 (V : Nat → Nat) (g : GH) (x0 : Nat) (t0 : Int32) (t1 : Nat) (f : GH) : Option (Int32 × GH) :=
  (p_X8_check V g f t1 t0 (1 : Int32)).bind fun v9 =>
  (p_X8_isFaulty V g v9 x0).bind fun v10 =>
  (if v10.1 = (0 : Int32) then
    (p_X8_keep V g v10.2 x0).bind fun v12 =>
    (p_X8_doAdd V g v12 x0).bind fun v13 =>
    (p_X8_fails V g v13.2 x0 v13.1).bind fun v14 =>
    (if v14.1 = (0 : Int32) then
      (h_gr v14.2 x0 10 5).bind fun v16 =>
      (h_li v14.2 v16 0 (1 : Int32)).bind fun v17 =>
      some (v17 - (1 : Int32), v14.2)
    else
      some ((0 : Int32), v14.2))
  else
    some ((-1 : Int32), v10.2))
def p_X8_addCoast_j54 (V : Nat → Nat) (g : GH) (K59 : Nat → Int32 → Nat → GH → Option (Int32 × GH)) (x0 : Nat) (t0 : Nat) (f : GH) : Option (Int32 × GH) :=
  K59 x0 (1 : Int32) t0 f
def p_X8_addCoast_j22 (V : Nat → Nat) (g : GH) (x0 : Nat) (x1 : Int32) (t0 : Int32) (t1 : Int32) (t2 : Nat) (f : GH) : Option (Int32 × GH) :=
  (p_X8_lacksBoth V g f t2 t1 t0).bind fun v4 =>
  (if v4.1 = (0 : Int32) then
    (p_X8_startText V g v4.2 x0 x1).bind fun v6 =>
    (p_X8_readCoast V g v6 x0).bind fun v7 =>
    (h_gi v7 x0 10 18).bind fun v8 =>
    (if v8 = (0 : Int32) then
      (h_gi v7 x0 10 17).bind fun v19 =>
      (if v19 = (0 : Int32) then
        p_X8_addCoast_j54 V g (p_X8_addCoast_j59 V g) x0 x0 v7
      else
        p_X8_addCoast_j59 V g x0 (0 : Int32) x0 v7)
    else
      p_X8_addCoast_j54 V g (p_X8_addCoast_j59 V g) x0 x0 v7)
  else
    some ((0 : Int32), v4.2))
def p_X8_addCoast (V : Nat → Nat) (g f : GH) (a0 : Nat) (a1 : Int32) : Option (Int32 × GH) :=
  h_me f a0 10 <|
  (p_X8_isLength V g f a0 a1).bind fun v1 =>
  (h_gr f a0 10 5).bind fun v2 =>
  (h_li f v2 0 (1 : Int32)).bind fun v3 =>
  (if (6 : Int32) ≤ v3 then
    p_X8_addCoast_j22 V g a0 a1 (0 : Int32) v1 a0 f
  else
    p_X8_addCoast_j22 V g a0 a1 (1 : Int32) v1 a0 f)
abbrev rm_X8_addCoast : Room := { frames := 11, cells := 0, slots := 0, locals := 312 }
theorem k_X8_addCoast : g_CV yX8_addCoast cX8_addCoast 2 (some .int) 1 := ⟨⟨m_2179, m_14, by decide +kernel⟩, m_2177, m_2178⟩
set_option maxHeartbeats 4000000 in
set_option maxRecDepth 100000 in
theorem c_X8_addCoast (l : Launch) (V : Nat → Nat) (g : GH) (D : va_G) (cT : Nat → ClassId) (f : GH) (n : Nat) (a0 : Nat) (a1 : Int32) (o : Int32 × GH) (hq : p_X8_addCoast V g f a0 a1 = some o) : Met l yX8_addCoast (Cond.code yX8_addCoast cX8_addCoast 2 (some .int) :: g_B) rm_X8_addCoast (va_Pc [.ref a0, .int a1] (g_I V g D cT f n)) (g_Wi V D cT o.1 o.2 n) 0 0 (g_A V) := by
  refine g_begin (own := RX8) [.ref a0, .int a1] [(0, .ref a0), (1, .int a1)] (g_A V) (fun _ h => h) (by decide) rfl (Nat.le_of_ble_eq_true rfl) rfl ?_
  intro p e s m args below meth c hx hb hr hlocks hin hC hI ls hl
  obtain ⟨hx, hb, hml, hown, hB⟩ := id hC
  obtain ⟨H, hH⟩ : ∃ H, H = s.heap := ⟨_, rfl⟩
  obtain ⟨locs, hlocs⟩ : ∃ L : List Loc, L = [] := ⟨_, rfl⟩
  rw [← hH, ← hlocs] at hI ⊢
  clear hH hlocs
  unfold p_X8_addCoast at hq
  replace hq := (h_me_eq hq).2
  refine lv_aload_n hx hb dX8_addCoast_0 rfl (lv_at hl 0 rfl) ?_
  refine lv_aload_n hx hb dX8_addCoast_1 rfl (lv_at hl 0 rfl) ?_
  refine lv_iload_n hx hb dX8_addCoast_2 rfl (lv_at hl 1 rfl) ?_
  obtain ⟨v1, ev1, hq⟩ := b_s hq
  refine gr_i (g_runV (As := [.int a1]) (rest := [.ref a0]) (ci := 10) hC (c_X8_isLength l V g D cT f n a0 a1 v1 ev1) k_X8_isLength m_2078 rfl rfl ⟨Nat.le_of_ble_eq_true rfl, Nat.le_of_ble_eq_true rfl⟩ hI rfl rfl (h_me_eq ev1).1 rfl hl.1 rfl (Nat.le_of_ble_eq_true rfl) dX8_addCoast_3 ⟨by decide, by decide⟩) hI (fun H locs hI => ?_)
  refine lv_aload_n hx hb dX8_addCoast_6 rfl (lv_at hl 0 rfl) ?_
  obtain ⟨v2, ev2, hq⟩ := b_s hq
  refine fa_gr (own := RX8) (ref := "CoastlineRulerModel") (k := 5) hx hb hB inB_RX8 hown hI rfl (by decide) m_1536 (fun _ h9 => h9) ev2 dX8_addCoast_7 ?_
  refine lv_iconst (v := (1 : Int32)) hx hb dX8_addCoast_10 (by decide) ?_
  obtain ⟨v3, ev3, hq⟩ := b_s hq
  refine fa_li hx hb hI ev3 dX8_addCoast_11 ?_
  refine lv_bipush (v := (6 : Int32)) hx hb dX8_addCoast_12 (by decide) ?_
  have hj22 : ∀ (x0 : Nat) (x1 : Int32) (t0 : Int32) (t1 : Int32) (t2 : Nat) (f : GH) (H : Heap) (locs : List Loc) (ls : Array Slot), g_at (g_A V) V g D cT f n s H locs → lv_has ls 2 [(0, .ref x0), (1, .int x1)] → p_X8_addCoast_j22 V g x0 x1 t0 t1 t2 f = some o → W p l e rm_X8_addCoast s m args below meth c H locs 0 0 (MQ below (g_Wi V D cT o.1 o.2 n) args s 0 0 (g_A V)) (F0 m 22 ls [.int t0, .int t1, .ref t2]) := by
    intro x0 x1 t0 t1 t2 f H locs ls hI hl hq
    unfold p_X8_addCoast_j22 at hq
    obtain ⟨v4, ev4, hq⟩ := b_s hq
    refine gw_i (g_runV (As := [.int t1, .int t0]) (rest := []) (ci := 10) hC (c_X8_lacksBoth l V g D cT f n t2 t1 t0 v4 ev4) k_X8_lacksBoth m_1693 rfl rfl ⟨Nat.le_of_ble_eq_true rfl, Nat.le_of_ble_eq_true rfl⟩ hI rfl rfl (h_me_eq ev4).1 rfl hl.1 rfl (Nat.le_of_ble_eq_true rfl) dX8_addCoast_22 ⟨by decide, by decide⟩) hI (fun H locs hI => ?_)
    refine lv_if_eq (tgt := 30) hx hb dX8_addCoast_25 (by decide) (fun c5 => ?_) (fun c5 => ?_)
    · replace hq := i_t c5 hq
      refine lv_aload_n hx hb dX8_addCoast_30 rfl (lv_at hl 0 rfl) ?_
      refine lv_iload_n hx hb dX8_addCoast_31 rfl (lv_at hl 1 rfl) ?_
      obtain ⟨v6, ev6, hq⟩ := b_s hq
      refine gw_v (g_runV (As := [.int x1]) (rest := []) (ci := 10) hC (c_X8_startText l V g D cT v4.2 n x0 x1 v6 ev6) k_X8_startText m_2082 rfl rfl ⟨Nat.le_of_ble_eq_true rfl, Nat.le_of_ble_eq_true rfl⟩ hI rfl rfl (h_me_eq ev6).1 rfl hl.1 rfl (Nat.le_of_ble_eq_true rfl) dX8_addCoast_32 ⟨by decide, by decide⟩) hI (fun H locs hI => ?_)
      refine lv_aload_n hx hb dX8_addCoast_35 rfl (lv_at hl 0 rfl) ?_
      obtain ⟨v7, ev7, hq⟩ := b_s hq
      refine gw_v (g_runV (As := []) (rest := []) (ci := 10) hC (c_X8_readCoast l V g D cT v6 n x0 v7 ev7) k_X8_readCoast m_2139 rfl rfl ⟨Nat.le_of_ble_eq_true rfl, Nat.le_of_ble_eq_true rfl⟩ hI rfl rfl (h_me_eq ev7).1 rfl hl.1 rfl (Nat.le_of_ble_eq_true rfl) dX8_addCoast_36 ⟨by decide, by decide⟩) hI (fun H locs hI => ?_)
      refine lv_aload_n hx hb dX8_addCoast_39 rfl (lv_at hl 0 rfl) ?_
      refine lv_aload_n hx hb dX8_addCoast_40 rfl (lv_at hl 0 rfl) ?_
      obtain ⟨v8, ev8, hq⟩ := b_s hq
      refine fa_gi (own := RX8) (ref := "CoastlineRulerModel") (k := 18) hx hb hB inB_RX8 hown hI rfl (by decide) m_1549 (fun _ h9 => h9) ev8 dX8_addCoast_41 ?_
      have hj59 : ∀ (x0 : Nat) (t0 : Int32) (t1 : Nat) (f : GH) (H : Heap) (locs : List Loc) (ls : Array Slot), g_at (g_A V) V g D cT f n s H locs → lv_has ls 2 [(0, .ref x0)] → p_X8_addCoast_j59 V g x0 t0 t1 f = some o → W p l e rm_X8_addCoast s m args below meth c H locs 0 0 (MQ below (g_Wi V D cT o.1 o.2 n) args s 0 0 (g_A V)) (F0 m 59 ls [.int t0, .ref t1]) := by
        intro x0 t0 t1 f H locs ls hI hl hq
        unfold p_X8_addCoast_j59 at hq
        refine lv_iconst (v := (1 : Int32)) hx hb dX8_addCoast_59 (by decide) ?_
        obtain ⟨v9, ev9, hq⟩ := b_s hq
        refine gw_v (g_runV (As := [.int t0, .int (1 : Int32)]) (rest := []) (ci := 10) hC (c_X8_check l V g D cT f n t1 t0 (1 : Int32) v9 ev9) k_X8_check m_2113 rfl rfl ⟨Nat.le_of_ble_eq_true rfl, Nat.le_of_ble_eq_true rfl⟩ hI rfl rfl (h_me_eq ev9).1 rfl hl.1 rfl (Nat.le_of_ble_eq_true rfl) dX8_addCoast_60 ⟨by decide, by decide⟩) hI (fun H locs hI => ?_)
        refine lv_aload_n hx hb dX8_addCoast_63 rfl (lv_at hl 0 rfl) ?_
        obtain ⟨v10, ev10, hq⟩ := b_s hq
        refine gw_i (g_runV (As := []) (rest := []) (ci := 10) hC (c_X8_isFaulty l V g D cT v9 n x0 v10 ev10) k_X8_isFaulty m_2168 rfl rfl ⟨Nat.le_of_ble_eq_true rfl, Nat.le_of_ble_eq_true rfl⟩ hI rfl rfl (h_me_eq ev10).1 rfl hl.1 rfl (Nat.le_of_ble_eq_true rfl) dX8_addCoast_64 ⟨by decide, by decide⟩) hI (fun H locs hI => ?_)
        refine lv_if_eq (tgt := 72) hx hb dX8_addCoast_67 (by decide) (fun c11 => ?_) (fun c11 => ?_)
        · replace hq := i_t c11 hq
          refine lv_aload_n hx hb dX8_addCoast_72 rfl (lv_at hl 0 rfl) ?_
          obtain ⟨v12, ev12, hq⟩ := b_s hq
          refine gw_v (g_runV (As := []) (rest := []) (ci := 10) hC (c_X8_keep l V g D cT v10.2 n x0 v12 ev12) k_X8_keep m_1940 rfl rfl ⟨Nat.le_of_ble_eq_true rfl, Nat.le_of_ble_eq_true rfl⟩ hI rfl rfl (h_me_eq ev12).1 rfl hl.1 rfl (Nat.le_of_ble_eq_true rfl) dX8_addCoast_73 ⟨by decide, by decide⟩) hI (fun H locs hI => ?_)
          refine lv_aload_n hx hb dX8_addCoast_76 rfl (lv_at hl 0 rfl) ?_
          refine lv_aload_n hx hb dX8_addCoast_77 rfl (lv_at hl 0 rfl) ?_
          obtain ⟨v13, ev13, hq⟩ := b_s hq
          refine gw_i (g_runV (As := []) (rest := [.ref x0]) (ci := 10) hC (c_X8_doAdd l V g D cT v12 n x0 v13 ev13) k_X8_doAdd m_2180 rfl rfl ⟨Nat.le_of_ble_eq_true rfl, Nat.le_of_ble_eq_true rfl⟩ hI rfl rfl (h_me_eq ev13).1 rfl hl.1 rfl (Nat.le_of_ble_eq_true rfl) dX8_addCoast_78 ⟨by decide, by decide⟩) hI (fun H locs hI => ?_)
          obtain ⟨v14, ev14, hq⟩ := b_s hq
          refine gw_i (g_runV (As := [.int v13.1]) (rest := []) (ci := 10) hC (c_X8_fails l V g D cT v13.2 n x0 v13.1 v14 ev14) k_X8_fails m_1951 rfl rfl ⟨Nat.le_of_ble_eq_true rfl, Nat.le_of_ble_eq_true rfl⟩ hI rfl rfl (h_me_eq ev14).1 rfl hl.1 rfl (Nat.le_of_ble_eq_true rfl) dX8_addCoast_81 ⟨by decide, by decide⟩) hI (fun H locs hI => ?_)
          refine lv_if_eq (tgt := 91) hx hb dX8_addCoast_84 (by decide) (fun c15 => ?_) (fun c15 => ?_)
          · replace hq := i_t c15 hq
            refine lv_aload_n hx hb dX8_addCoast_91 rfl (lv_at hl 0 rfl) ?_
            obtain ⟨v16, ev16, hq⟩ := b_s hq
            refine fa_gr (own := RX8) (ref := "CoastlineRulerModel") (k := 5) hx hb hB inB_RX8 hown hI rfl (by decide) m_1536 (fun _ h9 => h9) ev16 dX8_addCoast_92 ?_
            refine lv_iconst (v := (1 : Int32)) hx hb dX8_addCoast_95 (by decide) ?_
            obtain ⟨v17, ev17, hq⟩ := b_s hq
            refine fa_li hx hb hI ev17 dX8_addCoast_96 ?_
            refine lv_iconst (v := (1 : Int32)) hx hb dX8_addCoast_97 (by decide) ?_
            refine lv_isub hx hb dX8_addCoast_98 ?_
            exact ge_Wi hx hb hlocks hr rfl hI (congrArg (fun z => z.1) (Option.some.inj hq)) (congrArg (fun z => z.2) (Option.some.inj hq)) dX8_addCoast_99
          · replace hq := i_f c15 hq
            refine lv_iconst (v := (0 : Int32)) hx hb dX8_addCoast_87 (by decide) ?_
            refine lv_goto (tgt := 99) hx hb dX8_addCoast_88 (by decide) ?_
            exact ge_Wi hx hb hlocks hr rfl hI (congrArg (fun z => z.1) (Option.some.inj hq)) (congrArg (fun z => z.2) (Option.some.inj hq)) dX8_addCoast_99
        · replace hq := i_f c11 hq
          refine lv_iconst (v := (-1 : Int32)) hx hb dX8_addCoast_70 (by decide) ?_
          exact ge_Wi hx hb hlocks hr rfl hI (congrArg (fun z => z.1) (Option.some.inj hq)) (congrArg (fun z => z.2) (Option.some.inj hq)) dX8_addCoast_71
      have hj54 : ∀ (x0 : Nat) (t0 : Nat) (f : GH) (H : Heap) (locs : List Loc) (ls : Array Slot), g_at (g_A V) V g D cT f n s H locs → lv_has ls 2 [(0, .ref x0)] → p_X8_addCoast_j54 V g (p_X8_addCoast_j59 V g) x0 t0 f = some o → W p l e rm_X8_addCoast s m args below meth c H locs 0 0 (MQ below (g_Wi V D cT o.1 o.2 n) args s 0 0 (g_A V)) (F0 m 54 ls [.ref t0]) := by
        intro x0 t0 f H locs ls hI hl hq
        unfold p_X8_addCoast_j54 at hq
        refine lv_iconst (v := (1 : Int32)) hx hb dX8_addCoast_54 (by decide) ?_
        refine lv_goto (tgt := 59) hx hb dX8_addCoast_55 (by decide) ?_
        exact hj59 x0 (1 : Int32) t0 f H locs ls hI (lv_sub hl [0] rfl) hq
      refine lv_if_ne (tgt := 54) hx hb dX8_addCoast_44 (by decide) (fun c18 => ?_) (fun c18 => ?_)
      · replace hq := i_f c18 hq
        exact hj54 x0 x0 v7 H locs ls hI (lv_sub hl [0] rfl) hq
      · replace hq := i_t c18 hq
        refine lv_aload_n hx hb dX8_addCoast_47 rfl (lv_at hl 0 rfl) ?_
        obtain ⟨v19, ev19, hq⟩ := b_s hq
        refine fa_gi (own := RX8) (ref := "CoastlineRulerModel") (k := 17) hx hb hB inB_RX8 hown hI rfl (by decide) m_1548 (fun _ h9 => h9) ev19 dX8_addCoast_48 ?_
        refine lv_if_ne (tgt := 58) hx hb dX8_addCoast_51 (by decide) (fun c20 => ?_) (fun c20 => ?_)
        · replace hq := i_f c20 hq
          refine lv_iconst (v := (0 : Int32)) hx hb dX8_addCoast_58 (by decide) ?_
          exact hj59 x0 (0 : Int32) x0 v7 H locs ls hI (lv_sub hl [0] rfl) hq
        · replace hq := i_t c20 hq
          exact hj54 x0 x0 v7 H locs ls hI (lv_sub hl [0] rfl) hq
    · replace hq := i_f c5 hq
      refine lv_iconst (v := (0 : Int32)) hx hb dX8_addCoast_28 (by decide) ?_
      exact ge_Wi hx hb hlocks hr rfl hI (congrArg (fun z => z.1) (Option.some.inj hq)) (congrArg (fun z => z.2) (Option.some.inj hq)) dX8_addCoast_29
  refine lv_icmp_ge (tgt := 21) hx hb dX8_addCoast_14 (by decide) (fun c21 => ?_) (fun c21 => ?_)
  · replace hq := i_t c21 hq
    refine lv_iconst (v := (0 : Int32)) hx hb dX8_addCoast_21 (by decide) ?_
    exact hj22 a0 a1 (0 : Int32) v1 a0 f H locs ls hI (lv_sub hl [0, 1] rfl) hq
  · replace hq := i_f c21 hq
    refine lv_iconst (v := (1 : Int32)) hx hb dX8_addCoast_17 (by decide) ?_
    refine lv_goto (tgt := 22) hx hb dX8_addCoast_18 (by decide) ?_
    exact hj22 a0 a1 (1 : Int32) v1 a0 f H locs ls hI (lv_sub hl [0, 1] rfl) hq

def p_X8_orderHere_l2 (V : Nat → Nat) (g f : GH) (K24 : Int32 → Option Int32) (K42 : Option Int32) : Nat → Nat → Int32 → Option Int32
  | 0, _, _ => none
  | N + 1, x0, x1 =>
    (h_gr f x0 10 24).bind fun v1 =>
    (h_al f v1 7).bind fun v2 =>
    (if v2 ≤ x1 then
      K42
    else
      (h_gr f x0 10 24).bind fun v4 =>
      (h_lq f v4 7 x1).bind fun v5 =>
      (p_X8_isWord V g f x0 v5).bind fun v6 =>
      (if v6 = (0 : Int32) then
        p_X8_orderHere_l2 V g f K24 K42 N x0 (x1 + (1 : Int32))
      else
        K24 x1))
def p_X8_orderHere (V : Nat → Nat) (g f : GH) (a0 : Nat) : Option Int32 :=
  h_me f a0 10 <|
  p_X8_orderHere_l2 V g f (fun x1 =>
    (if x1 ≤ (9 : Int32) then
      some x1
    else
      some (0 : Int32))) (some (-1 : Int32)) FU a0 (0 : Int32)
abbrev rm_X8_orderHere : Room := { frames := 7, cells := 0, slots := 0, locals := 228 }
theorem k_X8_orderHere : g_CV yX8_orderHere cX8_orderHere 2 (some .int) 0 := ⟨⟨m_2195, m_14, by decide +kernel⟩, m_2194, ms_99⟩
set_option maxHeartbeats 4000000 in
set_option maxRecDepth 100000 in
theorem c_X8_orderHere (l : Launch) (V : Nat → Nat) (g : GH) (D : va_G) (cT : Nat → ClassId) (f : GH) (n : Nat) (a0 : Nat) (o : Int32) (hq : p_X8_orderHere V g f a0 = some o) : Met l yX8_orderHere (Cond.code yX8_orderHere cX8_orderHere 2 (some .int) :: g_B) rm_X8_orderHere (va_Pc [.ref a0] (g_I V g D cT f n)) (g_Ri o n) 0 0 g_no := by
  refine g_begin (own := RX8) [.ref a0] [(0, .ref a0)] g_no (fun _ h => h.elim) (by decide) rfl (Nat.le_of_ble_eq_true rfl) rfl ?_
  intro p e s m args below meth c hx hb hr hlocks hin hC hI ls hl
  obtain ⟨hx, hb, hml, hown, hB⟩ := id hC
  obtain ⟨H, hH⟩ : ∃ H, H = s.heap := ⟨_, rfl⟩
  obtain ⟨locs, hlocs⟩ : ∃ L : List Loc, L = [] := ⟨_, rfl⟩
  rw [← hH, ← hlocs] at hI ⊢
  clear hH hlocs
  unfold p_X8_orderHere at hq
  replace hq := (h_me_eq hq).2
  refine lv_iconst (v := (0 : Int32)) hx hb dX8_orderHere_0 (by decide) ?_
  refine lv_istore_n (lv' := [(1, .int (0 : Int32)), (0, .ref a0)]) hx hb dX8_orderHere_1 rfl hl (by decide) rfl (fun ls hl => ?_)
  have hl2 : ∀ (K24 : Int32 → Option Int32) (hK24 : ∀ (x1 : Int32) (H : Heap) (locs : List Loc) (ls : Array Slot), g_at g_no V g D cT f n s H locs → lv_has ls 2 [(1, .int x1)] → K24 x1 = some o → W p l e rm_X8_orderHere s m args below meth c H locs 0 0 (MQ below (g_Ri o n) args s 0 0 g_no) (F0 m 24 ls [])) (K42 : Option Int32) (hK42 : ∀  (H : Heap) (locs : List Loc) (ls : Array Slot), g_at g_no V g D cT f n s H locs → lv_has ls 2 [] → K42  = some o → W p l e rm_X8_orderHere s m args below meth c H locs 0 0 (MQ below (g_Ri o n) args s 0 0 g_no) (F0 m 42 ls [])) (N : Nat) (x0 : Nat) (x1 : Int32) (H : Heap) (locs : List Loc) (ls : Array Slot), g_at g_no V g D cT f n s H locs → lv_has ls 2 [(0, .ref x0), (1, .int x1)] → p_X8_orderHere_l2 V g f K24 K42 N x0 x1 = some o → W p l e rm_X8_orderHere s m args below meth c H locs 0 0 (MQ below (g_Ri o n) args s 0 0 g_no) (F0 m 2 ls []) := by
    intro K24 hK24 K42 hK42 N
    induction N with
    | zero =>
      intro x0 x1 H locs ls hI hl hq
      rw [p_X8_orderHere_l2] at hq
      cases hq
    | succ N ih =>
      intro x0 x1 H locs ls hI hl hq
      rw [p_X8_orderHere_l2] at hq
      refine lv_iload_n hx hb dX8_orderHere_2 rfl (lv_at hl 1 rfl) ?_
      refine lv_aload_n hx hb dX8_orderHere_3 rfl (lv_at hl 0 rfl) ?_
      obtain ⟨v1, ev1, hq⟩ := b_s hq
      refine fa_gr (own := RX8) (ref := "CoastlineRulerModel") (k := 24) hx hb hB inB_RX8 hown hI rfl (by decide) m_1555 (fun _ h9 => h9) ev1 dX8_orderHere_4 ?_
      obtain ⟨v2, ev2, hq⟩ := b_s hq
      refine fa_al hx hb hI (by decide) ev2 dX8_orderHere_7 ?_
      refine lv_icmp_ge (tgt := 42) hx hb dX8_orderHere_8 (by decide) (fun c3 => ?_) (fun c3 => ?_)
      · replace hq := i_t c3 hq
        exact hK42  H locs ls hI (lv_sub hl [] rfl) hq
      · replace hq := i_f c3 hq
        refine lv_aload_n hx hb dX8_orderHere_11 rfl (lv_at hl 0 rfl) ?_
        refine lv_aload_n hx hb dX8_orderHere_12 rfl (lv_at hl 0 rfl) ?_
        obtain ⟨v4, ev4, hq⟩ := b_s hq
        refine fa_gr (own := RX8) (ref := "CoastlineRulerModel") (k := 24) hx hb hB inB_RX8 hown hI rfl (by decide) m_1555 (fun _ h9 => h9) ev4 dX8_orderHere_13 ?_
        refine lv_iload_n hx hb dX8_orderHere_16 rfl (lv_at hl 1 rfl) ?_
        obtain ⟨v5, ev5, hq⟩ := b_s hq
        refine fa_lq hx hb hI (by decide) rfl ev5 dX8_orderHere_17 ?_
        obtain ⟨v6, ev6, hq⟩ := b_s hq
        refine gr_i (g_runV (As := [.ref v5]) (rest := []) (ci := 10) hC (c_X8_isWord l V g D cT f n x0 v5 v6 ev6) k_X8_isWord m_2107 rfl rfl ⟨Nat.le_of_ble_eq_true rfl, Nat.le_of_ble_eq_true rfl⟩ hI rfl rfl (h_me_eq ev6).1 rfl hl.1 rfl (Nat.le_of_ble_eq_true rfl) dX8_orderHere_18 ⟨by decide, by decide⟩) hI (fun H locs hI => ?_)
        refine lv_if_eq (tgt := 36) hx hb dX8_orderHere_21 (by decide) (fun c7 => ?_) (fun c7 => ?_)
        · replace hq := i_t c7 hq
          refine lv_iinc (v := x1 + (1 : Int32)) (lv' := [(1, .int (x1 + (1 : Int32))), (0, .ref x0)]) hx hb dX8_orderHere_36 hl (k := 1) rfl rfl (by decide) rfl (fun ls hl => ?_)
          refine lv_goto (tgt := 2) hx hb dX8_orderHere_39 (by decide) ?_
          exact ih x0 (x1 + (1 : Int32)) H locs ls hI (lv_sub hl [1, 0] rfl) hq
        · replace hq := i_f c7 hq
          exact hK24 x1 H locs ls hI (lv_sub hl [1] rfl) hq
  refine hl2 _ ?_ _ ?_ FU a0 (0 : Int32) H locs ls hI (lv_sub hl [1, 0] rfl) hq
  · intro x1 H locs ls hI hl hq
    refine lv_iload_n hx hb dX8_orderHere_24 rfl (lv_at hl 0 rfl) ?_
    refine lv_bipush (v := (9 : Int32)) hx hb dX8_orderHere_25 (by decide) ?_
    refine lv_icmp_le (tgt := 34) hx hb dX8_orderHere_27 (by decide) (fun c8 => ?_) (fun c8 => ?_)
    · replace hq := i_t c8 hq
      refine lv_iload_n hx hb dX8_orderHere_34 rfl (lv_at hl 0 rfl) ?_
      exact ge_Ri hx hb hlocks hr rfl hI hq dX8_orderHere_35
    · replace hq := i_f c8 hq
      refine lv_iconst (v := (0 : Int32)) hx hb dX8_orderHere_30 (by decide) ?_
      refine lv_goto (tgt := 35) hx hb dX8_orderHere_31 (by decide) ?_
      exact ge_Ri hx hb hlocks hr rfl hI hq dX8_orderHere_35
  · intro  H locs ls hI hl hq
    refine lv_iconst (v := (-1 : Int32)) hx hb dX8_orderHere_42 (by decide) ?_
    exact ge_Ri hx hb hlocks hr rfl hI hq dX8_orderHere_43

def p_X8_readNumbers_j135 (V : Nat → Nat) (g : GH) (x0 : Nat) (x1 : Int32) (x4 : Int32) (x5 : Int32) (t0 : Int32) (t1 : Int32) (t2 : Nat) (f : GH) : Option GH :=
  (h_si f t2 0 t1 t0).bind fun f7 =>
  (h_gr f7 x0 10 23).bind fun v8 =>
  (if x5 = (0 : Int32) then
    (h_si f7 v8 0 (x1 + (4 : Int32)) (0 : Int32)).bind fun f10 =>
    some f10
  else
    (p_X8_readSigned V g f7 x0 x4).bind fun v11 =>
    (h_si v11.2 v8 0 (x1 + (4 : Int32)) v11.1).bind fun f12 =>
    some f12)
def p_X8_readNumbers_j111 (V : Nat → Nat) (g : GH) (x0 : Nat) (x1 : Int32) (x4 : Int32) (t0 : Int32) (f : GH) : Option GH :=
  (h_gr f x0 10 23).bind fun v6 =>
  (if t0 = (0 : Int32) then
    p_X8_readNumbers_j135 V g x0 x1 x4 t0 (0 : Int32) (x1 + (3 : Int32)) v6 f
  else
    (p_X8_readSigned V g f x0 x4).bind fun v14 =>
    p_X8_readNumbers_j135 V g x0 x1 x4 t0 v14.1 (x1 + (3 : Int32)) v6 v14.2)
def p_X8_readNumbers_j106 (V : Nat → Nat) (g : GH) (K111 : Nat → Int32 → Int32 → Int32 → GH → Option GH) (x0 : Nat) (x1 : Int32) (x4 : Int32) (f : GH) : Option GH :=
  K111 x0 x1 x4 (1 : Int32) f
def p_X8_readNumbers_j88 (V : Nat → Nat) (g : GH) (x0 : Nat) (x1 : Int32) (x2 : Int32) (t0 : Int32) (f : GH) : Option GH :=
  (if x2 = (3 : Int32) then
    p_X8_readNumbers_j106 V g (p_X8_readNumbers_j111 V g) x0 x1 t0 f
  else
    (if x2 = (4 : Int32) then
      p_X8_readNumbers_j106 V g (p_X8_readNumbers_j111 V g) x0 x1 t0 f
    else
      (if x2 = (6 : Int32) then
        p_X8_readNumbers_j106 V g (p_X8_readNumbers_j111 V g) x0 x1 t0 f
      else
        p_X8_readNumbers_j111 V g x0 x1 t0 (0 : Int32) f)))
def p_X8_readNumbers_j72 (V : Nat → Nat) (g : GH) (x0 : Nat) (x1 : Int32) (x2 : Int32) (t0 : Int32) (t1 : Int32) (t2 : Nat) (f : GH) : Option GH :=
  (h_si f t2 0 t1 t0).bind fun f5 =>
  (if x2 = (6 : Int32) then
    p_X8_readNumbers_j88 V g x0 x1 x2 (2000 : Int32) f5
  else
    p_X8_readNumbers_j88 V g x0 x1 x2 (1000 : Int32) f5)
def p_X8_readNumbers_j34 (V : Nat → Nat) (g : GH) (x0 : Nat) (x1 : Int32) (x2 : Int32) (t0 : Int32) (f : GH) : Option GH :=
  (h_gr f x0 10 23).bind fun v4 =>
  (if t0 = (0 : Int32) then
    (if x2 = (1 : Int32) then
      (p_X8_readSigned V g f x0 (50 : Int32)).bind fun v21 =>
      p_X8_readNumbers_j72 V g x0 x1 x2 v21.1 (x1 + (2 : Int32)) v4 v21.2
    else
      p_X8_readNumbers_j72 V g x0 x1 x2 (0 : Int32) (x1 + (2 : Int32)) v4 f)
  else
    (p_X8_readNumber V g f x0 (0 : Int32) (128 : Int32)).bind fun v22 =>
    p_X8_readNumbers_j72 V g x0 x1 x2 v22.1 (x1 + (2 : Int32)) v4 v22.2)
def p_X8_readNumbers_j29 (V : Nat → Nat) (g : GH) (K34 : Nat → Int32 → Int32 → Int32 → GH → Option GH) (x0 : Nat) (x1 : Int32) (x2 : Int32) (f : GH) : Option GH :=
  K34 x0 x1 x2 (1 : Int32) f
def p_X8_readNumbers (V : Nat → Nat) (g f : GH) (a0 : Nat) (a1 : Int32) (a2 : Int32) : Option GH :=
  h_me f a0 10 <|
  (h_gr f a0 10 23).bind fun v1 =>
  (p_X8_readNumber V g f a0 (0 : Int32) (5 : Int32)).bind fun v2 =>
  (h_si v2.2 v1 0 (a1 + (1 : Int32)) v2.1).bind fun f3 =>
  (if a2 = (3 : Int32) then
    p_X8_readNumbers_j29 V g (p_X8_readNumbers_j34 V g) a0 a1 a2 f3
  else
    (if a2 = (4 : Int32) then
      p_X8_readNumbers_j29 V g (p_X8_readNumbers_j34 V g) a0 a1 a2 f3
    else
      (if a2 = (5 : Int32) then
        p_X8_readNumbers_j29 V g (p_X8_readNumbers_j34 V g) a0 a1 a2 f3
      else
        p_X8_readNumbers_j34 V g a0 a1 a2 (0 : Int32) f3)))
abbrev rm_X8_readNumbers : Room := { frames := 8, cells := 0, slots := 0, locals := 248 }
theorem k_X8_readNumbers : g_CV yX8_readNumbers cX8_readNumbers 6 none 2 := ⟨⟨m_2199, m_14, by decide +kernel⟩, m_2198, ms_100⟩
set_option maxHeartbeats 4000000 in
set_option maxRecDepth 100000 in
theorem c_X8_readNumbers (l : Launch) (V : Nat → Nat) (g : GH) (D : va_G) (cT : Nat → ClassId) (f : GH) (n : Nat) (a0 : Nat) (a1 : Int32) (a2 : Int32) (o : GH) (hq : p_X8_readNumbers V g f a0 a1 a2 = some o) : Met l yX8_readNumbers (Cond.code yX8_readNumbers cX8_readNumbers 6 none :: g_B) rm_X8_readNumbers (va_Pc [.ref a0, .int a1, .int a2] (g_I V g D cT f n)) (g_Wv V D cT o n) 0 0 (g_A V) := by
  refine g_begin (own := RX8) [.ref a0, .int a1, .int a2] [(0, .ref a0), (1, .int a1), (2, .int a2)] (g_A V) (fun _ h => h) (by decide) rfl (Nat.le_of_ble_eq_true rfl) rfl ?_
  intro p e s m args below meth c hx hb hr hlocks hin hC hI ls hl
  obtain ⟨hx, hb, hml, hown, hB⟩ := id hC
  obtain ⟨H, hH⟩ : ∃ H, H = s.heap := ⟨_, rfl⟩
  obtain ⟨locs, hlocs⟩ : ∃ L : List Loc, L = [] := ⟨_, rfl⟩
  rw [← hH, ← hlocs] at hI ⊢
  clear hH hlocs
  unfold p_X8_readNumbers at hq
  replace hq := (h_me_eq hq).2
  refine lv_aload_n hx hb dX8_readNumbers_0 rfl (lv_at hl 0 rfl) ?_
  obtain ⟨v1, ev1, hq⟩ := b_s hq
  refine fa_gr (own := RX8) (ref := "CoastlineRulerModel") (k := 23) hx hb hB inB_RX8 hown hI rfl (by decide) m_1554 (fun _ h9 => h9) ev1 dX8_readNumbers_1 ?_
  refine lv_iload_n hx hb dX8_readNumbers_4 rfl (lv_at hl 1 rfl) ?_
  refine lv_iconst (v := (1 : Int32)) hx hb dX8_readNumbers_5 (by decide) ?_
  refine lv_iadd hx hb dX8_readNumbers_6 ?_
  refine lv_aload_n hx hb dX8_readNumbers_7 rfl (lv_at hl 0 rfl) ?_
  refine lv_iconst (v := (0 : Int32)) hx hb dX8_readNumbers_8 (by decide) ?_
  refine lv_iconst (v := (5 : Int32)) hx hb dX8_readNumbers_9 (by decide) ?_
  obtain ⟨v2, ev2, hq⟩ := b_s hq
  refine gw_i (g_runV (As := [.int (0 : Int32), .int (5 : Int32)]) (rest := [.int (a1 + (1 : Int32)), .ref v1]) (ci := 10) hC (c_X8_readNumber l V g D cT f n a0 (0 : Int32) (5 : Int32) v2 ev2) k_X8_readNumber m_2160 rfl rfl ⟨Nat.le_of_ble_eq_true rfl, Nat.le_of_ble_eq_true rfl⟩ hI rfl rfl (h_me_eq ev2).1 rfl hl.1 rfl (Nat.le_of_ble_eq_true rfl) dX8_readNumbers_10 ⟨by decide, by decide⟩) hI (fun H locs hI => ?_)
  obtain ⟨f3, ef3, hq⟩ := b_s hq
  refine fa_si hx hb hI ef3 dX8_readNumbers_13 (fun H locs hI => ?_)
  refine lv_iload_n hx hb dX8_readNumbers_14 rfl (lv_at hl 2 rfl) ?_
  refine lv_iconst (v := (3 : Int32)) hx hb dX8_readNumbers_15 (by decide) ?_
  have hj34 : ∀ (x0 : Nat) (x1 : Int32) (x2 : Int32) (t0 : Int32) (f : GH) (H : Heap) (locs : List Loc) (ls : Array Slot), g_at (g_A V) V g D cT f n s H locs → lv_has ls 6 [(0, .ref x0), (1, .int x1), (2, .int x2)] → p_X8_readNumbers_j34 V g x0 x1 x2 t0 f = some o → W p l e rm_X8_readNumbers s m args below meth c H locs 0 0 (MQ below (g_Wv V D cT o n) args s 0 0 (g_A V)) (F0 m 34 ls [.int t0]) := by
    intro x0 x1 x2 t0 f H locs ls hI hl hq
    unfold p_X8_readNumbers_j34 at hq
    refine lv_istore_n (lv' := [(3, .int t0), (0, .ref x0), (1, .int x1), (2, .int x2)]) hx hb dX8_readNumbers_34 rfl hl (by decide) rfl (fun ls hl => ?_)
    refine lv_aload_n hx hb dX8_readNumbers_35 rfl (lv_at hl 1 rfl) ?_
    obtain ⟨v4, ev4, hq⟩ := b_s hq
    refine fa_gr (own := RX8) (ref := "CoastlineRulerModel") (k := 23) hx hb hB inB_RX8 hown hI rfl (by decide) m_1554 (fun _ h9 => h9) ev4 dX8_readNumbers_36 ?_
    refine lv_iload_n hx hb dX8_readNumbers_39 rfl (lv_at hl 2 rfl) ?_
    refine lv_iconst (v := (2 : Int32)) hx hb dX8_readNumbers_40 (by decide) ?_
    refine lv_iadd hx hb dX8_readNumbers_41 ?_
    refine lv_iload_n hx hb dX8_readNumbers_42 rfl (lv_at hl 0 rfl) ?_
    have hj72 : ∀ (x0 : Nat) (x1 : Int32) (x2 : Int32) (t0 : Int32) (t1 : Int32) (t2 : Nat) (f : GH) (H : Heap) (locs : List Loc) (ls : Array Slot), g_at (g_A V) V g D cT f n s H locs → lv_has ls 6 [(0, .ref x0), (1, .int x1), (2, .int x2)] → p_X8_readNumbers_j72 V g x0 x1 x2 t0 t1 t2 f = some o → W p l e rm_X8_readNumbers s m args below meth c H locs 0 0 (MQ below (g_Wv V D cT o n) args s 0 0 (g_A V)) (F0 m 72 ls [.int t0, .int t1, .ref t2]) := by
      intro x0 x1 x2 t0 t1 t2 f H locs ls hI hl hq
      unfold p_X8_readNumbers_j72 at hq
      obtain ⟨f5, ef5, hq⟩ := b_s hq
      refine fa_si hx hb hI ef5 dX8_readNumbers_72 (fun H locs hI => ?_)
      refine lv_iload_n hx hb dX8_readNumbers_73 rfl (lv_at hl 2 rfl) ?_
      refine lv_bipush (v := (6 : Int32)) hx hb dX8_readNumbers_74 (by decide) ?_
      have hj88 : ∀ (x0 : Nat) (x1 : Int32) (x2 : Int32) (t0 : Int32) (f : GH) (H : Heap) (locs : List Loc) (ls : Array Slot), g_at (g_A V) V g D cT f n s H locs → lv_has ls 6 [(0, .ref x0), (1, .int x1), (2, .int x2)] → p_X8_readNumbers_j88 V g x0 x1 x2 t0 f = some o → W p l e rm_X8_readNumbers s m args below meth c H locs 0 0 (MQ below (g_Wv V D cT o n) args s 0 0 (g_A V)) (F0 m 88 ls [.int t0]) := by
        intro x0 x1 x2 t0 f H locs ls hI hl hq
        unfold p_X8_readNumbers_j88 at hq
        refine lv_istore (lv' := [(4, .int t0), (0, .ref x0), (1, .int x1), (2, .int x2)]) hx hb dX8_readNumbers_88 hl (by decide) rfl (fun ls hl => ?_)
        refine lv_iload_n hx hb dX8_readNumbers_90 rfl (lv_at hl 3 rfl) ?_
        refine lv_iconst (v := (3 : Int32)) hx hb dX8_readNumbers_91 (by decide) ?_
        have hj111 : ∀ (x0 : Nat) (x1 : Int32) (x4 : Int32) (t0 : Int32) (f : GH) (H : Heap) (locs : List Loc) (ls : Array Slot), g_at (g_A V) V g D cT f n s H locs → lv_has ls 6 [(0, .ref x0), (1, .int x1), (4, .int x4)] → p_X8_readNumbers_j111 V g x0 x1 x4 t0 f = some o → W p l e rm_X8_readNumbers s m args below meth c H locs 0 0 (MQ below (g_Wv V D cT o n) args s 0 0 (g_A V)) (F0 m 111 ls [.int t0]) := by
          intro x0 x1 x4 t0 f H locs ls hI hl hq
          unfold p_X8_readNumbers_j111 at hq
          refine lv_istore (lv' := [(5, .int t0), (0, .ref x0), (1, .int x1), (4, .int x4)]) hx hb dX8_readNumbers_111 hl (by decide) rfl (fun ls hl => ?_)
          refine lv_aload_n hx hb dX8_readNumbers_113 rfl (lv_at hl 1 rfl) ?_
          obtain ⟨v6, ev6, hq⟩ := b_s hq
          refine fa_gr (own := RX8) (ref := "CoastlineRulerModel") (k := 23) hx hb hB inB_RX8 hown hI rfl (by decide) m_1554 (fun _ h9 => h9) ev6 dX8_readNumbers_114 ?_
          refine lv_iload_n hx hb dX8_readNumbers_117 rfl (lv_at hl 2 rfl) ?_
          refine lv_iconst (v := (3 : Int32)) hx hb dX8_readNumbers_118 (by decide) ?_
          refine lv_iadd hx hb dX8_readNumbers_119 ?_
          refine lv_iload hx hb dX8_readNumbers_120 (lv_at hl 0 rfl) ?_
          have hj135 : ∀ (x0 : Nat) (x1 : Int32) (x4 : Int32) (x5 : Int32) (t0 : Int32) (t1 : Int32) (t2 : Nat) (f : GH) (H : Heap) (locs : List Loc) (ls : Array Slot), g_at (g_A V) V g D cT f n s H locs → lv_has ls 6 [(0, .ref x0), (1, .int x1), (4, .int x4), (5, .int x5)] → p_X8_readNumbers_j135 V g x0 x1 x4 x5 t0 t1 t2 f = some o → W p l e rm_X8_readNumbers s m args below meth c H locs 0 0 (MQ below (g_Wv V D cT o n) args s 0 0 (g_A V)) (F0 m 135 ls [.int t0, .int t1, .ref t2]) := by
            intro x0 x1 x4 x5 t0 t1 t2 f H locs ls hI hl hq
            unfold p_X8_readNumbers_j135 at hq
            obtain ⟨f7, ef7, hq⟩ := b_s hq
            refine fa_si hx hb hI ef7 dX8_readNumbers_135 (fun H locs hI => ?_)
            refine lv_aload_n hx hb dX8_readNumbers_136 rfl (lv_at hl 0 rfl) ?_
            obtain ⟨v8, ev8, hq⟩ := b_s hq
            refine fa_gr (own := RX8) (ref := "CoastlineRulerModel") (k := 23) hx hb hB inB_RX8 hown hI rfl (by decide) m_1554 (fun _ h9 => h9) ev8 dX8_readNumbers_137 ?_
            refine lv_iload_n hx hb dX8_readNumbers_140 rfl (lv_at hl 1 rfl) ?_
            refine lv_iconst (v := (4 : Int32)) hx hb dX8_readNumbers_141 (by decide) ?_
            refine lv_iadd hx hb dX8_readNumbers_142 ?_
            refine lv_iload hx hb dX8_readNumbers_143 (lv_at hl 3 rfl) ?_
            refine lv_if_eq (tgt := 157) hx hb dX8_readNumbers_145 (by decide) (fun c9 => ?_) (fun c9 => ?_)
            · replace hq := i_t c9 hq
              refine lv_iconst (v := (0 : Int32)) hx hb dX8_readNumbers_157 (by decide) ?_
              obtain ⟨f10, ef10, hq⟩ := b_s hq
              refine fa_si hx hb hI ef10 dX8_readNumbers_158 (fun H locs hI => ?_)
              exact ge_Wv hx hb hlocks hr hI (Option.some.inj hq) dX8_readNumbers_159
            · replace hq := i_f c9 hq
              refine lv_aload_n hx hb dX8_readNumbers_148 rfl (lv_at hl 0 rfl) ?_
              refine lv_iload hx hb dX8_readNumbers_149 (lv_at hl 2 rfl) ?_
              obtain ⟨v11, ev11, hq⟩ := b_s hq
              refine gw_i (g_runV (As := [.int x4]) (rest := [.int (x1 + (4 : Int32)), .ref v8]) (ci := 10) hC (c_X8_readSigned l V g D cT f7 n x0 x4 v11 ev11) k_X8_readSigned m_2156 rfl rfl ⟨Nat.le_of_ble_eq_true rfl, Nat.le_of_ble_eq_true rfl⟩ hI rfl rfl (h_me_eq ev11).1 rfl hl.1 rfl (Nat.le_of_ble_eq_true rfl) dX8_readNumbers_151 ⟨by decide, by decide⟩) hI (fun H locs hI => ?_)
              refine lv_goto (tgt := 158) hx hb dX8_readNumbers_154 (by decide) ?_
              obtain ⟨f12, ef12, hq⟩ := b_s hq
              refine fa_si hx hb hI ef12 dX8_readNumbers_158 (fun H locs hI => ?_)
              exact ge_Wv hx hb hlocks hr hI (Option.some.inj hq) dX8_readNumbers_159
          refine lv_if_eq (tgt := 134) hx hb dX8_readNumbers_122 (by decide) (fun c13 => ?_) (fun c13 => ?_)
          · replace hq := i_t c13 hq
            refine lv_iconst (v := (0 : Int32)) hx hb dX8_readNumbers_134 (by decide) ?_
            exact hj135 x0 x1 x4 t0 (0 : Int32) (x1 + (3 : Int32)) v6 f H locs ls hI (lv_sub hl [1, 2, 3, 0] rfl) hq
          · replace hq := i_f c13 hq
            refine lv_aload_n hx hb dX8_readNumbers_125 rfl (lv_at hl 1 rfl) ?_
            refine lv_iload hx hb dX8_readNumbers_126 (lv_at hl 3 rfl) ?_
            obtain ⟨v14, ev14, hq⟩ := b_s hq
            refine gw_i (g_runV (As := [.int x4]) (rest := [.int (x1 + (3 : Int32)), .ref v6]) (ci := 10) hC (c_X8_readSigned l V g D cT f n x0 x4 v14 ev14) k_X8_readSigned m_2156 rfl rfl ⟨Nat.le_of_ble_eq_true rfl, Nat.le_of_ble_eq_true rfl⟩ hI rfl rfl (h_me_eq ev14).1 rfl hl.1 rfl (Nat.le_of_ble_eq_true rfl) dX8_readNumbers_128 ⟨by decide, by decide⟩) hI (fun H locs hI => ?_)
            refine lv_goto (tgt := 135) hx hb dX8_readNumbers_131 (by decide) ?_
            exact hj135 x0 x1 x4 t0 v14.1 (x1 + (3 : Int32)) v6 v14.2 H locs ls hI (lv_sub hl [1, 2, 3, 0] rfl) hq
        have hj106 : ∀ (x0 : Nat) (x1 : Int32) (x4 : Int32) (f : GH) (H : Heap) (locs : List Loc) (ls : Array Slot), g_at (g_A V) V g D cT f n s H locs → lv_has ls 6 [(0, .ref x0), (1, .int x1), (4, .int x4)] → p_X8_readNumbers_j106 V g (p_X8_readNumbers_j111 V g) x0 x1 x4 f = some o → W p l e rm_X8_readNumbers s m args below meth c H locs 0 0 (MQ below (g_Wv V D cT o n) args s 0 0 (g_A V)) (F0 m 106 ls []) := by
          intro x0 x1 x4 f H locs ls hI hl hq
          unfold p_X8_readNumbers_j106 at hq
          refine lv_iconst (v := (1 : Int32)) hx hb dX8_readNumbers_106 (by decide) ?_
          refine lv_goto (tgt := 111) hx hb dX8_readNumbers_107 (by decide) ?_
          exact hj111 x0 x1 x4 (1 : Int32) f H locs ls hI (lv_sub hl [0, 1, 2] rfl) hq
        refine lv_icmp_eq (tgt := 106) hx hb dX8_readNumbers_92 (by decide) (fun c15 => ?_) (fun c15 => ?_)
        · replace hq := i_t c15 hq
          exact hj106 x0 x1 t0 f H locs ls hI (lv_sub hl [1, 2, 0] rfl) hq
        · replace hq := i_f c15 hq
          refine lv_iload_n hx hb dX8_readNumbers_95 rfl (lv_at hl 3 rfl) ?_
          refine lv_iconst (v := (4 : Int32)) hx hb dX8_readNumbers_96 (by decide) ?_
          refine lv_icmp_eq (tgt := 106) hx hb dX8_readNumbers_97 (by decide) (fun c16 => ?_) (fun c16 => ?_)
          · replace hq := i_t c16 hq
            exact hj106 x0 x1 t0 f H locs ls hI (lv_sub hl [1, 2, 0] rfl) hq
          · replace hq := i_f c16 hq
            refine lv_iload_n hx hb dX8_readNumbers_100 rfl (lv_at hl 3 rfl) ?_
            refine lv_bipush (v := (6 : Int32)) hx hb dX8_readNumbers_101 (by decide) ?_
            refine lv_icmp_ne (tgt := 110) hx hb dX8_readNumbers_103 (by decide) (fun c17 => ?_) (fun c17 => ?_)
            · replace hq := i_f c17 hq
              refine lv_iconst (v := (0 : Int32)) hx hb dX8_readNumbers_110 (by decide) ?_
              exact hj111 x0 x1 t0 (0 : Int32) f H locs ls hI (lv_sub hl [1, 2, 0] rfl) hq
            · replace hq := i_t c17 hq
              exact hj106 x0 x1 t0 f H locs ls hI (lv_sub hl [1, 2, 0] rfl) hq
      refine lv_icmp_ne (tgt := 85) hx hb dX8_readNumbers_76 (by decide) (fun c18 => ?_) (fun c18 => ?_)
      · replace hq := i_f c18 hq
        refine lv_sipush (v := (1000 : Int32)) hx hb dX8_readNumbers_85 (by decide) ?_
        exact hj88 x0 x1 x2 (1000 : Int32) f5 H locs ls hI (lv_sub hl [0, 1, 2] rfl) hq
      · replace hq := i_t c18 hq
        refine lv_sipush (v := (2000 : Int32)) hx hb dX8_readNumbers_79 (by decide) ?_
        refine lv_goto (tgt := 88) hx hb dX8_readNumbers_82 (by decide) ?_
        exact hj88 x0 x1 x2 (2000 : Int32) f5 H locs ls hI (lv_sub hl [0, 1, 2] rfl) hq
    refine lv_if_eq (tgt := 57) hx hb dX8_readNumbers_43 (by decide) (fun c19 => ?_) (fun c19 => ?_)
    · replace hq := i_t c19 hq
      refine lv_iload_n hx hb dX8_readNumbers_57 rfl (lv_at hl 3 rfl) ?_
      refine lv_iconst (v := (1 : Int32)) hx hb dX8_readNumbers_58 (by decide) ?_
      refine lv_icmp_ne (tgt := 71) hx hb dX8_readNumbers_59 (by decide) (fun c20 => ?_) (fun c20 => ?_)
      · replace hq := i_f c20 hq
        refine lv_iconst (v := (0 : Int32)) hx hb dX8_readNumbers_71 (by decide) ?_
        exact hj72 x0 x1 x2 (0 : Int32) (x1 + (2 : Int32)) v4 f H locs ls hI (lv_sub hl [1, 2, 3] rfl) hq
      · replace hq := i_t c20 hq
        refine lv_aload_n hx hb dX8_readNumbers_62 rfl (lv_at hl 1 rfl) ?_
        refine lv_bipush (v := (50 : Int32)) hx hb dX8_readNumbers_63 (by decide) ?_
        obtain ⟨v21, ev21, hq⟩ := b_s hq
        refine gw_i (g_runV (As := [.int (50 : Int32)]) (rest := [.int (x1 + (2 : Int32)), .ref v4]) (ci := 10) hC (c_X8_readSigned l V g D cT f n x0 (50 : Int32) v21 ev21) k_X8_readSigned m_2156 rfl rfl ⟨Nat.le_of_ble_eq_true rfl, Nat.le_of_ble_eq_true rfl⟩ hI rfl rfl (h_me_eq ev21).1 rfl hl.1 rfl (Nat.le_of_ble_eq_true rfl) dX8_readNumbers_65 ⟨by decide, by decide⟩) hI (fun H locs hI => ?_)
        refine lv_goto (tgt := 72) hx hb dX8_readNumbers_68 (by decide) ?_
        exact hj72 x0 x1 x2 v21.1 (x1 + (2 : Int32)) v4 v21.2 H locs ls hI (lv_sub hl [1, 2, 3] rfl) hq
    · replace hq := i_f c19 hq
      refine lv_aload_n hx hb dX8_readNumbers_46 rfl (lv_at hl 1 rfl) ?_
      refine lv_iconst (v := (0 : Int32)) hx hb dX8_readNumbers_47 (by decide) ?_
      refine lv_sipush (v := (128 : Int32)) hx hb dX8_readNumbers_48 (by decide) ?_
      obtain ⟨v22, ev22, hq⟩ := b_s hq
      refine gw_i (g_runV (As := [.int (0 : Int32), .int (128 : Int32)]) (rest := [.int (x1 + (2 : Int32)), .ref v4]) (ci := 10) hC (c_X8_readNumber l V g D cT f n x0 (0 : Int32) (128 : Int32) v22 ev22) k_X8_readNumber m_2160 rfl rfl ⟨Nat.le_of_ble_eq_true rfl, Nat.le_of_ble_eq_true rfl⟩ hI rfl rfl (h_me_eq ev22).1 rfl hl.1 rfl (Nat.le_of_ble_eq_true rfl) dX8_readNumbers_51 ⟨by decide, by decide⟩) hI (fun H locs hI => ?_)
      refine lv_goto (tgt := 72) hx hb dX8_readNumbers_54 (by decide) ?_
      exact hj72 x0 x1 x2 v22.1 (x1 + (2 : Int32)) v4 v22.2 H locs ls hI (lv_sub hl [1, 2, 3] rfl) hq
  have hj29 : ∀ (x0 : Nat) (x1 : Int32) (x2 : Int32) (f : GH) (H : Heap) (locs : List Loc) (ls : Array Slot), g_at (g_A V) V g D cT f n s H locs → lv_has ls 6 [(0, .ref x0), (1, .int x1), (2, .int x2)] → p_X8_readNumbers_j29 V g (p_X8_readNumbers_j34 V g) x0 x1 x2 f = some o → W p l e rm_X8_readNumbers s m args below meth c H locs 0 0 (MQ below (g_Wv V D cT o n) args s 0 0 (g_A V)) (F0 m 29 ls []) := by
    intro x0 x1 x2 f H locs ls hI hl hq
    unfold p_X8_readNumbers_j29 at hq
    refine lv_iconst (v := (1 : Int32)) hx hb dX8_readNumbers_29 (by decide) ?_
    refine lv_goto (tgt := 34) hx hb dX8_readNumbers_30 (by decide) ?_
    exact hj34 x0 x1 x2 (1 : Int32) f H locs ls hI (lv_sub hl [0, 1, 2] rfl) hq
  refine lv_icmp_eq (tgt := 29) hx hb dX8_readNumbers_16 (by decide) (fun c23 => ?_) (fun c23 => ?_)
  · replace hq := i_t c23 hq
    exact hj29 a0 a1 a2 f3 H locs ls hI (lv_sub hl [0, 1, 2] rfl) hq
  · replace hq := i_f c23 hq
    refine lv_iload_n hx hb dX8_readNumbers_19 rfl (lv_at hl 2 rfl) ?_
    refine lv_iconst (v := (4 : Int32)) hx hb dX8_readNumbers_20 (by decide) ?_
    refine lv_icmp_eq (tgt := 29) hx hb dX8_readNumbers_21 (by decide) (fun c24 => ?_) (fun c24 => ?_)
    · replace hq := i_t c24 hq
      exact hj29 a0 a1 a2 f3 H locs ls hI (lv_sub hl [0, 1, 2] rfl) hq
    · replace hq := i_f c24 hq
      refine lv_iload_n hx hb dX8_readNumbers_24 rfl (lv_at hl 2 rfl) ?_
      refine lv_iconst (v := (5 : Int32)) hx hb dX8_readNumbers_25 (by decide) ?_
      refine lv_icmp_ne (tgt := 33) hx hb dX8_readNumbers_26 (by decide) (fun c25 => ?_) (fun c25 => ?_)
      · replace hq := i_f c25 hq
        refine lv_iconst (v := (0 : Int32)) hx hb dX8_readNumbers_33 (by decide) ?_
        exact hj34 a0 a1 a2 (0 : Int32) f3 H locs ls hI (lv_sub hl [0, 1, 2] rfl) hq
      · replace hq := i_t c25 hq
        exact hj29 a0 a1 a2 f3 H locs ls hI (lv_sub hl [0, 1, 2] rfl) hq

def p_X8_saveSnapshot (V : Nat → Nat) (g f : GH) (a0 : Nat) : Option GH :=
  h_me f a0 10 <|
  (h_pt f a0 10 7 (.int (0 : Int32))).bind fun f1 =>
  (h_gr f1 a0 10 0).bind fun v2 =>
  (h_gr f1 a0 10 3).bind fun v3 =>
  (p_X8_copy V g f1 v2 (0 : Int32) v3 (0 : Int32)).bind fun v4 =>
  (h_pt v4 a0 10 9 (.int (1 : Int32))).bind fun f5 =>
  some f5
abbrev rm_X8_saveSnapshot : Room := { frames := 3, cells := 0, slots := 0, locals := 143 }
theorem k_X8_saveSnapshot : g_CV yX8_saveSnapshot cX8_saveSnapshot 1 none 0 := ⟨⟨m_2057, m_14, by decide +kernel⟩, m_2055, m_2056⟩
set_option maxHeartbeats 4000000 in
set_option maxRecDepth 100000 in
theorem c_X8_saveSnapshot (l : Launch) (V : Nat → Nat) (g : GH) (D : va_G) (cT : Nat → ClassId) (f : GH) (n : Nat) (a0 : Nat) (o : GH) (hq : p_X8_saveSnapshot V g f a0 = some o) : Met l yX8_saveSnapshot (Cond.code yX8_saveSnapshot cX8_saveSnapshot 1 none :: g_B) rm_X8_saveSnapshot (va_Pc [.ref a0] (g_I V g D cT f n)) (g_Wv V D cT o n) 0 0 (g_A V) := by
  refine g_begin (own := RX8) [.ref a0] [(0, .ref a0)] (g_A V) (fun _ h => h) (by decide) rfl (Nat.le_of_ble_eq_true rfl) rfl ?_
  intro p e s m args below meth c hx hb hr hlocks hin hC hI ls hl
  obtain ⟨hx, hb, hml, hown, hB⟩ := id hC
  obtain ⟨H, hH⟩ : ∃ H, H = s.heap := ⟨_, rfl⟩
  obtain ⟨locs, hlocs⟩ : ∃ L : List Loc, L = [] := ⟨_, rfl⟩
  rw [← hH, ← hlocs] at hI ⊢
  clear hH hlocs
  unfold p_X8_saveSnapshot at hq
  replace hq := (h_me_eq hq).2
  refine lv_aload_n hx hb dX8_saveSnapshot_0 rfl (lv_at hl 0 rfl) ?_
  refine lv_iconst (v := (0 : Int32)) hx hb dX8_saveSnapshot_1 (by decide) ?_
  obtain ⟨f1, ef1, hq⟩ := b_s hq
  refine fa_pt (own := RX8) (ref := "CoastlineRulerModel") (k := 7) hx hb hB inB_RX8 tyX8_ok nmX8 hown hI rfl (by decide) m_1538 (fun _ h9 => h9) (by decide) rfl rfl ef1 dX8_saveSnapshot_2 (fun H locs hI => ?_)
  refine lv_aload_n hx hb dX8_saveSnapshot_5 rfl (lv_at hl 0 rfl) ?_
  obtain ⟨v2, ev2, hq⟩ := b_s hq
  refine fa_gr (own := RX8) (ref := "CoastlineRulerModel") (k := 0) hx hb hB inB_RX8 hown hI rfl (by decide) m_1531 (fun _ h9 => h9) ev2 dX8_saveSnapshot_6 ?_
  refine lv_iconst (v := (0 : Int32)) hx hb dX8_saveSnapshot_9 (by decide) ?_
  refine lv_aload_n hx hb dX8_saveSnapshot_10 rfl (lv_at hl 0 rfl) ?_
  obtain ⟨v3, ev3, hq⟩ := b_s hq
  refine fa_gr (own := RX8) (ref := "CoastlineRulerModel") (k := 3) hx hb hB inB_RX8 hown hI rfl (by decide) m_1534 (fun _ h9 => h9) ev3 dX8_saveSnapshot_11 ?_
  refine lv_iconst (v := (0 : Int32)) hx hb dX8_saveSnapshot_14 (by decide) ?_
  obtain ⟨v4, ev4, hq⟩ := b_s hq
  refine gw_v (g_runS (As := [.ref v2, .int (0 : Int32), .ref v3, .int (0 : Int32)]) (rest := []) hC (c_X8_copy l V g D cT f1 n v2 (0 : Int32) v3 (0 : Int32) v4 ev4) k_X8_copy m_1944 rfl rfl ⟨Nat.le_of_ble_eq_true rfl, Nat.le_of_ble_eq_true rfl⟩ hI rfl hl.1 rfl (Nat.le_of_ble_eq_true rfl) dX8_saveSnapshot_15 ⟨by decide, by decide⟩) hI (fun H locs hI => ?_)
  refine lv_aload_n hx hb dX8_saveSnapshot_18 rfl (lv_at hl 0 rfl) ?_
  refine lv_iconst (v := (1 : Int32)) hx hb dX8_saveSnapshot_19 (by decide) ?_
  obtain ⟨f5, ef5, hq⟩ := b_s hq
  refine fa_pt (own := RX8) (ref := "CoastlineRulerModel") (k := 9) hx hb hB inB_RX8 tyX8_ok nmX8 hown hI rfl (by decide) m_1540 (fun _ h9 => h9) (by decide) (by decide +kernel) (by decide +kernel) ef5 dX8_saveSnapshot_20 (fun H locs hI => ?_)
  exact ge_Wv hx hb hlocks hr hI (Option.some.inj hq) dX8_saveSnapshot_23

def p_X8_restoreSnapshot (V : Nat → Nat) (g f : GH) (a0 : Nat) : Option (Int32 × GH) :=
  h_me f a0 10 <|
  (h_gi f a0 10 9).bind fun v1 =>
  (p_X8_lacks V g f a0 v1).bind fun v2 =>
  (if v2.1 = (0 : Int32) then
    (h_gr v2.2 a0 10 3).bind fun v4 =>
    (h_gr v2.2 a0 10 0).bind fun v5 =>
    (p_X8_copy V g v2.2 v4 (0 : Int32) v5 (0 : Int32)).bind fun v6 =>
    (h_pt v6 a0 10 6 (.int (0 : Int32))).bind fun f7 =>
    (h_gr f7 a0 10 5).bind fun v8 =>
    (h_li f7 v8 0 (1 : Int32)).bind fun v9 =>
    some (v9, f7)
  else
    some ((0 : Int32), v2.2))
abbrev rm_X8_restoreSnapshot : Room := { frames := 3, cells := 0, slots := 0, locals := 143 }
theorem k_X8_restoreSnapshot : g_CV yX8_restoreSnapshot cX8_restoreSnapshot 1 (some .int) 0 := ⟨⟨m_2061, m_14, by decide +kernel⟩, m_2059, m_2060⟩
set_option maxHeartbeats 4000000 in
set_option maxRecDepth 100000 in
theorem c_X8_restoreSnapshot (l : Launch) (V : Nat → Nat) (g : GH) (D : va_G) (cT : Nat → ClassId) (f : GH) (n : Nat) (a0 : Nat) (o : Int32 × GH) (hq : p_X8_restoreSnapshot V g f a0 = some o) : Met l yX8_restoreSnapshot (Cond.code yX8_restoreSnapshot cX8_restoreSnapshot 1 (some .int) :: g_B) rm_X8_restoreSnapshot (va_Pc [.ref a0] (g_I V g D cT f n)) (g_Wi V D cT o.1 o.2 n) 0 0 (g_A V) := by
  refine g_begin (own := RX8) [.ref a0] [(0, .ref a0)] (g_A V) (fun _ h => h) (by decide) rfl (Nat.le_of_ble_eq_true rfl) rfl ?_
  intro p e s m args below meth c hx hb hr hlocks hin hC hI ls hl
  obtain ⟨hx, hb, hml, hown, hB⟩ := id hC
  obtain ⟨H, hH⟩ : ∃ H, H = s.heap := ⟨_, rfl⟩
  obtain ⟨locs, hlocs⟩ : ∃ L : List Loc, L = [] := ⟨_, rfl⟩
  rw [← hH, ← hlocs] at hI ⊢
  clear hH hlocs
  unfold p_X8_restoreSnapshot at hq
  replace hq := (h_me_eq hq).2
  refine lv_aload_n hx hb dX8_restoreSnapshot_0 rfl (lv_at hl 0 rfl) ?_
  refine lv_aload_n hx hb dX8_restoreSnapshot_1 rfl (lv_at hl 0 rfl) ?_
  obtain ⟨v1, ev1, hq⟩ := b_s hq
  refine fa_gi (own := RX8) (ref := "CoastlineRulerModel") (k := 9) hx hb hB inB_RX8 hown hI rfl (by decide) m_1540 (fun _ h9 => h9) ev1 dX8_restoreSnapshot_2 ?_
  obtain ⟨v2, ev2, hq⟩ := b_s hq
  refine gw_i (g_runV (As := [.int v1]) (rest := []) (ci := 10) hC (c_X8_lacks l V g D cT f n a0 v1 v2 ev2) k_X8_lacks m_1637 rfl rfl ⟨Nat.le_of_ble_eq_true rfl, Nat.le_of_ble_eq_true rfl⟩ hI rfl rfl (h_me_eq ev2).1 rfl hl.1 rfl (Nat.le_of_ble_eq_true rfl) dX8_restoreSnapshot_5 ⟨by decide, by decide⟩) hI (fun H locs hI => ?_)
  refine lv_if_eq (tgt := 13) hx hb dX8_restoreSnapshot_8 (by decide) (fun c3 => ?_) (fun c3 => ?_)
  · replace hq := i_t c3 hq
    refine lv_aload_n hx hb dX8_restoreSnapshot_13 rfl (lv_at hl 0 rfl) ?_
    obtain ⟨v4, ev4, hq⟩ := b_s hq
    refine fa_gr (own := RX8) (ref := "CoastlineRulerModel") (k := 3) hx hb hB inB_RX8 hown hI rfl (by decide) m_1534 (fun _ h9 => h9) ev4 dX8_restoreSnapshot_14 ?_
    refine lv_iconst (v := (0 : Int32)) hx hb dX8_restoreSnapshot_17 (by decide) ?_
    refine lv_aload_n hx hb dX8_restoreSnapshot_18 rfl (lv_at hl 0 rfl) ?_
    obtain ⟨v5, ev5, hq⟩ := b_s hq
    refine fa_gr (own := RX8) (ref := "CoastlineRulerModel") (k := 0) hx hb hB inB_RX8 hown hI rfl (by decide) m_1531 (fun _ h9 => h9) ev5 dX8_restoreSnapshot_19 ?_
    refine lv_iconst (v := (0 : Int32)) hx hb dX8_restoreSnapshot_22 (by decide) ?_
    obtain ⟨v6, ev6, hq⟩ := b_s hq
    refine gw_v (g_runS (As := [.ref v4, .int (0 : Int32), .ref v5, .int (0 : Int32)]) (rest := []) hC (c_X8_copy l V g D cT v2.2 n v4 (0 : Int32) v5 (0 : Int32) v6 ev6) k_X8_copy m_1944 rfl rfl ⟨Nat.le_of_ble_eq_true rfl, Nat.le_of_ble_eq_true rfl⟩ hI rfl hl.1 rfl (Nat.le_of_ble_eq_true rfl) dX8_restoreSnapshot_23 ⟨by decide, by decide⟩) hI (fun H locs hI => ?_)
    refine lv_aload_n hx hb dX8_restoreSnapshot_26 rfl (lv_at hl 0 rfl) ?_
    refine lv_iconst (v := (0 : Int32)) hx hb dX8_restoreSnapshot_27 (by decide) ?_
    obtain ⟨f7, ef7, hq⟩ := b_s hq
    refine fa_pt (own := RX8) (ref := "CoastlineRulerModel") (k := 6) hx hb hB inB_RX8 tyX8_ok nmX8 hown hI rfl (by decide) m_1537 (fun _ h9 => h9) (by decide) rfl rfl ef7 dX8_restoreSnapshot_28 (fun H locs hI => ?_)
    refine lv_aload_n hx hb dX8_restoreSnapshot_31 rfl (lv_at hl 0 rfl) ?_
    obtain ⟨v8, ev8, hq⟩ := b_s hq
    refine fa_gr (own := RX8) (ref := "CoastlineRulerModel") (k := 5) hx hb hB inB_RX8 hown hI rfl (by decide) m_1536 (fun _ h9 => h9) ev8 dX8_restoreSnapshot_32 ?_
    refine lv_iconst (v := (1 : Int32)) hx hb dX8_restoreSnapshot_35 (by decide) ?_
    obtain ⟨v9, ev9, hq⟩ := b_s hq
    refine fa_li hx hb hI ev9 dX8_restoreSnapshot_36 ?_
    exact ge_Wi hx hb hlocks hr rfl hI (congrArg (fun z => z.1) (Option.some.inj hq)) (congrArg (fun z => z.2) (Option.some.inj hq)) dX8_restoreSnapshot_37
  · replace hq := i_f c3 hq
    refine lv_iconst (v := (0 : Int32)) hx hb dX8_restoreSnapshot_11 (by decide) ?_
    exact ge_Wi hx hb hlocks hr rfl hI (congrArg (fun z => z.1) (Option.some.inj hq)) (congrArg (fun z => z.2) (Option.some.inj hq)) dX8_restoreSnapshot_12

def p_X8_appendText_j76 (V : Nat → Nat) (g : GH) (K23 : Nat → Int32 → Int32 → Int32 → Int32 → Int32 → Int32 → GH → Option (Int32 × GH)) (x0 : Nat) (x1 : Int32) (x2 : Int32) (x3 : Int32) (x4 : Int32) (x5 : Int32) (x6 : Int32) (t0 : Int32) (f : GH) : Option (Int32 × GH) :=
  (h_gr f x0 10 12).bind fun v5 =>
  (h_gi f x0 10 13).bind fun v6 =>
  (h_si f v5 0 v6 ((t0 >>> (((24 : Int32) - ((8 : Int32) * (x6 - x6 / (4 : Int32) * (4 : Int32)))) &&& 31)) &&& (255 : Int32))).bind fun f7 =>
  (h_gi f7 x0 10 13).bind fun v8 =>
  (h_pt f7 x0 10 13 (.int (v8 + (1 : Int32)))).bind fun f9 =>
  K23 x0 x1 x2 x3 x4 x5 (x6 + (1 : Int32)) f9
def p_X8_appendText_l23 (V : Nat → Nat) (g : GH) (K120 : Nat → GH → Option (Int32 × GH)) : Nat → Nat → Int32 → Int32 → Int32 → Int32 → Int32 → Int32 → GH → Option (Int32 × GH)
  | 0, _, _, _, _, _, _, _, _ => none
  | N + 1, x0, x1, x2, x3, x4, x5, x6, f =>
    (if (20 : Int32) ≤ x6 then
      K120 x0 f
    else
      (if (4 : Int32) ≤ x6 then
        (if (8 : Int32) ≤ x6 then
          (if (12 : Int32) ≤ x6 then
            (if (16 : Int32) ≤ x6 then
              p_X8_appendText_j76 V g (p_X8_appendText_l23 V g K120 N) x0 x1 x2 x3 x4 x5 x6 x5 f
            else
              p_X8_appendText_j76 V g (p_X8_appendText_l23 V g K120 N) x0 x1 x2 x3 x4 x5 x6 x4 f)
          else
            p_X8_appendText_j76 V g (p_X8_appendText_l23 V g K120 N) x0 x1 x2 x3 x4 x5 x6 x3 f)
        else
          p_X8_appendText_j76 V g (p_X8_appendText_l23 V g K120 N) x0 x1 x2 x3 x4 x5 x6 x2 f)
      else
        p_X8_appendText_j76 V g (p_X8_appendText_l23 V g K120 N) x0 x1 x2 x3 x4 x5 x6 x1 f))
def p_X8_appendText (V : Nat → Nat) (g f : GH) (a0 : Nat) (a1 : Int32) (a2 : Int32) (a3 : Int32) (a4 : Int32) (a5 : Int32) : Option (Int32 × GH) :=
  h_me f a0 10 <|
  (h_pt f a0 10 7 (.int (0 : Int32))).bind fun f1 =>
  (h_gi f1 a0 10 13).bind fun v2 =>
  (if (v2 + (20 : Int32)) ≤ (700 : Int32) then
    p_X8_appendText_l23 V g (fun x0 f =>
      (h_gi f x0 10 13).bind fun v14 =>
      some (v14, f)) FU a0 a1 a2 a3 a4 a5 (0 : Int32) f1
  else
    some ((-1 : Int32), f1))
abbrev rm_X8_appendText : Room := { frames := 2, cells := 0, slots := 0, locals := 120 }
theorem k_X8_appendText : g_CV yX8_appendText cX8_appendText 8 (some .int) 5 := ⟨⟨m_2065, m_14, by decide +kernel⟩, m_2063, m_2064⟩
set_option maxHeartbeats 4000000 in
set_option maxRecDepth 100000 in
theorem c_X8_appendText (l : Launch) (V : Nat → Nat) (g : GH) (D : va_G) (cT : Nat → ClassId) (f : GH) (n : Nat) (a0 : Nat) (a1 : Int32) (a2 : Int32) (a3 : Int32) (a4 : Int32) (a5 : Int32) (o : Int32 × GH) (hq : p_X8_appendText V g f a0 a1 a2 a3 a4 a5 = some o) : Met l yX8_appendText (Cond.code yX8_appendText cX8_appendText 8 (some .int) :: g_B) rm_X8_appendText (va_Pc [.ref a0, .int a1, .int a2, .int a3, .int a4, .int a5] (g_I V g D cT f n)) (g_Wi V D cT o.1 o.2 n) 0 0 (g_A V) := by
  refine g_begin (own := RX8) [.ref a0, .int a1, .int a2, .int a3, .int a4, .int a5] [(0, .ref a0), (1, .int a1), (2, .int a2), (3, .int a3), (4, .int a4), (5, .int a5)] (g_A V) (fun _ h => h) (by decide) rfl (Nat.le_of_ble_eq_true rfl) rfl ?_
  intro p e s m args below meth c hx hb hr hlocks hin hC hI ls hl
  obtain ⟨hx, hb, hml, hown, hB⟩ := id hC
  obtain ⟨H, hH⟩ : ∃ H, H = s.heap := ⟨_, rfl⟩
  obtain ⟨locs, hlocs⟩ : ∃ L : List Loc, L = [] := ⟨_, rfl⟩
  rw [← hH, ← hlocs] at hI ⊢
  clear hH hlocs
  unfold p_X8_appendText at hq
  replace hq := (h_me_eq hq).2
  refine lv_aload_n hx hb dX8_appendText_0 rfl (lv_at hl 0 rfl) ?_
  refine lv_iconst (v := (0 : Int32)) hx hb dX8_appendText_1 (by decide) ?_
  obtain ⟨f1, ef1, hq⟩ := b_s hq
  refine fa_pt (own := RX8) (ref := "CoastlineRulerModel") (k := 7) hx hb hB inB_RX8 tyX8_ok nmX8 hown hI rfl (by decide) m_1538 (fun _ h9 => h9) (by decide) rfl rfl ef1 dX8_appendText_2 (fun H locs hI => ?_)
  refine lv_aload_n hx hb dX8_appendText_5 rfl (lv_at hl 0 rfl) ?_
  obtain ⟨v2, ev2, hq⟩ := b_s hq
  refine fa_gi (own := RX8) (ref := "CoastlineRulerModel") (k := 13) hx hb hB inB_RX8 hown hI rfl (by decide) m_1544 (fun _ h9 => h9) ev2 dX8_appendText_6 ?_
  refine lv_bipush (v := (20 : Int32)) hx hb dX8_appendText_9 (by decide) ?_
  refine lv_iadd hx hb dX8_appendText_11 ?_
  refine lv_sipush (v := (700 : Int32)) hx hb dX8_appendText_12 (by decide) ?_
  refine lv_icmp_le (tgt := 20) hx hb dX8_appendText_15 (by decide) (fun c3 => ?_) (fun c3 => ?_)
  · replace hq := i_t c3 hq
    refine lv_iconst (v := (0 : Int32)) hx hb dX8_appendText_20 (by decide) ?_
    refine lv_istore (lv' := [(6, .int (0 : Int32)), (0, .ref a0), (1, .int a1), (2, .int a2), (3, .int a3), (4, .int a4), (5, .int a5)]) hx hb dX8_appendText_21 hl (by decide) rfl (fun ls hl => ?_)
    have hl23 : ∀ (K120 : Nat → GH → Option (Int32 × GH)) (hK120 : ∀ (x0 : Nat) (f : GH) (H : Heap) (locs : List Loc) (ls : Array Slot), g_at (g_A V) V g D cT f n s H locs → lv_has ls 8 [(0, .ref x0)] → K120 x0 f = some o → W p l e rm_X8_appendText s m args below meth c H locs 0 0 (MQ below (g_Wi V D cT o.1 o.2 n) args s 0 0 (g_A V)) (F0 m 120 ls [])) (N : Nat) (x0 : Nat) (x1 : Int32) (x2 : Int32) (x3 : Int32) (x4 : Int32) (x5 : Int32) (x6 : Int32) (f : GH) (H : Heap) (locs : List Loc) (ls : Array Slot), g_at (g_A V) V g D cT f n s H locs → lv_has ls 8 [(0, .ref x0), (1, .int x1), (2, .int x2), (3, .int x3), (4, .int x4), (5, .int x5), (6, .int x6)] → p_X8_appendText_l23 V g K120 N x0 x1 x2 x3 x4 x5 x6 f = some o → W p l e rm_X8_appendText s m args below meth c H locs 0 0 (MQ below (g_Wi V D cT o.1 o.2 n) args s 0 0 (g_A V)) (F0 m 23 ls []) := by
      intro K120 hK120 N
      induction N with
      | zero =>
        intro x0 x1 x2 x3 x4 x5 x6 f H locs ls hI hl hq
        rw [p_X8_appendText_l23] at hq
        cases hq
      | succ N ih =>
        intro x0 x1 x2 x3 x4 x5 x6 f H locs ls hI hl hq
        rw [p_X8_appendText_l23] at hq
        refine lv_iload hx hb dX8_appendText_23 (lv_at hl 6 rfl) ?_
        refine lv_bipush (v := (20 : Int32)) hx hb dX8_appendText_25 (by decide) ?_
        refine lv_icmp_ge (tgt := 120) hx hb dX8_appendText_27 (by decide) (fun c4 => ?_) (fun c4 => ?_)
        · replace hq := i_t c4 hq
          exact hK120 x0 f H locs ls hI (lv_sub hl [0] rfl) hq
        · replace hq := i_f c4 hq
          refine lv_iload hx hb dX8_appendText_30 (lv_at hl 6 rfl) ?_
          refine lv_iconst (v := (4 : Int32)) hx hb dX8_appendText_32 (by decide) ?_
          have hj76 : ∀ (x0 : Nat) (x1 : Int32) (x2 : Int32) (x3 : Int32) (x4 : Int32) (x5 : Int32) (x6 : Int32) (t0 : Int32) (f : GH) (H : Heap) (locs : List Loc) (ls : Array Slot), g_at (g_A V) V g D cT f n s H locs → lv_has ls 8 [(0, .ref x0), (1, .int x1), (2, .int x2), (3, .int x3), (4, .int x4), (5, .int x5), (6, .int x6)] → p_X8_appendText_j76 V g (p_X8_appendText_l23 V g K120 N) x0 x1 x2 x3 x4 x5 x6 t0 f = some o → W p l e rm_X8_appendText s m args below meth c H locs 0 0 (MQ below (g_Wi V D cT o.1 o.2 n) args s 0 0 (g_A V)) (F0 m 76 ls [.int t0]) := by
            intro x0 x1 x2 x3 x4 x5 x6 t0 f H locs ls hI hl hq
            unfold p_X8_appendText_j76 at hq
            refine lv_istore (lv' := [(7, .int t0), (0, .ref x0), (1, .int x1), (2, .int x2), (3, .int x3), (4, .int x4), (5, .int x5), (6, .int x6)]) hx hb dX8_appendText_76 hl (by decide) rfl (fun ls hl => ?_)
            refine lv_aload_n hx hb dX8_appendText_78 rfl (lv_at hl 1 rfl) ?_
            obtain ⟨v5, ev5, hq⟩ := b_s hq
            refine fa_gr (own := RX8) (ref := "CoastlineRulerModel") (k := 12) hx hb hB inB_RX8 hown hI rfl (by decide) m_1543 (fun _ h9 => h9) ev5 dX8_appendText_79 ?_
            refine lv_aload_n hx hb dX8_appendText_82 rfl (lv_at hl 1 rfl) ?_
            obtain ⟨v6, ev6, hq⟩ := b_s hq
            refine fa_gi (own := RX8) (ref := "CoastlineRulerModel") (k := 13) hx hb hB inB_RX8 hown hI rfl (by decide) m_1544 (fun _ h9 => h9) ev6 dX8_appendText_83 ?_
            refine lv_iload hx hb dX8_appendText_86 (lv_at hl 0 rfl) ?_
            refine lv_bipush (v := (24 : Int32)) hx hb dX8_appendText_88 (by decide) ?_
            refine lv_bipush (v := (8 : Int32)) hx hb dX8_appendText_90 (by decide) ?_
            refine lv_iload hx hb dX8_appendText_92 (lv_at hl 7 rfl) ?_
            refine lv_iconst (v := (4 : Int32)) hx hb dX8_appendText_94 (by decide) ?_
            refine lv_irem hx hb dX8_appendText_95 (by decide) ?_
            refine lv_imul hx hb dX8_appendText_96 ?_
            refine lv_isub hx hb dX8_appendText_97 ?_
            refine lv_ishr hx hb dX8_appendText_98 ?_
            refine lv_sipush (v := (255 : Int32)) hx hb dX8_appendText_99 (by decide) ?_
            refine lv_iand hx hb dX8_appendText_102 ?_
            obtain ⟨f7, ef7, hq⟩ := b_s hq
            refine fa_si hx hb hI ef7 dX8_appendText_103 (fun H locs hI => ?_)
            refine lv_aload_n hx hb dX8_appendText_104 rfl (lv_at hl 1 rfl) ?_
            refine lv_dup hx hb dX8_appendText_105 rfl ?_
            obtain ⟨v8, ev8, hq⟩ := b_s hq
            refine fa_gi (own := RX8) (ref := "CoastlineRulerModel") (k := 13) hx hb hB inB_RX8 hown hI rfl (by decide) m_1544 (fun _ h9 => h9) ev8 dX8_appendText_106 ?_
            refine lv_iconst (v := (1 : Int32)) hx hb dX8_appendText_109 (by decide) ?_
            refine lv_iadd hx hb dX8_appendText_110 ?_
            obtain ⟨f9, ef9, hq⟩ := b_s hq
            refine fa_pt (own := RX8) (ref := "CoastlineRulerModel") (k := 13) hx hb hB inB_RX8 tyX8_ok nmX8 hown hI rfl (by decide) m_1544 (fun _ h9 => h9) (by decide) rfl rfl ef9 dX8_appendText_111 (fun H locs hI => ?_)
            refine lv_iinc (v := x6 + (1 : Int32)) (lv' := [(6, .int (x6 + (1 : Int32))), (7, .int t0), (0, .ref x0), (1, .int x1), (2, .int x2), (3, .int x3), (4, .int x4), (5, .int x5)]) hx hb dX8_appendText_114 hl (k := 7) rfl rfl (by decide) rfl (fun ls hl => ?_)
            refine lv_goto (tgt := 23) hx hb dX8_appendText_117 (by decide) ?_
            exact ih x0 x1 x2 x3 x4 x5 (x6 + (1 : Int32)) f9 H locs ls hI (lv_sub hl [2, 3, 4, 5, 6, 7, 0] rfl) hq
          refine lv_icmp_ge (tgt := 40) hx hb dX8_appendText_33 (by decide) (fun c10 => ?_) (fun c10 => ?_)
          · replace hq := i_t c10 hq
            refine lv_iload hx hb dX8_appendText_40 (lv_at hl 6 rfl) ?_
            refine lv_bipush (v := (8 : Int32)) hx hb dX8_appendText_42 (by decide) ?_
            refine lv_icmp_ge (tgt := 51) hx hb dX8_appendText_44 (by decide) (fun c11 => ?_) (fun c11 => ?_)
            · replace hq := i_t c11 hq
              refine lv_iload hx hb dX8_appendText_51 (lv_at hl 6 rfl) ?_
              refine lv_bipush (v := (12 : Int32)) hx hb dX8_appendText_53 (by decide) ?_
              refine lv_icmp_ge (tgt := 62) hx hb dX8_appendText_55 (by decide) (fun c12 => ?_) (fun c12 => ?_)
              · replace hq := i_t c12 hq
                refine lv_iload hx hb dX8_appendText_62 (lv_at hl 6 rfl) ?_
                refine lv_bipush (v := (16 : Int32)) hx hb dX8_appendText_64 (by decide) ?_
                refine lv_icmp_ge (tgt := 74) hx hb dX8_appendText_66 (by decide) (fun c13 => ?_) (fun c13 => ?_)
                · replace hq := i_t c13 hq
                  refine lv_iload hx hb dX8_appendText_74 (lv_at hl 5 rfl) ?_
                  exact hj76 x0 x1 x2 x3 x4 x5 x6 x5 f H locs ls hI (lv_sub hl [0, 1, 2, 3, 4, 5, 6] rfl) hq
                · replace hq := i_f c13 hq
                  refine lv_iload hx hb dX8_appendText_69 (lv_at hl 4 rfl) ?_
                  refine lv_goto (tgt := 76) hx hb dX8_appendText_71 (by decide) ?_
                  exact hj76 x0 x1 x2 x3 x4 x5 x6 x4 f H locs ls hI (lv_sub hl [0, 1, 2, 3, 4, 5, 6] rfl) hq
              · replace hq := i_f c12 hq
                refine lv_iload_n hx hb dX8_appendText_58 rfl (lv_at hl 3 rfl) ?_
                refine lv_goto (tgt := 76) hx hb dX8_appendText_59 (by decide) ?_
                exact hj76 x0 x1 x2 x3 x4 x5 x6 x3 f H locs ls hI (lv_sub hl [0, 1, 2, 3, 4, 5, 6] rfl) hq
            · replace hq := i_f c11 hq
              refine lv_iload_n hx hb dX8_appendText_47 rfl (lv_at hl 2 rfl) ?_
              refine lv_goto (tgt := 76) hx hb dX8_appendText_48 (by decide) ?_
              exact hj76 x0 x1 x2 x3 x4 x5 x6 x2 f H locs ls hI (lv_sub hl [0, 1, 2, 3, 4, 5, 6] rfl) hq
          · replace hq := i_f c10 hq
            refine lv_iload_n hx hb dX8_appendText_36 rfl (lv_at hl 1 rfl) ?_
            refine lv_goto (tgt := 76) hx hb dX8_appendText_37 (by decide) ?_
            exact hj76 x0 x1 x2 x3 x4 x5 x6 x1 f H locs ls hI (lv_sub hl [0, 1, 2, 3, 4, 5, 6] rfl) hq
    refine hl23 _ ?_ FU a0 a1 a2 a3 a4 a5 (0 : Int32) f1 H locs ls hI (lv_sub hl [1, 2, 3, 4, 5, 6, 0] rfl) hq
    · intro x0 f H locs ls hI hl hq
      refine lv_aload_n hx hb dX8_appendText_120 rfl (lv_at hl 0 rfl) ?_
      obtain ⟨v14, ev14, hq⟩ := b_s hq
      refine fa_gi (own := RX8) (ref := "CoastlineRulerModel") (k := 13) hx hb hB inB_RX8 hown hI rfl (by decide) m_1544 (fun _ h9 => h9) ev14 dX8_appendText_121 ?_
      exact ge_Wi hx hb hlocks hr rfl hI (congrArg (fun z => z.1) (Option.some.inj hq)) (congrArg (fun z => z.2) (Option.some.inj hq)) dX8_appendText_124
  · replace hq := i_f c3 hq
    refine lv_iconst (v := (-1 : Int32)) hx hb dX8_appendText_18 (by decide) ?_
    exact ge_Wi hx hb hlocks hr rfl hI (congrArg (fun z => z.1) (Option.some.inj hq)) (congrArg (fun z => z.2) (Option.some.inj hq)) dX8_appendText_19

def p_X8_errorOffset (V : Nat → Nat) (g f : GH) (a0 : Nat) : Option (Int32 × GH) :=
  h_me f a0 10 <|
  (h_pt f a0 10 7 (.int (0 : Int32))).bind fun f1 =>
  (h_gi f1 a0 10 20).bind fun v2 =>
  some (v2, f1)
abbrev rm_X8_errorOffset : Room := { frames := 2, cells := 0, slots := 0, locals := 120 }
theorem k_X8_errorOffset : g_CV yX8_errorOffset cX8_errorOffset 1 (some .int) 0 := ⟨⟨m_2069, m_14, by decide +kernel⟩, m_2067, m_2068⟩
set_option maxHeartbeats 4000000 in
set_option maxRecDepth 100000 in
theorem c_X8_errorOffset (l : Launch) (V : Nat → Nat) (g : GH) (D : va_G) (cT : Nat → ClassId) (f : GH) (n : Nat) (a0 : Nat) (o : Int32 × GH) (hq : p_X8_errorOffset V g f a0 = some o) : Met l yX8_errorOffset (Cond.code yX8_errorOffset cX8_errorOffset 1 (some .int) :: g_B) rm_X8_errorOffset (va_Pc [.ref a0] (g_I V g D cT f n)) (g_Wi V D cT o.1 o.2 n) 0 0 (g_A V) := by
  refine g_begin (own := RX8) [.ref a0] [(0, .ref a0)] (g_A V) (fun _ h => h) (by decide) rfl (Nat.le_of_ble_eq_true rfl) rfl ?_
  intro p e s m args below meth c hx hb hr hlocks hin hC hI ls hl
  obtain ⟨hx, hb, hml, hown, hB⟩ := id hC
  obtain ⟨H, hH⟩ : ∃ H, H = s.heap := ⟨_, rfl⟩
  obtain ⟨locs, hlocs⟩ : ∃ L : List Loc, L = [] := ⟨_, rfl⟩
  rw [← hH, ← hlocs] at hI ⊢
  clear hH hlocs
  unfold p_X8_errorOffset at hq
  replace hq := (h_me_eq hq).2
  refine lv_aload_n hx hb dX8_errorOffset_0 rfl (lv_at hl 0 rfl) ?_
  refine lv_iconst (v := (0 : Int32)) hx hb dX8_errorOffset_1 (by decide) ?_
  obtain ⟨f1, ef1, hq⟩ := b_s hq
  refine fa_pt (own := RX8) (ref := "CoastlineRulerModel") (k := 7) hx hb hB inB_RX8 tyX8_ok nmX8 hown hI rfl (by decide) m_1538 (fun _ h9 => h9) (by decide) rfl rfl ef1 dX8_errorOffset_2 (fun H locs hI => ?_)
  refine lv_aload_n hx hb dX8_errorOffset_5 rfl (lv_at hl 0 rfl) ?_
  obtain ⟨v2, ev2, hq⟩ := b_s hq
  refine fa_gi (own := RX8) (ref := "CoastlineRulerModel") (k := 20) hx hb hB inB_RX8 hown hI rfl (by decide) m_1551 (fun _ h9 => h9) ev2 dX8_errorOffset_6 ?_
  exact ge_Wi hx hb hlocks hr rfl hI (congrArg (fun z => z.1) (Option.some.inj hq)) (congrArg (fun z => z.2) (Option.some.inj hq)) dX8_errorOffset_9

def p_X8_byteAt (V : Nat → Nat) (g f : GH) (a0 : Nat) (a1 : Int32) : Option Int32 :=
  h_me f a0 10 <|
  (h_gi f a0 10 14).bind fun v1 =>
  (if v1 ≤ a1 then
    some (-1 : Int32)
  else
    (h_gr f a0 10 12).bind fun v3 =>
    (h_li f v3 0 a1).bind fun v4 =>
    some v4)
abbrev rm_X8_byteAt : Room := { frames := 2, cells := 0, slots := 0, locals := 120 }
theorem k_X8_byteAt : g_CV yX8_byteAt cX8_byteAt 2 (some .int) 1 := ⟨⟨m_2093, m_14, by decide +kernel⟩, m_2092, ms_77⟩
set_option maxHeartbeats 4000000 in
set_option maxRecDepth 100000 in
theorem c_X8_byteAt (l : Launch) (V : Nat → Nat) (g : GH) (D : va_G) (cT : Nat → ClassId) (f : GH) (n : Nat) (a0 : Nat) (a1 : Int32) (o : Int32) (hq : p_X8_byteAt V g f a0 a1 = some o) : Met l yX8_byteAt (Cond.code yX8_byteAt cX8_byteAt 2 (some .int) :: g_B) rm_X8_byteAt (va_Pc [.ref a0, .int a1] (g_I V g D cT f n)) (g_Ri o n) 0 0 g_no := by
  refine g_begin (own := RX8) [.ref a0, .int a1] [(0, .ref a0), (1, .int a1)] g_no (fun _ h => h.elim) (by decide) rfl (Nat.le_of_ble_eq_true rfl) rfl ?_
  intro p e s m args below meth c hx hb hr hlocks hin hC hI ls hl
  obtain ⟨hx, hb, hml, hown, hB⟩ := id hC
  obtain ⟨H, hH⟩ : ∃ H, H = s.heap := ⟨_, rfl⟩
  obtain ⟨locs, hlocs⟩ : ∃ L : List Loc, L = [] := ⟨_, rfl⟩
  rw [← hH, ← hlocs] at hI ⊢
  clear hH hlocs
  unfold p_X8_byteAt at hq
  replace hq := (h_me_eq hq).2
  refine lv_iload_n hx hb dX8_byteAt_0 rfl (lv_at hl 1 rfl) ?_
  refine lv_aload_n hx hb dX8_byteAt_1 rfl (lv_at hl 0 rfl) ?_
  obtain ⟨v1, ev1, hq⟩ := b_s hq
  refine fa_gi (own := RX8) (ref := "CoastlineRulerModel") (k := 14) hx hb hB inB_RX8 hown hI rfl (by decide) m_1545 (fun _ h9 => h9) ev1 dX8_byteAt_2 ?_
  refine lv_icmp_ge (tgt := 17) hx hb dX8_byteAt_5 (by decide) (fun c2 => ?_) (fun c2 => ?_)
  · replace hq := i_t c2 hq
    refine lv_iconst (v := (-1 : Int32)) hx hb dX8_byteAt_17 (by decide) ?_
    exact ge_Ri hx hb hlocks hr rfl hI hq dX8_byteAt_18
  · replace hq := i_f c2 hq
    refine lv_aload_n hx hb dX8_byteAt_8 rfl (lv_at hl 0 rfl) ?_
    obtain ⟨v3, ev3, hq⟩ := b_s hq
    refine fa_gr (own := RX8) (ref := "CoastlineRulerModel") (k := 12) hx hb hB inB_RX8 hown hI rfl (by decide) m_1543 (fun _ h9 => h9) ev3 dX8_byteAt_9 ?_
    refine lv_iload_n hx hb dX8_byteAt_12 rfl (lv_at hl 1 rfl) ?_
    obtain ⟨v4, ev4, hq⟩ := b_s hq
    refine fa_li hx hb hI ev4 dX8_byteAt_13 ?_
    refine lv_goto (tgt := 18) hx hb dX8_byteAt_14 (by decide) ?_
    exact ge_Ri hx hb hlocks hr rfl hI hq dX8_byteAt_18

def p_X8_isLetter (V : Nat → Nat) (g f : GH) (a0 : Nat) (a1 : Int32) : Option Int32 :=
  h_me f a0 10 <|
  (p_X8_byteAt V g f a0 a1).bind fun v1 =>
  (if v1 < (97 : Int32) then
    some (0 : Int32)
  else
    (p_X8_byteAt V g f a0 a1).bind fun v3 =>
    (if (122 : Int32) < v3 then
      some (0 : Int32)
    else
      some (1 : Int32)))
abbrev rm_X8_isLetter : Room := { frames := 3, cells := 0, slots := 0, locals := 141 }
theorem k_X8_isLetter : g_CV yX8_isLetter cX8_isLetter 2 (some .boolean) 1 := ⟨⟨m_2097, m_14, by decide +kernel⟩, m_2096, ms_78⟩
set_option maxHeartbeats 4000000 in
set_option maxRecDepth 100000 in
theorem c_X8_isLetter (l : Launch) (V : Nat → Nat) (g : GH) (D : va_G) (cT : Nat → ClassId) (f : GH) (n : Nat) (a0 : Nat) (a1 : Int32) (o : Int32) (hq : p_X8_isLetter V g f a0 a1 = some o) : Met l yX8_isLetter (Cond.code yX8_isLetter cX8_isLetter 2 (some .boolean) :: g_B) rm_X8_isLetter (va_Pc [.ref a0, .int a1] (g_I V g D cT f n)) (g_Ri o n) 0 0 g_no := by
  refine g_begin (own := RX8) [.ref a0, .int a1] [(0, .ref a0), (1, .int a1)] g_no (fun _ h => h.elim) (by decide) rfl (Nat.le_of_ble_eq_true rfl) rfl ?_
  intro p e s m args below meth c hx hb hr hlocks hin hC hI ls hl
  obtain ⟨hx, hb, hml, hown, hB⟩ := id hC
  obtain ⟨H, hH⟩ : ∃ H, H = s.heap := ⟨_, rfl⟩
  obtain ⟨locs, hlocs⟩ : ∃ L : List Loc, L = [] := ⟨_, rfl⟩
  rw [← hH, ← hlocs] at hI ⊢
  clear hH hlocs
  unfold p_X8_isLetter at hq
  replace hq := (h_me_eq hq).2
  refine lv_aload_n hx hb dX8_isLetter_0 rfl (lv_at hl 0 rfl) ?_
  refine lv_iload_n hx hb dX8_isLetter_1 rfl (lv_at hl 1 rfl) ?_
  obtain ⟨v1, ev1, hq⟩ := b_s hq
  refine gr_i (g_runV (As := [.int a1]) (rest := []) (ci := 10) hC (c_X8_byteAt l V g D cT f n a0 a1 v1 ev1) k_X8_byteAt m_2090 rfl rfl ⟨Nat.le_of_ble_eq_true rfl, Nat.le_of_ble_eq_true rfl⟩ hI rfl rfl (h_me_eq ev1).1 rfl hl.1 rfl (Nat.le_of_ble_eq_true rfl) dX8_isLetter_2 ⟨by decide, by decide⟩) hI (fun H locs hI => ?_)
  refine lv_bipush (v := (97 : Int32)) hx hb dX8_isLetter_5 (by decide) ?_
  refine lv_icmp_lt (tgt := 24) hx hb dX8_isLetter_7 (by decide) (fun c2 => ?_) (fun c2 => ?_)
  · replace hq := i_t c2 hq
    refine lv_iconst (v := (0 : Int32)) hx hb dX8_isLetter_24 (by decide) ?_
    exact ge_Ri hx hb hlocks hr (by decide +kernel) hI hq dX8_isLetter_25
  · replace hq := i_f c2 hq
    refine lv_aload_n hx hb dX8_isLetter_10 rfl (lv_at hl 0 rfl) ?_
    refine lv_iload_n hx hb dX8_isLetter_11 rfl (lv_at hl 1 rfl) ?_
    obtain ⟨v3, ev3, hq⟩ := b_s hq
    refine gr_i (g_runV (As := [.int a1]) (rest := []) (ci := 10) hC (c_X8_byteAt l V g D cT f n a0 a1 v3 ev3) k_X8_byteAt m_2090 rfl rfl ⟨Nat.le_of_ble_eq_true rfl, Nat.le_of_ble_eq_true rfl⟩ hI rfl rfl (h_me_eq ev3).1 rfl hl.1 rfl (Nat.le_of_ble_eq_true rfl) dX8_isLetter_12 ⟨by decide, by decide⟩) hI (fun H locs hI => ?_)
    refine lv_bipush (v := (122 : Int32)) hx hb dX8_isLetter_15 (by decide) ?_
    refine lv_icmp_gt (tgt := 24) hx hb dX8_isLetter_17 (by decide) (fun c4 => ?_) (fun c4 => ?_)
    · replace hq := i_t c4 hq
      refine lv_iconst (v := (0 : Int32)) hx hb dX8_isLetter_24 (by decide) ?_
      exact ge_Ri hx hb hlocks hr (by decide +kernel) hI hq dX8_isLetter_25
    · replace hq := i_f c4 hq
      refine lv_iconst (v := (1 : Int32)) hx hb dX8_isLetter_20 (by decide) ?_
      refine lv_goto (tgt := 25) hx hb dX8_isLetter_21 (by decide) ?_
      exact ge_Ri hx hb hlocks hr (by decide +kernel) hI hq dX8_isLetter_25

def p_X8_isDigit (V : Nat → Nat) (g f : GH) (a0 : Nat) (a1 : Int32) : Option Int32 :=
  h_me f a0 10 <|
  (p_X8_byteAt V g f a0 a1).bind fun v1 =>
  (if v1 < (48 : Int32) then
    some (0 : Int32)
  else
    (p_X8_byteAt V g f a0 a1).bind fun v3 =>
    (if (57 : Int32) < v3 then
      some (0 : Int32)
    else
      some (1 : Int32)))
abbrev rm_X8_isDigit : Room := { frames := 3, cells := 0, slots := 0, locals := 141 }
theorem k_X8_isDigit : g_CV yX8_isDigit cX8_isDigit 2 (some .boolean) 1 := ⟨⟨m_2101, m_14, by decide +kernel⟩, m_2100, ms_79⟩
set_option maxHeartbeats 4000000 in
set_option maxRecDepth 100000 in
theorem c_X8_isDigit (l : Launch) (V : Nat → Nat) (g : GH) (D : va_G) (cT : Nat → ClassId) (f : GH) (n : Nat) (a0 : Nat) (a1 : Int32) (o : Int32) (hq : p_X8_isDigit V g f a0 a1 = some o) : Met l yX8_isDigit (Cond.code yX8_isDigit cX8_isDigit 2 (some .boolean) :: g_B) rm_X8_isDigit (va_Pc [.ref a0, .int a1] (g_I V g D cT f n)) (g_Ri o n) 0 0 g_no := by
  refine g_begin (own := RX8) [.ref a0, .int a1] [(0, .ref a0), (1, .int a1)] g_no (fun _ h => h.elim) (by decide) rfl (Nat.le_of_ble_eq_true rfl) rfl ?_
  intro p e s m args below meth c hx hb hr hlocks hin hC hI ls hl
  obtain ⟨hx, hb, hml, hown, hB⟩ := id hC
  obtain ⟨H, hH⟩ : ∃ H, H = s.heap := ⟨_, rfl⟩
  obtain ⟨locs, hlocs⟩ : ∃ L : List Loc, L = [] := ⟨_, rfl⟩
  rw [← hH, ← hlocs] at hI ⊢
  clear hH hlocs
  unfold p_X8_isDigit at hq
  replace hq := (h_me_eq hq).2
  refine lv_aload_n hx hb dX8_isDigit_0 rfl (lv_at hl 0 rfl) ?_
  refine lv_iload_n hx hb dX8_isDigit_1 rfl (lv_at hl 1 rfl) ?_
  obtain ⟨v1, ev1, hq⟩ := b_s hq
  refine gr_i (g_runV (As := [.int a1]) (rest := []) (ci := 10) hC (c_X8_byteAt l V g D cT f n a0 a1 v1 ev1) k_X8_byteAt m_2090 rfl rfl ⟨Nat.le_of_ble_eq_true rfl, Nat.le_of_ble_eq_true rfl⟩ hI rfl rfl (h_me_eq ev1).1 rfl hl.1 rfl (Nat.le_of_ble_eq_true rfl) dX8_isDigit_2 ⟨by decide, by decide⟩) hI (fun H locs hI => ?_)
  refine lv_bipush (v := (48 : Int32)) hx hb dX8_isDigit_5 (by decide) ?_
  refine lv_icmp_lt (tgt := 24) hx hb dX8_isDigit_7 (by decide) (fun c2 => ?_) (fun c2 => ?_)
  · replace hq := i_t c2 hq
    refine lv_iconst (v := (0 : Int32)) hx hb dX8_isDigit_24 (by decide) ?_
    exact ge_Ri hx hb hlocks hr (by decide +kernel) hI hq dX8_isDigit_25
  · replace hq := i_f c2 hq
    refine lv_aload_n hx hb dX8_isDigit_10 rfl (lv_at hl 0 rfl) ?_
    refine lv_iload_n hx hb dX8_isDigit_11 rfl (lv_at hl 1 rfl) ?_
    obtain ⟨v3, ev3, hq⟩ := b_s hq
    refine gr_i (g_runV (As := [.int a1]) (rest := []) (ci := 10) hC (c_X8_byteAt l V g D cT f n a0 a1 v3 ev3) k_X8_byteAt m_2090 rfl rfl ⟨Nat.le_of_ble_eq_true rfl, Nat.le_of_ble_eq_true rfl⟩ hI rfl rfl (h_me_eq ev3).1 rfl hl.1 rfl (Nat.le_of_ble_eq_true rfl) dX8_isDigit_12 ⟨by decide, by decide⟩) hI (fun H locs hI => ?_)
    refine lv_bipush (v := (57 : Int32)) hx hb dX8_isDigit_15 (by decide) ?_
    refine lv_icmp_gt (tgt := 24) hx hb dX8_isDigit_17 (by decide) (fun c4 => ?_) (fun c4 => ?_)
    · replace hq := i_t c4 hq
      refine lv_iconst (v := (0 : Int32)) hx hb dX8_isDigit_24 (by decide) ?_
      exact ge_Ri hx hb hlocks hr (by decide +kernel) hI hq dX8_isDigit_25
    · replace hq := i_f c4 hq
      refine lv_iconst (v := (1 : Int32)) hx hb dX8_isDigit_20 (by decide) ?_
      refine lv_goto (tgt := 25) hx hb dX8_isDigit_21 (by decide) ?_
      exact ge_Ri hx hb hlocks hr (by decide +kernel) hI hq dX8_isDigit_25

def p_X8_scan_l0 (V : Nat → Nat) (g : GH) (K39 : Nat → GH → Option GH) : Nat → Nat → GH → Option GH
  | 0, _, _ => none
  | N + 1, x0, f =>
    (h_gi f x0 10 15).bind fun v1 =>
    (p_X8_byteAt V g f x0 v1).bind fun v2 =>
    (if v2 = (32 : Int32) then
      (h_gi f x0 10 15).bind fun v4 =>
      (h_pt f x0 10 15 (.int (v4 + (1 : Int32)))).bind fun f5 =>
      p_X8_scan_l0 V g K39 N x0 f5
    else
      (h_gi f x0 10 15).bind fun v6 =>
      (p_X8_byteAt V g f x0 v6).bind fun v7 =>
      (if v7 = (10 : Int32) then
        (h_gi f x0 10 15).bind fun v9 =>
        (h_pt f x0 10 15 (.int (v9 + (1 : Int32)))).bind fun f10 =>
        p_X8_scan_l0 V g K39 N x0 f10
      else
        K39 x0 f))
def p_X8_scan_l120 (V : Nat → Nat) (g : GH) (K144 : Nat → GH → Option GH) : Nat → Nat → GH → Option GH
  | 0, _, _ => none
  | N + 1, x0, f =>
    (h_gi f x0 10 15).bind fun v25 =>
    (p_X8_isDigit V g f x0 v25).bind fun v26 =>
    (if v26 = (0 : Int32) then
      K144 x0 f
    else
      (h_gi f x0 10 15).bind fun v28 =>
      (h_pt f x0 10 15 (.int (v28 + (1 : Int32)))).bind fun f29 =>
      p_X8_scan_l120 V g K144 N x0 f29)
def p_X8_scan_l77 (V : Nat → Nat) (g : GH) (K101 : Nat → GH → Option GH) : Nat → Nat → GH → Option GH
  | 0, _, _ => none
  | N + 1, x0, f =>
    (h_gi f x0 10 15).bind fun v31 =>
    (p_X8_isLetter V g f x0 v31).bind fun v32 =>
    (if v32 = (0 : Int32) then
      K101 x0 f
    else
      (h_gi f x0 10 15).bind fun v34 =>
      (h_pt f x0 10 15 (.int (v34 + (1 : Int32)))).bind fun f35 =>
      p_X8_scan_l77 V g K101 N x0 f35)
def p_X8_scan (V : Nat → Nat) (g f : GH) (a0 : Nat) : Option GH :=
  h_me f a0 10 <|
  p_X8_scan_l0 V g (fun x0 f =>
    (h_gi f x0 10 15).bind fun v11 =>
    (h_pt f x0 10 16 (.int v11)).bind fun f12 =>
    (h_gi f12 x0 10 15).bind fun v13 =>
    (h_gi f12 x0 10 14).bind fun v14 =>
    (if v13 < v14 then
      (h_gi f12 x0 10 15).bind fun v16 =>
      (p_X8_isLetter V g f12 x0 v16).bind fun v17 =>
      (if v17 = (0 : Int32) then
        (h_gi f12 x0 10 15).bind fun v19 =>
        (p_X8_isDigit V g f12 x0 v19).bind fun v20 =>
        (if v20 = (0 : Int32) then
          (h_gi f12 x0 10 15).bind fun v22 =>
          (h_pt f12 x0 10 15 (.int (v22 + (1 : Int32)))).bind fun f23 =>
          (h_pt f23 x0 10 17 (.int (3 : Int32))).bind fun f24 =>
          some f24
        else
          p_X8_scan_l120 V g (fun x0 f =>
            (h_pt f x0 10 17 (.int (2 : Int32))).bind fun f30 =>
            some f30) FU x0 f12)
      else
        p_X8_scan_l77 V g (fun x0 f =>
          (h_pt f x0 10 17 (.int (1 : Int32))).bind fun f36 =>
          some f36) FU x0 f12)
    else
      (h_pt f12 x0 10 17 (.int (0 : Int32))).bind fun f37 =>
      some f37)) FU a0 f
abbrev rm_X8_scan : Room := { frames := 4, cells := 0, slots := 0, locals := 162 }
theorem k_X8_scan : g_CV yX8_scan cX8_scan 1 none 0 := ⟨⟨m_2089, m_14, by decide +kernel⟩, m_2088, ms_76⟩
set_option maxHeartbeats 4000000 in
set_option maxRecDepth 100000 in
theorem c_X8_scan (l : Launch) (V : Nat → Nat) (g : GH) (D : va_G) (cT : Nat → ClassId) (f : GH) (n : Nat) (a0 : Nat) (o : GH) (hq : p_X8_scan V g f a0 = some o) : Met l yX8_scan (Cond.code yX8_scan cX8_scan 1 none :: g_B) rm_X8_scan (va_Pc [.ref a0] (g_I V g D cT f n)) (g_Wv V D cT o n) 0 0 (g_A V) := by
  refine g_begin (own := RX8) [.ref a0] [(0, .ref a0)] (g_A V) (fun _ h => h) (by decide) rfl (Nat.le_of_ble_eq_true rfl) rfl ?_
  intro p e s m args below meth c hx hb hr hlocks hin hC hI ls hl
  obtain ⟨hx, hb, hml, hown, hB⟩ := id hC
  obtain ⟨H, hH⟩ : ∃ H, H = s.heap := ⟨_, rfl⟩
  obtain ⟨locs, hlocs⟩ : ∃ L : List Loc, L = [] := ⟨_, rfl⟩
  rw [← hH, ← hlocs] at hI ⊢
  clear hH hlocs
  unfold p_X8_scan at hq
  replace hq := (h_me_eq hq).2
  have hl0 : ∀ (K39 : Nat → GH → Option GH) (hK39 : ∀ (x0 : Nat) (f : GH) (H : Heap) (locs : List Loc) (ls : Array Slot), g_at (g_A V) V g D cT f n s H locs → lv_has ls 1 [(0, .ref x0)] → K39 x0 f = some o → W p l e rm_X8_scan s m args below meth c H locs 0 0 (MQ below (g_Wv V D cT o n) args s 0 0 (g_A V)) (F0 m 39 ls [])) (N : Nat) (x0 : Nat) (f : GH) (H : Heap) (locs : List Loc) (ls : Array Slot), g_at (g_A V) V g D cT f n s H locs → lv_has ls 1 [(0, .ref x0)] → p_X8_scan_l0 V g K39 N x0 f = some o → W p l e rm_X8_scan s m args below meth c H locs 0 0 (MQ below (g_Wv V D cT o n) args s 0 0 (g_A V)) (F0 m 0 ls []) := by
    intro K39 hK39 N
    induction N with
    | zero =>
      intro x0 f H locs ls hI hl hq
      rw [p_X8_scan_l0] at hq
      cases hq
    | succ N ih =>
      intro x0 f H locs ls hI hl hq
      rw [p_X8_scan_l0] at hq
      refine lv_aload_n hx hb dX8_scan_0 rfl (lv_at hl 0 rfl) ?_
      refine lv_aload_n hx hb dX8_scan_1 rfl (lv_at hl 0 rfl) ?_
      obtain ⟨v1, ev1, hq⟩ := b_s hq
      refine fa_gi (own := RX8) (ref := "CoastlineRulerModel") (k := 15) hx hb hB inB_RX8 hown hI rfl (by decide) m_1546 (fun _ h9 => h9) ev1 dX8_scan_2 ?_
      obtain ⟨v2, ev2, hq⟩ := b_s hq
      refine gr_i (g_runV (As := [.int v1]) (rest := []) (ci := 10) hC (c_X8_byteAt l V g D cT f n x0 v1 v2 ev2) k_X8_byteAt m_2090 rfl rfl ⟨Nat.le_of_ble_eq_true rfl, Nat.le_of_ble_eq_true rfl⟩ hI rfl rfl (h_me_eq ev2).1 rfl hl.1 rfl (Nat.le_of_ble_eq_true rfl) dX8_scan_5 ⟨by decide, by decide⟩) hI (fun H locs hI => ?_)
      refine lv_bipush (v := (32 : Int32)) hx hb dX8_scan_8 (by decide) ?_
      refine lv_icmp_eq (tgt := 26) hx hb dX8_scan_10 (by decide) (fun c3 => ?_) (fun c3 => ?_)
      · replace hq := i_t c3 hq
        refine lv_aload_n hx hb dX8_scan_26 rfl (lv_at hl 0 rfl) ?_
        refine lv_dup hx hb dX8_scan_27 rfl ?_
        obtain ⟨v4, ev4, hq⟩ := b_s hq
        refine fa_gi (own := RX8) (ref := "CoastlineRulerModel") (k := 15) hx hb hB inB_RX8 hown hI rfl (by decide) m_1546 (fun _ h9 => h9) ev4 dX8_scan_28 ?_
        refine lv_iconst (v := (1 : Int32)) hx hb dX8_scan_31 (by decide) ?_
        refine lv_iadd hx hb dX8_scan_32 ?_
        obtain ⟨f5, ef5, hq⟩ := b_s hq
        refine fa_pt (own := RX8) (ref := "CoastlineRulerModel") (k := 15) hx hb hB inB_RX8 tyX8_ok nmX8 hown hI rfl (by decide) m_1546 (fun _ h9 => h9) (by decide) rfl rfl ef5 dX8_scan_33 (fun H locs hI => ?_)
        refine lv_goto (tgt := 0) hx hb dX8_scan_36 (by decide) ?_
        exact ih x0 f5 H locs ls hI (lv_sub hl [0] rfl) hq
      · replace hq := i_f c3 hq
        refine lv_aload_n hx hb dX8_scan_13 rfl (lv_at hl 0 rfl) ?_
        refine lv_aload_n hx hb dX8_scan_14 rfl (lv_at hl 0 rfl) ?_
        obtain ⟨v6, ev6, hq⟩ := b_s hq
        refine fa_gi (own := RX8) (ref := "CoastlineRulerModel") (k := 15) hx hb hB inB_RX8 hown hI rfl (by decide) m_1546 (fun _ h9 => h9) ev6 dX8_scan_15 ?_
        obtain ⟨v7, ev7, hq⟩ := b_s hq
        refine gr_i (g_runV (As := [.int v6]) (rest := []) (ci := 10) hC (c_X8_byteAt l V g D cT f n x0 v6 v7 ev7) k_X8_byteAt m_2090 rfl rfl ⟨Nat.le_of_ble_eq_true rfl, Nat.le_of_ble_eq_true rfl⟩ hI rfl rfl (h_me_eq ev7).1 rfl hl.1 rfl (Nat.le_of_ble_eq_true rfl) dX8_scan_18 ⟨by decide, by decide⟩) hI (fun H locs hI => ?_)
        refine lv_bipush (v := (10 : Int32)) hx hb dX8_scan_21 (by decide) ?_
        refine lv_icmp_ne (tgt := 39) hx hb dX8_scan_23 (by decide) (fun c8 => ?_) (fun c8 => ?_)
        · replace hq := i_f c8 hq
          exact hK39 x0 f H locs ls hI (lv_sub hl [0] rfl) hq
        · replace hq := i_t c8 hq
          refine lv_aload_n hx hb dX8_scan_26 rfl (lv_at hl 0 rfl) ?_
          refine lv_dup hx hb dX8_scan_27 rfl ?_
          obtain ⟨v9, ev9, hq⟩ := b_s hq
          refine fa_gi (own := RX8) (ref := "CoastlineRulerModel") (k := 15) hx hb hB inB_RX8 hown hI rfl (by decide) m_1546 (fun _ h9 => h9) ev9 dX8_scan_28 ?_
          refine lv_iconst (v := (1 : Int32)) hx hb dX8_scan_31 (by decide) ?_
          refine lv_iadd hx hb dX8_scan_32 ?_
          obtain ⟨f10, ef10, hq⟩ := b_s hq
          refine fa_pt (own := RX8) (ref := "CoastlineRulerModel") (k := 15) hx hb hB inB_RX8 tyX8_ok nmX8 hown hI rfl (by decide) m_1546 (fun _ h9 => h9) (by decide) rfl rfl ef10 dX8_scan_33 (fun H locs hI => ?_)
          refine lv_goto (tgt := 0) hx hb dX8_scan_36 (by decide) ?_
          exact ih x0 f10 H locs ls hI (lv_sub hl [0] rfl) hq
  refine hl0 _ ?_ FU a0 f H locs ls hI (lv_sub hl [0] rfl) hq
  · intro x0 f H locs ls hI hl hq
    refine lv_aload_n hx hb dX8_scan_39 rfl (lv_at hl 0 rfl) ?_
    refine lv_aload_n hx hb dX8_scan_40 rfl (lv_at hl 0 rfl) ?_
    obtain ⟨v11, ev11, hq⟩ := b_s hq
    refine fa_gi (own := RX8) (ref := "CoastlineRulerModel") (k := 15) hx hb hB inB_RX8 hown hI rfl (by decide) m_1546 (fun _ h9 => h9) ev11 dX8_scan_41 ?_
    obtain ⟨f12, ef12, hq⟩ := b_s hq
    refine fa_pt (own := RX8) (ref := "CoastlineRulerModel") (k := 16) hx hb hB inB_RX8 tyX8_ok nmX8 hown hI rfl (by decide) m_1547 (fun _ h9 => h9) (by decide) rfl rfl ef12 dX8_scan_44 (fun H locs hI => ?_)
    refine lv_aload_n hx hb dX8_scan_47 rfl (lv_at hl 0 rfl) ?_
    obtain ⟨v13, ev13, hq⟩ := b_s hq
    refine fa_gi (own := RX8) (ref := "CoastlineRulerModel") (k := 15) hx hb hB inB_RX8 hown hI rfl (by decide) m_1546 (fun _ h9 => h9) ev13 dX8_scan_48 ?_
    refine lv_aload_n hx hb dX8_scan_51 rfl (lv_at hl 0 rfl) ?_
    obtain ⟨v14, ev14, hq⟩ := b_s hq
    refine fa_gi (own := RX8) (ref := "CoastlineRulerModel") (k := 14) hx hb hB inB_RX8 hown hI rfl (by decide) m_1545 (fun _ h9 => h9) ev14 dX8_scan_52 ?_
    refine lv_icmp_lt (tgt := 66) hx hb dX8_scan_55 (by decide) (fun c15 => ?_) (fun c15 => ?_)
    · replace hq := i_t c15 hq
      refine lv_aload_n hx hb dX8_scan_66 rfl (lv_at hl 0 rfl) ?_
      refine lv_aload_n hx hb dX8_scan_67 rfl (lv_at hl 0 rfl) ?_
      obtain ⟨v16, ev16, hq⟩ := b_s hq
      refine fa_gi (own := RX8) (ref := "CoastlineRulerModel") (k := 15) hx hb hB inB_RX8 hown hI rfl (by decide) m_1546 (fun _ h9 => h9) ev16 dX8_scan_68 ?_
      obtain ⟨v17, ev17, hq⟩ := b_s hq
      refine gr_i (g_runV (As := [.int v16]) (rest := []) (ci := 10) hC (c_X8_isLetter l V g D cT f12 n x0 v16 v17 ev17) k_X8_isLetter m_2094 rfl rfl ⟨Nat.le_of_ble_eq_true rfl, Nat.le_of_ble_eq_true rfl⟩ hI rfl rfl (h_me_eq ev17).1 rfl hl.1 rfl (Nat.le_of_ble_eq_true rfl) dX8_scan_71 ⟨by decide, by decide⟩) hI (fun H locs hI => ?_)
      refine lv_if_eq (tgt := 109) hx hb dX8_scan_74 (by decide) (fun c18 => ?_) (fun c18 => ?_)
      · replace hq := i_t c18 hq
        refine lv_aload_n hx hb dX8_scan_109 rfl (lv_at hl 0 rfl) ?_
        refine lv_aload_n hx hb dX8_scan_110 rfl (lv_at hl 0 rfl) ?_
        obtain ⟨v19, ev19, hq⟩ := b_s hq
        refine fa_gi (own := RX8) (ref := "CoastlineRulerModel") (k := 15) hx hb hB inB_RX8 hown hI rfl (by decide) m_1546 (fun _ h9 => h9) ev19 dX8_scan_111 ?_
        obtain ⟨v20, ev20, hq⟩ := b_s hq
        refine gr_i (g_runV (As := [.int v19]) (rest := []) (ci := 10) hC (c_X8_isDigit l V g D cT f12 n x0 v19 v20 ev20) k_X8_isDigit m_2098 rfl rfl ⟨Nat.le_of_ble_eq_true rfl, Nat.le_of_ble_eq_true rfl⟩ hI rfl rfl (h_me_eq ev20).1 rfl hl.1 rfl (Nat.le_of_ble_eq_true rfl) dX8_scan_114 ⟨by decide, by decide⟩) hI (fun H locs hI => ?_)
        refine lv_if_eq (tgt := 152) hx hb dX8_scan_117 (by decide) (fun c21 => ?_) (fun c21 => ?_)
        · replace hq := i_t c21 hq
          refine lv_aload_n hx hb dX8_scan_152 rfl (lv_at hl 0 rfl) ?_
          refine lv_dup hx hb dX8_scan_153 rfl ?_
          obtain ⟨v22, ev22, hq⟩ := b_s hq
          refine fa_gi (own := RX8) (ref := "CoastlineRulerModel") (k := 15) hx hb hB inB_RX8 hown hI rfl (by decide) m_1546 (fun _ h9 => h9) ev22 dX8_scan_154 ?_
          refine lv_iconst (v := (1 : Int32)) hx hb dX8_scan_157 (by decide) ?_
          refine lv_iadd hx hb dX8_scan_158 ?_
          obtain ⟨f23, ef23, hq⟩ := b_s hq
          refine fa_pt (own := RX8) (ref := "CoastlineRulerModel") (k := 15) hx hb hB inB_RX8 tyX8_ok nmX8 hown hI rfl (by decide) m_1546 (fun _ h9 => h9) (by decide) rfl rfl ef23 dX8_scan_159 (fun H locs hI => ?_)
          refine lv_aload_n hx hb dX8_scan_162 rfl (lv_at hl 0 rfl) ?_
          refine lv_iconst (v := (3 : Int32)) hx hb dX8_scan_163 (by decide) ?_
          obtain ⟨f24, ef24, hq⟩ := b_s hq
          refine fa_pt (own := RX8) (ref := "CoastlineRulerModel") (k := 17) hx hb hB inB_RX8 tyX8_ok nmX8 hown hI rfl (by decide) m_1548 (fun _ h9 => h9) (by decide) rfl rfl ef24 dX8_scan_164 (fun H locs hI => ?_)
          exact ge_Wv hx hb hlocks hr hI (Option.some.inj hq) dX8_scan_167
        · replace hq := i_f c21 hq
          have hl120 : ∀ (K144 : Nat → GH → Option GH) (hK144 : ∀ (x0 : Nat) (f : GH) (H : Heap) (locs : List Loc) (ls : Array Slot), g_at (g_A V) V g D cT f n s H locs → lv_has ls 1 [(0, .ref x0)] → K144 x0 f = some o → W p l e rm_X8_scan s m args below meth c H locs 0 0 (MQ below (g_Wv V D cT o n) args s 0 0 (g_A V)) (F0 m 144 ls [])) (N : Nat) (x0 : Nat) (f : GH) (H : Heap) (locs : List Loc) (ls : Array Slot), g_at (g_A V) V g D cT f n s H locs → lv_has ls 1 [(0, .ref x0)] → p_X8_scan_l120 V g K144 N x0 f = some o → W p l e rm_X8_scan s m args below meth c H locs 0 0 (MQ below (g_Wv V D cT o n) args s 0 0 (g_A V)) (F0 m 120 ls []) := by
            intro K144 hK144 N
            induction N with
            | zero =>
              intro x0 f H locs ls hI hl hq
              rw [p_X8_scan_l120] at hq
              cases hq
            | succ N ih =>
              intro x0 f H locs ls hI hl hq
              rw [p_X8_scan_l120] at hq
              refine lv_aload_n hx hb dX8_scan_120 rfl (lv_at hl 0 rfl) ?_
              refine lv_aload_n hx hb dX8_scan_121 rfl (lv_at hl 0 rfl) ?_
              obtain ⟨v25, ev25, hq⟩ := b_s hq
              refine fa_gi (own := RX8) (ref := "CoastlineRulerModel") (k := 15) hx hb hB inB_RX8 hown hI rfl (by decide) m_1546 (fun _ h9 => h9) ev25 dX8_scan_122 ?_
              obtain ⟨v26, ev26, hq⟩ := b_s hq
              refine gr_i (g_runV (As := [.int v25]) (rest := []) (ci := 10) hC (c_X8_isDigit l V g D cT f n x0 v25 v26 ev26) k_X8_isDigit m_2098 rfl rfl ⟨Nat.le_of_ble_eq_true rfl, Nat.le_of_ble_eq_true rfl⟩ hI rfl rfl (h_me_eq ev26).1 rfl hl.1 rfl (Nat.le_of_ble_eq_true rfl) dX8_scan_125 ⟨by decide, by decide⟩) hI (fun H locs hI => ?_)
              refine lv_if_eq (tgt := 144) hx hb dX8_scan_128 (by decide) (fun c27 => ?_) (fun c27 => ?_)
              · replace hq := i_t c27 hq
                exact hK144 x0 f H locs ls hI (lv_sub hl [0] rfl) hq
              · replace hq := i_f c27 hq
                refine lv_aload_n hx hb dX8_scan_131 rfl (lv_at hl 0 rfl) ?_
                refine lv_dup hx hb dX8_scan_132 rfl ?_
                obtain ⟨v28, ev28, hq⟩ := b_s hq
                refine fa_gi (own := RX8) (ref := "CoastlineRulerModel") (k := 15) hx hb hB inB_RX8 hown hI rfl (by decide) m_1546 (fun _ h9 => h9) ev28 dX8_scan_133 ?_
                refine lv_iconst (v := (1 : Int32)) hx hb dX8_scan_136 (by decide) ?_
                refine lv_iadd hx hb dX8_scan_137 ?_
                obtain ⟨f29, ef29, hq⟩ := b_s hq
                refine fa_pt (own := RX8) (ref := "CoastlineRulerModel") (k := 15) hx hb hB inB_RX8 tyX8_ok nmX8 hown hI rfl (by decide) m_1546 (fun _ h9 => h9) (by decide) rfl rfl ef29 dX8_scan_138 (fun H locs hI => ?_)
                refine lv_goto (tgt := 120) hx hb dX8_scan_141 (by decide) ?_
                exact ih x0 f29 H locs ls hI (lv_sub hl [0] rfl) hq
          refine hl120 _ ?_ FU x0 f12 H locs ls hI (lv_sub hl [0] rfl) hq
          · intro x0 f H locs ls hI hl hq
            refine lv_aload_n hx hb dX8_scan_144 rfl (lv_at hl 0 rfl) ?_
            refine lv_iconst (v := (2 : Int32)) hx hb dX8_scan_145 (by decide) ?_
            obtain ⟨f30, ef30, hq⟩ := b_s hq
            refine fa_pt (own := RX8) (ref := "CoastlineRulerModel") (k := 17) hx hb hB inB_RX8 tyX8_ok nmX8 hown hI rfl (by decide) m_1548 (fun _ h9 => h9) (by decide) rfl rfl ef30 dX8_scan_146 (fun H locs hI => ?_)
            refine lv_goto (tgt := 167) hx hb dX8_scan_149 (by decide) ?_
            exact ge_Wv hx hb hlocks hr hI (Option.some.inj hq) dX8_scan_167
      · replace hq := i_f c18 hq
        have hl77 : ∀ (K101 : Nat → GH → Option GH) (hK101 : ∀ (x0 : Nat) (f : GH) (H : Heap) (locs : List Loc) (ls : Array Slot), g_at (g_A V) V g D cT f n s H locs → lv_has ls 1 [(0, .ref x0)] → K101 x0 f = some o → W p l e rm_X8_scan s m args below meth c H locs 0 0 (MQ below (g_Wv V D cT o n) args s 0 0 (g_A V)) (F0 m 101 ls [])) (N : Nat) (x0 : Nat) (f : GH) (H : Heap) (locs : List Loc) (ls : Array Slot), g_at (g_A V) V g D cT f n s H locs → lv_has ls 1 [(0, .ref x0)] → p_X8_scan_l77 V g K101 N x0 f = some o → W p l e rm_X8_scan s m args below meth c H locs 0 0 (MQ below (g_Wv V D cT o n) args s 0 0 (g_A V)) (F0 m 77 ls []) := by
          intro K101 hK101 N
          induction N with
          | zero =>
            intro x0 f H locs ls hI hl hq
            rw [p_X8_scan_l77] at hq
            cases hq
          | succ N ih =>
            intro x0 f H locs ls hI hl hq
            rw [p_X8_scan_l77] at hq
            refine lv_aload_n hx hb dX8_scan_77 rfl (lv_at hl 0 rfl) ?_
            refine lv_aload_n hx hb dX8_scan_78 rfl (lv_at hl 0 rfl) ?_
            obtain ⟨v31, ev31, hq⟩ := b_s hq
            refine fa_gi (own := RX8) (ref := "CoastlineRulerModel") (k := 15) hx hb hB inB_RX8 hown hI rfl (by decide) m_1546 (fun _ h9 => h9) ev31 dX8_scan_79 ?_
            obtain ⟨v32, ev32, hq⟩ := b_s hq
            refine gr_i (g_runV (As := [.int v31]) (rest := []) (ci := 10) hC (c_X8_isLetter l V g D cT f n x0 v31 v32 ev32) k_X8_isLetter m_2094 rfl rfl ⟨Nat.le_of_ble_eq_true rfl, Nat.le_of_ble_eq_true rfl⟩ hI rfl rfl (h_me_eq ev32).1 rfl hl.1 rfl (Nat.le_of_ble_eq_true rfl) dX8_scan_82 ⟨by decide, by decide⟩) hI (fun H locs hI => ?_)
            refine lv_if_eq (tgt := 101) hx hb dX8_scan_85 (by decide) (fun c33 => ?_) (fun c33 => ?_)
            · replace hq := i_t c33 hq
              exact hK101 x0 f H locs ls hI (lv_sub hl [0] rfl) hq
            · replace hq := i_f c33 hq
              refine lv_aload_n hx hb dX8_scan_88 rfl (lv_at hl 0 rfl) ?_
              refine lv_dup hx hb dX8_scan_89 rfl ?_
              obtain ⟨v34, ev34, hq⟩ := b_s hq
              refine fa_gi (own := RX8) (ref := "CoastlineRulerModel") (k := 15) hx hb hB inB_RX8 hown hI rfl (by decide) m_1546 (fun _ h9 => h9) ev34 dX8_scan_90 ?_
              refine lv_iconst (v := (1 : Int32)) hx hb dX8_scan_93 (by decide) ?_
              refine lv_iadd hx hb dX8_scan_94 ?_
              obtain ⟨f35, ef35, hq⟩ := b_s hq
              refine fa_pt (own := RX8) (ref := "CoastlineRulerModel") (k := 15) hx hb hB inB_RX8 tyX8_ok nmX8 hown hI rfl (by decide) m_1546 (fun _ h9 => h9) (by decide) rfl rfl ef35 dX8_scan_95 (fun H locs hI => ?_)
              refine lv_goto (tgt := 77) hx hb dX8_scan_98 (by decide) ?_
              exact ih x0 f35 H locs ls hI (lv_sub hl [0] rfl) hq
        refine hl77 _ ?_ FU x0 f12 H locs ls hI (lv_sub hl [0] rfl) hq
        · intro x0 f H locs ls hI hl hq
          refine lv_aload_n hx hb dX8_scan_101 rfl (lv_at hl 0 rfl) ?_
          refine lv_iconst (v := (1 : Int32)) hx hb dX8_scan_102 (by decide) ?_
          obtain ⟨f36, ef36, hq⟩ := b_s hq
          refine fa_pt (own := RX8) (ref := "CoastlineRulerModel") (k := 17) hx hb hB inB_RX8 tyX8_ok nmX8 hown hI rfl (by decide) m_1548 (fun _ h9 => h9) (by decide) rfl rfl ef36 dX8_scan_103 (fun H locs hI => ?_)
          refine lv_goto (tgt := 167) hx hb dX8_scan_106 (by decide) ?_
          exact ge_Wv hx hb hlocks hr hI (Option.some.inj hq) dX8_scan_167
    · replace hq := i_f c15 hq
      refine lv_aload_n hx hb dX8_scan_58 rfl (lv_at hl 0 rfl) ?_
      refine lv_iconst (v := (0 : Int32)) hx hb dX8_scan_59 (by decide) ?_
      obtain ⟨f37, ef37, hq⟩ := b_s hq
      refine fa_pt (own := RX8) (ref := "CoastlineRulerModel") (k := 17) hx hb hB inB_RX8 tyX8_ok nmX8 hown hI rfl (by decide) m_1548 (fun _ h9 => h9) (by decide) rfl rfl ef37 dX8_scan_60 (fun H locs hI => ?_)
      refine lv_goto (tgt := 167) hx hb dX8_scan_63 (by decide) ?_
      exact ge_Wv hx hb hlocks hr hI (Option.some.inj hq) dX8_scan_167

def p_X8_startText (V : Nat → Nat) (g f : GH) (a0 : Nat) (a1 : Int32) : Option GH :=
  h_me f a0 10 <|
  (h_pt f a0 10 14 (.int a1)).bind fun f1 =>
  (h_pt f1 a0 10 15 (.int (0 : Int32))).bind fun f2 =>
  (h_pt f2 a0 10 18 (.int (0 : Int32))).bind fun f3 =>
  (h_pt f3 a0 10 21 (.int (0 : Int32))).bind fun f4 =>
  (p_X8_scan V g f4 a0).bind fun v5 =>
  some v5
abbrev rm_X8_startText : Room := { frames := 5, cells := 0, slots := 0, locals := 182 }
theorem k_X8_startText : g_CV yX8_startText cX8_startText 2 none 1 := ⟨⟨m_2085, m_14, by decide +kernel⟩, m_2084, ms_75⟩
set_option maxHeartbeats 4000000 in
set_option maxRecDepth 100000 in
theorem c_X8_startText (l : Launch) (V : Nat → Nat) (g : GH) (D : va_G) (cT : Nat → ClassId) (f : GH) (n : Nat) (a0 : Nat) (a1 : Int32) (o : GH) (hq : p_X8_startText V g f a0 a1 = some o) : Met l yX8_startText (Cond.code yX8_startText cX8_startText 2 none :: g_B) rm_X8_startText (va_Pc [.ref a0, .int a1] (g_I V g D cT f n)) (g_Wv V D cT o n) 0 0 (g_A V) := by
  refine g_begin (own := RX8) [.ref a0, .int a1] [(0, .ref a0), (1, .int a1)] (g_A V) (fun _ h => h) (by decide) rfl (Nat.le_of_ble_eq_true rfl) rfl ?_
  intro p e s m args below meth c hx hb hr hlocks hin hC hI ls hl
  obtain ⟨hx, hb, hml, hown, hB⟩ := id hC
  obtain ⟨H, hH⟩ : ∃ H, H = s.heap := ⟨_, rfl⟩
  obtain ⟨locs, hlocs⟩ : ∃ L : List Loc, L = [] := ⟨_, rfl⟩
  rw [← hH, ← hlocs] at hI ⊢
  clear hH hlocs
  unfold p_X8_startText at hq
  replace hq := (h_me_eq hq).2
  refine lv_aload_n hx hb dX8_startText_0 rfl (lv_at hl 0 rfl) ?_
  refine lv_iload_n hx hb dX8_startText_1 rfl (lv_at hl 1 rfl) ?_
  obtain ⟨f1, ef1, hq⟩ := b_s hq
  refine fa_pt (own := RX8) (ref := "CoastlineRulerModel") (k := 14) hx hb hB inB_RX8 tyX8_ok nmX8 hown hI rfl (by decide) m_1545 (fun _ h9 => h9) (by decide) rfl rfl ef1 dX8_startText_2 (fun H locs hI => ?_)
  refine lv_aload_n hx hb dX8_startText_5 rfl (lv_at hl 0 rfl) ?_
  refine lv_iconst (v := (0 : Int32)) hx hb dX8_startText_6 (by decide) ?_
  obtain ⟨f2, ef2, hq⟩ := b_s hq
  refine fa_pt (own := RX8) (ref := "CoastlineRulerModel") (k := 15) hx hb hB inB_RX8 tyX8_ok nmX8 hown hI rfl (by decide) m_1546 (fun _ h9 => h9) (by decide) rfl rfl ef2 dX8_startText_7 (fun H locs hI => ?_)
  refine lv_aload_n hx hb dX8_startText_10 rfl (lv_at hl 0 rfl) ?_
  refine lv_iconst (v := (0 : Int32)) hx hb dX8_startText_11 (by decide) ?_
  obtain ⟨f3, ef3, hq⟩ := b_s hq
  refine fa_pt (own := RX8) (ref := "CoastlineRulerModel") (k := 18) hx hb hB inB_RX8 tyX8_ok nmX8 hown hI rfl (by decide) m_1549 (fun _ h9 => h9) (by decide) rfl rfl ef3 dX8_startText_12 (fun H locs hI => ?_)
  refine lv_aload_n hx hb dX8_startText_15 rfl (lv_at hl 0 rfl) ?_
  refine lv_iconst (v := (0 : Int32)) hx hb dX8_startText_16 (by decide) ?_
  obtain ⟨f4, ef4, hq⟩ := b_s hq
  refine fa_pt (own := RX8) (ref := "CoastlineRulerModel") (k := 21) hx hb hB inB_RX8 tyX8_ok nmX8 hown hI rfl (by decide) m_1552 (fun _ h9 => h9) (by decide) rfl rfl ef4 dX8_startText_17 (fun H locs hI => ?_)
  refine lv_aload_n hx hb dX8_startText_20 rfl (lv_at hl 0 rfl) ?_
  obtain ⟨v5, ev5, hq⟩ := b_s hq
  refine gw_v (g_runV (As := []) (rest := []) (ci := 10) hC (c_X8_scan l V g D cT f4 n a0 v5 ev5) k_X8_scan m_2086 rfl rfl ⟨Nat.le_of_ble_eq_true rfl, Nat.le_of_ble_eq_true rfl⟩ hI rfl rfl (h_me_eq ev5).1 rfl hl.1 rfl (Nat.le_of_ble_eq_true rfl) dX8_startText_21 ⟨by decide, by decide⟩) hI (fun H locs hI => ?_)
  exact ge_Wv hx hb hlocks hr hI (Option.some.inj hq) dX8_startText_24

def p_X8_finish (V : Nat → Nat) (g f : GH) (a0 : Nat) : Option (Int32 × GH) :=
  h_me f a0 10 <|
  (h_pt f a0 10 13 (.int (0 : Int32))).bind fun f1 =>
  (h_gi f1 a0 10 18).bind fun v2 =>
  (if v2 = (0 : Int32) then
    (h_pt f1 a0 10 20 (.int (-1 : Int32))).bind fun f7 =>
    (h_gi f7 a0 10 18).bind fun v8 =>
    some (v8, f7)
  else
    (h_gi f1 a0 10 19).bind fun v4 =>
    (h_pt f1 a0 10 20 (.int v4)).bind fun f5 =>
    (h_gi f5 a0 10 18).bind fun v6 =>
    some (v6, f5))
abbrev rm_X8_finish : Room := { frames := 2, cells := 0, slots := 0, locals := 120 }
theorem k_X8_finish : g_CV yX8_finish cX8_finish 1 (some .int) 0 := ⟨⟨m_2175, m_14, by decide +kernel⟩, m_2174, ms_96⟩
set_option maxHeartbeats 4000000 in
set_option maxRecDepth 100000 in
theorem c_X8_finish (l : Launch) (V : Nat → Nat) (g : GH) (D : va_G) (cT : Nat → ClassId) (f : GH) (n : Nat) (a0 : Nat) (o : Int32 × GH) (hq : p_X8_finish V g f a0 = some o) : Met l yX8_finish (Cond.code yX8_finish cX8_finish 1 (some .int) :: g_B) rm_X8_finish (va_Pc [.ref a0] (g_I V g D cT f n)) (g_Wi V D cT o.1 o.2 n) 0 0 (g_A V) := by
  refine g_begin (own := RX8) [.ref a0] [(0, .ref a0)] (g_A V) (fun _ h => h) (by decide) rfl (Nat.le_of_ble_eq_true rfl) rfl ?_
  intro p e s m args below meth c hx hb hr hlocks hin hC hI ls hl
  obtain ⟨hx, hb, hml, hown, hB⟩ := id hC
  obtain ⟨H, hH⟩ : ∃ H, H = s.heap := ⟨_, rfl⟩
  obtain ⟨locs, hlocs⟩ : ∃ L : List Loc, L = [] := ⟨_, rfl⟩
  rw [← hH, ← hlocs] at hI ⊢
  clear hH hlocs
  unfold p_X8_finish at hq
  replace hq := (h_me_eq hq).2
  refine lv_aload_n hx hb dX8_finish_0 rfl (lv_at hl 0 rfl) ?_
  refine lv_iconst (v := (0 : Int32)) hx hb dX8_finish_1 (by decide) ?_
  obtain ⟨f1, ef1, hq⟩ := b_s hq
  refine fa_pt (own := RX8) (ref := "CoastlineRulerModel") (k := 13) hx hb hB inB_RX8 tyX8_ok nmX8 hown hI rfl (by decide) m_1544 (fun _ h9 => h9) (by decide) rfl rfl ef1 dX8_finish_2 (fun H locs hI => ?_)
  refine lv_aload_n hx hb dX8_finish_5 rfl (lv_at hl 0 rfl) ?_
  refine lv_aload_n hx hb dX8_finish_6 rfl (lv_at hl 0 rfl) ?_
  obtain ⟨v2, ev2, hq⟩ := b_s hq
  refine fa_gi (own := RX8) (ref := "CoastlineRulerModel") (k := 18) hx hb hB inB_RX8 hown hI rfl (by decide) m_1549 (fun _ h9 => h9) ev2 dX8_finish_7 ?_
  refine lv_if_ne (tgt := 17) hx hb dX8_finish_10 (by decide) (fun c3 => ?_) (fun c3 => ?_)
  · replace hq := i_f c3 hq
    refine lv_aload_n hx hb dX8_finish_17 rfl (lv_at hl 0 rfl) ?_
    obtain ⟨v4, ev4, hq⟩ := b_s hq
    refine fa_gi (own := RX8) (ref := "CoastlineRulerModel") (k := 19) hx hb hB inB_RX8 hown hI rfl (by decide) m_1550 (fun _ h9 => h9) ev4 dX8_finish_18 ?_
    obtain ⟨f5, ef5, hq⟩ := b_s hq
    refine fa_pt (own := RX8) (ref := "CoastlineRulerModel") (k := 20) hx hb hB inB_RX8 tyX8_ok nmX8 hown hI rfl (by decide) m_1551 (fun _ h9 => h9) (by decide) rfl rfl ef5 dX8_finish_21 (fun H locs hI => ?_)
    refine lv_aload_n hx hb dX8_finish_24 rfl (lv_at hl 0 rfl) ?_
    obtain ⟨v6, ev6, hq⟩ := b_s hq
    refine fa_gi (own := RX8) (ref := "CoastlineRulerModel") (k := 18) hx hb hB inB_RX8 hown hI rfl (by decide) m_1549 (fun _ h9 => h9) ev6 dX8_finish_25 ?_
    exact ge_Wi hx hb hlocks hr rfl hI (congrArg (fun z => z.1) (Option.some.inj hq)) (congrArg (fun z => z.2) (Option.some.inj hq)) dX8_finish_28
  · replace hq := i_t c3 hq
    refine lv_iconst (v := (-1 : Int32)) hx hb dX8_finish_13 (by decide) ?_
    refine lv_goto (tgt := 21) hx hb dX8_finish_14 (by decide) ?_
    obtain ⟨f7, ef7, hq⟩ := b_s hq
    refine fa_pt (own := RX8) (ref := "CoastlineRulerModel") (k := 20) hx hb hB inB_RX8 tyX8_ok nmX8 hown hI rfl (by decide) m_1551 (fun _ h9 => h9) (by decide) rfl rfl ef7 dX8_finish_21 (fun H locs hI => ?_)
    refine lv_aload_n hx hb dX8_finish_24 rfl (lv_at hl 0 rfl) ?_
    obtain ⟨v8, ev8, hq⟩ := b_s hq
    refine fa_gi (own := RX8) (ref := "CoastlineRulerModel") (k := 18) hx hb hB inB_RX8 hown hI rfl (by decide) m_1549 (fun _ h9 => h9) ev8 dX8_finish_25 ?_
    exact ge_Wi hx hb hlocks hr rfl hI (congrArg (fun z => z.1) (Option.some.inj hq)) (congrArg (fun z => z.2) (Option.some.inj hq)) dX8_finish_28

def p_X8_check (V : Nat → Nat) (g f : GH) (a0 : Nat) (a1 : Int32) (a2 : Int32) : Option GH :=
  h_me f a0 10 <|
  (if a1 = (0 : Int32) then
    (h_gi f a0 10 18).bind fun v2 =>
    (if v2 = (0 : Int32) then
      (h_pt f a0 10 18 (.int a2)).bind fun f4 =>
      (h_gi f4 a0 10 16).bind fun v5 =>
      (h_pt f4 a0 10 19 (.int v5)).bind fun f6 =>
      some f6
    else
      some f)
  else
    some f)
abbrev rm_X8_check : Room := { frames := 2, cells := 0, slots := 0, locals := 120 }
theorem k_X8_check : g_CV yX8_check cX8_check 3 none 2 := ⟨⟨m_2116, m_14, by decide +kernel⟩, m_2115, ms_82⟩
set_option maxHeartbeats 4000000 in
set_option maxRecDepth 100000 in
theorem c_X8_check (l : Launch) (V : Nat → Nat) (g : GH) (D : va_G) (cT : Nat → ClassId) (f : GH) (n : Nat) (a0 : Nat) (a1 : Int32) (a2 : Int32) (o : GH) (hq : p_X8_check V g f a0 a1 a2 = some o) : Met l yX8_check (Cond.code yX8_check cX8_check 3 none :: g_B) rm_X8_check (va_Pc [.ref a0, .int a1, .int a2] (g_I V g D cT f n)) (g_Wv V D cT o n) 0 0 (g_A V) := by
  refine g_begin (own := RX8) [.ref a0, .int a1, .int a2] [(0, .ref a0), (1, .int a1), (2, .int a2)] (g_A V) (fun _ h => h) (by decide) rfl (Nat.le_of_ble_eq_true rfl) rfl ?_
  intro p e s m args below meth c hx hb hr hlocks hin hC hI ls hl
  obtain ⟨hx, hb, hml, hown, hB⟩ := id hC
  obtain ⟨H, hH⟩ : ∃ H, H = s.heap := ⟨_, rfl⟩
  obtain ⟨locs, hlocs⟩ : ∃ L : List Loc, L = [] := ⟨_, rfl⟩
  rw [← hH, ← hlocs] at hI ⊢
  clear hH hlocs
  unfold p_X8_check at hq
  replace hq := (h_me_eq hq).2
  refine lv_iload_n hx hb dX8_check_0 rfl (lv_at hl 1 rfl) ?_
  refine lv_if_ne (tgt := 24) hx hb dX8_check_1 (by decide) (fun c1 => ?_) (fun c1 => ?_)
  · replace hq := i_f c1 hq
    exact ge_Wv hx hb hlocks hr hI (Option.some.inj hq) dX8_check_24
  · replace hq := i_t c1 hq
    refine lv_aload_n hx hb dX8_check_4 rfl (lv_at hl 0 rfl) ?_
    obtain ⟨v2, ev2, hq⟩ := b_s hq
    refine fa_gi (own := RX8) (ref := "CoastlineRulerModel") (k := 18) hx hb hB inB_RX8 hown hI rfl (by decide) m_1549 (fun _ h9 => h9) ev2 dX8_check_5 ?_
    refine lv_if_ne (tgt := 24) hx hb dX8_check_8 (by decide) (fun c3 => ?_) (fun c3 => ?_)
    · replace hq := i_f c3 hq
      exact ge_Wv hx hb hlocks hr hI (Option.some.inj hq) dX8_check_24
    · replace hq := i_t c3 hq
      refine lv_aload_n hx hb dX8_check_11 rfl (lv_at hl 0 rfl) ?_
      refine lv_iload_n hx hb dX8_check_12 rfl (lv_at hl 2 rfl) ?_
      obtain ⟨f4, ef4, hq⟩ := b_s hq
      refine fa_pt (own := RX8) (ref := "CoastlineRulerModel") (k := 18) hx hb hB inB_RX8 tyX8_ok nmX8 hown hI rfl (by decide) m_1549 (fun _ h9 => h9) (by decide) rfl rfl ef4 dX8_check_13 (fun H locs hI => ?_)
      refine lv_aload_n hx hb dX8_check_16 rfl (lv_at hl 0 rfl) ?_
      refine lv_aload_n hx hb dX8_check_17 rfl (lv_at hl 0 rfl) ?_
      obtain ⟨v5, ev5, hq⟩ := b_s hq
      refine fa_gi (own := RX8) (ref := "CoastlineRulerModel") (k := 16) hx hb hB inB_RX8 hown hI rfl (by decide) m_1547 (fun _ h9 => h9) ev5 dX8_check_18 ?_
      obtain ⟨f6, ef6, hq⟩ := b_s hq
      refine fa_pt (own := RX8) (ref := "CoastlineRulerModel") (k := 19) hx hb hB inB_RX8 tyX8_ok nmX8 hown hI rfl (by decide) m_1550 (fun _ h9 => h9) (by decide) rfl rfl ef6 dX8_check_21 (fun H locs hI => ?_)
      exact ge_Wv hx hb hlocks hr hI (Option.some.inj hq) dX8_check_24

def p_X8_advance (V : Nat → Nat) (g f : GH) (a0 : Nat) : Option GH :=
  h_me f a0 10 <|
  (h_gi f a0 10 18).bind fun v1 =>
  (if v1 = (0 : Int32) then
    (p_X8_scan V g f a0).bind fun v3 =>
    some v3
  else
    some f)
abbrev rm_X8_advance : Room := { frames := 5, cells := 0, slots := 0, locals := 182 }
theorem k_X8_advance : g_CV yX8_advance cX8_advance 1 none 0 := ⟨⟨m_2120, m_14, by decide +kernel⟩, m_2119, ms_83⟩
set_option maxHeartbeats 4000000 in
set_option maxRecDepth 100000 in
theorem c_X8_advance (l : Launch) (V : Nat → Nat) (g : GH) (D : va_G) (cT : Nat → ClassId) (f : GH) (n : Nat) (a0 : Nat) (o : GH) (hq : p_X8_advance V g f a0 = some o) : Met l yX8_advance (Cond.code yX8_advance cX8_advance 1 none :: g_B) rm_X8_advance (va_Pc [.ref a0] (g_I V g D cT f n)) (g_Wv V D cT o n) 0 0 (g_A V) := by
  refine g_begin (own := RX8) [.ref a0] [(0, .ref a0)] (g_A V) (fun _ h => h) (by decide) rfl (Nat.le_of_ble_eq_true rfl) rfl ?_
  intro p e s m args below meth c hx hb hr hlocks hin hC hI ls hl
  obtain ⟨hx, hb, hml, hown, hB⟩ := id hC
  obtain ⟨H, hH⟩ : ∃ H, H = s.heap := ⟨_, rfl⟩
  obtain ⟨locs, hlocs⟩ : ∃ L : List Loc, L = [] := ⟨_, rfl⟩
  rw [← hH, ← hlocs] at hI ⊢
  clear hH hlocs
  unfold p_X8_advance at hq
  replace hq := (h_me_eq hq).2
  refine lv_aload_n hx hb dX8_advance_0 rfl (lv_at hl 0 rfl) ?_
  obtain ⟨v1, ev1, hq⟩ := b_s hq
  refine fa_gi (own := RX8) (ref := "CoastlineRulerModel") (k := 18) hx hb hB inB_RX8 hown hI rfl (by decide) m_1549 (fun _ h9 => h9) ev1 dX8_advance_1 ?_
  refine lv_if_ne (tgt := 11) hx hb dX8_advance_4 (by decide) (fun c2 => ?_) (fun c2 => ?_)
  · replace hq := i_f c2 hq
    exact ge_Wv hx hb hlocks hr hI (Option.some.inj hq) dX8_advance_11
  · replace hq := i_t c2 hq
    refine lv_aload_n hx hb dX8_advance_7 rfl (lv_at hl 0 rfl) ?_
    obtain ⟨v3, ev3, hq⟩ := b_s hq
    refine gw_v (g_runV (As := []) (rest := []) (ci := 10) hC (c_X8_scan l V g D cT f n a0 v3 ev3) k_X8_scan m_2086 rfl rfl ⟨Nat.le_of_ble_eq_true rfl, Nat.le_of_ble_eq_true rfl⟩ hI rfl rfl (h_me_eq ev3).1 rfl hl.1 rfl (Nat.le_of_ble_eq_true rfl) dX8_advance_8 ⟨by decide, by decide⟩) hI (fun H locs hI => ?_)
    exact ge_Wv hx hb hlocks hr hI (Option.some.inj hq) dX8_advance_11

def p_X8_isSymbol (V : Nat → Nat) (g f : GH) (a0 : Nat) (a1 : Int32) : Option Int32 :=
  h_me f a0 10 <|
  (h_gi f a0 10 18).bind fun v1 =>
  (if v1 = (0 : Int32) then
    (h_gi f a0 10 17).bind fun v3 =>
    (if v3 = (3 : Int32) then
      (h_gr f a0 10 12).bind fun v5 =>
      (h_gi f a0 10 16).bind fun v6 =>
      (h_li f v5 0 v6).bind fun v7 =>
      (if v7 = a1 then
        some (1 : Int32)
      else
        some (0 : Int32))
    else
      some (0 : Int32))
  else
    some (0 : Int32))
abbrev rm_X8_isSymbol : Room := { frames := 2, cells := 0, slots := 0, locals := 120 }
theorem k_X8_isSymbol : g_CV yX8_isSymbol cX8_isSymbol 2 (some .boolean) 1 := ⟨⟨m_2134, m_14, by decide +kernel⟩, m_2133, ms_86⟩
set_option maxHeartbeats 4000000 in
set_option maxRecDepth 100000 in
theorem c_X8_isSymbol (l : Launch) (V : Nat → Nat) (g : GH) (D : va_G) (cT : Nat → ClassId) (f : GH) (n : Nat) (a0 : Nat) (a1 : Int32) (o : Int32) (hq : p_X8_isSymbol V g f a0 a1 = some o) : Met l yX8_isSymbol (Cond.code yX8_isSymbol cX8_isSymbol 2 (some .boolean) :: g_B) rm_X8_isSymbol (va_Pc [.ref a0, .int a1] (g_I V g D cT f n)) (g_Ri o n) 0 0 g_no := by
  refine g_begin (own := RX8) [.ref a0, .int a1] [(0, .ref a0), (1, .int a1)] g_no (fun _ h => h.elim) (by decide) rfl (Nat.le_of_ble_eq_true rfl) rfl ?_
  intro p e s m args below meth c hx hb hr hlocks hin hC hI ls hl
  obtain ⟨hx, hb, hml, hown, hB⟩ := id hC
  obtain ⟨H, hH⟩ : ∃ H, H = s.heap := ⟨_, rfl⟩
  obtain ⟨locs, hlocs⟩ : ∃ L : List Loc, L = [] := ⟨_, rfl⟩
  rw [← hH, ← hlocs] at hI ⊢
  clear hH hlocs
  unfold p_X8_isSymbol at hq
  replace hq := (h_me_eq hq).2
  refine lv_aload_n hx hb dX8_isSymbol_0 rfl (lv_at hl 0 rfl) ?_
  obtain ⟨v1, ev1, hq⟩ := b_s hq
  refine fa_gi (own := RX8) (ref := "CoastlineRulerModel") (k := 18) hx hb hB inB_RX8 hown hI rfl (by decide) m_1549 (fun _ h9 => h9) ev1 dX8_isSymbol_1 ?_
  refine lv_if_ne (tgt := 32) hx hb dX8_isSymbol_4 (by decide) (fun c2 => ?_) (fun c2 => ?_)
  · replace hq := i_f c2 hq
    refine lv_iconst (v := (0 : Int32)) hx hb dX8_isSymbol_32 (by decide) ?_
    exact ge_Ri hx hb hlocks hr (by decide +kernel) hI hq dX8_isSymbol_33
  · replace hq := i_t c2 hq
    refine lv_aload_n hx hb dX8_isSymbol_7 rfl (lv_at hl 0 rfl) ?_
    obtain ⟨v3, ev3, hq⟩ := b_s hq
    refine fa_gi (own := RX8) (ref := "CoastlineRulerModel") (k := 17) hx hb hB inB_RX8 hown hI rfl (by decide) m_1548 (fun _ h9 => h9) ev3 dX8_isSymbol_8 ?_
    refine lv_iconst (v := (3 : Int32)) hx hb dX8_isSymbol_11 (by decide) ?_
    refine lv_icmp_ne (tgt := 32) hx hb dX8_isSymbol_12 (by decide) (fun c4 => ?_) (fun c4 => ?_)
    · replace hq := i_f c4 hq
      refine lv_iconst (v := (0 : Int32)) hx hb dX8_isSymbol_32 (by decide) ?_
      exact ge_Ri hx hb hlocks hr (by decide +kernel) hI hq dX8_isSymbol_33
    · replace hq := i_t c4 hq
      refine lv_aload_n hx hb dX8_isSymbol_15 rfl (lv_at hl 0 rfl) ?_
      obtain ⟨v5, ev5, hq⟩ := b_s hq
      refine fa_gr (own := RX8) (ref := "CoastlineRulerModel") (k := 12) hx hb hB inB_RX8 hown hI rfl (by decide) m_1543 (fun _ h9 => h9) ev5 dX8_isSymbol_16 ?_
      refine lv_aload_n hx hb dX8_isSymbol_19 rfl (lv_at hl 0 rfl) ?_
      obtain ⟨v6, ev6, hq⟩ := b_s hq
      refine fa_gi (own := RX8) (ref := "CoastlineRulerModel") (k := 16) hx hb hB inB_RX8 hown hI rfl (by decide) m_1547 (fun _ h9 => h9) ev6 dX8_isSymbol_20 ?_
      obtain ⟨v7, ev7, hq⟩ := b_s hq
      refine fa_li hx hb hI ev7 dX8_isSymbol_23 ?_
      refine lv_iload_n hx hb dX8_isSymbol_24 rfl (lv_at hl 1 rfl) ?_
      refine lv_icmp_ne (tgt := 32) hx hb dX8_isSymbol_25 (by decide) (fun c8 => ?_) (fun c8 => ?_)
      · replace hq := i_f c8 hq
        refine lv_iconst (v := (0 : Int32)) hx hb dX8_isSymbol_32 (by decide) ?_
        exact ge_Ri hx hb hlocks hr (by decide +kernel) hI hq dX8_isSymbol_33
      · replace hq := i_t c8 hq
        refine lv_iconst (v := (1 : Int32)) hx hb dX8_isSymbol_28 (by decide) ?_
        refine lv_goto (tgt := 33) hx hb dX8_isSymbol_29 (by decide) ?_
        exact ge_Ri hx hb hlocks hr (by decide +kernel) hI hq dX8_isSymbol_33

def p_X8_isWord_l39 (V : Nat → Nat) (g f : GH) (K82 : Int32 → Option Int32) : Nat → Nat → Nat → Int32 → Int32 → Option Int32
  | 0, _, _, _, _ => none
  | N + 1, x0, x1, x2, x3 =>
    (if x2 = (0 : Int32) then
      K82 x2
    else
      (p_J0_length_8abf5 V g f x1).bind fun v3 =>
      (if v3 ≤ x3 then
        K82 x2
      else
        (p_J0_charAt_5068e V g f x1 x3).bind fun v5 =>
        (h_gr f x0 10 12).bind fun v6 =>
        (h_gi f x0 10 16).bind fun v7 =>
        (h_li f v6 0 (v7 + x3)).bind fun v8 =>
        (if v5 = v8 then
          p_X8_isWord_l39 V g f K82 N x0 x1 (1 : Int32) (x3 + (1 : Int32))
        else
          p_X8_isWord_l39 V g f K82 N x0 x1 (0 : Int32) (x3 + (1 : Int32)))))
def p_X8_isWord_j36 (V : Nat → Nat) (g f : GH) (x0 : Nat) (x1 : Nat) (t0 : Int32) : Option Int32 :=
  p_X8_isWord_l39 V g f (fun x2 =>
    (h_bz x2).bind fun _ =>
    some x2) FU x0 x1 t0 (0 : Int32)
def p_X8_isWord_j35 (V : Nat → Nat) (g f : GH) (K36 : Nat → Nat → Int32 → Option Int32) (x0 : Nat) (x1 : Nat) : Option Int32 :=
  K36 x0 x1 (0 : Int32)
def p_X8_isWord (V : Nat → Nat) (g f : GH) (a0 : Nat) (a1 : Nat) : Option Int32 :=
  h_me f a0 10 <|
  (h_gi f a0 10 18).bind fun v1 =>
  (if v1 = (0 : Int32) then
    (h_gi f a0 10 17).bind fun v12 =>
    (if v12 = (1 : Int32) then
      (p_J0_length_8abf5 V g f a1).bind fun v14 =>
      (h_gi f a0 10 15).bind fun v15 =>
      (h_gi f a0 10 16).bind fun v16 =>
      (if v14 = (v15 - v16) then
        p_X8_isWord_j36 V g f a0 a1 (1 : Int32)
      else
        p_X8_isWord_j35 V g f (p_X8_isWord_j36 V g f) a0 a1)
    else
      p_X8_isWord_j35 V g f (p_X8_isWord_j36 V g f) a0 a1)
  else
    p_X8_isWord_j35 V g f (p_X8_isWord_j36 V g f) a0 a1)
abbrev rm_X8_isWord : Room := { frames := 6, cells := 0, slots := 0, locals := 205 }
theorem k_X8_isWord : g_CV yX8_isWord cX8_isWord 4 (some .boolean) 1 := ⟨⟨m_2110, m_14, by decide +kernel⟩, m_2109, ms_81⟩
set_option maxHeartbeats 4000000 in
set_option maxRecDepth 100000 in
theorem c_X8_isWord (l : Launch) (V : Nat → Nat) (g : GH) (D : va_G) (cT : Nat → ClassId) (f : GH) (n : Nat) (a0 : Nat) (a1 : Nat) (o : Int32) (hq : p_X8_isWord V g f a0 a1 = some o) : Met l yX8_isWord (Cond.code yX8_isWord cX8_isWord 4 (some .boolean) :: g_B) rm_X8_isWord (va_Pc [.ref a0, .ref a1] (g_I V g D cT f n)) (g_Ri o n) 0 0 g_no := by
  refine g_begin (own := RX8) [.ref a0, .ref a1] [(0, .ref a0), (1, .ref a1)] g_no (fun _ h => h.elim) (by decide) rfl (Nat.le_of_ble_eq_true rfl) rfl ?_
  intro p e s m args below meth c hx hb hr hlocks hin hC hI ls hl
  obtain ⟨hx, hb, hml, hown, hB⟩ := id hC
  obtain ⟨H, hH⟩ : ∃ H, H = s.heap := ⟨_, rfl⟩
  obtain ⟨locs, hlocs⟩ : ∃ L : List Loc, L = [] := ⟨_, rfl⟩
  rw [← hH, ← hlocs] at hI ⊢
  clear hH hlocs
  unfold p_X8_isWord at hq
  replace hq := (h_me_eq hq).2
  refine lv_aload_n hx hb dX8_isWord_0 rfl (lv_at hl 0 rfl) ?_
  obtain ⟨v1, ev1, hq⟩ := b_s hq
  refine fa_gi (own := RX8) (ref := "CoastlineRulerModel") (k := 18) hx hb hB inB_RX8 hown hI rfl (by decide) m_1549 (fun _ h9 => h9) ev1 dX8_isWord_1 ?_
  have hj36 : ∀ (x0 : Nat) (x1 : Nat) (t0 : Int32) (H : Heap) (locs : List Loc) (ls : Array Slot), g_at g_no V g D cT f n s H locs → lv_has ls 4 [(0, .ref x0), (1, .ref x1)] → p_X8_isWord_j36 V g f x0 x1 t0 = some o → W p l e rm_X8_isWord s m args below meth c H locs 0 0 (MQ below (g_Ri o n) args s 0 0 g_no) (F0 m 36 ls [.int t0]) := by
    intro x0 x1 t0 H locs ls hI hl hq
    unfold p_X8_isWord_j36 at hq
    refine lv_istore_n (lv' := [(2, .int t0), (0, .ref x0), (1, .ref x1)]) hx hb dX8_isWord_36 rfl hl (by decide) rfl (fun ls hl => ?_)
    refine lv_iconst (v := (0 : Int32)) hx hb dX8_isWord_37 (by decide) ?_
    refine lv_istore_n (lv' := [(3, .int (0 : Int32)), (2, .int t0), (0, .ref x0), (1, .ref x1)]) hx hb dX8_isWord_38 rfl hl (by decide) rfl (fun ls hl => ?_)
    have hl39 : ∀ (K82 : Int32 → Option Int32) (hK82 : ∀ (x2 : Int32) (H : Heap) (locs : List Loc) (ls : Array Slot), g_at g_no V g D cT f n s H locs → lv_has ls 4 [(2, .int x2)] → K82 x2 = some o → W p l e rm_X8_isWord s m args below meth c H locs 0 0 (MQ below (g_Ri o n) args s 0 0 g_no) (F0 m 82 ls [])) (N : Nat) (x0 : Nat) (x1 : Nat) (x2 : Int32) (x3 : Int32) (H : Heap) (locs : List Loc) (ls : Array Slot), g_at g_no V g D cT f n s H locs → lv_has ls 4 [(0, .ref x0), (1, .ref x1), (2, .int x2), (3, .int x3)] → p_X8_isWord_l39 V g f K82 N x0 x1 x2 x3 = some o → W p l e rm_X8_isWord s m args below meth c H locs 0 0 (MQ below (g_Ri o n) args s 0 0 g_no) (F0 m 39 ls []) := by
      intro K82 hK82 N
      induction N with
      | zero =>
        intro x0 x1 x2 x3 H locs ls hI hl hq
        rw [p_X8_isWord_l39] at hq
        cases hq
      | succ N ih =>
        intro x0 x1 x2 x3 H locs ls hI hl hq
        rw [p_X8_isWord_l39] at hq
        refine lv_iload_n hx hb dX8_isWord_39 rfl (lv_at hl 2 rfl) ?_
        refine lv_if_eq (tgt := 82) hx hb dX8_isWord_40 (by decide) (fun c2 => ?_) (fun c2 => ?_)
        · replace hq := i_t c2 hq
          exact hK82 x2 H locs ls hI (lv_sub hl [2] rfl) hq
        · replace hq := i_f c2 hq
          refine lv_iload_n hx hb dX8_isWord_43 rfl (lv_at hl 3 rfl) ?_
          refine lv_aload_n hx hb dX8_isWord_44 rfl (lv_at hl 1 rfl) ?_
          obtain ⟨v3, ev3, hq⟩ := b_s hq
          refine gr_i (g_runVs (As := []) (rest := [.int x3]) (ci := 51) hC (c_J0_length_8abf5 l V g D cT f n x1 v3 ev3) k_J0_length_8abf5 m_2111 rfl rfl ⟨Nat.le_of_ble_eq_true rfl, Nat.le_of_ble_eq_true rfl⟩ hI rfl (h_me_eq ev3).1 rfl hl.1 rfl (Nat.le_of_ble_eq_true rfl) dX8_isWord_45 ⟨by decide, by decide⟩) hI (fun H locs hI => ?_)
          refine lv_icmp_ge (tgt := 82) hx hb dX8_isWord_48 (by decide) (fun c4 => ?_) (fun c4 => ?_)
          · replace hq := i_t c4 hq
            exact hK82 x2 H locs ls hI (lv_sub hl [2] rfl) hq
          · replace hq := i_f c4 hq
            refine lv_aload_n hx hb dX8_isWord_51 rfl (lv_at hl 1 rfl) ?_
            refine lv_iload_n hx hb dX8_isWord_52 rfl (lv_at hl 3 rfl) ?_
            obtain ⟨v5, ev5, hq⟩ := b_s hq
            refine gr_i (g_runVs (As := [.int x3]) (rest := []) (ci := 51) hC (c_J0_charAt_5068e l V g D cT f n x1 x3 v5 ev5) k_J0_charAt_5068e m_2112 rfl rfl ⟨Nat.le_of_ble_eq_true rfl, Nat.le_of_ble_eq_true rfl⟩ hI rfl (h_me_eq ev5).1 rfl hl.1 rfl (Nat.le_of_ble_eq_true rfl) dX8_isWord_53 ⟨by decide, by decide⟩) hI (fun H locs hI => ?_)
            refine lv_aload_n hx hb dX8_isWord_56 rfl (lv_at hl 0 rfl) ?_
            obtain ⟨v6, ev6, hq⟩ := b_s hq
            refine fa_gr (own := RX8) (ref := "CoastlineRulerModel") (k := 12) hx hb hB inB_RX8 hown hI rfl (by decide) m_1543 (fun _ h9 => h9) ev6 dX8_isWord_57 ?_
            refine lv_aload_n hx hb dX8_isWord_60 rfl (lv_at hl 0 rfl) ?_
            obtain ⟨v7, ev7, hq⟩ := b_s hq
            refine fa_gi (own := RX8) (ref := "CoastlineRulerModel") (k := 16) hx hb hB inB_RX8 hown hI rfl (by decide) m_1547 (fun _ h9 => h9) ev7 dX8_isWord_61 ?_
            refine lv_iload_n hx hb dX8_isWord_64 rfl (lv_at hl 3 rfl) ?_
            refine lv_iadd hx hb dX8_isWord_65 ?_
            obtain ⟨v8, ev8, hq⟩ := b_s hq
            refine fa_li hx hb hI ev8 dX8_isWord_66 ?_
            refine lv_icmp_ne (tgt := 74) hx hb dX8_isWord_67 (by decide) (fun c9 => ?_) (fun c9 => ?_)
            · replace hq := i_f c9 hq
              refine lv_iconst (v := (0 : Int32)) hx hb dX8_isWord_74 (by decide) ?_
              refine lv_istore_n (lv' := [(2, .int (0 : Int32)), (0, .ref x0), (1, .ref x1), (3, .int x3)]) hx hb dX8_isWord_75 rfl hl (by decide) rfl (fun ls hl => ?_)
              refine lv_iinc (v := x3 + (1 : Int32)) (lv' := [(3, .int (x3 + (1 : Int32))), (2, .int (0 : Int32)), (0, .ref x0), (1, .ref x1)]) hx hb dX8_isWord_76 hl (k := 3) rfl rfl (by decide) rfl (fun ls hl => ?_)
              refine lv_goto (tgt := 39) hx hb dX8_isWord_79 (by decide) ?_
              exact ih x0 x1 (0 : Int32) (x3 + (1 : Int32)) H locs ls hI (lv_sub hl [2, 3, 1, 0] rfl) hq
            · replace hq := i_t c9 hq
              refine lv_iconst (v := (1 : Int32)) hx hb dX8_isWord_70 (by decide) ?_
              refine lv_goto (tgt := 75) hx hb dX8_isWord_71 (by decide) ?_
              refine lv_istore_n (lv' := [(2, .int (1 : Int32)), (0, .ref x0), (1, .ref x1), (3, .int x3)]) hx hb dX8_isWord_75 rfl hl (by decide) rfl (fun ls hl => ?_)
              refine lv_iinc (v := x3 + (1 : Int32)) (lv' := [(3, .int (x3 + (1 : Int32))), (2, .int (1 : Int32)), (0, .ref x0), (1, .ref x1)]) hx hb dX8_isWord_76 hl (k := 3) rfl rfl (by decide) rfl (fun ls hl => ?_)
              refine lv_goto (tgt := 39) hx hb dX8_isWord_79 (by decide) ?_
              exact ih x0 x1 (1 : Int32) (x3 + (1 : Int32)) H locs ls hI (lv_sub hl [2, 3, 1, 0] rfl) hq
    refine hl39 _ ?_ FU x0 x1 t0 (0 : Int32) H locs ls hI (lv_sub hl [2, 3, 1, 0] rfl) hq
    · intro x2 H locs ls hI hl hq
      refine lv_iload_n hx hb dX8_isWord_82 rfl (lv_at hl 0 rfl) ?_
      obtain ⟨_, ev10, hq⟩ := b_s hq
      exact ge_Ri hx hb hlocks hr (h_bz_eq ev10).2.1 hI hq dX8_isWord_83
  have hj35 : ∀ (x0 : Nat) (x1 : Nat) (H : Heap) (locs : List Loc) (ls : Array Slot), g_at g_no V g D cT f n s H locs → lv_has ls 4 [(0, .ref x0), (1, .ref x1)] → p_X8_isWord_j35 V g f (p_X8_isWord_j36 V g f) x0 x1 = some o → W p l e rm_X8_isWord s m args below meth c H locs 0 0 (MQ below (g_Ri o n) args s 0 0 g_no) (F0 m 35 ls []) := by
    intro x0 x1 H locs ls hI hl hq
    unfold p_X8_isWord_j35 at hq
    refine lv_iconst (v := (0 : Int32)) hx hb dX8_isWord_35 (by decide) ?_
    exact hj36 x0 x1 (0 : Int32) H locs ls hI (lv_sub hl [0, 1] rfl) hq
  refine lv_if_ne (tgt := 35) hx hb dX8_isWord_4 (by decide) (fun c11 => ?_) (fun c11 => ?_)
  · replace hq := i_f c11 hq
    exact hj35 a0 a1 H locs ls hI (lv_sub hl [0, 1] rfl) hq
  · replace hq := i_t c11 hq
    refine lv_aload_n hx hb dX8_isWord_7 rfl (lv_at hl 0 rfl) ?_
    obtain ⟨v12, ev12, hq⟩ := b_s hq
    refine fa_gi (own := RX8) (ref := "CoastlineRulerModel") (k := 17) hx hb hB inB_RX8 hown hI rfl (by decide) m_1548 (fun _ h9 => h9) ev12 dX8_isWord_8 ?_
    refine lv_iconst (v := (1 : Int32)) hx hb dX8_isWord_11 (by decide) ?_
    refine lv_icmp_ne (tgt := 35) hx hb dX8_isWord_12 (by decide) (fun c13 => ?_) (fun c13 => ?_)
    · replace hq := i_f c13 hq
      exact hj35 a0 a1 H locs ls hI (lv_sub hl [0, 1] rfl) hq
    · replace hq := i_t c13 hq
      refine lv_aload_n hx hb dX8_isWord_15 rfl (lv_at hl 1 rfl) ?_
      obtain ⟨v14, ev14, hq⟩ := b_s hq
      refine gr_i (g_runVs (As := []) (rest := []) (ci := 51) hC (c_J0_length_8abf5 l V g D cT f n a1 v14 ev14) k_J0_length_8abf5 m_2111 rfl rfl ⟨Nat.le_of_ble_eq_true rfl, Nat.le_of_ble_eq_true rfl⟩ hI rfl (h_me_eq ev14).1 rfl hl.1 rfl (Nat.le_of_ble_eq_true rfl) dX8_isWord_16 ⟨by decide, by decide⟩) hI (fun H locs hI => ?_)
      refine lv_aload_n hx hb dX8_isWord_19 rfl (lv_at hl 0 rfl) ?_
      obtain ⟨v15, ev15, hq⟩ := b_s hq
      refine fa_gi (own := RX8) (ref := "CoastlineRulerModel") (k := 15) hx hb hB inB_RX8 hown hI rfl (by decide) m_1546 (fun _ h9 => h9) ev15 dX8_isWord_20 ?_
      refine lv_aload_n hx hb dX8_isWord_23 rfl (lv_at hl 0 rfl) ?_
      obtain ⟨v16, ev16, hq⟩ := b_s hq
      refine fa_gi (own := RX8) (ref := "CoastlineRulerModel") (k := 16) hx hb hB inB_RX8 hown hI rfl (by decide) m_1547 (fun _ h9 => h9) ev16 dX8_isWord_24 ?_
      refine lv_isub hx hb dX8_isWord_27 ?_
      refine lv_icmp_ne (tgt := 35) hx hb dX8_isWord_28 (by decide) (fun c17 => ?_) (fun c17 => ?_)
      · replace hq := i_f c17 hq
        exact hj35 a0 a1 H locs ls hI (lv_sub hl [0, 1] rfl) hq
      · replace hq := i_t c17 hq
        refine lv_iconst (v := (1 : Int32)) hx hb dX8_isWord_31 (by decide) ?_
        refine lv_goto (tgt := 36) hx hb dX8_isWord_32 (by decide) ?_
        exact hj36 a0 a1 (1 : Int32) H locs ls hI (lv_sub hl [0, 1] rfl) hq

def p_X8_expect (V : Nat → Nat) (g f : GH) (a0 : Nat) (a1 : Int32) : Option GH :=
  h_me f a0 10 <|
  (p_X8_isSymbol V g f a0 a1).bind fun v1 =>
  (p_X8_check V g f a0 v1 (1 : Int32)).bind fun v2 =>
  (p_X8_advance V g v2 a0).bind fun v3 =>
  some v3
abbrev rm_X8_expect : Room := { frames := 6, cells := 0, slots := 0, locals := 202 }
theorem k_X8_expect : g_CV yX8_expect cX8_expect 2 none 1 := ⟨⟨m_2130, m_14, by decide +kernel⟩, m_2129, ms_85⟩
set_option maxHeartbeats 4000000 in
set_option maxRecDepth 100000 in
theorem c_X8_expect (l : Launch) (V : Nat → Nat) (g : GH) (D : va_G) (cT : Nat → ClassId) (f : GH) (n : Nat) (a0 : Nat) (a1 : Int32) (o : GH) (hq : p_X8_expect V g f a0 a1 = some o) : Met l yX8_expect (Cond.code yX8_expect cX8_expect 2 none :: g_B) rm_X8_expect (va_Pc [.ref a0, .int a1] (g_I V g D cT f n)) (g_Wv V D cT o n) 0 0 (g_A V) := by
  refine g_begin (own := RX8) [.ref a0, .int a1] [(0, .ref a0), (1, .int a1)] (g_A V) (fun _ h => h) (by decide) rfl (Nat.le_of_ble_eq_true rfl) rfl ?_
  intro p e s m args below meth c hx hb hr hlocks hin hC hI ls hl
  obtain ⟨hx, hb, hml, hown, hB⟩ := id hC
  obtain ⟨H, hH⟩ : ∃ H, H = s.heap := ⟨_, rfl⟩
  obtain ⟨locs, hlocs⟩ : ∃ L : List Loc, L = [] := ⟨_, rfl⟩
  rw [← hH, ← hlocs] at hI ⊢
  clear hH hlocs
  unfold p_X8_expect at hq
  replace hq := (h_me_eq hq).2
  refine lv_aload_n hx hb dX8_expect_0 rfl (lv_at hl 0 rfl) ?_
  refine lv_aload_n hx hb dX8_expect_1 rfl (lv_at hl 0 rfl) ?_
  refine lv_iload_n hx hb dX8_expect_2 rfl (lv_at hl 1 rfl) ?_
  obtain ⟨v1, ev1, hq⟩ := b_s hq
  refine gr_i (g_runV (As := [.int a1]) (rest := [.ref a0]) (ci := 10) hC (c_X8_isSymbol l V g D cT f n a0 a1 v1 ev1) k_X8_isSymbol m_2131 rfl rfl ⟨Nat.le_of_ble_eq_true rfl, Nat.le_of_ble_eq_true rfl⟩ hI rfl rfl (h_me_eq ev1).1 rfl hl.1 rfl (Nat.le_of_ble_eq_true rfl) dX8_expect_3 ⟨by decide, by decide⟩) hI (fun H locs hI => ?_)
  refine lv_iconst (v := (1 : Int32)) hx hb dX8_expect_6 (by decide) ?_
  obtain ⟨v2, ev2, hq⟩ := b_s hq
  refine gw_v (g_runV (As := [.int v1, .int (1 : Int32)]) (rest := []) (ci := 10) hC (c_X8_check l V g D cT f n a0 v1 (1 : Int32) v2 ev2) k_X8_check m_2113 rfl rfl ⟨Nat.le_of_ble_eq_true rfl, Nat.le_of_ble_eq_true rfl⟩ hI rfl rfl (h_me_eq ev2).1 rfl hl.1 rfl (Nat.le_of_ble_eq_true rfl) dX8_expect_7 ⟨by decide, by decide⟩) hI (fun H locs hI => ?_)
  refine lv_aload_n hx hb dX8_expect_10 rfl (lv_at hl 0 rfl) ?_
  obtain ⟨v3, ev3, hq⟩ := b_s hq
  refine gw_v (g_runV (As := []) (rest := []) (ci := 10) hC (c_X8_advance l V g D cT v2 n a0 v3 ev3) k_X8_advance m_2117 rfl rfl ⟨Nat.le_of_ble_eq_true rfl, Nat.le_of_ble_eq_true rfl⟩ hI rfl rfl (h_me_eq ev3).1 rfl hl.1 rfl (Nat.le_of_ble_eq_true rfl) dX8_expect_11 ⟨by decide, by decide⟩) hI (fun H locs hI => ?_)
  exact ge_Wv hx hb hlocks hr hI (Option.some.inj hq) dX8_expect_14

def p_X8_value_l7 (V : Nat → Nat) (g f : GH) (K55 : Int32 → Option Int32) : Nat → Nat → Int32 → Int32 → Option Int32
  | 0, _, _, _ => none
  | N + 1, x0, x1, x2 =>
    (h_gi f x0 10 15).bind fun v2 =>
    (if v2 ≤ x2 then
      K55 x1
    else
      (h_gi f x0 10 17).bind fun v4 =>
      (if v4 = (2 : Int32) then
        (if x1 ≤ (9999999 : Int32) then
          (h_gr f x0 10 12).bind fun v7 =>
          (h_li f v7 0 x2).bind fun v8 =>
          p_X8_value_l7 V g f K55 N x0 ((((10 : Int32) * x1) + v8) - (48 : Int32)) (x2 + (1 : Int32))
        else
          p_X8_value_l7 V g f K55 N x0 x1 (x2 + (1 : Int32)))
      else
        K55 x1))
def p_X8_value (V : Nat → Nat) (g f : GH) (a0 : Nat) : Option Int32 :=
  h_me f a0 10 <|
  (h_gi f a0 10 16).bind fun v1 =>
  p_X8_value_l7 V g f (fun x1 =>
    some x1) FU a0 (0 : Int32) v1
abbrev rm_X8_value : Room := { frames := 2, cells := 0, slots := 0, locals := 120 }
theorem k_X8_value : g_CV yX8_value cX8_value 3 (some .int) 0 := ⟨⟨m_2154, m_14, by decide +kernel⟩, m_2153, ms_91⟩
set_option maxHeartbeats 4000000 in
set_option maxRecDepth 100000 in
theorem c_X8_value (l : Launch) (V : Nat → Nat) (g : GH) (D : va_G) (cT : Nat → ClassId) (f : GH) (n : Nat) (a0 : Nat) (o : Int32) (hq : p_X8_value V g f a0 = some o) : Met l yX8_value (Cond.code yX8_value cX8_value 3 (some .int) :: g_B) rm_X8_value (va_Pc [.ref a0] (g_I V g D cT f n)) (g_Ri o n) 0 0 g_no := by
  refine g_begin (own := RX8) [.ref a0] [(0, .ref a0)] g_no (fun _ h => h.elim) (by decide) rfl (Nat.le_of_ble_eq_true rfl) rfl ?_
  intro p e s m args below meth c hx hb hr hlocks hin hC hI ls hl
  obtain ⟨hx, hb, hml, hown, hB⟩ := id hC
  obtain ⟨H, hH⟩ : ∃ H, H = s.heap := ⟨_, rfl⟩
  obtain ⟨locs, hlocs⟩ : ∃ L : List Loc, L = [] := ⟨_, rfl⟩
  rw [← hH, ← hlocs] at hI ⊢
  clear hH hlocs
  unfold p_X8_value at hq
  replace hq := (h_me_eq hq).2
  refine lv_iconst (v := (0 : Int32)) hx hb dX8_value_0 (by decide) ?_
  refine lv_istore_n (lv' := [(1, .int (0 : Int32)), (0, .ref a0)]) hx hb dX8_value_1 rfl hl (by decide) rfl (fun ls hl => ?_)
  refine lv_aload_n hx hb dX8_value_2 rfl (lv_at hl 1 rfl) ?_
  obtain ⟨v1, ev1, hq⟩ := b_s hq
  refine fa_gi (own := RX8) (ref := "CoastlineRulerModel") (k := 16) hx hb hB inB_RX8 hown hI rfl (by decide) m_1547 (fun _ h9 => h9) ev1 dX8_value_3 ?_
  refine lv_istore_n (lv' := [(2, .int v1), (1, .int (0 : Int32)), (0, .ref a0)]) hx hb dX8_value_6 rfl hl (by decide) rfl (fun ls hl => ?_)
  have hl7 : ∀ (K55 : Int32 → Option Int32) (hK55 : ∀ (x1 : Int32) (H : Heap) (locs : List Loc) (ls : Array Slot), g_at g_no V g D cT f n s H locs → lv_has ls 3 [(1, .int x1)] → K55 x1 = some o → W p l e rm_X8_value s m args below meth c H locs 0 0 (MQ below (g_Ri o n) args s 0 0 g_no) (F0 m 55 ls [])) (N : Nat) (x0 : Nat) (x1 : Int32) (x2 : Int32) (H : Heap) (locs : List Loc) (ls : Array Slot), g_at g_no V g D cT f n s H locs → lv_has ls 3 [(0, .ref x0), (1, .int x1), (2, .int x2)] → p_X8_value_l7 V g f K55 N x0 x1 x2 = some o → W p l e rm_X8_value s m args below meth c H locs 0 0 (MQ below (g_Ri o n) args s 0 0 g_no) (F0 m 7 ls []) := by
    intro K55 hK55 N
    induction N with
    | zero =>
      intro x0 x1 x2 H locs ls hI hl hq
      rw [p_X8_value_l7] at hq
      cases hq
    | succ N ih =>
      intro x0 x1 x2 H locs ls hI hl hq
      rw [p_X8_value_l7] at hq
      refine lv_iload_n hx hb dX8_value_7 rfl (lv_at hl 2 rfl) ?_
      refine lv_aload_n hx hb dX8_value_8 rfl (lv_at hl 0 rfl) ?_
      obtain ⟨v2, ev2, hq⟩ := b_s hq
      refine fa_gi (own := RX8) (ref := "CoastlineRulerModel") (k := 15) hx hb hB inB_RX8 hown hI rfl (by decide) m_1546 (fun _ h9 => h9) ev2 dX8_value_9 ?_
      refine lv_icmp_ge (tgt := 55) hx hb dX8_value_12 (by decide) (fun c3 => ?_) (fun c3 => ?_)
      · replace hq := i_t c3 hq
        exact hK55 x1 H locs ls hI (lv_sub hl [1] rfl) hq
      · replace hq := i_f c3 hq
        refine lv_aload_n hx hb dX8_value_15 rfl (lv_at hl 0 rfl) ?_
        obtain ⟨v4, ev4, hq⟩ := b_s hq
        refine fa_gi (own := RX8) (ref := "CoastlineRulerModel") (k := 17) hx hb hB inB_RX8 hown hI rfl (by decide) m_1548 (fun _ h9 => h9) ev4 dX8_value_16 ?_
        refine lv_iconst (v := (2 : Int32)) hx hb dX8_value_19 (by decide) ?_
        refine lv_icmp_ne (tgt := 55) hx hb dX8_value_20 (by decide) (fun c5 => ?_) (fun c5 => ?_)
        · replace hq := i_f c5 hq
          exact hK55 x1 H locs ls hI (lv_sub hl [1] rfl) hq
        · replace hq := i_t c5 hq
          refine lv_iload_n hx hb dX8_value_23 rfl (lv_at hl 1 rfl) ?_
          refine lv_ldcw (own := RX8) (index := 372) (v := (9999999 : Int32)) hx hb hown (hB _ m_2155) dX8_value_24 ?_
          refine lv_icmp_le (tgt := 34) hx hb dX8_value_27 (by decide) (fun c6 => ?_) (fun c6 => ?_)
          · replace hq := i_t c6 hq
            refine lv_bipush (v := (10 : Int32)) hx hb dX8_value_34 (by decide) ?_
            refine lv_iload_n hx hb dX8_value_36 rfl (lv_at hl 1 rfl) ?_
            refine lv_imul hx hb dX8_value_37 ?_
            refine lv_aload_n hx hb dX8_value_38 rfl (lv_at hl 0 rfl) ?_
            obtain ⟨v7, ev7, hq⟩ := b_s hq
            refine fa_gr (own := RX8) (ref := "CoastlineRulerModel") (k := 12) hx hb hB inB_RX8 hown hI rfl (by decide) m_1543 (fun _ h9 => h9) ev7 dX8_value_39 ?_
            refine lv_iload_n hx hb dX8_value_42 rfl (lv_at hl 2 rfl) ?_
            obtain ⟨v8, ev8, hq⟩ := b_s hq
            refine fa_li hx hb hI ev8 dX8_value_43 ?_
            refine lv_iadd hx hb dX8_value_44 ?_
            refine lv_bipush (v := (48 : Int32)) hx hb dX8_value_45 (by decide) ?_
            refine lv_isub hx hb dX8_value_47 ?_
            refine lv_istore_n (lv' := [(1, .int ((((10 : Int32) * x1) + v8) - (48 : Int32))), (0, .ref x0), (2, .int x2)]) hx hb dX8_value_48 rfl hl (by decide) rfl (fun ls hl => ?_)
            refine lv_iinc (v := x2 + (1 : Int32)) (lv' := [(2, .int (x2 + (1 : Int32))), (1, .int ((((10 : Int32) * x1) + v8) - (48 : Int32))), (0, .ref x0)]) hx hb dX8_value_49 hl (k := 2) rfl rfl (by decide) rfl (fun ls hl => ?_)
            refine lv_goto (tgt := 7) hx hb dX8_value_52 (by decide) ?_
            exact ih x0 ((((10 : Int32) * x1) + v8) - (48 : Int32)) (x2 + (1 : Int32)) H locs ls hI (lv_sub hl [2, 1, 0] rfl) hq
          · replace hq := i_f c6 hq
            refine lv_iload_n hx hb dX8_value_30 rfl (lv_at hl 1 rfl) ?_
            refine lv_goto (tgt := 48) hx hb dX8_value_31 (by decide) ?_
            refine lv_istore_n (lv' := [(1, .int x1), (0, .ref x0), (2, .int x2)]) hx hb dX8_value_48 rfl hl (by decide) rfl (fun ls hl => ?_)
            refine lv_iinc (v := x2 + (1 : Int32)) (lv' := [(2, .int (x2 + (1 : Int32))), (1, .int x1), (0, .ref x0)]) hx hb dX8_value_49 hl (k := 2) rfl rfl (by decide) rfl (fun ls hl => ?_)
            refine lv_goto (tgt := 7) hx hb dX8_value_52 (by decide) ?_
            exact ih x0 x1 (x2 + (1 : Int32)) H locs ls hI (lv_sub hl [2, 1, 0] rfl) hq
  refine hl7 _ ?_ FU a0 (0 : Int32) v1 H locs ls hI (lv_sub hl [2, 1, 0] rfl) hq
  · intro x1 H locs ls hI hl hq
    refine lv_iload_n hx hb dX8_value_55 rfl (lv_at hl 0 rfl) ?_
    exact ge_Ri hx hb hlocks hr rfl hI hq dX8_value_56

def p_X8_look_j14 (V : Nat → Nat) (g : GH) (x0 : Nat) (x1 : Int32) (x2 : Int32) (t0 : Int32) (t1 : Nat) (f : GH) : Option (Int32 × GH) :=
  (p_X8_check V g f t1 t0 (1 : Int32)).bind fun v2 =>
  (p_X8_value V g v2 x0).bind fun v3 =>
  (p_X8_inRange V g v2 v3 x1 x2).bind fun v4 =>
  (p_X8_check V g v2 x0 v4 (2 : Int32)).bind fun v5 =>
  (h_gi v5 x0 10 18).bind fun v6 =>
  (if v6 = (0 : Int32) then
    some (v3, v5)
  else
    some (x1, v5))
def p_X8_look (V : Nat → Nat) (g f : GH) (a0 : Nat) (a1 : Int32) (a2 : Int32) : Option (Int32 × GH) :=
  h_me f a0 10 <|
  (h_gi f a0 10 17).bind fun v1 =>
  (if v1 = (2 : Int32) then
    p_X8_look_j14 V g a0 a1 a2 (1 : Int32) a0 f
  else
    p_X8_look_j14 V g a0 a1 a2 (0 : Int32) a0 f)
abbrev rm_X8_look : Room := { frames := 3, cells := 0, slots := 0, locals := 142 }
theorem k_X8_look : g_CV yX8_look cX8_look 4 (some .int) 2 := ⟨⟨m_2167, m_14, by decide +kernel⟩, m_2166, ms_94⟩
set_option maxHeartbeats 4000000 in
set_option maxRecDepth 100000 in
theorem c_X8_look (l : Launch) (V : Nat → Nat) (g : GH) (D : va_G) (cT : Nat → ClassId) (f : GH) (n : Nat) (a0 : Nat) (a1 : Int32) (a2 : Int32) (o : Int32 × GH) (hq : p_X8_look V g f a0 a1 a2 = some o) : Met l yX8_look (Cond.code yX8_look cX8_look 4 (some .int) :: g_B) rm_X8_look (va_Pc [.ref a0, .int a1, .int a2] (g_I V g D cT f n)) (g_Wi V D cT o.1 o.2 n) 0 0 (g_A V) := by
  refine g_begin (own := RX8) [.ref a0, .int a1, .int a2] [(0, .ref a0), (1, .int a1), (2, .int a2)] (g_A V) (fun _ h => h) (by decide) rfl (Nat.le_of_ble_eq_true rfl) rfl ?_
  intro p e s m args below meth c hx hb hr hlocks hin hC hI ls hl
  obtain ⟨hx, hb, hml, hown, hB⟩ := id hC
  obtain ⟨H, hH⟩ : ∃ H, H = s.heap := ⟨_, rfl⟩
  obtain ⟨locs, hlocs⟩ : ∃ L : List Loc, L = [] := ⟨_, rfl⟩
  rw [← hH, ← hlocs] at hI ⊢
  clear hH hlocs
  unfold p_X8_look at hq
  replace hq := (h_me_eq hq).2
  refine lv_aload_n hx hb dX8_look_0 rfl (lv_at hl 0 rfl) ?_
  refine lv_aload_n hx hb dX8_look_1 rfl (lv_at hl 0 rfl) ?_
  obtain ⟨v1, ev1, hq⟩ := b_s hq
  refine fa_gi (own := RX8) (ref := "CoastlineRulerModel") (k := 17) hx hb hB inB_RX8 hown hI rfl (by decide) m_1548 (fun _ h9 => h9) ev1 dX8_look_2 ?_
  refine lv_iconst (v := (2 : Int32)) hx hb dX8_look_5 (by decide) ?_
  have hj14 : ∀ (x0 : Nat) (x1 : Int32) (x2 : Int32) (t0 : Int32) (t1 : Nat) (f : GH) (H : Heap) (locs : List Loc) (ls : Array Slot), g_at (g_A V) V g D cT f n s H locs → lv_has ls 4 [(0, .ref x0), (1, .int x1), (2, .int x2)] → p_X8_look_j14 V g x0 x1 x2 t0 t1 f = some o → W p l e rm_X8_look s m args below meth c H locs 0 0 (MQ below (g_Wi V D cT o.1 o.2 n) args s 0 0 (g_A V)) (F0 m 14 ls [.int t0, .ref t1]) := by
    intro x0 x1 x2 t0 t1 f H locs ls hI hl hq
    unfold p_X8_look_j14 at hq
    refine lv_iconst (v := (1 : Int32)) hx hb dX8_look_14 (by decide) ?_
    obtain ⟨v2, ev2, hq⟩ := b_s hq
    refine gw_v (g_runV (As := [.int t0, .int (1 : Int32)]) (rest := []) (ci := 10) hC (c_X8_check l V g D cT f n t1 t0 (1 : Int32) v2 ev2) k_X8_check m_2113 rfl rfl ⟨Nat.le_of_ble_eq_true rfl, Nat.le_of_ble_eq_true rfl⟩ hI rfl rfl (h_me_eq ev2).1 rfl hl.1 rfl (Nat.le_of_ble_eq_true rfl) dX8_look_15 ⟨by decide, by decide⟩) hI (fun H locs hI => ?_)
    refine lv_aload_n hx hb dX8_look_18 rfl (lv_at hl 0 rfl) ?_
    obtain ⟨v3, ev3, hq⟩ := b_s hq
    refine gr_i (g_runV (As := []) (rest := []) (ci := 10) hC (c_X8_value l V g D cT v2 n x0 v3 ev3) k_X8_value m_2151 rfl rfl ⟨Nat.le_of_ble_eq_true rfl, Nat.le_of_ble_eq_true rfl⟩ hI rfl rfl (h_me_eq ev3).1 rfl hl.1 rfl (Nat.le_of_ble_eq_true rfl) dX8_look_19 ⟨by decide, by decide⟩) hI (fun H locs hI => ?_)
    refine lv_istore_n (lv' := [(3, .int v3), (0, .ref x0), (1, .int x1), (2, .int x2)]) hx hb dX8_look_22 rfl hl (by decide) rfl (fun ls hl => ?_)
    refine lv_aload_n hx hb dX8_look_23 rfl (lv_at hl 1 rfl) ?_
    refine lv_iload_n hx hb dX8_look_24 rfl (lv_at hl 0 rfl) ?_
    refine lv_iload_n hx hb dX8_look_25 rfl (lv_at hl 2 rfl) ?_
    refine lv_iload_n hx hb dX8_look_26 rfl (lv_at hl 3 rfl) ?_
    obtain ⟨v4, ev4, hq⟩ := b_s hq
    refine gr_i (g_runS (As := [.int v3, .int x1, .int x2]) (rest := [.ref x0]) hC (c_X8_inRange l V g D cT v2 n v3 x1 x2 v4 ev4) k_X8_inRange m_1634 rfl rfl ⟨Nat.le_of_ble_eq_true rfl, Nat.le_of_ble_eq_true rfl⟩ hI rfl hl.1 rfl (Nat.le_of_ble_eq_true rfl) dX8_look_27 ⟨by decide, by decide⟩) hI (fun H locs hI => ?_)
    refine lv_iconst (v := (2 : Int32)) hx hb dX8_look_30 (by decide) ?_
    obtain ⟨v5, ev5, hq⟩ := b_s hq
    refine gw_v (g_runV (As := [.int v4, .int (2 : Int32)]) (rest := []) (ci := 10) hC (c_X8_check l V g D cT v2 n x0 v4 (2 : Int32) v5 ev5) k_X8_check m_2113 rfl rfl ⟨Nat.le_of_ble_eq_true rfl, Nat.le_of_ble_eq_true rfl⟩ hI rfl rfl (h_me_eq ev5).1 rfl hl.1 rfl (Nat.le_of_ble_eq_true rfl) dX8_look_31 ⟨by decide, by decide⟩) hI (fun H locs hI => ?_)
    refine lv_aload_n hx hb dX8_look_34 rfl (lv_at hl 1 rfl) ?_
    obtain ⟨v6, ev6, hq⟩ := b_s hq
    refine fa_gi (own := RX8) (ref := "CoastlineRulerModel") (k := 18) hx hb hB inB_RX8 hown hI rfl (by decide) m_1549 (fun _ h9 => h9) ev6 dX8_look_35 ?_
    refine lv_if_ne (tgt := 45) hx hb dX8_look_38 (by decide) (fun c7 => ?_) (fun c7 => ?_)
    · replace hq := i_f c7 hq
      refine lv_iload_n hx hb dX8_look_45 rfl (lv_at hl 2 rfl) ?_
      exact ge_Wi hx hb hlocks hr rfl hI (congrArg (fun z => z.1) (Option.some.inj hq)) (congrArg (fun z => z.2) (Option.some.inj hq)) dX8_look_46
    · replace hq := i_t c7 hq
      refine lv_iload_n hx hb dX8_look_41 rfl (lv_at hl 0 rfl) ?_
      refine lv_goto (tgt := 46) hx hb dX8_look_42 (by decide) ?_
      exact ge_Wi hx hb hlocks hr rfl hI (congrArg (fun z => z.1) (Option.some.inj hq)) (congrArg (fun z => z.2) (Option.some.inj hq)) dX8_look_46
  refine lv_icmp_ne (tgt := 13) hx hb dX8_look_6 (by decide) (fun c8 => ?_) (fun c8 => ?_)
  · replace hq := i_f c8 hq
    refine lv_iconst (v := (0 : Int32)) hx hb dX8_look_13 (by decide) ?_
    exact hj14 a0 a1 a2 (0 : Int32) a0 f H locs ls hI (lv_sub hl [0, 1, 2] rfl) hq
  · replace hq := i_t c8 hq
    refine lv_iconst (v := (1 : Int32)) hx hb dX8_look_9 (by decide) ?_
    refine lv_goto (tgt := 14) hx hb dX8_look_10 (by decide) ?_
    exact hj14 a0 a1 a2 (1 : Int32) a0 f H locs ls hI (lv_sub hl [0, 1, 2] rfl) hq

def p_X8_readNumber (V : Nat → Nat) (g f : GH) (a0 : Nat) (a1 : Int32) (a2 : Int32) : Option (Int32 × GH) :=
  h_me f a0 10 <|
  (p_X8_look V g f a0 a1 a2).bind fun v1 =>
  (p_X8_advance V g v1.2 a0).bind fun v2 =>
  some (v1.1, v2)
abbrev rm_X8_readNumber : Room := { frames := 6, cells := 0, slots := 0, locals := 202 }
theorem k_X8_readNumber : g_CV yX8_readNumber cX8_readNumber 4 (some .int) 2 := ⟨⟨m_2163, m_14, by decide +kernel⟩, m_2162, ms_93⟩
set_option maxHeartbeats 4000000 in
set_option maxRecDepth 100000 in
theorem c_X8_readNumber (l : Launch) (V : Nat → Nat) (g : GH) (D : va_G) (cT : Nat → ClassId) (f : GH) (n : Nat) (a0 : Nat) (a1 : Int32) (a2 : Int32) (o : Int32 × GH) (hq : p_X8_readNumber V g f a0 a1 a2 = some o) : Met l yX8_readNumber (Cond.code yX8_readNumber cX8_readNumber 4 (some .int) :: g_B) rm_X8_readNumber (va_Pc [.ref a0, .int a1, .int a2] (g_I V g D cT f n)) (g_Wi V D cT o.1 o.2 n) 0 0 (g_A V) := by
  refine g_begin (own := RX8) [.ref a0, .int a1, .int a2] [(0, .ref a0), (1, .int a1), (2, .int a2)] (g_A V) (fun _ h => h) (by decide) rfl (Nat.le_of_ble_eq_true rfl) rfl ?_
  intro p e s m args below meth c hx hb hr hlocks hin hC hI ls hl
  obtain ⟨hx, hb, hml, hown, hB⟩ := id hC
  obtain ⟨H, hH⟩ : ∃ H, H = s.heap := ⟨_, rfl⟩
  obtain ⟨locs, hlocs⟩ : ∃ L : List Loc, L = [] := ⟨_, rfl⟩
  rw [← hH, ← hlocs] at hI ⊢
  clear hH hlocs
  unfold p_X8_readNumber at hq
  replace hq := (h_me_eq hq).2
  refine lv_aload_n hx hb dX8_readNumber_0 rfl (lv_at hl 0 rfl) ?_
  refine lv_iload_n hx hb dX8_readNumber_1 rfl (lv_at hl 1 rfl) ?_
  refine lv_iload_n hx hb dX8_readNumber_2 rfl (lv_at hl 2 rfl) ?_
  obtain ⟨v1, ev1, hq⟩ := b_s hq
  refine gw_i (g_runV (As := [.int a1, .int a2]) (rest := []) (ci := 10) hC (c_X8_look l V g D cT f n a0 a1 a2 v1 ev1) k_X8_look m_2164 rfl rfl ⟨Nat.le_of_ble_eq_true rfl, Nat.le_of_ble_eq_true rfl⟩ hI rfl rfl (h_me_eq ev1).1 rfl hl.1 rfl (Nat.le_of_ble_eq_true rfl) dX8_readNumber_3 ⟨by decide, by decide⟩) hI (fun H locs hI => ?_)
  refine lv_istore_n (lv' := [(3, .int v1.1), (0, .ref a0), (1, .int a1), (2, .int a2)]) hx hb dX8_readNumber_6 rfl hl (by decide) rfl (fun ls hl => ?_)
  refine lv_aload_n hx hb dX8_readNumber_7 rfl (lv_at hl 1 rfl) ?_
  obtain ⟨v2, ev2, hq⟩ := b_s hq
  refine gw_v (g_runV (As := []) (rest := []) (ci := 10) hC (c_X8_advance l V g D cT v1.2 n a0 v2 ev2) k_X8_advance m_2117 rfl rfl ⟨Nat.le_of_ble_eq_true rfl, Nat.le_of_ble_eq_true rfl⟩ hI rfl rfl (h_me_eq ev2).1 rfl hl.1 rfl (Nat.le_of_ble_eq_true rfl) dX8_readNumber_8 ⟨by decide, by decide⟩) hI (fun H locs hI => ?_)
  refine lv_iload_n hx hb dX8_readNumber_11 rfl (lv_at hl 0 rfl) ?_
  exact ge_Wi hx hb hlocks hr rfl hI (congrArg (fun z => z.1) (Option.some.inj hq)) (congrArg (fun z => z.2) (Option.some.inj hq)) dX8_readNumber_12

def p_X8_errorCode (V : Nat → Nat) (g f : GH) (a0 : Nat) : Option (Int32 × GH) :=
  h_me f a0 10 <|
  (h_pt f a0 10 7 (.int (0 : Int32))).bind fun f1 =>
  (h_gi f1 a0 10 8).bind fun v2 =>
  some (v2, f1)
abbrev rm_X8_errorCode : Room := { frames := 2, cells := 0, slots := 0, locals := 120 }
theorem k_X8_errorCode : g_CV yX8_errorCode cX8_errorCode 1 (some .int) 0 := ⟨⟨m_2073, m_14, by decide +kernel⟩, m_2071, m_2072⟩
set_option maxHeartbeats 4000000 in
set_option maxRecDepth 100000 in
theorem c_X8_errorCode (l : Launch) (V : Nat → Nat) (g : GH) (D : va_G) (cT : Nat → ClassId) (f : GH) (n : Nat) (a0 : Nat) (o : Int32 × GH) (hq : p_X8_errorCode V g f a0 = some o) : Met l yX8_errorCode (Cond.code yX8_errorCode cX8_errorCode 1 (some .int) :: g_B) rm_X8_errorCode (va_Pc [.ref a0] (g_I V g D cT f n)) (g_Wi V D cT o.1 o.2 n) 0 0 (g_A V) := by
  refine g_begin (own := RX8) [.ref a0] [(0, .ref a0)] (g_A V) (fun _ h => h) (by decide) rfl (Nat.le_of_ble_eq_true rfl) rfl ?_
  intro p e s m args below meth c hx hb hr hlocks hin hC hI ls hl
  obtain ⟨hx, hb, hml, hown, hB⟩ := id hC
  obtain ⟨H, hH⟩ : ∃ H, H = s.heap := ⟨_, rfl⟩
  obtain ⟨locs, hlocs⟩ : ∃ L : List Loc, L = [] := ⟨_, rfl⟩
  rw [← hH, ← hlocs] at hI ⊢
  clear hH hlocs
  unfold p_X8_errorCode at hq
  replace hq := (h_me_eq hq).2
  refine lv_aload_n hx hb dX8_errorCode_0 rfl (lv_at hl 0 rfl) ?_
  refine lv_iconst (v := (0 : Int32)) hx hb dX8_errorCode_1 (by decide) ?_
  obtain ⟨f1, ef1, hq⟩ := b_s hq
  refine fa_pt (own := RX8) (ref := "CoastlineRulerModel") (k := 7) hx hb hB inB_RX8 tyX8_ok nmX8 hown hI rfl (by decide) m_1538 (fun _ h9 => h9) (by decide) rfl rfl ef1 dX8_errorCode_2 (fun H locs hI => ?_)
  refine lv_aload_n hx hb dX8_errorCode_5 rfl (lv_at hl 0 rfl) ?_
  obtain ⟨v2, ev2, hq⟩ := b_s hq
  refine fa_gi (own := RX8) (ref := "CoastlineRulerModel") (k := 8) hx hb hB inB_RX8 hown hI rfl (by decide) m_1539 (fun _ h9 => h9) ev2 dX8_errorCode_6 ?_
  exact ge_Wi hx hb hlocks hr rfl hI (congrArg (fun z => z.1) (Option.some.inj hq)) (congrArg (fun z => z.2) (Option.some.inj hq)) dX8_errorCode_9

def p_X8_isFaulty (V : Nat → Nat) (g f : GH) (a0 : Nat) : Option (Int32 × GH) :=
  h_me f a0 10 <|
  (p_X8_finish V g f a0).bind fun v1 =>
  (h_pt v1.2 a0 10 8 (.int v1.1)).bind fun f2 =>
  (h_gi f2 a0 10 8).bind fun v3 =>
  (if v3 = (0 : Int32) then
    some ((0 : Int32), f2)
  else
    some ((1 : Int32), f2))
abbrev rm_X8_isFaulty : Room := { frames := 3, cells := 0, slots := 0, locals := 140 }
theorem k_X8_isFaulty : g_CV yX8_isFaulty cX8_isFaulty 1 (some .boolean) 0 := ⟨⟨m_2171, m_14, by decide +kernel⟩, m_2170, ms_95⟩
set_option maxHeartbeats 4000000 in
set_option maxRecDepth 100000 in
theorem c_X8_isFaulty (l : Launch) (V : Nat → Nat) (g : GH) (D : va_G) (cT : Nat → ClassId) (f : GH) (n : Nat) (a0 : Nat) (o : Int32 × GH) (hq : p_X8_isFaulty V g f a0 = some o) : Met l yX8_isFaulty (Cond.code yX8_isFaulty cX8_isFaulty 1 (some .boolean) :: g_B) rm_X8_isFaulty (va_Pc [.ref a0] (g_I V g D cT f n)) (g_Wi V D cT o.1 o.2 n) 0 0 (g_A V) := by
  refine g_begin (own := RX8) [.ref a0] [(0, .ref a0)] (g_A V) (fun _ h => h) (by decide) rfl (Nat.le_of_ble_eq_true rfl) rfl ?_
  intro p e s m args below meth c hx hb hr hlocks hin hC hI ls hl
  obtain ⟨hx, hb, hml, hown, hB⟩ := id hC
  obtain ⟨H, hH⟩ : ∃ H, H = s.heap := ⟨_, rfl⟩
  obtain ⟨locs, hlocs⟩ : ∃ L : List Loc, L = [] := ⟨_, rfl⟩
  rw [← hH, ← hlocs] at hI ⊢
  clear hH hlocs
  unfold p_X8_isFaulty at hq
  replace hq := (h_me_eq hq).2
  refine lv_aload_n hx hb dX8_isFaulty_0 rfl (lv_at hl 0 rfl) ?_
  refine lv_aload_n hx hb dX8_isFaulty_1 rfl (lv_at hl 0 rfl) ?_
  obtain ⟨v1, ev1, hq⟩ := b_s hq
  refine gw_i (g_runV (As := []) (rest := [.ref a0]) (ci := 10) hC (c_X8_finish l V g D cT f n a0 v1 ev1) k_X8_finish m_2172 rfl rfl ⟨Nat.le_of_ble_eq_true rfl, Nat.le_of_ble_eq_true rfl⟩ hI rfl rfl (h_me_eq ev1).1 rfl hl.1 rfl (Nat.le_of_ble_eq_true rfl) dX8_isFaulty_2 ⟨by decide, by decide⟩) hI (fun H locs hI => ?_)
  obtain ⟨f2, ef2, hq⟩ := b_s hq
  refine fa_pt (own := RX8) (ref := "CoastlineRulerModel") (k := 8) hx hb hB inB_RX8 tyX8_ok nmX8 hown hI rfl (by decide) m_1539 (fun _ h9 => h9) (by decide) rfl rfl ef2 dX8_isFaulty_5 (fun H locs hI => ?_)
  refine lv_aload_n hx hb dX8_isFaulty_8 rfl (lv_at hl 0 rfl) ?_
  obtain ⟨v3, ev3, hq⟩ := b_s hq
  refine fa_gi (own := RX8) (ref := "CoastlineRulerModel") (k := 8) hx hb hB inB_RX8 hown hI rfl (by decide) m_1539 (fun _ h9 => h9) ev3 dX8_isFaulty_9 ?_
  refine lv_if_eq (tgt := 19) hx hb dX8_isFaulty_12 (by decide) (fun c4 => ?_) (fun c4 => ?_)
  · replace hq := i_t c4 hq
    refine lv_iconst (v := (0 : Int32)) hx hb dX8_isFaulty_19 (by decide) ?_
    exact ge_Wi hx hb hlocks hr (by decide +kernel) hI (congrArg (fun z => z.1) (Option.some.inj hq)) (congrArg (fun z => z.2) (Option.some.inj hq)) dX8_isFaulty_20
  · replace hq := i_f c4 hq
    refine lv_iconst (v := (1 : Int32)) hx hb dX8_isFaulty_15 (by decide) ?_
    refine lv_goto (tgt := 20) hx hb dX8_isFaulty_16 (by decide) ?_
    exact ge_Wi hx hb hlocks hr (by decide +kernel) hI (congrArg (fun z => z.1) (Option.some.inj hq)) (congrArg (fun z => z.2) (Option.some.inj hq)) dX8_isFaulty_20

def p_X8_readSigned_j15 (V : Nat → Nat) (g : GH) (x0 : Nat) (x1 : Int32) (x2 : Int32) (f : GH) : Option (Int32 × GH) :=
  (p_X8_readNumber V g f x0 (0 : Int32) x1).bind fun v2 =>
  (if x2 = (0 : Int32) then
    some (v2.1, v2.2)
  else
    some (-v2.1, v2.2))
def p_X8_readSigned (V : Nat → Nat) (g f : GH) (a0 : Nat) (a1 : Int32) : Option (Int32 × GH) :=
  h_me f a0 10 <|
  (p_X8_isSymbol V g f a0 (45 : Int32)).bind fun v1 =>
  (if v1 = (0 : Int32) then
    p_X8_readSigned_j15 V g a0 a1 v1 f
  else
    (p_X8_advance V g f a0).bind fun v5 =>
    p_X8_readSigned_j15 V g a0 a1 v1 v5)
abbrev rm_X8_readSigned : Room := { frames := 7, cells := 0, slots := 0, locals := 225 }
theorem k_X8_readSigned : g_CV yX8_readSigned cX8_readSigned 4 (some .int) 1 := ⟨⟨m_2159, m_14, by decide +kernel⟩, m_2158, ms_92⟩
set_option maxHeartbeats 4000000 in
set_option maxRecDepth 100000 in
theorem c_X8_readSigned (l : Launch) (V : Nat → Nat) (g : GH) (D : va_G) (cT : Nat → ClassId) (f : GH) (n : Nat) (a0 : Nat) (a1 : Int32) (o : Int32 × GH) (hq : p_X8_readSigned V g f a0 a1 = some o) : Met l yX8_readSigned (Cond.code yX8_readSigned cX8_readSigned 4 (some .int) :: g_B) rm_X8_readSigned (va_Pc [.ref a0, .int a1] (g_I V g D cT f n)) (g_Wi V D cT o.1 o.2 n) 0 0 (g_A V) := by
  refine g_begin (own := RX8) [.ref a0, .int a1] [(0, .ref a0), (1, .int a1)] (g_A V) (fun _ h => h) (by decide) rfl (Nat.le_of_ble_eq_true rfl) rfl ?_
  intro p e s m args below meth c hx hb hr hlocks hin hC hI ls hl
  obtain ⟨hx, hb, hml, hown, hB⟩ := id hC
  obtain ⟨H, hH⟩ : ∃ H, H = s.heap := ⟨_, rfl⟩
  obtain ⟨locs, hlocs⟩ : ∃ L : List Loc, L = [] := ⟨_, rfl⟩
  rw [← hH, ← hlocs] at hI ⊢
  clear hH hlocs
  unfold p_X8_readSigned at hq
  replace hq := (h_me_eq hq).2
  refine lv_aload_n hx hb dX8_readSigned_0 rfl (lv_at hl 0 rfl) ?_
  refine lv_bipush (v := (45 : Int32)) hx hb dX8_readSigned_1 (by decide) ?_
  obtain ⟨v1, ev1, hq⟩ := b_s hq
  refine gr_i (g_runV (As := [.int (45 : Int32)]) (rest := []) (ci := 10) hC (c_X8_isSymbol l V g D cT f n a0 (45 : Int32) v1 ev1) k_X8_isSymbol m_2131 rfl rfl ⟨Nat.le_of_ble_eq_true rfl, Nat.le_of_ble_eq_true rfl⟩ hI rfl rfl (h_me_eq ev1).1 rfl hl.1 rfl (Nat.le_of_ble_eq_true rfl) dX8_readSigned_3 ⟨by decide, by decide⟩) hI (fun H locs hI => ?_)
  refine lv_istore_n (lv' := [(2, .int v1), (0, .ref a0), (1, .int a1)]) hx hb dX8_readSigned_6 rfl hl (by decide) rfl (fun ls hl => ?_)
  refine lv_iload_n hx hb dX8_readSigned_7 rfl (lv_at hl 0 rfl) ?_
  have hj15 : ∀ (x0 : Nat) (x1 : Int32) (x2 : Int32) (f : GH) (H : Heap) (locs : List Loc) (ls : Array Slot), g_at (g_A V) V g D cT f n s H locs → lv_has ls 4 [(0, .ref x0), (1, .int x1), (2, .int x2)] → p_X8_readSigned_j15 V g x0 x1 x2 f = some o → W p l e rm_X8_readSigned s m args below meth c H locs 0 0 (MQ below (g_Wi V D cT o.1 o.2 n) args s 0 0 (g_A V)) (F0 m 15 ls []) := by
    intro x0 x1 x2 f H locs ls hI hl hq
    unfold p_X8_readSigned_j15 at hq
    refine lv_aload_n hx hb dX8_readSigned_15 rfl (lv_at hl 0 rfl) ?_
    refine lv_iconst (v := (0 : Int32)) hx hb dX8_readSigned_16 (by decide) ?_
    refine lv_iload_n hx hb dX8_readSigned_17 rfl (lv_at hl 1 rfl) ?_
    obtain ⟨v2, ev2, hq⟩ := b_s hq
    refine gw_i (g_runV (As := [.int (0 : Int32), .int x1]) (rest := []) (ci := 10) hC (c_X8_readNumber l V g D cT f n x0 (0 : Int32) x1 v2 ev2) k_X8_readNumber m_2160 rfl rfl ⟨Nat.le_of_ble_eq_true rfl, Nat.le_of_ble_eq_true rfl⟩ hI rfl rfl (h_me_eq ev2).1 rfl hl.1 rfl (Nat.le_of_ble_eq_true rfl) dX8_readSigned_18 ⟨by decide, by decide⟩) hI (fun H locs hI => ?_)
    refine lv_istore_n (lv' := [(3, .int v2.1), (0, .ref x0), (1, .int x1), (2, .int x2)]) hx hb dX8_readSigned_21 rfl hl (by decide) rfl (fun ls hl => ?_)
    refine lv_iload_n hx hb dX8_readSigned_22 rfl (lv_at hl 3 rfl) ?_
    refine lv_if_eq (tgt := 31) hx hb dX8_readSigned_23 (by decide) (fun c3 => ?_) (fun c3 => ?_)
    · replace hq := i_t c3 hq
      refine lv_iload_n hx hb dX8_readSigned_31 rfl (lv_at hl 0 rfl) ?_
      exact ge_Wi hx hb hlocks hr rfl hI (congrArg (fun z => z.1) (Option.some.inj hq)) (congrArg (fun z => z.2) (Option.some.inj hq)) dX8_readSigned_32
    · replace hq := i_f c3 hq
      refine lv_iload_n hx hb dX8_readSigned_26 rfl (lv_at hl 0 rfl) ?_
      refine lv_ineg hx hb dX8_readSigned_27 ?_
      refine lv_goto (tgt := 32) hx hb dX8_readSigned_28 (by decide) ?_
      exact ge_Wi hx hb hlocks hr rfl hI (congrArg (fun z => z.1) (Option.some.inj hq)) (congrArg (fun z => z.2) (Option.some.inj hq)) dX8_readSigned_32
  refine lv_if_eq (tgt := 15) hx hb dX8_readSigned_8 (by decide) (fun c4 => ?_) (fun c4 => ?_)
  · replace hq := i_t c4 hq
    exact hj15 a0 a1 v1 f H locs ls hI (lv_sub hl [1, 2, 0] rfl) hq
  · replace hq := i_f c4 hq
    refine lv_aload_n hx hb dX8_readSigned_11 rfl (lv_at hl 1 rfl) ?_
    obtain ⟨v5, ev5, hq⟩ := b_s hq
    refine gw_v (g_runV (As := []) (rest := []) (ci := 10) hC (c_X8_advance l V g D cT f n a0 v5 ev5) k_X8_advance m_2117 rfl rfl ⟨Nat.le_of_ble_eq_true rfl, Nat.le_of_ble_eq_true rfl⟩ hI rfl rfl (h_me_eq ev5).1 rfl hl.1 rfl (Nat.le_of_ble_eq_true rfl) dX8_readSigned_12 ⟨by decide, by decide⟩) hI (fun H locs hI => ?_)
    exact hj15 a0 a1 v1 v5 H locs ls hI (lv_sub hl [1, 2, 0] rfl) hq

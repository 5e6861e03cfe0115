def p_X8_lengthBut (V : Nat → Nat) (g f : GH) (a0 : Nat) (a1 : Int32) (a2 : Int32) : Option (Int32 × GH) :=
  h_me f a0 10 <|
  (p_X8_count V g f a0 a1).bind fun v1 =>
  (p_X8_fewest V g f a0 a1).bind fun v2 =>
  (if v1 = v2 then
    some ((-1 : Int32), f)
  else
    (p_X8_copyCoast V g f a0 a1 (6 : Int32)).bind fun v4 =>
    (p_X8_cut V g v4 a0 (6 : Int32) a2).bind fun v5 =>
    (p_X8_lengthNow V g v5 a0 (6 : Int32) (0 : Int32)).bind fun v6 =>
    some (v6, v5))
abbrev rm_X8_lengthBut : Room := { frames := 8, cells := 0, slots := 0, locals := 259 }
theorem k_X8_lengthBut : g_CV yX8_lengthBut cX8_lengthBut 3 (some .int) 2 := ⟨⟨m_1899, m_14, by decide +kernel⟩, m_1898, ms_55⟩
set_option maxHeartbeats 4000000 in
set_option maxRecDepth 100000 in
theorem c_X8_lengthBut (l : Launch) (V : Nat → Nat) (g : GH) (D : va_G) (cT : Nat → ClassId) (f : GH) (n : Nat) (a0 : Nat) (a1 : Int32) (a2 : Int32) (o : Int32 × GH) (hq : p_X8_lengthBut V g f a0 a1 a2 = some o) : Met l yX8_lengthBut (Cond.code yX8_lengthBut cX8_lengthBut 3 (some .int) :: g_B) rm_X8_lengthBut (va_Pc [.ref a0, .int a1, .int a2] (g_I V g D cT f n)) (g_Wi V D cT o.1 o.2 n) 0 0 (g_A V) := by
  refine g_begin (own := RX8) [.ref a0, .int a1, .int a2] [(0, .ref a0), (1, .int a1), (2, .int a2)] (g_A V) (fun _ h => h) (by decide) rfl (Nat.le_of_ble_eq_true rfl) rfl ?_
  intro p e s m args below meth c hx hb hr hlocks hin hC hI ls hl
  obtain ⟨hx, hb, hml, hown, hB⟩ := id hC
  obtain ⟨H, hH⟩ : ∃ H, H = s.heap := ⟨_, rfl⟩
  obtain ⟨locs, hlocs⟩ : ∃ L : List Loc, L = [] := ⟨_, rfl⟩
  rw [← hH, ← hlocs] at hI ⊢
  clear hH hlocs
  unfold p_X8_lengthBut at hq
  replace hq := (h_me_eq hq).2
  refine lv_aload_n hx hb dX8_lengthBut_0 rfl (lv_at hl 0 rfl) ?_
  refine lv_iload_n hx hb dX8_lengthBut_1 rfl (lv_at hl 1 rfl) ?_
  obtain ⟨v1, ev1, hq⟩ := b_s hq
  refine gr_i (g_runV (As := [.int a1]) (rest := []) (ci := 10) hC (c_X8_count l V g D cT f n a0 a1 v1 ev1) k_X8_count m_1527 rfl rfl ⟨Nat.le_of_ble_eq_true rfl, Nat.le_of_ble_eq_true rfl⟩ hI rfl rfl (h_me_eq ev1).1 rfl hl.1 rfl (Nat.le_of_ble_eq_true rfl) dX8_lengthBut_2 ⟨by decide, by decide⟩) hI (fun H locs hI => ?_)
  refine lv_aload_n hx hb dX8_lengthBut_5 rfl (lv_at hl 0 rfl) ?_
  refine lv_iload_n hx hb dX8_lengthBut_6 rfl (lv_at hl 1 rfl) ?_
  obtain ⟨v2, ev2, hq⟩ := b_s hq
  refine gr_i (g_runV (As := [.int a1]) (rest := [.int v1]) (ci := 10) hC (c_X8_fewest l V g D cT f n a0 a1 v2 ev2) k_X8_fewest m_1900 rfl rfl ⟨Nat.le_of_ble_eq_true rfl, Nat.le_of_ble_eq_true rfl⟩ hI rfl rfl (h_me_eq ev2).1 rfl hl.1 rfl (Nat.le_of_ble_eq_true rfl) dX8_lengthBut_7 ⟨by decide, by decide⟩) hI (fun H locs hI => ?_)
  refine lv_icmp_ne (tgt := 15) hx hb dX8_lengthBut_10 (by decide) (fun c3 => ?_) (fun c3 => ?_)
  · replace hq := i_f c3 hq
    refine lv_aload_n hx hb dX8_lengthBut_15 rfl (lv_at hl 0 rfl) ?_
    refine lv_iload_n hx hb dX8_lengthBut_16 rfl (lv_at hl 1 rfl) ?_
    refine lv_bipush (v := (6 : Int32)) hx hb dX8_lengthBut_17 (by decide) ?_
    obtain ⟨v4, ev4, hq⟩ := b_s hq
    refine gw_v (g_runV (As := [.int a1, .int (6 : Int32)]) (rest := []) (ci := 10) hC (c_X8_copyCoast l V g D cT f n a0 a1 (6 : Int32) v4 ev4) k_X8_copyCoast m_1904 rfl rfl ⟨Nat.le_of_ble_eq_true rfl, Nat.le_of_ble_eq_true rfl⟩ hI rfl rfl (h_me_eq ev4).1 rfl hl.1 rfl (Nat.le_of_ble_eq_true rfl) dX8_lengthBut_19 ⟨by decide, by decide⟩) hI (fun H locs hI => ?_)
    refine lv_aload_n hx hb dX8_lengthBut_22 rfl (lv_at hl 0 rfl) ?_
    refine lv_bipush (v := (6 : Int32)) hx hb dX8_lengthBut_23 (by decide) ?_
    refine lv_iload_n hx hb dX8_lengthBut_25 rfl (lv_at hl 2 rfl) ?_
    obtain ⟨v5, ev5, hq⟩ := b_s hq
    refine gw_v (g_runV (As := [.int (6 : Int32), .int a2]) (rest := []) (ci := 10) hC (c_X8_cut l V g D cT v4 n a0 (6 : Int32) a2 v5 ev5) k_X8_cut m_1908 rfl rfl ⟨Nat.le_of_ble_eq_true rfl, Nat.le_of_ble_eq_true rfl⟩ hI rfl rfl (h_me_eq ev5).1 rfl hl.1 rfl (Nat.le_of_ble_eq_true rfl) dX8_lengthBut_26 ⟨by decide, by decide⟩) hI (fun H locs hI => ?_)
    refine lv_aload_n hx hb dX8_lengthBut_29 rfl (lv_at hl 0 rfl) ?_
    refine lv_bipush (v := (6 : Int32)) hx hb dX8_lengthBut_30 (by decide) ?_
    refine lv_iconst (v := (0 : Int32)) hx hb dX8_lengthBut_32 (by decide) ?_
    obtain ⟨v6, ev6, hq⟩ := b_s hq
    refine gr_i (g_runV (As := [.int (6 : Int32), .int (0 : Int32)]) (rest := []) (ci := 10) hC (c_X8_lengthNow l V g D cT v5 n a0 (6 : Int32) (0 : Int32) v6 ev6) k_X8_lengthNow m_1708 rfl rfl ⟨Nat.le_of_ble_eq_true rfl, Nat.le_of_ble_eq_true rfl⟩ hI rfl rfl (h_me_eq ev6).1 rfl hl.1 rfl (Nat.le_of_ble_eq_true rfl) dX8_lengthBut_33 ⟨by decide, by decide⟩) hI (fun H locs hI => ?_)
    exact ge_Wi hx hb hlocks hr rfl hI (congrArg (fun z => z.1) (Option.some.inj hq)) (congrArg (fun z => z.2) (Option.some.inj hq)) dX8_lengthBut_36
  · replace hq := i_t c3 hq
    refine lv_iconst (v := (-1 : Int32)) hx hb dX8_lengthBut_13 (by decide) ?_
    exact ge_Wi hx hb hlocks hr rfl hI (congrArg (fun z => z.1) (Option.some.inj hq)) (congrArg (fun z => z.2) (Option.some.inj hq)) dX8_lengthBut_14

def p_X8_lengthWithoutPoint (V : Nat → Nat) (g f : GH) (a0 : Nat) (a1 : Int32) (a2 : Int32) : Option (Int32 × GH) :=
  h_me f a0 10 <|
  (p_X8_isPoint V g f a0 a1 a2).bind fun v1 =>
  (p_X8_lacks V g f a0 v1).bind fun v2 =>
  (if v2.1 = (0 : Int32) then
    (p_X8_lengthBut V g v2.2 a0 a1 a2).bind fun v4 =>
    some (v4.1, v4.2)
  else
    some ((0 : Int32), v2.2))
abbrev rm_X8_lengthWithoutPoint : Room := { frames := 9, cells := 0, slots := 0, locals := 281 }
theorem k_X8_lengthWithoutPoint : g_CV yX8_lengthWithoutPoint cX8_lengthWithoutPoint 3 (some .int) 2 := ⟨⟨m_1895, m_14, by decide +kernel⟩, m_1893, m_1894⟩
set_option maxHeartbeats 4000000 in
set_option maxRecDepth 100000 in
theorem c_X8_lengthWithoutPoint (l : Launch) (V : Nat → Nat) (g : GH) (D : va_G) (cT : Nat → ClassId) (f : GH) (n : Nat) (a0 : Nat) (a1 : Int32) (a2 : Int32) (o : Int32 × GH) (hq : p_X8_lengthWithoutPoint V g f a0 a1 a2 = some o) : Met l yX8_lengthWithoutPoint (Cond.code yX8_lengthWithoutPoint cX8_lengthWithoutPoint 3 (some .int) :: g_B) rm_X8_lengthWithoutPoint (va_Pc [.ref a0, .int a1, .int a2] (g_I V g D cT f n)) (g_Wi V D cT o.1 o.2 n) 0 0 (g_A V) := by
  refine g_begin (own := RX8) [.ref a0, .int a1, .int a2] [(0, .ref a0), (1, .int a1), (2, .int a2)] (g_A V) (fun _ h => h) (by decide) rfl (Nat.le_of_ble_eq_true rfl) rfl ?_
  intro p e s m args below meth c hx hb hr hlocks hin hC hI ls hl
  obtain ⟨hx, hb, hml, hown, hB⟩ := id hC
  obtain ⟨H, hH⟩ : ∃ H, H = s.heap := ⟨_, rfl⟩
  obtain ⟨locs, hlocs⟩ : ∃ L : List Loc, L = [] := ⟨_, rfl⟩
  rw [← hH, ← hlocs] at hI ⊢
  clear hH hlocs
  unfold p_X8_lengthWithoutPoint at hq
  replace hq := (h_me_eq hq).2
  refine lv_aload_n hx hb dX8_lengthWithoutPoint_0 rfl (lv_at hl 0 rfl) ?_
  refine lv_aload_n hx hb dX8_lengthWithoutPoint_1 rfl (lv_at hl 0 rfl) ?_
  refine lv_iload_n hx hb dX8_lengthWithoutPoint_2 rfl (lv_at hl 1 rfl) ?_
  refine lv_iload_n hx hb dX8_lengthWithoutPoint_3 rfl (lv_at hl 2 rfl) ?_
  obtain ⟨v1, ev1, hq⟩ := b_s hq
  refine gr_i (g_runV (As := [.int a1, .int a2]) (rest := [.ref a0]) (ci := 10) hC (c_X8_isPoint l V g D cT f n a0 a1 a2 v1 ev1) k_X8_isPoint m_1653 rfl rfl ⟨Nat.le_of_ble_eq_true rfl, Nat.le_of_ble_eq_true rfl⟩ hI rfl rfl (h_me_eq ev1).1 rfl hl.1 rfl (Nat.le_of_ble_eq_true rfl) dX8_lengthWithoutPoint_4 ⟨by decide, by decide⟩) hI (fun H locs hI => ?_)
  obtain ⟨v2, ev2, hq⟩ := b_s hq
  refine gw_i (g_runV (As := [.int v1]) (rest := []) (ci := 10) hC (c_X8_lacks l V g D cT f n a0 v1 v2 ev2) k_X8_lacks m_1637 rfl rfl ⟨Nat.le_of_ble_eq_true rfl, Nat.le_of_ble_eq_true rfl⟩ hI rfl rfl (h_me_eq ev2).1 rfl hl.1 rfl (Nat.le_of_ble_eq_true rfl) dX8_lengthWithoutPoint_7 ⟨by decide, by decide⟩) hI (fun H locs hI => ?_)
  refine lv_if_eq (tgt := 17) hx hb dX8_lengthWithoutPoint_10 (by decide) (fun c3 => ?_) (fun c3 => ?_)
  · replace hq := i_t c3 hq
    refine lv_aload_n hx hb dX8_lengthWithoutPoint_17 rfl (lv_at hl 0 rfl) ?_
    refine lv_iload_n hx hb dX8_lengthWithoutPoint_18 rfl (lv_at hl 1 rfl) ?_
    refine lv_iload_n hx hb dX8_lengthWithoutPoint_19 rfl (lv_at hl 2 rfl) ?_
    obtain ⟨v4, ev4, hq⟩ := b_s hq
    refine gw_i (g_runV (As := [.int a1, .int a2]) (rest := []) (ci := 10) hC (c_X8_lengthBut l V g D cT v2.2 n a0 a1 a2 v4 ev4) k_X8_lengthBut m_1896 rfl rfl ⟨Nat.le_of_ble_eq_true rfl, Nat.le_of_ble_eq_true rfl⟩ hI rfl rfl (h_me_eq ev4).1 rfl hl.1 rfl (Nat.le_of_ble_eq_true rfl) dX8_lengthWithoutPoint_20 ⟨by decide, by decide⟩) hI (fun H locs hI => ?_)
    exact ge_Wi hx hb hlocks hr rfl hI (congrArg (fun z => z.1) (Option.some.inj hq)) (congrArg (fun z => z.2) (Option.some.inj hq)) dX8_lengthWithoutPoint_23
  · replace hq := i_f c3 hq
    refine lv_iconst (v := (0 : Int32)) hx hb dX8_lengthWithoutPoint_13 (by decide) ?_
    refine lv_goto (tgt := 23) hx hb dX8_lengthWithoutPoint_14 (by decide) ?_
    exact ge_Wi hx hb hlocks hr rfl hI (congrArg (fun z => z.1) (Option.some.inj hq)) (congrArg (fun z => z.2) (Option.some.inj hq)) dX8_lengthWithoutPoint_23

def p_X8_leastImportantPoint_l21 (V : Nat → Nat) (g : GH) (K58 : Int32 → GH → Option (Int32 × GH)) : Nat → Nat → Int32 → Int32 → Int32 → Int32 → GH → Option (Int32 × GH)
  | 0, _, _, _, _, _, _ => none
  | N + 1, x0, x1, x2, x3, x4, f =>
    (p_X8_count V g f x0 x1).bind fun v4 =>
    (if v4 ≤ x4 then
      K58 x2 f
    else
      (p_X8_lengthBut V g f x0 x1 x4).bind fun v6 =>
      (if v6.1 ≤ x3 then
        p_X8_leastImportantPoint_l21 V g K58 N x0 x1 x2 x3 (x4 + (1 : Int32)) v6.2
      else
        p_X8_leastImportantPoint_l21 V g K58 N x0 x1 x4 v6.1 (x4 + (1 : Int32)) v6.2))
def p_X8_leastImportantPoint (V : Nat → Nat) (g f : GH) (a0 : Nat) (a1 : Int32) : Option (Int32 × GH) :=
  h_me f a0 10 <|
  (p_X8_isCoast V g f a0 a1).bind fun v1 =>
  (p_X8_lacks V g f a0 v1).bind fun v2 =>
  (if v2.1 = (0 : Int32) then
    p_X8_leastImportantPoint_l21 V g (fun x2 f =>
      some (x2, f)) FU a0 a1 (-1 : Int32) (-1 : Int32) (0 : Int32) v2.2
  else
    some ((0 : Int32), v2.2))
abbrev rm_X8_leastImportantPoint : Room := { frames := 9, cells := 0, slots := 0, locals := 281 }
theorem k_X8_leastImportantPoint : g_CV yX8_leastImportantPoint cX8_leastImportantPoint 6 (some .int) 1 := ⟨⟨m_1915, m_14, by decide +kernel⟩, m_1913, m_1914⟩
set_option maxHeartbeats 4000000 in
set_option maxRecDepth 100000 in
theorem c_X8_leastImportantPoint (l : Launch) (V : Nat → Nat) (g : GH) (D : va_G) (cT : Nat → ClassId) (f : GH) (n : Nat) (a0 : Nat) (a1 : Int32) (o : Int32 × GH) (hq : p_X8_leastImportantPoint V g f a0 a1 = some o) : Met l yX8_leastImportantPoint (Cond.code yX8_leastImportantPoint cX8_leastImportantPoint 6 (some .int) :: g_B) rm_X8_leastImportantPoint (va_Pc [.ref a0, .int a1] (g_I V g D cT f n)) (g_Wi V D cT o.1 o.2 n) 0 0 (g_A V) := by
  refine g_begin (own := RX8) [.ref a0, .int a1] [(0, .ref a0), (1, .int a1)] (g_A V) (fun _ h => h) (by decide) rfl (Nat.le_of_ble_eq_true rfl) rfl ?_
  intro p e s m args below meth c hx hb hr hlocks hin hC hI ls hl
  obtain ⟨hx, hb, hml, hown, hB⟩ := id hC
  obtain ⟨H, hH⟩ : ∃ H, H = s.heap := ⟨_, rfl⟩
  obtain ⟨locs, hlocs⟩ : ∃ L : List Loc, L = [] := ⟨_, rfl⟩
  rw [← hH, ← hlocs] at hI ⊢
  clear hH hlocs
  unfold p_X8_leastImportantPoint at hq
  replace hq := (h_me_eq hq).2
  refine lv_aload_n hx hb dX8_leastImportantPoint_0 rfl (lv_at hl 0 rfl) ?_
  refine lv_aload_n hx hb dX8_leastImportantPoint_1 rfl (lv_at hl 0 rfl) ?_
  refine lv_iload_n hx hb dX8_leastImportantPoint_2 rfl (lv_at hl 1 rfl) ?_
  obtain ⟨v1, ev1, hq⟩ := b_s hq
  refine gr_i (g_runV (As := [.int a1]) (rest := [.ref a0]) (ci := 10) hC (c_X8_isCoast l V g D cT f n a0 a1 v1 ev1) k_X8_isCoast m_1630 rfl rfl ⟨Nat.le_of_ble_eq_true rfl, Nat.le_of_ble_eq_true rfl⟩ hI rfl rfl (h_me_eq ev1).1 rfl hl.1 rfl (Nat.le_of_ble_eq_true rfl) dX8_leastImportantPoint_3 ⟨by decide, by decide⟩) hI (fun H locs hI => ?_)
  obtain ⟨v2, ev2, hq⟩ := b_s hq
  refine gw_i (g_runV (As := [.int v1]) (rest := []) (ci := 10) hC (c_X8_lacks l V g D cT f n a0 v1 v2 ev2) k_X8_lacks m_1637 rfl rfl ⟨Nat.le_of_ble_eq_true rfl, Nat.le_of_ble_eq_true rfl⟩ hI rfl rfl (h_me_eq ev2).1 rfl hl.1 rfl (Nat.le_of_ble_eq_true rfl) dX8_leastImportantPoint_6 ⟨by decide, by decide⟩) hI (fun H locs hI => ?_)
  refine lv_if_eq (tgt := 14) hx hb dX8_leastImportantPoint_9 (by decide) (fun c3 => ?_) (fun c3 => ?_)
  · replace hq := i_t c3 hq
    refine lv_iconst (v := (-1 : Int32)) hx hb dX8_leastImportantPoint_14 (by decide) ?_
    refine lv_istore_n (lv' := [(2, .int (-1 : Int32)), (0, .ref a0), (1, .int a1)]) hx hb dX8_leastImportantPoint_15 rfl hl (by decide) rfl (fun ls hl => ?_)
    refine lv_iconst (v := (-1 : Int32)) hx hb dX8_leastImportantPoint_16 (by decide) ?_
    refine lv_istore_n (lv' := [(3, .int (-1 : Int32)), (2, .int (-1 : Int32)), (0, .ref a0), (1, .int a1)]) hx hb dX8_leastImportantPoint_17 rfl hl (by decide) rfl (fun ls hl => ?_)
    refine lv_iconst (v := (0 : Int32)) hx hb dX8_leastImportantPoint_18 (by decide) ?_
    refine lv_istore (lv' := [(4, .int (0 : Int32)), (3, .int (-1 : Int32)), (2, .int (-1 : Int32)), (0, .ref a0), (1, .int a1)]) hx hb dX8_leastImportantPoint_19 hl (by decide) rfl (fun ls hl => ?_)
    have hl21 : ∀ (K58 : Int32 → GH → Option (Int32 × GH)) (hK58 : ∀ (x2 : Int32) (f : GH) (H : Heap) (locs : List Loc) (ls : Array Slot), g_at (g_A V) V g D cT f n s H locs → lv_has ls 6 [(2, .int x2)] → K58 x2 f = some o → W p l e rm_X8_leastImportantPoint s m args below meth c H locs 0 0 (MQ below (g_Wi V D cT o.1 o.2 n) args s 0 0 (g_A V)) (F0 m 58 ls [])) (N : Nat) (x0 : Nat) (x1 : Int32) (x2 : Int32) (x3 : Int32) (x4 : Int32) (f : GH) (H : Heap) (locs : List Loc) (ls : Array Slot), g_at (g_A V) V g D cT f n s H locs → lv_has ls 6 [(0, .ref x0), (1, .int x1), (2, .int x2), (3, .int x3), (4, .int x4)] → p_X8_leastImportantPoint_l21 V g K58 N x0 x1 x2 x3 x4 f = some o → W p l e rm_X8_leastImportantPoint s m args below meth c H locs 0 0 (MQ below (g_Wi V D cT o.1 o.2 n) args s 0 0 (g_A V)) (F0 m 21 ls []) := by
      intro K58 hK58 N
      induction N with
      | zero =>
        intro x0 x1 x2 x3 x4 f H locs ls hI hl hq
        rw [p_X8_leastImportantPoint_l21] at hq
        cases hq
      | succ N ih =>
        intro x0 x1 x2 x3 x4 f H locs ls hI hl hq
        rw [p_X8_leastImportantPoint_l21] at hq
        refine lv_iload hx hb dX8_leastImportantPoint_21 (lv_at hl 4 rfl) ?_
        refine lv_aload_n hx hb dX8_leastImportantPoint_23 rfl (lv_at hl 0 rfl) ?_
        refine lv_iload_n hx hb dX8_leastImportantPoint_24 rfl (lv_at hl 1 rfl) ?_
        obtain ⟨v4, ev4, hq⟩ := b_s hq
        refine gr_i (g_runV (As := [.int x1]) (rest := [.int x4]) (ci := 10) hC (c_X8_count l V g D cT f n x0 x1 v4 ev4) k_X8_count m_1527 rfl rfl ⟨Nat.le_of_ble_eq_true rfl, Nat.le_of_ble_eq_true rfl⟩ hI rfl rfl (h_me_eq ev4).1 rfl hl.1 rfl (Nat.le_of_ble_eq_true rfl) dX8_leastImportantPoint_25 ⟨by decide, by decide⟩) hI (fun H locs hI => ?_)
        refine lv_icmp_ge (tgt := 58) hx hb dX8_leastImportantPoint_28 (by decide) (fun c5 => ?_) (fun c5 => ?_)
        · replace hq := i_t c5 hq
          exact hK58 x2 f H locs ls hI (lv_sub hl [2] rfl) hq
        · replace hq := i_f c5 hq
          refine lv_aload_n hx hb dX8_leastImportantPoint_31 rfl (lv_at hl 0 rfl) ?_
          refine lv_iload_n hx hb dX8_leastImportantPoint_32 rfl (lv_at hl 1 rfl) ?_
          refine lv_iload hx hb dX8_leastImportantPoint_33 (lv_at hl 4 rfl) ?_
          obtain ⟨v6, ev6, hq⟩ := b_s hq
          refine gw_i (g_runV (As := [.int x1, .int x4]) (rest := []) (ci := 10) hC (c_X8_lengthBut l V g D cT f n x0 x1 x4 v6 ev6) k_X8_lengthBut m_1896 rfl rfl ⟨Nat.le_of_ble_eq_true rfl, Nat.le_of_ble_eq_true rfl⟩ hI rfl rfl (h_me_eq ev6).1 rfl hl.1 rfl (Nat.le_of_ble_eq_true rfl) dX8_leastImportantPoint_35 ⟨by decide, by decide⟩) hI (fun H locs hI => ?_)
          refine lv_istore (lv' := [(5, .int v6.1), (0, .ref x0), (1, .int x1), (2, .int x2), (3, .int x3), (4, .int x4)]) hx hb dX8_leastImportantPoint_38 hl (by decide) rfl (fun ls hl => ?_)
          refine lv_iload hx hb dX8_leastImportantPoint_40 (lv_at hl 0 rfl) ?_
          refine lv_iload_n hx hb dX8_leastImportantPoint_42 rfl (lv_at hl 4 rfl) ?_
          refine lv_icmp_le (tgt := 52) hx hb dX8_leastImportantPoint_43 (by decide) (fun c7 => ?_) (fun c7 => ?_)
          · replace hq := i_t c7 hq
            refine lv_iinc (v := x4 + (1 : Int32)) (lv' := [(4, .int (x4 + (1 : Int32))), (5, .int v6.1), (0, .ref x0), (1, .int x1), (2, .int x2), (3, .int x3)]) hx hb dX8_leastImportantPoint_52 hl (k := 5) rfl rfl (by decide) rfl (fun ls hl => ?_)
            refine lv_goto (tgt := 21) hx hb dX8_leastImportantPoint_55 (by decide) ?_
            exact ih x0 x1 x2 x3 (x4 + (1 : Int32)) v6.2 H locs ls hI (lv_sub hl [2, 3, 4, 5, 0] rfl) hq
          · replace hq := i_f c7 hq
            refine lv_iload hx hb dX8_leastImportantPoint_46 (lv_at hl 5 rfl) ?_
            refine lv_istore_n (lv' := [(2, .int x4), (5, .int v6.1), (0, .ref x0), (1, .int x1), (3, .int x3), (4, .int x4)]) hx hb dX8_leastImportantPoint_48 rfl hl (by decide) rfl (fun ls hl => ?_)
            refine lv_iload hx hb dX8_leastImportantPoint_49 (lv_at hl 1 rfl) ?_
            refine lv_istore_n (lv' := [(3, .int v6.1), (2, .int x4), (5, .int v6.1), (0, .ref x0), (1, .int x1), (4, .int x4)]) hx hb dX8_leastImportantPoint_51 rfl hl (by decide) rfl (fun ls hl => ?_)
            refine lv_iinc (v := x4 + (1 : Int32)) (lv' := [(4, .int (x4 + (1 : Int32))), (3, .int v6.1), (2, .int x4), (5, .int v6.1), (0, .ref x0), (1, .int x1)]) hx hb dX8_leastImportantPoint_52 hl (k := 5) rfl rfl (by decide) rfl (fun ls hl => ?_)
            refine lv_goto (tgt := 21) hx hb dX8_leastImportantPoint_55 (by decide) ?_
            exact ih x0 x1 x4 v6.1 (x4 + (1 : Int32)) v6.2 H locs ls hI (lv_sub hl [4, 5, 2, 1, 0] rfl) hq
    refine hl21 _ ?_ FU a0 a1 (-1 : Int32) (-1 : Int32) (0 : Int32) v2.2 H locs ls hI (lv_sub hl [3, 4, 2, 1, 0] rfl) hq
    · intro x2 f H locs ls hI hl hq
      refine lv_iload_n hx hb dX8_leastImportantPoint_58 rfl (lv_at hl 0 rfl) ?_
      exact ge_Wi hx hb hlocks hr rfl hI (congrArg (fun z => z.1) (Option.some.inj hq)) (congrArg (fun z => z.2) (Option.some.inj hq)) dX8_leastImportantPoint_59
  · replace hq := i_f c3 hq
    refine lv_iconst (v := (0 : Int32)) hx hb dX8_leastImportantPoint_12 (by decide) ?_
    exact ge_Wi hx hb hlocks hr rfl hI (congrArg (fun z => z.1) (Option.some.inj hq)) (congrArg (fun z => z.2) (Option.some.inj hq)) dX8_leastImportantPoint_13

def p_X8_lengthInOtherMetric (V : Nat → Nat) (g f : GH) (a0 : Nat) (a1 : Int32) (a2 : Int32) : Option (Int32 × GH) :=
  h_me f a0 10 <|
  (p_X8_lacksLevel V g f a0 a1 a2).bind fun v1 =>
  (if v1.1 = (0 : Int32) then
    (p_X8_isKing V g v1.2 a0).bind fun v3 =>
    (if v3 = (0 : Int32) then
      (p_X8_length V g v1.2 a0 a1 a2 (1 : Int32)).bind fun v6 =>
      some (v6, v1.2)
    else
      (p_X8_length V g v1.2 a0 a1 a2 (0 : Int32)).bind fun v5 =>
      some (v5, v1.2))
  else
    some ((0 : Int32), v1.2))
abbrev rm_X8_lengthInOtherMetric : Room := { frames := 7, cells := 0, slots := 0, locals := 237 }
theorem k_X8_lengthInOtherMetric : g_CV yX8_lengthInOtherMetric cX8_lengthInOtherMetric 3 (some .int) 2 := ⟨⟨m_1919, m_14, by decide +kernel⟩, m_1917, m_1918⟩
set_option maxHeartbeats 4000000 in
set_option maxRecDepth 100000 in
theorem c_X8_lengthInOtherMetric (l : Launch) (V : Nat → Nat) (g : GH) (D : va_G) (cT : Nat → ClassId) (f : GH) (n : Nat) (a0 : Nat) (a1 : Int32) (a2 : Int32) (o : Int32 × GH) (hq : p_X8_lengthInOtherMetric V g f a0 a1 a2 = some o) : Met l yX8_lengthInOtherMetric (Cond.code yX8_lengthInOtherMetric cX8_lengthInOtherMetric 3 (some .int) :: g_B) rm_X8_lengthInOtherMetric (va_Pc [.ref a0, .int a1, .int a2] (g_I V g D cT f n)) (g_Wi V D cT o.1 o.2 n) 0 0 (g_A V) := by
  refine g_begin (own := RX8) [.ref a0, .int a1, .int a2] [(0, .ref a0), (1, .int a1), (2, .int a2)] (g_A V) (fun _ h => h) (by decide) rfl (Nat.le_of_ble_eq_true rfl) rfl ?_
  intro p e s m args below meth c hx hb hr hlocks hin hC hI ls hl
  obtain ⟨hx, hb, hml, hown, hB⟩ := id hC
  obtain ⟨H, hH⟩ : ∃ H, H = s.heap := ⟨_, rfl⟩
  obtain ⟨locs, hlocs⟩ : ∃ L : List Loc, L = [] := ⟨_, rfl⟩
  rw [← hH, ← hlocs] at hI ⊢
  clear hH hlocs
  unfold p_X8_lengthInOtherMetric at hq
  replace hq := (h_me_eq hq).2
  refine lv_aload_n hx hb dX8_lengthInOtherMetric_0 rfl (lv_at hl 0 rfl) ?_
  refine lv_iload_n hx hb dX8_lengthInOtherMetric_1 rfl (lv_at hl 1 rfl) ?_
  refine lv_iload_n hx hb dX8_lengthInOtherMetric_2 rfl (lv_at hl 2 rfl) ?_
  obtain ⟨v1, ev1, hq⟩ := b_s hq
  refine gw_i (g_runV (As := [.int a1, .int a2]) (rest := []) (ci := 10) hC (c_X8_lacksLevel l V g D cT f n a0 a1 a2 v1 ev1) k_X8_lacksLevel m_1701 rfl rfl ⟨Nat.le_of_ble_eq_true rfl, Nat.le_of_ble_eq_true rfl⟩ hI rfl rfl (h_me_eq ev1).1 rfl hl.1 rfl (Nat.le_of_ble_eq_true rfl) dX8_lengthInOtherMetric_3 ⟨by decide, by decide⟩) hI (fun H locs hI => ?_)
  refine lv_if_eq (tgt := 13) hx hb dX8_lengthInOtherMetric_6 (by decide) (fun c2 => ?_) (fun c2 => ?_)
  · replace hq := i_t c2 hq
    refine lv_aload_n hx hb dX8_lengthInOtherMetric_13 rfl (lv_at hl 0 rfl) ?_
    refine lv_iload_n hx hb dX8_lengthInOtherMetric_14 rfl (lv_at hl 1 rfl) ?_
    refine lv_iload_n hx hb dX8_lengthInOtherMetric_15 rfl (lv_at hl 2 rfl) ?_
    refine lv_aload_n hx hb dX8_lengthInOtherMetric_16 rfl (lv_at hl 0 rfl) ?_
    obtain ⟨v3, ev3, hq⟩ := b_s hq
    refine gr_i (g_runV (As := []) (rest := [.int a2, .int a1, .ref a0]) (ci := 10) hC (c_X8_isKing l V g D cT v1.2 n a0 v3 ev3) k_X8_isKing m_1622 rfl rfl ⟨Nat.le_of_ble_eq_true rfl, Nat.le_of_ble_eq_true rfl⟩ hI rfl rfl (h_me_eq ev3).1 rfl hl.1 rfl (Nat.le_of_ble_eq_true rfl) dX8_lengthInOtherMetric_17 ⟨by decide, by decide⟩) hI (fun H locs hI => ?_)
    refine lv_if_ne (tgt := 27) hx hb dX8_lengthInOtherMetric_20 (by decide) (fun c4 => ?_) (fun c4 => ?_)
    · replace hq := i_f c4 hq
      refine lv_iconst (v := (0 : Int32)) hx hb dX8_lengthInOtherMetric_27 (by decide) ?_
      obtain ⟨v5, ev5, hq⟩ := b_s hq
      refine gr_i (g_runV (As := [.int a1, .int a2, .int (0 : Int32)]) (rest := []) (ci := 10) hC (c_X8_length l V g D cT v1.2 n a0 a1 a2 (0 : Int32) v5 ev5) k_X8_length m_1712 rfl rfl ⟨Nat.le_of_ble_eq_true rfl, Nat.le_of_ble_eq_true rfl⟩ hI rfl rfl (h_me_eq ev5).1 rfl hl.1 rfl (Nat.le_of_ble_eq_true rfl) dX8_lengthInOtherMetric_28 ⟨by decide, by decide⟩) hI (fun H locs hI => ?_)
      exact ge_Wi hx hb hlocks hr rfl hI (congrArg (fun z => z.1) (Option.some.inj hq)) (congrArg (fun z => z.2) (Option.some.inj hq)) dX8_lengthInOtherMetric_31
    · replace hq := i_t c4 hq
      refine lv_iconst (v := (1 : Int32)) hx hb dX8_lengthInOtherMetric_23 (by decide) ?_
      refine lv_goto (tgt := 28) hx hb dX8_lengthInOtherMetric_24 (by decide) ?_
      obtain ⟨v6, ev6, hq⟩ := b_s hq
      refine gr_i (g_runV (As := [.int a1, .int a2, .int (1 : Int32)]) (rest := []) (ci := 10) hC (c_X8_length l V g D cT v1.2 n a0 a1 a2 (1 : Int32) v6 ev6) k_X8_length m_1712 rfl rfl ⟨Nat.le_of_ble_eq_true rfl, Nat.le_of_ble_eq_true rfl⟩ hI rfl rfl (h_me_eq ev6).1 rfl hl.1 rfl (Nat.le_of_ble_eq_true rfl) dX8_lengthInOtherMetric_28 ⟨by decide, by decide⟩) hI (fun H locs hI => ?_)
      exact ge_Wi hx hb hlocks hr rfl hI (congrArg (fun z => z.1) (Option.some.inj hq)) (congrArg (fun z => z.2) (Option.some.inj hq)) dX8_lengthInOtherMetric_31
  · replace hq := i_f c2 hq
    refine lv_iconst (v := (0 : Int32)) hx hb dX8_lengthInOtherMetric_9 (by decide) ?_
    refine lv_goto (tgt := 31) hx hb dX8_lengthInOtherMetric_10 (by decide) ?_
    exact ge_Wi hx hb hlocks hr rfl hI (congrArg (fun z => z.1) (Option.some.inj hq)) (congrArg (fun z => z.2) (Option.some.inj hq)) dX8_lengthInOtherMetric_31

def p_X8_loadedPoints (V : Nat → Nat) (g f : GH) (a0 : Nat) : Option (Int32 × GH) :=
  h_me f a0 10 <|
  (h_pt f a0 10 7 (.int (0 : Int32))).bind fun f1 =>
  (h_gr f1 a0 10 5).bind fun v2 =>
  (h_li f1 v2 0 (2 : Int32)).bind fun v3 =>
  some (v3, f1)
abbrev rm_X8_loadedPoints : Room := { frames := 2, cells := 0, slots := 0, locals := 120 }
theorem k_X8_loadedPoints : g_CV yX8_loadedPoints cX8_loadedPoints 1 (some .int) 0 := ⟨⟨m_1923, m_14, by decide +kernel⟩, m_1921, m_1922⟩
set_option maxHeartbeats 4000000 in
set_option maxRecDepth 100000 in
theorem c_X8_loadedPoints (l : Launch) (V : Nat → Nat) (g : GH) (D : va_G) (cT : Nat → ClassId) (f : GH) (n : Nat) (a0 : Nat) (o : Int32 × GH) (hq : p_X8_loadedPoints V g f a0 = some o) : Met l yX8_loadedPoints (Cond.code yX8_loadedPoints cX8_loadedPoints 1 (some .int) :: g_B) rm_X8_loadedPoints (va_Pc [.ref a0] (g_I V g D cT f n)) (g_Wi V D cT o.1 o.2 n) 0 0 (g_A V) := by
  refine g_begin (own := RX8) [.ref a0] [(0, .ref a0)] (g_A V) (fun _ h => h) (by decide) rfl (Nat.le_of_ble_eq_true rfl) rfl ?_
  intro p e s m args below meth c hx hb hr hlocks hin hC hI ls hl
  obtain ⟨hx, hb, hml, hown, hB⟩ := id hC
  obtain ⟨H, hH⟩ : ∃ H, H = s.heap := ⟨_, rfl⟩
  obtain ⟨locs, hlocs⟩ : ∃ L : List Loc, L = [] := ⟨_, rfl⟩
  rw [← hH, ← hlocs] at hI ⊢
  clear hH hlocs
  unfold p_X8_loadedPoints at hq
  replace hq := (h_me_eq hq).2
  refine lv_aload_n hx hb dX8_loadedPoints_0 rfl (lv_at hl 0 rfl) ?_
  refine lv_iconst (v := (0 : Int32)) hx hb dX8_loadedPoints_1 (by decide) ?_
  obtain ⟨f1, ef1, hq⟩ := b_s hq
  refine fa_pt (own := RX8) (ref := "CoastlineRulerModel") (k := 7) hx hb hB inB_RX8 tyX8_ok nmX8 hown hI rfl (by decide) m_1538 (fun _ h9 => h9) (by decide) rfl rfl ef1 dX8_loadedPoints_2 (fun H locs hI => ?_)
  refine lv_aload_n hx hb dX8_loadedPoints_5 rfl (lv_at hl 0 rfl) ?_
  obtain ⟨v2, ev2, hq⟩ := b_s hq
  refine fa_gr (own := RX8) (ref := "CoastlineRulerModel") (k := 5) hx hb hB inB_RX8 hown hI rfl (by decide) m_1536 (fun _ h9 => h9) ev2 dX8_loadedPoints_6 ?_
  refine lv_iconst (v := (2 : Int32)) hx hb dX8_loadedPoints_9 (by decide) ?_
  obtain ⟨v3, ev3, hq⟩ := b_s hq
  refine fa_li hx hb hI ev3 dX8_loadedPoints_10 ?_
  exact ge_Wi hx hb hlocks hr rfl hI (congrArg (fun z => z.1) (Option.some.inj hq)) (congrArg (fun z => z.2) (Option.some.inj hq)) dX8_loadedPoints_11

def p_X8_addedPoints (V : Nat → Nat) (g f : GH) (a0 : Nat) : Option (Int32 × GH) :=
  h_me f a0 10 <|
  (h_pt f a0 10 7 (.int (0 : Int32))).bind fun f1 =>
  (h_gr f1 a0 10 5).bind fun v2 =>
  (h_li f1 v2 0 (3 : Int32)).bind fun v3 =>
  some (v3, f1)
abbrev rm_X8_addedPoints : Room := { frames := 2, cells := 0, slots := 0, locals := 120 }
theorem k_X8_addedPoints : g_CV yX8_addedPoints cX8_addedPoints 1 (some .int) 0 := ⟨⟨m_1927, m_14, by decide +kernel⟩, m_1925, m_1926⟩
set_option maxHeartbeats 4000000 in
set_option maxRecDepth 100000 in
theorem c_X8_addedPoints (l : Launch) (V : Nat → Nat) (g : GH) (D : va_G) (cT : Nat → ClassId) (f : GH) (n : Nat) (a0 : Nat) (o : Int32 × GH) (hq : p_X8_addedPoints V g f a0 = some o) : Met l yX8_addedPoints (Cond.code yX8_addedPoints cX8_addedPoints 1 (some .int) :: g_B) rm_X8_addedPoints (va_Pc [.ref a0] (g_I V g D cT f n)) (g_Wi V D cT o.1 o.2 n) 0 0 (g_A V) := by
  refine g_begin (own := RX8) [.ref a0] [(0, .ref a0)] (g_A V) (fun _ h => h) (by decide) rfl (Nat.le_of_ble_eq_true rfl) rfl ?_
  intro p e s m args below meth c hx hb hr hlocks hin hC hI ls hl
  obtain ⟨hx, hb, hml, hown, hB⟩ := id hC
  obtain ⟨H, hH⟩ : ∃ H, H = s.heap := ⟨_, rfl⟩
  obtain ⟨locs, hlocs⟩ : ∃ L : List Loc, L = [] := ⟨_, rfl⟩
  rw [← hH, ← hlocs] at hI ⊢
  clear hH hlocs
  unfold p_X8_addedPoints at hq
  replace hq := (h_me_eq hq).2
  refine lv_aload_n hx hb dX8_addedPoints_0 rfl (lv_at hl 0 rfl) ?_
  refine lv_iconst (v := (0 : Int32)) hx hb dX8_addedPoints_1 (by decide) ?_
  obtain ⟨f1, ef1, hq⟩ := b_s hq
  refine fa_pt (own := RX8) (ref := "CoastlineRulerModel") (k := 7) hx hb hB inB_RX8 tyX8_ok nmX8 hown hI rfl (by decide) m_1538 (fun _ h9 => h9) (by decide) rfl rfl ef1 dX8_addedPoints_2 (fun H locs hI => ?_)
  refine lv_aload_n hx hb dX8_addedPoints_5 rfl (lv_at hl 0 rfl) ?_
  obtain ⟨v2, ev2, hq⟩ := b_s hq
  refine fa_gr (own := RX8) (ref := "CoastlineRulerModel") (k := 5) hx hb hB inB_RX8 hown hI rfl (by decide) m_1536 (fun _ h9 => h9) ev2 dX8_addedPoints_6 ?_
  refine lv_iconst (v := (3 : Int32)) hx hb dX8_addedPoints_9 (by decide) ?_
  obtain ⟨v3, ev3, hq⟩ := b_s hq
  refine fa_li hx hb hI ev3 dX8_addedPoints_10 ?_
  exact ge_Wi hx hb hlocks hr rfl hI (congrArg (fun z => z.1) (Option.some.inj hq)) (congrArg (fun z => z.2) (Option.some.inj hq)) dX8_addedPoints_11

def p_X8_removedPoints (V : Nat → Nat) (g f : GH) (a0 : Nat) : Option (Int32 × GH) :=
  h_me f a0 10 <|
  (h_pt f a0 10 7 (.int (0 : Int32))).bind fun f1 =>
  (h_gr f1 a0 10 5).bind fun v2 =>
  (h_li f1 v2 0 (4 : Int32)).bind fun v3 =>
  some (v3, f1)
abbrev rm_X8_removedPoints : Room := { frames := 2, cells := 0, slots := 0, locals := 120 }
theorem k_X8_removedPoints : g_CV yX8_removedPoints cX8_removedPoints 1 (some .int) 0 := ⟨⟨m_1931, m_14, by decide +kernel⟩, m_1929, m_1930⟩
set_option maxHeartbeats 4000000 in
set_option maxRecDepth 100000 in
theorem c_X8_removedPoints (l : Launch) (V : Nat → Nat) (g : GH) (D : va_G) (cT : Nat → ClassId) (f : GH) (n : Nat) (a0 : Nat) (o : Int32 × GH) (hq : p_X8_removedPoints V g f a0 = some o) : Met l yX8_removedPoints (Cond.code yX8_removedPoints cX8_removedPoints 1 (some .int) :: g_B) rm_X8_removedPoints (va_Pc [.ref a0] (g_I V g D cT f n)) (g_Wi V D cT o.1 o.2 n) 0 0 (g_A V) := by
  refine g_begin (own := RX8) [.ref a0] [(0, .ref a0)] (g_A V) (fun _ h => h) (by decide) rfl (Nat.le_of_ble_eq_true rfl) rfl ?_
  intro p e s m args below meth c hx hb hr hlocks hin hC hI ls hl
  obtain ⟨hx, hb, hml, hown, hB⟩ := id hC
  obtain ⟨H, hH⟩ : ∃ H, H = s.heap := ⟨_, rfl⟩
  obtain ⟨locs, hlocs⟩ : ∃ L : List Loc, L = [] := ⟨_, rfl⟩
  rw [← hH, ← hlocs] at hI ⊢
  clear hH hlocs
  unfold p_X8_removedPoints at hq
  replace hq := (h_me_eq hq).2
  refine lv_aload_n hx hb dX8_removedPoints_0 rfl (lv_at hl 0 rfl) ?_
  refine lv_iconst (v := (0 : Int32)) hx hb dX8_removedPoints_1 (by decide) ?_
  obtain ⟨f1, ef1, hq⟩ := b_s hq
  refine fa_pt (own := RX8) (ref := "CoastlineRulerModel") (k := 7) hx hb hB inB_RX8 tyX8_ok nmX8 hown hI rfl (by decide) m_1538 (fun _ h9 => h9) (by decide) rfl rfl ef1 dX8_removedPoints_2 (fun H locs hI => ?_)
  refine lv_aload_n hx hb dX8_removedPoints_5 rfl (lv_at hl 0 rfl) ?_
  obtain ⟨v2, ev2, hq⟩ := b_s hq
  refine fa_gr (own := RX8) (ref := "CoastlineRulerModel") (k := 5) hx hb hB inB_RX8 hown hI rfl (by decide) m_1536 (fun _ h9 => h9) ev2 dX8_removedPoints_6 ?_
  refine lv_iconst (v := (4 : Int32)) hx hb dX8_removedPoints_9 (by decide) ?_
  obtain ⟨v3, ev3, hq⟩ := b_s hq
  refine fa_li hx hb hI ev3 dX8_removedPoints_10 ?_
  exact ge_Wi hx hb hlocks hr rfl hI (congrArg (fun z => z.1) (Option.some.inj hq)) (congrArg (fun z => z.2) (Option.some.inj hq)) dX8_removedPoints_11

def p_X8_ledgerGap (V : Nat → Nat) (g f : GH) (a0 : Nat) : Option (Int32 × GH) :=
  h_me f a0 10 <|
  (h_pt f a0 10 7 (.int (0 : Int32))).bind fun f1 =>
  (h_gr f1 a0 10 5).bind fun v2 =>
  (h_li f1 v2 0 (2 : Int32)).bind fun v3 =>
  (h_gr f1 a0 10 5).bind fun v4 =>
  (h_li f1 v4 0 (3 : Int32)).bind fun v5 =>
  (h_gr f1 a0 10 5).bind fun v6 =>
  (h_li f1 v6 0 (4 : Int32)).bind fun v7 =>
  (p_X8_allPoints V g f1 a0).bind fun v8 =>
  (p_X8_sizeOf V g f1 (((v3 + v5) - v7) - v8)).bind fun v9 =>
  some (v9, f1)
abbrev rm_X8_ledgerGap : Room := { frames := 5, cells := 0, slots := 0, locals := 183 }
theorem k_X8_ledgerGap : g_CV yX8_ledgerGap cX8_ledgerGap 1 (some .int) 0 := ⟨⟨m_1935, m_14, by decide +kernel⟩, m_1933, m_1934⟩
set_option maxHeartbeats 4000000 in
set_option maxRecDepth 100000 in
theorem c_X8_ledgerGap (l : Launch) (V : Nat → Nat) (g : GH) (D : va_G) (cT : Nat → ClassId) (f : GH) (n : Nat) (a0 : Nat) (o : Int32 × GH) (hq : p_X8_ledgerGap V g f a0 = some o) : Met l yX8_ledgerGap (Cond.code yX8_ledgerGap cX8_ledgerGap 1 (some .int) :: g_B) rm_X8_ledgerGap (va_Pc [.ref a0] (g_I V g D cT f n)) (g_Wi V D cT o.1 o.2 n) 0 0 (g_A V) := by
  refine g_begin (own := RX8) [.ref a0] [(0, .ref a0)] (g_A V) (fun _ h => h) (by decide) rfl (Nat.le_of_ble_eq_true rfl) rfl ?_
  intro p e s m args below meth c hx hb hr hlocks hin hC hI ls hl
  obtain ⟨hx, hb, hml, hown, hB⟩ := id hC
  obtain ⟨H, hH⟩ : ∃ H, H = s.heap := ⟨_, rfl⟩
  obtain ⟨locs, hlocs⟩ : ∃ L : List Loc, L = [] := ⟨_, rfl⟩
  rw [← hH, ← hlocs] at hI ⊢
  clear hH hlocs
  unfold p_X8_ledgerGap at hq
  replace hq := (h_me_eq hq).2
  refine lv_aload_n hx hb dX8_ledgerGap_0 rfl (lv_at hl 0 rfl) ?_
  refine lv_iconst (v := (0 : Int32)) hx hb dX8_ledgerGap_1 (by decide) ?_
  obtain ⟨f1, ef1, hq⟩ := b_s hq
  refine fa_pt (own := RX8) (ref := "CoastlineRulerModel") (k := 7) hx hb hB inB_RX8 tyX8_ok nmX8 hown hI rfl (by decide) m_1538 (fun _ h9 => h9) (by decide) rfl rfl ef1 dX8_ledgerGap_2 (fun H locs hI => ?_)
  refine lv_aload_n hx hb dX8_ledgerGap_5 rfl (lv_at hl 0 rfl) ?_
  obtain ⟨v2, ev2, hq⟩ := b_s hq
  refine fa_gr (own := RX8) (ref := "CoastlineRulerModel") (k := 5) hx hb hB inB_RX8 hown hI rfl (by decide) m_1536 (fun _ h9 => h9) ev2 dX8_ledgerGap_6 ?_
  refine lv_iconst (v := (2 : Int32)) hx hb dX8_ledgerGap_9 (by decide) ?_
  obtain ⟨v3, ev3, hq⟩ := b_s hq
  refine fa_li hx hb hI ev3 dX8_ledgerGap_10 ?_
  refine lv_aload_n hx hb dX8_ledgerGap_11 rfl (lv_at hl 0 rfl) ?_
  obtain ⟨v4, ev4, hq⟩ := b_s hq
  refine fa_gr (own := RX8) (ref := "CoastlineRulerModel") (k := 5) hx hb hB inB_RX8 hown hI rfl (by decide) m_1536 (fun _ h9 => h9) ev4 dX8_ledgerGap_12 ?_
  refine lv_iconst (v := (3 : Int32)) hx hb dX8_ledgerGap_15 (by decide) ?_
  obtain ⟨v5, ev5, hq⟩ := b_s hq
  refine fa_li hx hb hI ev5 dX8_ledgerGap_16 ?_
  refine lv_iadd hx hb dX8_ledgerGap_17 ?_
  refine lv_aload_n hx hb dX8_ledgerGap_18 rfl (lv_at hl 0 rfl) ?_
  obtain ⟨v6, ev6, hq⟩ := b_s hq
  refine fa_gr (own := RX8) (ref := "CoastlineRulerModel") (k := 5) hx hb hB inB_RX8 hown hI rfl (by decide) m_1536 (fun _ h9 => h9) ev6 dX8_ledgerGap_19 ?_
  refine lv_iconst (v := (4 : Int32)) hx hb dX8_ledgerGap_22 (by decide) ?_
  obtain ⟨v7, ev7, hq⟩ := b_s hq
  refine fa_li hx hb hI ev7 dX8_ledgerGap_23 ?_
  refine lv_isub hx hb dX8_ledgerGap_24 ?_
  refine lv_aload_n hx hb dX8_ledgerGap_25 rfl (lv_at hl 0 rfl) ?_
  obtain ⟨v8, ev8, hq⟩ := b_s hq
  refine gr_i (g_runV (As := []) (rest := [.int ((v3 + v5) - v7)]) (ci := 10) hC (c_X8_allPoints l V g D cT f1 n a0 v8 ev8) k_X8_allPoints m_1523 rfl rfl ⟨Nat.le_of_ble_eq_true rfl, Nat.le_of_ble_eq_true rfl⟩ hI rfl rfl (h_me_eq ev8).1 rfl hl.1 rfl (Nat.le_of_ble_eq_true rfl) dX8_ledgerGap_26 ⟨by decide, by decide⟩) hI (fun H locs hI => ?_)
  refine lv_isub hx hb dX8_ledgerGap_29 ?_
  obtain ⟨v9, ev9, hq⟩ := b_s hq
  refine gr_i (g_runS (As := [.int (((v3 + v5) - v7) - v8)]) (rest := []) hC (c_X8_sizeOf l V g D cT f1 n (((v3 + v5) - v7) - v8) v9 ev9) k_X8_sizeOf m_1680 rfl rfl ⟨Nat.le_of_ble_eq_true rfl, Nat.le_of_ble_eq_true rfl⟩ hI rfl hl.1 rfl (Nat.le_of_ble_eq_true rfl) dX8_ledgerGap_30 ⟨by decide, by decide⟩) hI (fun H locs hI => ?_)
  exact ge_Wi hx hb hlocks hr rfl hI (congrArg (fun z => z.1) (Option.some.inj hq)) (congrArg (fun z => z.2) (Option.some.inj hq)) dX8_ledgerGap_33

def p_X8_doRemove_l28 (V : Nat → Nat) (g : GH) (K52 : Nat → GH → Option (Int32 × GH)) : Nat → Nat → Int32 → GH → Option (Int32 × GH)
  | 0, _, _, _ => none
  | N + 1, x0, x2, f =>
    (h_gr f x0 10 5).bind fun v7 =>
    (h_li f v7 0 (1 : Int32)).bind fun v8 =>
    (if v8 ≤ x2 then
      K52 x0 f
    else
      (p_X8_copyCoast V g f x0 x2 (x2 - (1 : Int32))).bind fun v10 =>
      p_X8_doRemove_l28 V g K52 N x0 (x2 + (1 : Int32)) v10)
def p_X8_doRemove (V : Nat → Nat) (g f : GH) (a0 : Nat) (a1 : Int32) : Option (Int32 × GH) :=
  h_me f a0 10 <|
  (p_X8_isCoast V g f a0 a1).bind fun v1 =>
  (if v1 = (0 : Int32) then
    some ((1 : Int32), f)
  else
    (h_gr f a0 10 5).bind fun v3 =>
    (h_li f v3 0 (4 : Int32)).bind fun v4 =>
    (p_X8_count V g f a0 a1).bind fun v5 =>
    (h_si f v3 0 (4 : Int32) (v4 + v5)).bind fun f6 =>
    p_X8_doRemove_l28 V g (fun x0 f =>
      (h_gr f x0 10 5).bind fun v11 =>
      (h_li f v11 0 (1 : Int32)).bind fun v12 =>
      (h_si f v11 0 (1 : Int32) (v12 - (1 : Int32))).bind fun f13 =>
      some ((0 : Int32), f13)) FU a0 (a1 + (1 : Int32)) f6)
abbrev rm_X8_doRemove : Room := { frames := 4, cells := 0, slots := 0, locals := 163 }
theorem k_X8_doRemove : g_CV yX8_doRemove cX8_doRemove 3 (some .int) 1 := ⟨⟨m_1950, m_14, by decide +kernel⟩, m_1949, ms_60⟩
set_option maxHeartbeats 4000000 in
set_option maxRecDepth 100000 in
theorem c_X8_doRemove (l : Launch) (V : Nat → Nat) (g : GH) (D : va_G) (cT : Nat → ClassId) (f : GH) (n : Nat) (a0 : Nat) (a1 : Int32) (o : Int32 × GH) (hq : p_X8_doRemove V g f a0 a1 = some o) : Met l yX8_doRemove (Cond.code yX8_doRemove cX8_doRemove 3 (some .int) :: g_B) rm_X8_doRemove (va_Pc [.ref a0, .int a1] (g_I V g D cT f n)) (g_Wi V D cT o.1 o.2 n) 0 0 (g_A V) := by
  refine g_begin (own := RX8) [.ref a0, .int a1] [(0, .ref a0), (1, .int a1)] (g_A V) (fun _ h => h) (by decide) rfl (Nat.le_of_ble_eq_true rfl) rfl ?_
  intro p e s m args below meth c hx hb hr hlocks hin hC hI ls hl
  obtain ⟨hx, hb, hml, hown, hB⟩ := id hC
  obtain ⟨H, hH⟩ : ∃ H, H = s.heap := ⟨_, rfl⟩
  obtain ⟨locs, hlocs⟩ : ∃ L : List Loc, L = [] := ⟨_, rfl⟩
  rw [← hH, ← hlocs] at hI ⊢
  clear hH hlocs
  unfold p_X8_doRemove at hq
  replace hq := (h_me_eq hq).2
  refine lv_aload_n hx hb dX8_doRemove_0 rfl (lv_at hl 0 rfl) ?_
  refine lv_iload_n hx hb dX8_doRemove_1 rfl (lv_at hl 1 rfl) ?_
  obtain ⟨v1, ev1, hq⟩ := b_s hq
  refine gr_i (g_runV (As := [.int a1]) (rest := []) (ci := 10) hC (c_X8_isCoast l V g D cT f n a0 a1 v1 ev1) k_X8_isCoast m_1630 rfl rfl ⟨Nat.le_of_ble_eq_true rfl, Nat.le_of_ble_eq_true rfl⟩ hI rfl rfl (h_me_eq ev1).1 rfl hl.1 rfl (Nat.le_of_ble_eq_true rfl) dX8_doRemove_2 ⟨by decide, by decide⟩) hI (fun H locs hI => ?_)
  refine lv_if_ne (tgt := 10) hx hb dX8_doRemove_5 (by decide) (fun c2 => ?_) (fun c2 => ?_)
  · replace hq := i_f c2 hq
    refine lv_aload_n hx hb dX8_doRemove_10 rfl (lv_at hl 0 rfl) ?_
    obtain ⟨v3, ev3, hq⟩ := b_s hq
    refine fa_gr (own := RX8) (ref := "CoastlineRulerModel") (k := 5) hx hb hB inB_RX8 hown hI rfl (by decide) m_1536 (fun _ h9 => h9) ev3 dX8_doRemove_11 ?_
    refine lv_iconst (v := (4 : Int32)) hx hb dX8_doRemove_14 (by decide) ?_
    refine lv_dup2_11 hx hb dX8_doRemove_15 rfl rfl ?_
    obtain ⟨v4, ev4, hq⟩ := b_s hq
    refine fa_li hx hb hI ev4 dX8_doRemove_16 ?_
    refine lv_aload_n hx hb dX8_doRemove_17 rfl (lv_at hl 0 rfl) ?_
    refine lv_iload_n hx hb dX8_doRemove_18 rfl (lv_at hl 1 rfl) ?_
    obtain ⟨v5, ev5, hq⟩ := b_s hq
    refine gr_i (g_runV (As := [.int a1]) (rest := [.int v4, .int (4 : Int32), .ref v3]) (ci := 10) hC (c_X8_count l V g D cT f n a0 a1 v5 ev5) k_X8_count m_1527 rfl rfl ⟨Nat.le_of_ble_eq_true rfl, Nat.le_of_ble_eq_true rfl⟩ hI rfl rfl (h_me_eq ev5).1 rfl hl.1 rfl (Nat.le_of_ble_eq_true rfl) dX8_doRemove_19 ⟨by decide, by decide⟩) hI (fun H locs hI => ?_)
    refine lv_iadd hx hb dX8_doRemove_22 ?_
    obtain ⟨f6, ef6, hq⟩ := b_s hq
    refine fa_si hx hb hI ef6 dX8_doRemove_23 (fun H locs hI => ?_)
    refine lv_iload_n hx hb dX8_doRemove_24 rfl (lv_at hl 1 rfl) ?_
    refine lv_iconst (v := (1 : Int32)) hx hb dX8_doRemove_25 (by decide) ?_
    refine lv_iadd hx hb dX8_doRemove_26 ?_
    refine lv_istore_n (lv' := [(2, .int (a1 + (1 : Int32))), (0, .ref a0), (1, .int a1)]) hx hb dX8_doRemove_27 rfl hl (by decide) rfl (fun ls hl => ?_)
    have hl28 : ∀ (K52 : Nat → GH → Option (Int32 × GH)) (hK52 : ∀ (x0 : Nat) (f : GH) (H : Heap) (locs : List Loc) (ls : Array Slot), g_at (g_A V) V g D cT f n s H locs → lv_has ls 3 [(0, .ref x0)] → K52 x0 f = some o → W p l e rm_X8_doRemove s m args below meth c H locs 0 0 (MQ below (g_Wi V D cT o.1 o.2 n) args s 0 0 (g_A V)) (F0 m 52 ls [])) (N : Nat) (x0 : Nat) (x2 : Int32) (f : GH) (H : Heap) (locs : List Loc) (ls : Array Slot), g_at (g_A V) V g D cT f n s H locs → lv_has ls 3 [(0, .ref x0), (2, .int x2)] → p_X8_doRemove_l28 V g K52 N x0 x2 f = some o → W p l e rm_X8_doRemove s m args below meth c H locs 0 0 (MQ below (g_Wi V D cT o.1 o.2 n) args s 0 0 (g_A V)) (F0 m 28 ls []) := by
      intro K52 hK52 N
      induction N with
      | zero =>
        intro x0 x2 f H locs ls hI hl hq
        rw [p_X8_doRemove_l28] at hq
        cases hq
      | succ N ih =>
        intro x0 x2 f H locs ls hI hl hq
        rw [p_X8_doRemove_l28] at hq
        refine lv_iload_n hx hb dX8_doRemove_28 rfl (lv_at hl 1 rfl) ?_
        refine lv_aload_n hx hb dX8_doRemove_29 rfl (lv_at hl 0 rfl) ?_
        obtain ⟨v7, ev7, hq⟩ := b_s hq
        refine fa_gr (own := RX8) (ref := "CoastlineRulerModel") (k := 5) hx hb hB inB_RX8 hown hI rfl (by decide) m_1536 (fun _ h9 => h9) ev7 dX8_doRemove_30 ?_
        refine lv_iconst (v := (1 : Int32)) hx hb dX8_doRemove_33 (by decide) ?_
        obtain ⟨v8, ev8, hq⟩ := b_s hq
        refine fa_li hx hb hI ev8 dX8_doRemove_34 ?_
        refine lv_icmp_ge (tgt := 52) hx hb dX8_doRemove_35 (by decide) (fun c9 => ?_) (fun c9 => ?_)
        · replace hq := i_t c9 hq
          exact hK52 x0 f H locs ls hI (lv_sub hl [0] rfl) hq
        · replace hq := i_f c9 hq
          refine lv_aload_n hx hb dX8_doRemove_38 rfl (lv_at hl 0 rfl) ?_
          refine lv_iload_n hx hb dX8_doRemove_39 rfl (lv_at hl 1 rfl) ?_
          refine lv_iload_n hx hb dX8_doRemove_40 rfl (lv_at hl 1 rfl) ?_
          refine lv_iconst (v := (1 : Int32)) hx hb dX8_doRemove_41 (by decide) ?_
          refine lv_isub hx hb dX8_doRemove_42 ?_
          obtain ⟨v10, ev10, hq⟩ := b_s hq
          refine gw_v (g_runV (As := [.int x2, .int (x2 - (1 : Int32))]) (rest := []) (ci := 10) hC (c_X8_copyCoast l V g D cT f n x0 x2 (x2 - (1 : Int32)) v10 ev10) k_X8_copyCoast m_1904 rfl rfl ⟨Nat.le_of_ble_eq_true rfl, Nat.le_of_ble_eq_true rfl⟩ hI rfl rfl (h_me_eq ev10).1 rfl hl.1 rfl (Nat.le_of_ble_eq_true rfl) dX8_doRemove_43 ⟨by decide, by decide⟩) hI (fun H locs hI => ?_)
          refine lv_iinc (v := x2 + (1 : Int32)) (lv' := [(2, .int (x2 + (1 : Int32))), (0, .ref x0)]) hx hb dX8_doRemove_46 hl (k := 1) rfl rfl (by decide) rfl (fun ls hl => ?_)
          refine lv_goto (tgt := 28) hx hb dX8_doRemove_49 (by decide) ?_
          exact ih x0 (x2 + (1 : Int32)) v10 H locs ls hI (lv_sub hl [1, 0] rfl) hq
    refine hl28 _ ?_ FU a0 (a1 + (1 : Int32)) f6 H locs ls hI (lv_sub hl [1, 0] rfl) hq
    · intro x0 f H locs ls hI hl hq
      refine lv_aload_n hx hb dX8_doRemove_52 rfl (lv_at hl 0 rfl) ?_
      obtain ⟨v11, ev11, hq⟩ := b_s hq
      refine fa_gr (own := RX8) (ref := "CoastlineRulerModel") (k := 5) hx hb hB inB_RX8 hown hI rfl (by decide) m_1536 (fun _ h9 => h9) ev11 dX8_doRemove_53 ?_
      refine lv_iconst (v := (1 : Int32)) hx hb dX8_doRemove_56 (by decide) ?_
      refine lv_dup2_11 hx hb dX8_doRemove_57 rfl rfl ?_
      obtain ⟨v12, ev12, hq⟩ := b_s hq
      refine fa_li hx hb hI ev12 dX8_doRemove_58 ?_
      refine lv_iconst (v := (1 : Int32)) hx hb dX8_doRemove_59 (by decide) ?_
      refine lv_isub hx hb dX8_doRemove_60 ?_
      obtain ⟨f13, ef13, hq⟩ := b_s hq
      refine fa_si hx hb hI ef13 dX8_doRemove_61 (fun H locs hI => ?_)
      refine lv_iconst (v := (0 : Int32)) hx hb dX8_doRemove_62 (by decide) ?_
      exact ge_Wi hx hb hlocks hr rfl hI (congrArg (fun z => z.1) (Option.some.inj hq)) (congrArg (fun z => z.2) (Option.some.inj hq)) dX8_doRemove_63
  · replace hq := i_t c2 hq
    refine lv_iconst (v := (1 : Int32)) hx hb dX8_doRemove_8 (by decide) ?_
    exact ge_Wi hx hb hlocks hr rfl hI (congrArg (fun z => z.1) (Option.some.inj hq)) (congrArg (fun z => z.2) (Option.some.inj hq)) dX8_doRemove_9

def p_X8_doFold (V : Nat → Nat) (g f : GH) (a0 : Nat) (a1 : Int32) (a2 : Int32) : Option (Int32 × GH) :=
  h_me f a0 10 <|
  (p_X8_isCoast V g f a0 a1).bind fun v1 =>
  (if v1 = (0 : Int32) then
    some ((1 : Int32), f)
  else
    (p_X8_layFolded V g f a0 a1 a2).bind fun v3 =>
    (if v3.1 = (0 : Int32) then
      (h_gr v3.2 a0 10 5).bind fun v5 =>
      (h_li v3.2 v5 0 (3 : Int32)).bind fun v6 =>
      (p_X8_count V g v3.2 a0 (6 : Int32)).bind fun v7 =>
      (p_X8_count V g v3.2 a0 a1).bind fun v8 =>
      (h_si v3.2 v5 0 (3 : Int32) (v6 + (v7 - v8))).bind fun f9 =>
      (p_X8_copyCoast V g f9 a0 (6 : Int32) a1).bind fun v10 =>
      some ((0 : Int32), v10)
    else
      some ((3 : Int32), v3.2)))
abbrev rm_X8_doFold : Room := { frames := 7, cells := 0, slots := 0, locals := 238 }
theorem k_X8_doFold : g_CV yX8_doFold cX8_doFold 3 (some .int) 2 := ⟨⟨m_1966, m_14, by decide +kernel⟩, m_1965, ms_63⟩
set_option maxHeartbeats 4000000 in
set_option maxRecDepth 100000 in
theorem c_X8_doFold (l : Launch) (V : Nat → Nat) (g : GH) (D : va_G) (cT : Nat → ClassId) (f : GH) (n : Nat) (a0 : Nat) (a1 : Int32) (a2 : Int32) (o : Int32 × GH) (hq : p_X8_doFold V g f a0 a1 a2 = some o) : Met l yX8_doFold (Cond.code yX8_doFold cX8_doFold 3 (some .int) :: g_B) rm_X8_doFold (va_Pc [.ref a0, .int a1, .int a2] (g_I V g D cT f n)) (g_Wi V D cT o.1 o.2 n) 0 0 (g_A V) := by
  refine g_begin (own := RX8) [.ref a0, .int a1, .int a2] [(0, .ref a0), (1, .int a1), (2, .int a2)] (g_A V) (fun _ h => h) (by decide) rfl (Nat.le_of_ble_eq_true rfl) rfl ?_
  intro p e s m args below meth c hx hb hr hlocks hin hC hI ls hl
  obtain ⟨hx, hb, hml, hown, hB⟩ := id hC
  obtain ⟨H, hH⟩ : ∃ H, H = s.heap := ⟨_, rfl⟩
  obtain ⟨locs, hlocs⟩ : ∃ L : List Loc, L = [] := ⟨_, rfl⟩
  rw [← hH, ← hlocs] at hI ⊢
  clear hH hlocs
  unfold p_X8_doFold at hq
  replace hq := (h_me_eq hq).2
  refine lv_aload_n hx hb dX8_doFold_0 rfl (lv_at hl 0 rfl) ?_
  refine lv_iload_n hx hb dX8_doFold_1 rfl (lv_at hl 1 rfl) ?_
  obtain ⟨v1, ev1, hq⟩ := b_s hq
  refine gr_i (g_runV (As := [.int a1]) (rest := []) (ci := 10) hC (c_X8_isCoast l V g D cT f n a0 a1 v1 ev1) k_X8_isCoast m_1630 rfl rfl ⟨Nat.le_of_ble_eq_true rfl, Nat.le_of_ble_eq_true rfl⟩ hI rfl rfl (h_me_eq ev1).1 rfl hl.1 rfl (Nat.le_of_ble_eq_true rfl) dX8_doFold_2 ⟨by decide, by decide⟩) hI (fun H locs hI => ?_)
  refine lv_if_ne (tgt := 10) hx hb dX8_doFold_5 (by decide) (fun c2 => ?_) (fun c2 => ?_)
  · replace hq := i_f c2 hq
    refine lv_aload_n hx hb dX8_doFold_10 rfl (lv_at hl 0 rfl) ?_
    refine lv_iload_n hx hb dX8_doFold_11 rfl (lv_at hl 1 rfl) ?_
    refine lv_iload_n hx hb dX8_doFold_12 rfl (lv_at hl 2 rfl) ?_
    obtain ⟨v3, ev3, hq⟩ := b_s hq
    refine gw_i (g_runV (As := [.int a1, .int a2]) (rest := []) (ci := 10) hC (c_X8_layFolded l V g D cT f n a0 a1 a2 v3 ev3) k_X8_layFolded m_1872 rfl rfl ⟨Nat.le_of_ble_eq_true rfl, Nat.le_of_ble_eq_true rfl⟩ hI rfl rfl (h_me_eq ev3).1 rfl hl.1 rfl (Nat.le_of_ble_eq_true rfl) dX8_doFold_13 ⟨by decide, by decide⟩) hI (fun H locs hI => ?_)
    refine lv_if_eq (tgt := 21) hx hb dX8_doFold_16 (by decide) (fun c4 => ?_) (fun c4 => ?_)
    · replace hq := i_t c4 hq
      refine lv_aload_n hx hb dX8_doFold_21 rfl (lv_at hl 0 rfl) ?_
      obtain ⟨v5, ev5, hq⟩ := b_s hq
      refine fa_gr (own := RX8) (ref := "CoastlineRulerModel") (k := 5) hx hb hB inB_RX8 hown hI rfl (by decide) m_1536 (fun _ h9 => h9) ev5 dX8_doFold_22 ?_
      refine lv_iconst (v := (3 : Int32)) hx hb dX8_doFold_25 (by decide) ?_
      refine lv_dup2_11 hx hb dX8_doFold_26 rfl rfl ?_
      obtain ⟨v6, ev6, hq⟩ := b_s hq
      refine fa_li hx hb hI ev6 dX8_doFold_27 ?_
      refine lv_aload_n hx hb dX8_doFold_28 rfl (lv_at hl 0 rfl) ?_
      refine lv_bipush (v := (6 : Int32)) hx hb dX8_doFold_29 (by decide) ?_
      obtain ⟨v7, ev7, hq⟩ := b_s hq
      refine gr_i (g_runV (As := [.int (6 : Int32)]) (rest := [.int v6, .int (3 : Int32), .ref v5]) (ci := 10) hC (c_X8_count l V g D cT v3.2 n a0 (6 : Int32) v7 ev7) k_X8_count m_1527 rfl rfl ⟨Nat.le_of_ble_eq_true rfl, Nat.le_of_ble_eq_true rfl⟩ hI rfl rfl (h_me_eq ev7).1 rfl hl.1 rfl (Nat.le_of_ble_eq_true rfl) dX8_doFold_31 ⟨by decide, by decide⟩) hI (fun H locs hI => ?_)
      refine lv_aload_n hx hb dX8_doFold_34 rfl (lv_at hl 0 rfl) ?_
      refine lv_iload_n hx hb dX8_doFold_35 rfl (lv_at hl 1 rfl) ?_
      obtain ⟨v8, ev8, hq⟩ := b_s hq
      refine gr_i (g_runV (As := [.int a1]) (rest := [.int v7, .int v6, .int (3 : Int32), .ref v5]) (ci := 10) hC (c_X8_count l V g D cT v3.2 n a0 a1 v8 ev8) k_X8_count m_1527 rfl rfl ⟨Nat.le_of_ble_eq_true rfl, Nat.le_of_ble_eq_true rfl⟩ hI rfl rfl (h_me_eq ev8).1 rfl hl.1 rfl (Nat.le_of_ble_eq_true rfl) dX8_doFold_36 ⟨by decide, by decide⟩) hI (fun H locs hI => ?_)
      refine lv_isub hx hb dX8_doFold_39 ?_
      refine lv_iadd hx hb dX8_doFold_40 ?_
      obtain ⟨f9, ef9, hq⟩ := b_s hq
      refine fa_si hx hb hI ef9 dX8_doFold_41 (fun H locs hI => ?_)
      refine lv_aload_n hx hb dX8_doFold_42 rfl (lv_at hl 0 rfl) ?_
      refine lv_bipush (v := (6 : Int32)) hx hb dX8_doFold_43 (by decide) ?_
      refine lv_iload_n hx hb dX8_doFold_45 rfl (lv_at hl 1 rfl) ?_
      obtain ⟨v10, ev10, hq⟩ := b_s hq
      refine gw_v (g_runV (As := [.int (6 : Int32), .int a1]) (rest := []) (ci := 10) hC (c_X8_copyCoast l V g D cT f9 n a0 (6 : Int32) a1 v10 ev10) k_X8_copyCoast m_1904 rfl rfl ⟨Nat.le_of_ble_eq_true rfl, Nat.le_of_ble_eq_true rfl⟩ hI rfl rfl (h_me_eq ev10).1 rfl hl.1 rfl (Nat.le_of_ble_eq_true rfl) dX8_doFold_46 ⟨by decide, by decide⟩) hI (fun H locs hI => ?_)
      refine lv_iconst (v := (0 : Int32)) hx hb dX8_doFold_49 (by decide) ?_
      exact ge_Wi hx hb hlocks hr rfl hI (congrArg (fun z => z.1) (Option.some.inj hq)) (congrArg (fun z => z.2) (Option.some.inj hq)) dX8_doFold_50
    · replace hq := i_f c4 hq
      refine lv_iconst (v := (3 : Int32)) hx hb dX8_doFold_19 (by decide) ?_
      exact ge_Wi hx hb hlocks hr rfl hI (congrArg (fun z => z.1) (Option.some.inj hq)) (congrArg (fun z => z.2) (Option.some.inj hq)) dX8_doFold_20
  · replace hq := i_t c2 hq
    refine lv_iconst (v := (1 : Int32)) hx hb dX8_doFold_8 (by decide) ?_
    exact ge_Wi hx hb hlocks hr rfl hI (congrArg (fun z => z.1) (Option.some.inj hq)) (congrArg (fun z => z.2) (Option.some.inj hq)) dX8_doFold_9

def p_X8_doUnfold_l49 (V : Nat → Nat) (g : GH) (K82 : Nat → Int32 → Int32 → GH → Option (Int32 × GH)) : Nat → Nat → Int32 → Int32 → Int32 → GH → Option (Int32 × GH)
  | 0, _, _, _, _, _ => none
  | N + 1, x0, x1, x2, x3, f =>
    (if x2 ≤ x3 then
      K82 x0 x1 x2 f
    else
      (p_X8_x V g f x0 x1 ((2 : Int32) * x3)).bind fun v11 =>
      (p_X8_y V g f x0 x1 ((2 : Int32) * x3)).bind fun v12 =>
      (p_X8_layPoint V g f x0 x1 x3 v11 v12).bind fun v13 =>
      p_X8_doUnfold_l49 V g K82 N x0 x1 x2 (x3 + (1 : Int32)) v13)
def p_X8_doUnfold (V : Nat → Nat) (g f : GH) (a0 : Nat) (a1 : Int32) : Option (Int32 × GH) :=
  h_me f a0 10 <|
  (p_X8_isCoast V g f a0 a1).bind fun v1 =>
  (if v1 = (0 : Int32) then
    some ((1 : Int32), f)
  else
    (p_X8_count V g f a0 a1).bind fun v3 =>
    (p_X8_fewest V g f a0 a1).bind fun v4 =>
    (if v4 ≤ ((v3 + (1 : Int32)) / (2 : Int32)) then
      (h_gr f a0 10 5).bind fun v6 =>
      (h_li f v6 0 (4 : Int32)).bind fun v7 =>
      (p_X8_count V g f a0 a1).bind fun v8 =>
      (h_si f v6 0 (4 : Int32) (v7 + (v8 - ((v3 + (1 : Int32)) / (2 : Int32))))).bind fun f9 =>
      p_X8_doUnfold_l49 V g (fun x0 x1 x2 f =>
        (h_gr f x0 10 5).bind fun v14 =>
        (p_X8_at V g f x1).bind fun v15 =>
        (h_si f v14 0 (v15 + (1 : Int32)) x2).bind fun f16 =>
        some ((0 : Int32), f16)) FU a0 a1 ((v3 + (1 : Int32)) / (2 : Int32)) (0 : Int32) f9
    else
      some ((2 : Int32), f)))
abbrev rm_X8_doUnfold : Room := { frames := 5, cells := 0, slots := 0, locals := 182 }
theorem k_X8_doUnfold : g_CV yX8_doUnfold cX8_doUnfold 4 (some .int) 1 := ⟨⟨m_1974, m_14, by decide +kernel⟩, m_1973, ms_64⟩
set_option maxHeartbeats 4000000 in
set_option maxRecDepth 100000 in
theorem c_X8_doUnfold (l : Launch) (V : Nat → Nat) (g : GH) (D : va_G) (cT : Nat → ClassId) (f : GH) (n : Nat) (a0 : Nat) (a1 : Int32) (o : Int32 × GH) (hq : p_X8_doUnfold V g f a0 a1 = some o) : Met l yX8_doUnfold (Cond.code yX8_doUnfold cX8_doUnfold 4 (some .int) :: g_B) rm_X8_doUnfold (va_Pc [.ref a0, .int a1] (g_I V g D cT f n)) (g_Wi V D cT o.1 o.2 n) 0 0 (g_A V) := by
  refine g_begin (own := RX8) [.ref a0, .int a1] [(0, .ref a0), (1, .int a1)] (g_A V) (fun _ h => h) (by decide) rfl (Nat.le_of_ble_eq_true rfl) rfl ?_
  intro p e s m args below meth c hx hb hr hlocks hin hC hI ls hl
  obtain ⟨hx, hb, hml, hown, hB⟩ := id hC
  obtain ⟨H, hH⟩ : ∃ H, H = s.heap := ⟨_, rfl⟩
  obtain ⟨locs, hlocs⟩ : ∃ L : List Loc, L = [] := ⟨_, rfl⟩
  rw [← hH, ← hlocs] at hI ⊢
  clear hH hlocs
  unfold p_X8_doUnfold at hq
  replace hq := (h_me_eq hq).2
  refine lv_aload_n hx hb dX8_doUnfold_0 rfl (lv_at hl 0 rfl) ?_
  refine lv_iload_n hx hb dX8_doUnfold_1 rfl (lv_at hl 1 rfl) ?_
  obtain ⟨v1, ev1, hq⟩ := b_s hq
  refine gr_i (g_runV (As := [.int a1]) (rest := []) (ci := 10) hC (c_X8_isCoast l V g D cT f n a0 a1 v1 ev1) k_X8_isCoast m_1630 rfl rfl ⟨Nat.le_of_ble_eq_true rfl, Nat.le_of_ble_eq_true rfl⟩ hI rfl rfl (h_me_eq ev1).1 rfl hl.1 rfl (Nat.le_of_ble_eq_true rfl) dX8_doUnfold_2 ⟨by decide, by decide⟩) hI (fun H locs hI => ?_)
  refine lv_if_ne (tgt := 10) hx hb dX8_doUnfold_5 (by decide) (fun c2 => ?_) (fun c2 => ?_)
  · replace hq := i_f c2 hq
    refine lv_aload_n hx hb dX8_doUnfold_10 rfl (lv_at hl 0 rfl) ?_
    refine lv_iload_n hx hb dX8_doUnfold_11 rfl (lv_at hl 1 rfl) ?_
    obtain ⟨v3, ev3, hq⟩ := b_s hq
    refine gr_i (g_runV (As := [.int a1]) (rest := []) (ci := 10) hC (c_X8_count l V g D cT f n a0 a1 v3 ev3) k_X8_count m_1527 rfl rfl ⟨Nat.le_of_ble_eq_true rfl, Nat.le_of_ble_eq_true rfl⟩ hI rfl rfl (h_me_eq ev3).1 rfl hl.1 rfl (Nat.le_of_ble_eq_true rfl) dX8_doUnfold_12 ⟨by decide, by decide⟩) hI (fun H locs hI => ?_)
    refine lv_iconst (v := (1 : Int32)) hx hb dX8_doUnfold_15 (by decide) ?_
    refine lv_iadd hx hb dX8_doUnfold_16 ?_
    refine lv_iconst (v := (2 : Int32)) hx hb dX8_doUnfold_17 (by decide) ?_
    refine lv_idiv hx hb dX8_doUnfold_18 (by decide) ?_
    refine lv_istore_n (lv' := [(2, .int ((v3 + (1 : Int32)) / (2 : Int32))), (0, .ref a0), (1, .int a1)]) hx hb dX8_doUnfold_19 rfl hl (by decide) rfl (fun ls hl => ?_)
    refine lv_iload_n hx hb dX8_doUnfold_20 rfl (lv_at hl 0 rfl) ?_
    refine lv_aload_n hx hb dX8_doUnfold_21 rfl (lv_at hl 1 rfl) ?_
    refine lv_iload_n hx hb dX8_doUnfold_22 rfl (lv_at hl 2 rfl) ?_
    obtain ⟨v4, ev4, hq⟩ := b_s hq
    refine gr_i (g_runV (As := [.int a1]) (rest := [.int ((v3 + (1 : Int32)) / (2 : Int32))]) (ci := 10) hC (c_X8_fewest l V g D cT f n a0 a1 v4 ev4) k_X8_fewest m_1900 rfl rfl ⟨Nat.le_of_ble_eq_true rfl, Nat.le_of_ble_eq_true rfl⟩ hI rfl rfl (h_me_eq ev4).1 rfl hl.1 rfl (Nat.le_of_ble_eq_true rfl) dX8_doUnfold_23 ⟨by decide, by decide⟩) hI (fun H locs hI => ?_)
    refine lv_icmp_ge (tgt := 31) hx hb dX8_doUnfold_26 (by decide) (fun c5 => ?_) (fun c5 => ?_)
    · replace hq := i_t c5 hq
      refine lv_aload_n hx hb dX8_doUnfold_31 rfl (lv_at hl 1 rfl) ?_
      obtain ⟨v6, ev6, hq⟩ := b_s hq
      refine fa_gr (own := RX8) (ref := "CoastlineRulerModel") (k := 5) hx hb hB inB_RX8 hown hI rfl (by decide) m_1536 (fun _ h9 => h9) ev6 dX8_doUnfold_32 ?_
      refine lv_iconst (v := (4 : Int32)) hx hb dX8_doUnfold_35 (by decide) ?_
      refine lv_dup2_11 hx hb dX8_doUnfold_36 rfl rfl ?_
      obtain ⟨v7, ev7, hq⟩ := b_s hq
      refine fa_li hx hb hI ev7 dX8_doUnfold_37 ?_
      refine lv_aload_n hx hb dX8_doUnfold_38 rfl (lv_at hl 1 rfl) ?_
      refine lv_iload_n hx hb dX8_doUnfold_39 rfl (lv_at hl 2 rfl) ?_
      obtain ⟨v8, ev8, hq⟩ := b_s hq
      refine gr_i (g_runV (As := [.int a1]) (rest := [.int v7, .int (4 : Int32), .ref v6]) (ci := 10) hC (c_X8_count l V g D cT f n a0 a1 v8 ev8) k_X8_count m_1527 rfl rfl ⟨Nat.le_of_ble_eq_true rfl, Nat.le_of_ble_eq_true rfl⟩ hI rfl rfl (h_me_eq ev8).1 rfl hl.1 rfl (Nat.le_of_ble_eq_true rfl) dX8_doUnfold_40 ⟨by decide, by decide⟩) hI (fun H locs hI => ?_)
      refine lv_iload_n hx hb dX8_doUnfold_43 rfl (lv_at hl 0 rfl) ?_
      refine lv_isub hx hb dX8_doUnfold_44 ?_
      refine lv_iadd hx hb dX8_doUnfold_45 ?_
      obtain ⟨f9, ef9, hq⟩ := b_s hq
      refine fa_si hx hb hI ef9 dX8_doUnfold_46 (fun H locs hI => ?_)
      refine lv_iconst (v := (0 : Int32)) hx hb dX8_doUnfold_47 (by decide) ?_
      refine lv_istore_n (lv' := [(3, .int (0 : Int32)), (2, .int ((v3 + (1 : Int32)) / (2 : Int32))), (0, .ref a0), (1, .int a1)]) hx hb dX8_doUnfold_48 rfl hl (by decide) rfl (fun ls hl => ?_)
      have hl49 : ∀ (K82 : Nat → Int32 → Int32 → GH → Option (Int32 × GH)) (hK82 : ∀ (x0 : Nat) (x1 : Int32) (x2 : Int32) (f : GH) (H : Heap) (locs : List Loc) (ls : Array Slot), g_at (g_A V) V g D cT f n s H locs → lv_has ls 4 [(0, .ref x0), (1, .int x1), (2, .int x2)] → K82 x0 x1 x2 f = some o → W p l e rm_X8_doUnfold s m args below meth c H locs 0 0 (MQ below (g_Wi V D cT o.1 o.2 n) args s 0 0 (g_A V)) (F0 m 82 ls [])) (N : Nat) (x0 : Nat) (x1 : Int32) (x2 : Int32) (x3 : Int32) (f : GH) (H : Heap) (locs : List Loc) (ls : Array Slot), g_at (g_A V) V g D cT f n s H locs → lv_has ls 4 [(0, .ref x0), (1, .int x1), (2, .int x2), (3, .int x3)] → p_X8_doUnfold_l49 V g K82 N x0 x1 x2 x3 f = some o → W p l e rm_X8_doUnfold s m args below meth c H locs 0 0 (MQ below (g_Wi V D cT o.1 o.2 n) args s 0 0 (g_A V)) (F0 m 49 ls []) := by
        intro K82 hK82 N
        induction N with
        | zero =>
          intro x0 x1 x2 x3 f H locs ls hI hl hq
          rw [p_X8_doUnfold_l49] at hq
          cases hq
        | succ N ih =>
          intro x0 x1 x2 x3 f H locs ls hI hl hq
          rw [p_X8_doUnfold_l49] at hq
          refine lv_iload_n hx hb dX8_doUnfold_49 rfl (lv_at hl 3 rfl) ?_
          refine lv_iload_n hx hb dX8_doUnfold_50 rfl (lv_at hl 2 rfl) ?_
          refine lv_icmp_ge (tgt := 82) hx hb dX8_doUnfold_51 (by decide) (fun c10 => ?_) (fun c10 => ?_)
          · replace hq := i_t c10 hq
            exact hK82 x0 x1 x2 f H locs ls hI (lv_sub hl [0, 1, 2] rfl) hq
          · replace hq := i_f c10 hq
            refine lv_aload_n hx hb dX8_doUnfold_54 rfl (lv_at hl 0 rfl) ?_
            refine lv_iload_n hx hb dX8_doUnfold_55 rfl (lv_at hl 1 rfl) ?_
            refine lv_iload_n hx hb dX8_doUnfold_56 rfl (lv_at hl 3 rfl) ?_
            refine lv_aload_n hx hb dX8_doUnfold_57 rfl (lv_at hl 0 rfl) ?_
            refine lv_iload_n hx hb dX8_doUnfold_58 rfl (lv_at hl 1 rfl) ?_
            refine lv_iconst (v := (2 : Int32)) hx hb dX8_doUnfold_59 (by decide) ?_
            refine lv_iload_n hx hb dX8_doUnfold_60 rfl (lv_at hl 3 rfl) ?_
            refine lv_imul hx hb dX8_doUnfold_61 ?_
            obtain ⟨v11, ev11, hq⟩ := b_s hq
            refine gr_i (g_runV (As := [.int x1, .int ((2 : Int32) * x3)]) (rest := [.int x3, .int x1, .ref x0]) (ci := 10) hC (c_X8_x l V g D cT f n x0 x1 ((2 : Int32) * x3) v11 ev11) k_X8_x m_1657 rfl rfl ⟨Nat.le_of_ble_eq_true rfl, Nat.le_of_ble_eq_true rfl⟩ hI rfl rfl (h_me_eq ev11).1 rfl hl.1 rfl (Nat.le_of_ble_eq_true rfl) dX8_doUnfold_62 ⟨by decide, by decide⟩) hI (fun H locs hI => ?_)
            refine lv_aload_n hx hb dX8_doUnfold_65 rfl (lv_at hl 0 rfl) ?_
            refine lv_iload_n hx hb dX8_doUnfold_66 rfl (lv_at hl 1 rfl) ?_
            refine lv_iconst (v := (2 : Int32)) hx hb dX8_doUnfold_67 (by decide) ?_
            refine lv_iload_n hx hb dX8_doUnfold_68 rfl (lv_at hl 3 rfl) ?_
            refine lv_imul hx hb dX8_doUnfold_69 ?_
            obtain ⟨v12, ev12, hq⟩ := b_s hq
            refine gr_i (g_runV (As := [.int x1, .int ((2 : Int32) * x3)]) (rest := [.int v11, .int x3, .int x1, .ref x0]) (ci := 10) hC (c_X8_y l V g D cT f n x0 x1 ((2 : Int32) * x3) v12 ev12) k_X8_y m_1665 rfl rfl ⟨Nat.le_of_ble_eq_true rfl, Nat.le_of_ble_eq_true rfl⟩ hI rfl rfl (h_me_eq ev12).1 rfl hl.1 rfl (Nat.le_of_ble_eq_true rfl) dX8_doUnfold_70 ⟨by decide, by decide⟩) hI (fun H locs hI => ?_)
            obtain ⟨v13, ev13, hq⟩ := b_s hq
            refine gw_v (g_runV (As := [.int x1, .int x3, .int v11, .int v12]) (rest := []) (ci := 10) hC (c_X8_layPoint l V g D cT f n x0 x1 x3 v11 v12 v13 ev13) k_X8_layPoint m_1880 rfl rfl ⟨Nat.le_of_ble_eq_true rfl, Nat.le_of_ble_eq_true rfl⟩ hI rfl rfl (h_me_eq ev13).1 rfl hl.1 rfl (Nat.le_of_ble_eq_true rfl) dX8_doUnfold_73 ⟨by decide, by decide⟩) hI (fun H locs hI => ?_)
            refine lv_iinc (v := x3 + (1 : Int32)) (lv' := [(3, .int (x3 + (1 : Int32))), (0, .ref x0), (1, .int x1), (2, .int x2)]) hx hb dX8_doUnfold_76 hl (k := 3) rfl rfl (by decide) rfl (fun ls hl => ?_)
            refine lv_goto (tgt := 49) hx hb dX8_doUnfold_79 (by decide) ?_
            exact ih x0 x1 x2 (x3 + (1 : Int32)) v13 H locs ls hI (lv_sub hl [1, 2, 3, 0] rfl) hq
      refine hl49 _ ?_ FU a0 a1 ((v3 + (1 : Int32)) / (2 : Int32)) (0 : Int32) f9 H locs ls hI (lv_sub hl [2, 3, 1, 0] rfl) hq
      · intro x0 x1 x2 f H locs ls hI hl hq
        refine lv_aload_n hx hb dX8_doUnfold_82 rfl (lv_at hl 0 rfl) ?_
        obtain ⟨v14, ev14, hq⟩ := b_s hq
        refine fa_gr (own := RX8) (ref := "CoastlineRulerModel") (k := 5) hx hb hB inB_RX8 hown hI rfl (by decide) m_1536 (fun _ h9 => h9) ev14 dX8_doUnfold_83 ?_
        refine lv_iload_n hx hb dX8_doUnfold_86 rfl (lv_at hl 1 rfl) ?_
        obtain ⟨v15, ev15, hq⟩ := b_s hq
        refine gr_i (g_runS (As := [.int x1]) (rest := [.ref v14]) hC (c_X8_at l V g D cT f n x1 v15 ev15) k_X8_at m_1515 rfl rfl ⟨Nat.le_of_ble_eq_true rfl, Nat.le_of_ble_eq_true rfl⟩ hI rfl hl.1 rfl (Nat.le_of_ble_eq_true rfl) dX8_doUnfold_87 ⟨by decide, by decide⟩) hI (fun H locs hI => ?_)
        refine lv_iconst (v := (1 : Int32)) hx hb dX8_doUnfold_90 (by decide) ?_
        refine lv_iadd hx hb dX8_doUnfold_91 ?_
        refine lv_iload_n hx hb dX8_doUnfold_92 rfl (lv_at hl 2 rfl) ?_
        obtain ⟨f16, ef16, hq⟩ := b_s hq
        refine fa_si hx hb hI ef16 dX8_doUnfold_93 (fun H locs hI => ?_)
        refine lv_iconst (v := (0 : Int32)) hx hb dX8_doUnfold_94 (by decide) ?_
        exact ge_Wi hx hb hlocks hr rfl hI (congrArg (fun z => z.1) (Option.some.inj hq)) (congrArg (fun z => z.2) (Option.some.inj hq)) dX8_doUnfold_95
    · replace hq := i_f c5 hq
      refine lv_iconst (v := (2 : Int32)) hx hb dX8_doUnfold_29 (by decide) ?_
      exact ge_Wi hx hb hlocks hr rfl hI (congrArg (fun z => z.1) (Option.some.inj hq)) (congrArg (fun z => z.2) (Option.some.inj hq)) dX8_doUnfold_30
  · replace hq := i_t c2 hq
    refine lv_iconst (v := (1 : Int32)) hx hb dX8_doUnfold_8 (by decide) ?_
    exact ge_Wi hx hb hlocks hr rfl hI (congrArg (fun z => z.1) (Option.some.inj hq)) (congrArg (fun z => z.2) (Option.some.inj hq)) dX8_doUnfold_9

def p_X8_doMove (V : Nat → Nat) (g f : GH) (a0 : Nat) (a1 : Int32) (a2 : Int32) (a3 : Int32) (a4 : Int32) : Option (Int32 × GH) :=
  h_me f a0 10 <|
  (p_X8_isPoint V g f a0 a1 a2).bind fun v1 =>
  (if v1 = (0 : Int32) then
    some ((1 : Int32), f)
  else
    (p_X8_layPoint V g f a0 a1 a2 a3 a4).bind fun v3 =>
    some ((0 : Int32), v3))
abbrev rm_X8_doMove : Room := { frames := 5, cells := 0, slots := 0, locals := 185 }
theorem k_X8_doMove : g_CV yX8_doMove cX8_doMove 5 (some .int) 4 := ⟨⟨m_1982, m_14, by decide +kernel⟩, m_1981, ms_65⟩
set_option maxHeartbeats 4000000 in
set_option maxRecDepth 100000 in
theorem c_X8_doMove (l : Launch) (V : Nat → Nat) (g : GH) (D : va_G) (cT : Nat → ClassId) (f : GH) (n : Nat) (a0 : Nat) (a1 : Int32) (a2 : Int32) (a3 : Int32) (a4 : Int32) (o : Int32 × GH) (hq : p_X8_doMove V g f a0 a1 a2 a3 a4 = some o) : Met l yX8_doMove (Cond.code yX8_doMove cX8_doMove 5 (some .int) :: g_B) rm_X8_doMove (va_Pc [.ref a0, .int a1, .int a2, .int a3, .int a4] (g_I V g D cT f n)) (g_Wi V D cT o.1 o.2 n) 0 0 (g_A V) := by
  refine g_begin (own := RX8) [.ref a0, .int a1, .int a2, .int a3, .int a4] [(0, .ref a0), (1, .int a1), (2, .int a2), (3, .int a3), (4, .int a4)] (g_A V) (fun _ h => h) (by decide) rfl (Nat.le_of_ble_eq_true rfl) rfl ?_
  intro p e s m args below meth c hx hb hr hlocks hin hC hI ls hl
  obtain ⟨hx, hb, hml, hown, hB⟩ := id hC
  obtain ⟨H, hH⟩ : ∃ H, H = s.heap := ⟨_, rfl⟩
  obtain ⟨locs, hlocs⟩ : ∃ L : List Loc, L = [] := ⟨_, rfl⟩
  rw [← hH, ← hlocs] at hI ⊢
  clear hH hlocs
  unfold p_X8_doMove at hq
  replace hq := (h_me_eq hq).2
  refine lv_aload_n hx hb dX8_doMove_0 rfl (lv_at hl 0 rfl) ?_
  refine lv_iload_n hx hb dX8_doMove_1 rfl (lv_at hl 1 rfl) ?_
  refine lv_iload_n hx hb dX8_doMove_2 rfl (lv_at hl 2 rfl) ?_
  obtain ⟨v1, ev1, hq⟩ := b_s hq
  refine gr_i (g_runV (As := [.int a1, .int a2]) (rest := []) (ci := 10) hC (c_X8_isPoint l V g D cT f n a0 a1 a2 v1 ev1) k_X8_isPoint m_1653 rfl rfl ⟨Nat.le_of_ble_eq_true rfl, Nat.le_of_ble_eq_true rfl⟩ hI rfl rfl (h_me_eq ev1).1 rfl hl.1 rfl (Nat.le_of_ble_eq_true rfl) dX8_doMove_3 ⟨by decide, by decide⟩) hI (fun H locs hI => ?_)
  refine lv_if_ne (tgt := 11) hx hb dX8_doMove_6 (by decide) (fun c2 => ?_) (fun c2 => ?_)
  · replace hq := i_f c2 hq
    refine lv_aload_n hx hb dX8_doMove_11 rfl (lv_at hl 0 rfl) ?_
    refine lv_iload_n hx hb dX8_doMove_12 rfl (lv_at hl 1 rfl) ?_
    refine lv_iload_n hx hb dX8_doMove_13 rfl (lv_at hl 2 rfl) ?_
    refine lv_iload_n hx hb dX8_doMove_14 rfl (lv_at hl 3 rfl) ?_
    refine lv_iload hx hb dX8_doMove_15 (lv_at hl 4 rfl) ?_
    obtain ⟨v3, ev3, hq⟩ := b_s hq
    refine gw_v (g_runV (As := [.int a1, .int a2, .int a3, .int a4]) (rest := []) (ci := 10) hC (c_X8_layPoint l V g D cT f n a0 a1 a2 a3 a4 v3 ev3) k_X8_layPoint m_1880 rfl rfl ⟨Nat.le_of_ble_eq_true rfl, Nat.le_of_ble_eq_true rfl⟩ hI rfl rfl (h_me_eq ev3).1 rfl hl.1 rfl (Nat.le_of_ble_eq_true rfl) dX8_doMove_17 ⟨by decide, by decide⟩) hI (fun H locs hI => ?_)
    refine lv_iconst (v := (0 : Int32)) hx hb dX8_doMove_20 (by decide) ?_
    exact ge_Wi hx hb hlocks hr rfl hI (congrArg (fun z => z.1) (Option.some.inj hq)) (congrArg (fun z => z.2) (Option.some.inj hq)) dX8_doMove_21
  · replace hq := i_t c2 hq
    refine lv_iconst (v := (1 : Int32)) hx hb dX8_doMove_9 (by decide) ?_
    exact ge_Wi hx hb hlocks hr rfl hI (congrArg (fun z => z.1) (Option.some.inj hq)) (congrArg (fun z => z.2) (Option.some.inj hq)) dX8_doMove_10

def p_X8_doInsert_l43 (V : Nat → Nat) (g : GH) (K80 : Nat → Int32 → Int32 → Int32 → Int32 → GH → Option (Int32 × GH)) : Nat → Nat → Int32 → Int32 → Int32 → Int32 → Int32 → GH → Option (Int32 × GH)
  | 0, _, _, _, _, _, _, _ => none
  | N + 1, x0, x1, x2, x3, x4, x5, f =>
    (if x5 ≤ x2 then
      K80 x0 x1 x2 x3 x4 f
    else
      (p_X8_x V g f x0 x1 (x5 - (1 : Int32))).bind fun v10 =>
      (p_X8_y V g f x0 x1 (x5 - (1 : Int32))).bind fun v11 =>
      (p_X8_layPoint V g f x0 x1 x5 v10 v11).bind fun v12 =>
      p_X8_doInsert_l43 V g K80 N x0 x1 x2 x3 x4 (x5 + (-1 : Int32)) v12)
def p_X8_doInsert (V : Nat → Nat) (g f : GH) (a0 : Nat) (a1 : Int32) (a2 : Int32) (a3 : Int32) (a4 : Int32) : Option (Int32 × GH) :=
  h_me f a0 10 <|
  (p_X8_isCoast V g f a0 a1).bind fun v1 =>
  (if v1 = (0 : Int32) then
    some ((1 : Int32), f)
  else
    (p_X8_count V g f a0 a1).bind fun v3 =>
    (p_X8_inRange V g f a2 (0 : Int32) v3).bind fun v4 =>
    (if v4 = (0 : Int32) then
      some ((1 : Int32), f)
    else
      (p_X8_count V g f a0 a1).bind fun v6 =>
      (if v6 = (129 : Int32) then
        some ((3 : Int32), f)
      else
        (p_X8_count V g f a0 a1).bind fun v8 =>
        p_X8_doInsert_l43 V g (fun x0 x1 x2 x3 x4 f =>
          (p_X8_layPoint V g f x0 x1 x2 x3 x4).bind fun v13 =>
          (h_gr v13 x0 10 5).bind fun v14 =>
          (p_X8_at V g v13 x1).bind fun v15 =>
          (h_li v13 v14 0 (v15 + (1 : Int32))).bind fun v16 =>
          (h_si v13 v14 0 (v15 + (1 : Int32)) (v16 + (1 : Int32))).bind fun f17 =>
          (h_gr f17 x0 10 5).bind fun v18 =>
          (h_li f17 v18 0 (3 : Int32)).bind fun v19 =>
          (h_si f17 v18 0 (3 : Int32) (v19 + (1 : Int32))).bind fun f20 =>
          some ((0 : Int32), f20)) FU a0 a1 a2 a3 a4 v8 f)))
abbrev rm_X8_doInsert : Room := { frames := 4, cells := 0, slots := 0, locals := 164 }
theorem k_X8_doInsert : g_CV yX8_doInsert cX8_doInsert 6 (some .int) 4 := ⟨⟨m_1990, m_14, by decide +kernel⟩, m_1989, ms_66⟩
set_option maxHeartbeats 4000000 in
set_option maxRecDepth 100000 in
theorem c_X8_doInsert (l : Launch) (V : Nat → Nat) (g : GH) (D : va_G) (cT : Nat → ClassId) (f : GH) (n : Nat) (a0 : Nat) (a1 : Int32) (a2 : Int32) (a3 : Int32) (a4 : Int32) (o : Int32 × GH) (hq : p_X8_doInsert V g f a0 a1 a2 a3 a4 = some o) : Met l yX8_doInsert (Cond.code yX8_doInsert cX8_doInsert 6 (some .int) :: g_B) rm_X8_doInsert (va_Pc [.ref a0, .int a1, .int a2, .int a3, .int a4] (g_I V g D cT f n)) (g_Wi V D cT o.1 o.2 n) 0 0 (g_A V) := by
  refine g_begin (own := RX8) [.ref a0, .int a1, .int a2, .int a3, .int a4] [(0, .ref a0), (1, .int a1), (2, .int a2), (3, .int a3), (4, .int a4)] (g_A V) (fun _ h => h) (by decide) rfl (Nat.le_of_ble_eq_true rfl) rfl ?_
  intro p e s m args below meth c hx hb hr hlocks hin hC hI ls hl
  obtain ⟨hx, hb, hml, hown, hB⟩ := id hC
  obtain ⟨H, hH⟩ : ∃ H, H = s.heap := ⟨_, rfl⟩
  obtain ⟨locs, hlocs⟩ : ∃ L : List Loc, L = [] := ⟨_, rfl⟩
  rw [← hH, ← hlocs] at hI ⊢
  clear hH hlocs
  unfold p_X8_doInsert at hq
  replace hq := (h_me_eq hq).2
  refine lv_aload_n hx hb dX8_doInsert_0 rfl (lv_at hl 0 rfl) ?_
  refine lv_iload_n hx hb dX8_doInsert_1 rfl (lv_at hl 1 rfl) ?_
  obtain ⟨v1, ev1, hq⟩ := b_s hq
  refine gr_i (g_runV (As := [.int a1]) (rest := []) (ci := 10) hC (c_X8_isCoast l V g D cT f n a0 a1 v1 ev1) k_X8_isCoast m_1630 rfl rfl ⟨Nat.le_of_ble_eq_true rfl, Nat.le_of_ble_eq_true rfl⟩ hI rfl rfl (h_me_eq ev1).1 rfl hl.1 rfl (Nat.le_of_ble_eq_true rfl) dX8_doInsert_2 ⟨by decide, by decide⟩) hI (fun H locs hI => ?_)
  refine lv_if_eq (tgt := 21) hx hb dX8_doInsert_5 (by decide) (fun c2 => ?_) (fun c2 => ?_)
  · replace hq := i_t c2 hq
    refine lv_iconst (v := (1 : Int32)) hx hb dX8_doInsert_21 (by decide) ?_
    exact ge_Wi hx hb hlocks hr rfl hI (congrArg (fun z => z.1) (Option.some.inj hq)) (congrArg (fun z => z.2) (Option.some.inj hq)) dX8_doInsert_22
  · replace hq := i_f c2 hq
    refine lv_iload_n hx hb dX8_doInsert_8 rfl (lv_at hl 2 rfl) ?_
    refine lv_iconst (v := (0 : Int32)) hx hb dX8_doInsert_9 (by decide) ?_
    refine lv_aload_n hx hb dX8_doInsert_10 rfl (lv_at hl 0 rfl) ?_
    refine lv_iload_n hx hb dX8_doInsert_11 rfl (lv_at hl 1 rfl) ?_
    obtain ⟨v3, ev3, hq⟩ := b_s hq
    refine gr_i (g_runV (As := [.int a1]) (rest := [.int (0 : Int32), .int a2]) (ci := 10) hC (c_X8_count l V g D cT f n a0 a1 v3 ev3) k_X8_count m_1527 rfl rfl ⟨Nat.le_of_ble_eq_true rfl, Nat.le_of_ble_eq_true rfl⟩ hI rfl rfl (h_me_eq ev3).1 rfl hl.1 rfl (Nat.le_of_ble_eq_true rfl) dX8_doInsert_12 ⟨by decide, by decide⟩) hI (fun H locs hI => ?_)
    obtain ⟨v4, ev4, hq⟩ := b_s hq
    refine gr_i (g_runS (As := [.int a2, .int (0 : Int32), .int v3]) (rest := []) hC (c_X8_inRange l V g D cT f n a2 (0 : Int32) v3 v4 ev4) k_X8_inRange m_1634 rfl rfl ⟨Nat.le_of_ble_eq_true rfl, Nat.le_of_ble_eq_true rfl⟩ hI rfl hl.1 rfl (Nat.le_of_ble_eq_true rfl) dX8_doInsert_15 ⟨by decide, by decide⟩) hI (fun H locs hI => ?_)
    refine lv_if_ne (tgt := 23) hx hb dX8_doInsert_18 (by decide) (fun c5 => ?_) (fun c5 => ?_)
    · replace hq := i_f c5 hq
      refine lv_aload_n hx hb dX8_doInsert_23 rfl (lv_at hl 0 rfl) ?_
      refine lv_iload_n hx hb dX8_doInsert_24 rfl (lv_at hl 1 rfl) ?_
      obtain ⟨v6, ev6, hq⟩ := b_s hq
      refine gr_i (g_runV (As := [.int a1]) (rest := []) (ci := 10) hC (c_X8_count l V g D cT f n a0 a1 v6 ev6) k_X8_count m_1527 rfl rfl ⟨Nat.le_of_ble_eq_true rfl, Nat.le_of_ble_eq_true rfl⟩ hI rfl rfl (h_me_eq ev6).1 rfl hl.1 rfl (Nat.le_of_ble_eq_true rfl) dX8_doInsert_25 ⟨by decide, by decide⟩) hI (fun H locs hI => ?_)
      refine lv_sipush (v := (129 : Int32)) hx hb dX8_doInsert_28 (by decide) ?_
      refine lv_icmp_ne (tgt := 36) hx hb dX8_doInsert_31 (by decide) (fun c7 => ?_) (fun c7 => ?_)
      · replace hq := i_f c7 hq
        refine lv_aload_n hx hb dX8_doInsert_36 rfl (lv_at hl 0 rfl) ?_
        refine lv_iload_n hx hb dX8_doInsert_37 rfl (lv_at hl 1 rfl) ?_
        obtain ⟨v8, ev8, hq⟩ := b_s hq
        refine gr_i (g_runV (As := [.int a1]) (rest := []) (ci := 10) hC (c_X8_count l V g D cT f n a0 a1 v8 ev8) k_X8_count m_1527 rfl rfl ⟨Nat.le_of_ble_eq_true rfl, Nat.le_of_ble_eq_true rfl⟩ hI rfl rfl (h_me_eq ev8).1 rfl hl.1 rfl (Nat.le_of_ble_eq_true rfl) dX8_doInsert_38 ⟨by decide, by decide⟩) hI (fun H locs hI => ?_)
        refine lv_istore (lv' := [(5, .int v8), (0, .ref a0), (1, .int a1), (2, .int a2), (3, .int a3), (4, .int a4)]) hx hb dX8_doInsert_41 hl (by decide) rfl (fun ls hl => ?_)
        have hl43 : ∀ (K80 : Nat → Int32 → Int32 → Int32 → Int32 → GH → Option (Int32 × GH)) (hK80 : ∀ (x0 : Nat) (x1 : Int32) (x2 : Int32) (x3 : Int32) (x4 : Int32) (f : GH) (H : Heap) (locs : List Loc) (ls : Array Slot), g_at (g_A V) V g D cT f n s H locs → lv_has ls 6 [(0, .ref x0), (1, .int x1), (2, .int x2), (3, .int x3), (4, .int x4)] → K80 x0 x1 x2 x3 x4 f = some o → W p l e rm_X8_doInsert s m args below meth c H locs 0 0 (MQ below (g_Wi V D cT o.1 o.2 n) args s 0 0 (g_A V)) (F0 m 80 ls [])) (N : Nat) (x0 : Nat) (x1 : Int32) (x2 : Int32) (x3 : Int32) (x4 : Int32) (x5 : Int32) (f : GH) (H : Heap) (locs : List Loc) (ls : Array Slot), g_at (g_A V) V g D cT f n s H locs → lv_has ls 6 [(0, .ref x0), (1, .int x1), (2, .int x2), (3, .int x3), (4, .int x4), (5, .int x5)] → p_X8_doInsert_l43 V g K80 N x0 x1 x2 x3 x4 x5 f = some o → W p l e rm_X8_doInsert s m args below meth c H locs 0 0 (MQ below (g_Wi V D cT o.1 o.2 n) args s 0 0 (g_A V)) (F0 m 43 ls []) := by
          intro K80 hK80 N
          induction N with
          | zero =>
            intro x0 x1 x2 x3 x4 x5 f H locs ls hI hl hq
            rw [p_X8_doInsert_l43] at hq
            cases hq
          | succ N ih =>
            intro x0 x1 x2 x3 x4 x5 f H locs ls hI hl hq
            rw [p_X8_doInsert_l43] at hq
            refine lv_iload hx hb dX8_doInsert_43 (lv_at hl 5 rfl) ?_
            refine lv_iload_n hx hb dX8_doInsert_45 rfl (lv_at hl 2 rfl) ?_
            refine lv_icmp_le (tgt := 80) hx hb dX8_doInsert_46 (by decide) (fun c9 => ?_) (fun c9 => ?_)
            · replace hq := i_t c9 hq
              exact hK80 x0 x1 x2 x3 x4 f H locs ls hI (lv_sub hl [0, 1, 2, 3, 4] rfl) hq
            · replace hq := i_f c9 hq
              refine lv_aload_n hx hb dX8_doInsert_49 rfl (lv_at hl 0 rfl) ?_
              refine lv_iload_n hx hb dX8_doInsert_50 rfl (lv_at hl 1 rfl) ?_
              refine lv_iload hx hb dX8_doInsert_51 (lv_at hl 5 rfl) ?_
              refine lv_aload_n hx hb dX8_doInsert_53 rfl (lv_at hl 0 rfl) ?_
              refine lv_iload_n hx hb dX8_doInsert_54 rfl (lv_at hl 1 rfl) ?_
              refine lv_iload hx hb dX8_doInsert_55 (lv_at hl 5 rfl) ?_
              refine lv_iconst (v := (1 : Int32)) hx hb dX8_doInsert_57 (by decide) ?_
              refine lv_isub hx hb dX8_doInsert_58 ?_
              obtain ⟨v10, ev10, hq⟩ := b_s hq
              refine gr_i (g_runV (As := [.int x1, .int (x5 - (1 : Int32))]) (rest := [.int x5, .int x1, .ref x0]) (ci := 10) hC (c_X8_x l V g D cT f n x0 x1 (x5 - (1 : Int32)) v10 ev10) k_X8_x m_1657 rfl rfl ⟨Nat.le_of_ble_eq_true rfl, Nat.le_of_ble_eq_true rfl⟩ hI rfl rfl (h_me_eq ev10).1 rfl hl.1 rfl (Nat.le_of_ble_eq_true rfl) dX8_doInsert_59 ⟨by decide, by decide⟩) hI (fun H locs hI => ?_)
              refine lv_aload_n hx hb dX8_doInsert_62 rfl (lv_at hl 0 rfl) ?_
              refine lv_iload_n hx hb dX8_doInsert_63 rfl (lv_at hl 1 rfl) ?_
              refine lv_iload hx hb dX8_doInsert_64 (lv_at hl 5 rfl) ?_
              refine lv_iconst (v := (1 : Int32)) hx hb dX8_doInsert_66 (by decide) ?_
              refine lv_isub hx hb dX8_doInsert_67 ?_
              obtain ⟨v11, ev11, hq⟩ := b_s hq
              refine gr_i (g_runV (As := [.int x1, .int (x5 - (1 : Int32))]) (rest := [.int v10, .int x5, .int x1, .ref x0]) (ci := 10) hC (c_X8_y l V g D cT f n x0 x1 (x5 - (1 : Int32)) v11 ev11) k_X8_y m_1665 rfl rfl ⟨Nat.le_of_ble_eq_true rfl, Nat.le_of_ble_eq_true rfl⟩ hI rfl rfl (h_me_eq ev11).1 rfl hl.1 rfl (Nat.le_of_ble_eq_true rfl) dX8_doInsert_68 ⟨by decide, by decide⟩) hI (fun H locs hI => ?_)
              obtain ⟨v12, ev12, hq⟩ := b_s hq
              refine gw_v (g_runV (As := [.int x1, .int x5, .int v10, .int v11]) (rest := []) (ci := 10) hC (c_X8_layPoint l V g D cT f n x0 x1 x5 v10 v11 v12 ev12) k_X8_layPoint m_1880 rfl rfl ⟨Nat.le_of_ble_eq_true rfl, Nat.le_of_ble_eq_true rfl⟩ hI rfl rfl (h_me_eq ev12).1 rfl hl.1 rfl (Nat.le_of_ble_eq_true rfl) dX8_doInsert_71 ⟨by decide, by decide⟩) hI (fun H locs hI => ?_)
              refine lv_iinc (v := x5 + (-1 : Int32)) (lv' := [(5, .int (x5 + (-1 : Int32))), (0, .ref x0), (1, .int x1), (2, .int x2), (3, .int x3), (4, .int x4)]) hx hb dX8_doInsert_74 hl (k := 5) rfl rfl (by decide) rfl (fun ls hl => ?_)
              refine lv_goto (tgt := 43) hx hb dX8_doInsert_77 (by decide) ?_
              exact ih x0 x1 x2 x3 x4 (x5 + (-1 : Int32)) v12 H locs ls hI (lv_sub hl [1, 2, 3, 4, 5, 0] rfl) hq
        refine hl43 _ ?_ FU a0 a1 a2 a3 a4 v8 f H locs ls hI (lv_sub hl [1, 2, 3, 4, 5, 0] rfl) hq
        · intro x0 x1 x2 x3 x4 f H locs ls hI hl hq
          refine lv_aload_n hx hb dX8_doInsert_80 rfl (lv_at hl 0 rfl) ?_
          refine lv_iload_n hx hb dX8_doInsert_81 rfl (lv_at hl 1 rfl) ?_
          refine lv_iload_n hx hb dX8_doInsert_82 rfl (lv_at hl 2 rfl) ?_
          refine lv_iload_n hx hb dX8_doInsert_83 rfl (lv_at hl 3 rfl) ?_
          refine lv_iload hx hb dX8_doInsert_84 (lv_at hl 4 rfl) ?_
          obtain ⟨v13, ev13, hq⟩ := b_s hq
          refine gw_v (g_runV (As := [.int x1, .int x2, .int x3, .int x4]) (rest := []) (ci := 10) hC (c_X8_layPoint l V g D cT f n x0 x1 x2 x3 x4 v13 ev13) k_X8_layPoint m_1880 rfl rfl ⟨Nat.le_of_ble_eq_true rfl, Nat.le_of_ble_eq_true rfl⟩ hI rfl rfl (h_me_eq ev13).1 rfl hl.1 rfl (Nat.le_of_ble_eq_true rfl) dX8_doInsert_86 ⟨by decide, by decide⟩) hI (fun H locs hI => ?_)
          refine lv_aload_n hx hb dX8_doInsert_89 rfl (lv_at hl 0 rfl) ?_
          obtain ⟨v14, ev14, hq⟩ := b_s hq
          refine fa_gr (own := RX8) (ref := "CoastlineRulerModel") (k := 5) hx hb hB inB_RX8 hown hI rfl (by decide) m_1536 (fun _ h9 => h9) ev14 dX8_doInsert_90 ?_
          refine lv_iload_n hx hb dX8_doInsert_93 rfl (lv_at hl 1 rfl) ?_
          obtain ⟨v15, ev15, hq⟩ := b_s hq
          refine gr_i (g_runS (As := [.int x1]) (rest := [.ref v14]) hC (c_X8_at l V g D cT v13 n x1 v15 ev15) k_X8_at m_1515 rfl rfl ⟨Nat.le_of_ble_eq_true rfl, Nat.le_of_ble_eq_true rfl⟩ hI rfl hl.1 rfl (Nat.le_of_ble_eq_true rfl) dX8_doInsert_94 ⟨by decide, by decide⟩) hI (fun H locs hI => ?_)
          refine lv_iconst (v := (1 : Int32)) hx hb dX8_doInsert_97 (by decide) ?_
          refine lv_iadd hx hb dX8_doInsert_98 ?_
          refine lv_dup2_11 hx hb dX8_doInsert_99 rfl rfl ?_
          obtain ⟨v16, ev16, hq⟩ := b_s hq
          refine fa_li hx hb hI ev16 dX8_doInsert_100 ?_
          refine lv_iconst (v := (1 : Int32)) hx hb dX8_doInsert_101 (by decide) ?_
          refine lv_iadd hx hb dX8_doInsert_102 ?_
          obtain ⟨f17, ef17, hq⟩ := b_s hq
          refine fa_si hx hb hI ef17 dX8_doInsert_103 (fun H locs hI => ?_)
          refine lv_aload_n hx hb dX8_doInsert_104 rfl (lv_at hl 0 rfl) ?_
          obtain ⟨v18, ev18, hq⟩ := b_s hq
          refine fa_gr (own := RX8) (ref := "CoastlineRulerModel") (k := 5) hx hb hB inB_RX8 hown hI rfl (by decide) m_1536 (fun _ h9 => h9) ev18 dX8_doInsert_105 ?_
          refine lv_iconst (v := (3 : Int32)) hx hb dX8_doInsert_108 (by decide) ?_
          refine lv_dup2_11 hx hb dX8_doInsert_109 rfl rfl ?_
          obtain ⟨v19, ev19, hq⟩ := b_s hq
          refine fa_li hx hb hI ev19 dX8_doInsert_110 ?_
          refine lv_iconst (v := (1 : Int32)) hx hb dX8_doInsert_111 (by decide) ?_
          refine lv_iadd hx hb dX8_doInsert_112 ?_
          obtain ⟨f20, ef20, hq⟩ := b_s hq
          refine fa_si hx hb hI ef20 dX8_doInsert_113 (fun H locs hI => ?_)
          refine lv_iconst (v := (0 : Int32)) hx hb dX8_doInsert_114 (by decide) ?_
          exact ge_Wi hx hb hlocks hr rfl hI (congrArg (fun z => z.1) (Option.some.inj hq)) (congrArg (fun z => z.2) (Option.some.inj hq)) dX8_doInsert_115
      · replace hq := i_t c7 hq
        refine lv_iconst (v := (3 : Int32)) hx hb dX8_doInsert_34 (by decide) ?_
        exact ge_Wi hx hb hlocks hr rfl hI (congrArg (fun z => z.1) (Option.some.inj hq)) (congrArg (fun z => z.2) (Option.some.inj hq)) dX8_doInsert_35
    · replace hq := i_t c5 hq
      refine lv_iconst (v := (1 : Int32)) hx hb dX8_doInsert_21 (by decide) ?_
      exact ge_Wi hx hb hlocks hr rfl hI (congrArg (fun z => z.1) (Option.some.inj hq)) (congrArg (fun z => z.2) (Option.some.inj hq)) dX8_doInsert_22

def p_X8_doCut (V : Nat → Nat) (g f : GH) (a0 : Nat) (a1 : Int32) (a2 : Int32) : Option (Int32 × GH) :=
  h_me f a0 10 <|
  (p_X8_isPoint V g f a0 a1 a2).bind fun v1 =>
  (if v1 = (0 : Int32) then
    some ((1 : Int32), f)
  else
    (p_X8_count V g f a0 a1).bind fun v3 =>
    (p_X8_fewest V g f a0 a1).bind fun v4 =>
    (if v3 = v4 then
      some ((2 : Int32), f)
    else
      (p_X8_cut V g f a0 a1 a2).bind fun v6 =>
      (h_gr v6 a0 10 5).bind fun v7 =>
      (h_li v6 v7 0 (4 : Int32)).bind fun v8 =>
      (h_si v6 v7 0 (4 : Int32) (v8 + (1 : Int32))).bind fun f9 =>
      some ((0 : Int32), f9)))
abbrev rm_X8_doCut : Room := { frames := 5, cells := 0, slots := 0, locals := 185 }
theorem k_X8_doCut : g_CV yX8_doCut cX8_doCut 3 (some .int) 2 := ⟨⟨m_1998, m_14, by decide +kernel⟩, m_1997, ms_67⟩
set_option maxHeartbeats 4000000 in
set_option maxRecDepth 100000 in
theorem c_X8_doCut (l : Launch) (V : Nat → Nat) (g : GH) (D : va_G) (cT : Nat → ClassId) (f : GH) (n : Nat) (a0 : Nat) (a1 : Int32) (a2 : Int32) (o : Int32 × GH) (hq : p_X8_doCut V g f a0 a1 a2 = some o) : Met l yX8_doCut (Cond.code yX8_doCut cX8_doCut 3 (some .int) :: g_B) rm_X8_doCut (va_Pc [.ref a0, .int a1, .int a2] (g_I V g D cT f n)) (g_Wi V D cT o.1 o.2 n) 0 0 (g_A V) := by
  refine g_begin (own := RX8) [.ref a0, .int a1, .int a2] [(0, .ref a0), (1, .int a1), (2, .int a2)] (g_A V) (fun _ h => h) (by decide) rfl (Nat.le_of_ble_eq_true rfl) rfl ?_
  intro p e s m args below meth c hx hb hr hlocks hin hC hI ls hl
  obtain ⟨hx, hb, hml, hown, hB⟩ := id hC
  obtain ⟨H, hH⟩ : ∃ H, H = s.heap := ⟨_, rfl⟩
  obtain ⟨locs, hlocs⟩ : ∃ L : List Loc, L = [] := ⟨_, rfl⟩
  rw [← hH, ← hlocs] at hI ⊢
  clear hH hlocs
  unfold p_X8_doCut at hq
  replace hq := (h_me_eq hq).2
  refine lv_aload_n hx hb dX8_doCut_0 rfl (lv_at hl 0 rfl) ?_
  refine lv_iload_n hx hb dX8_doCut_1 rfl (lv_at hl 1 rfl) ?_
  refine lv_iload_n hx hb dX8_doCut_2 rfl (lv_at hl 2 rfl) ?_
  obtain ⟨v1, ev1, hq⟩ := b_s hq
  refine gr_i (g_runV (As := [.int a1, .int a2]) (rest := []) (ci := 10) hC (c_X8_isPoint l V g D cT f n a0 a1 a2 v1 ev1) k_X8_isPoint m_1653 rfl rfl ⟨Nat.le_of_ble_eq_true rfl, Nat.le_of_ble_eq_true rfl⟩ hI rfl rfl (h_me_eq ev1).1 rfl hl.1 rfl (Nat.le_of_ble_eq_true rfl) dX8_doCut_3 ⟨by decide, by decide⟩) hI (fun H locs hI => ?_)
  refine lv_if_ne (tgt := 11) hx hb dX8_doCut_6 (by decide) (fun c2 => ?_) (fun c2 => ?_)
  · replace hq := i_f c2 hq
    refine lv_aload_n hx hb dX8_doCut_11 rfl (lv_at hl 0 rfl) ?_
    refine lv_iload_n hx hb dX8_doCut_12 rfl (lv_at hl 1 rfl) ?_
    obtain ⟨v3, ev3, hq⟩ := b_s hq
    refine gr_i (g_runV (As := [.int a1]) (rest := []) (ci := 10) hC (c_X8_count l V g D cT f n a0 a1 v3 ev3) k_X8_count m_1527 rfl rfl ⟨Nat.le_of_ble_eq_true rfl, Nat.le_of_ble_eq_true rfl⟩ hI rfl rfl (h_me_eq ev3).1 rfl hl.1 rfl (Nat.le_of_ble_eq_true rfl) dX8_doCut_13 ⟨by decide, by decide⟩) hI (fun H locs hI => ?_)
    refine lv_aload_n hx hb dX8_doCut_16 rfl (lv_at hl 0 rfl) ?_
    refine lv_iload_n hx hb dX8_doCut_17 rfl (lv_at hl 1 rfl) ?_
    obtain ⟨v4, ev4, hq⟩ := b_s hq
    refine gr_i (g_runV (As := [.int a1]) (rest := [.int v3]) (ci := 10) hC (c_X8_fewest l V g D cT f n a0 a1 v4 ev4) k_X8_fewest m_1900 rfl rfl ⟨Nat.le_of_ble_eq_true rfl, Nat.le_of_ble_eq_true rfl⟩ hI rfl rfl (h_me_eq ev4).1 rfl hl.1 rfl (Nat.le_of_ble_eq_true rfl) dX8_doCut_18 ⟨by decide, by decide⟩) hI (fun H locs hI => ?_)
    refine lv_icmp_ne (tgt := 26) hx hb dX8_doCut_21 (by decide) (fun c5 => ?_) (fun c5 => ?_)
    · replace hq := i_f c5 hq
      refine lv_aload_n hx hb dX8_doCut_26 rfl (lv_at hl 0 rfl) ?_
      refine lv_iload_n hx hb dX8_doCut_27 rfl (lv_at hl 1 rfl) ?_
      refine lv_iload_n hx hb dX8_doCut_28 rfl (lv_at hl 2 rfl) ?_
      obtain ⟨v6, ev6, hq⟩ := b_s hq
      refine gw_v (g_runV (As := [.int a1, .int a2]) (rest := []) (ci := 10) hC (c_X8_cut l V g D cT f n a0 a1 a2 v6 ev6) k_X8_cut m_1908 rfl rfl ⟨Nat.le_of_ble_eq_true rfl, Nat.le_of_ble_eq_true rfl⟩ hI rfl rfl (h_me_eq ev6).1 rfl hl.1 rfl (Nat.le_of_ble_eq_true rfl) dX8_doCut_29 ⟨by decide, by decide⟩) hI (fun H locs hI => ?_)
      refine lv_aload_n hx hb dX8_doCut_32 rfl (lv_at hl 0 rfl) ?_
      obtain ⟨v7, ev7, hq⟩ := b_s hq
      refine fa_gr (own := RX8) (ref := "CoastlineRulerModel") (k := 5) hx hb hB inB_RX8 hown hI rfl (by decide) m_1536 (fun _ h9 => h9) ev7 dX8_doCut_33 ?_
      refine lv_iconst (v := (4 : Int32)) hx hb dX8_doCut_36 (by decide) ?_
      refine lv_dup2_11 hx hb dX8_doCut_37 rfl rfl ?_
      obtain ⟨v8, ev8, hq⟩ := b_s hq
      refine fa_li hx hb hI ev8 dX8_doCut_38 ?_
      refine lv_iconst (v := (1 : Int32)) hx hb dX8_doCut_39 (by decide) ?_
      refine lv_iadd hx hb dX8_doCut_40 ?_
      obtain ⟨f9, ef9, hq⟩ := b_s hq
      refine fa_si hx hb hI ef9 dX8_doCut_41 (fun H locs hI => ?_)
      refine lv_iconst (v := (0 : Int32)) hx hb dX8_doCut_42 (by decide) ?_
      exact ge_Wi hx hb hlocks hr rfl hI (congrArg (fun z => z.1) (Option.some.inj hq)) (congrArg (fun z => z.2) (Option.some.inj hq)) dX8_doCut_43
    · replace hq := i_t c5 hq
      refine lv_iconst (v := (2 : Int32)) hx hb dX8_doCut_24 (by decide) ?_
      exact ge_Wi hx hb hlocks hr rfl hI (congrArg (fun z => z.1) (Option.some.inj hq)) (congrArg (fun z => z.2) (Option.some.inj hq)) dX8_doCut_25
  · replace hq := i_t c2 hq
    refine lv_iconst (v := (1 : Int32)) hx hb dX8_doCut_9 (by decide) ?_
    exact ge_Wi hx hb hlocks hr rfl hI (congrArg (fun z => z.1) (Option.some.inj hq)) (congrArg (fun z => z.2) (Option.some.inj hq)) dX8_doCut_10

def p_X8_doShift_l13 (V : Nat → Nat) (g : GH) (K47 : GH → Option (Int32 × GH)) (K55 : Nat → Int32 → Int32 → Int32 → GH → Option (Int32 × GH)) : Nat → Nat → Int32 → Int32 → Int32 → Int32 → GH → Option (Int32 × GH)
  | 0, _, _, _, _, _, _ => none
  | N + 1, x0, x1, x2, x3, x4, f =>
    (p_X8_count V g f x0 x1).bind fun v3 =>
    (if v3 ≤ x4 then
      K55 x0 x1 x2 x3 f
    else
      (p_X8_x V g f x0 x1 x4).bind fun v5 =>
      (p_X8_y V g f x0 x1 x4).bind fun v6 =>
      (p_X8_isPosition V g f (v5 + x2) (v6 + x3)).bind fun v7 =>
      (if v7 = (0 : Int32) then
        K47 f
      else
        p_X8_doShift_l13 V g K47 K55 N x0 x1 x2 x3 (x4 + (1 : Int32)) f))
def p_X8_doShift_l58 (V : Nat → Nat) (g : GH) (K99 : GH → Option (Int32 × GH)) : Nat → Nat → Int32 → Int32 → Int32 → Int32 → GH → Option (Int32 × GH)
  | 0, _, _, _, _, _, _ => none
  | N + 1, x0, x1, x2, x3, x4, f =>
    (p_X8_count V g f x0 x1).bind fun v9 =>
    (if v9 ≤ x4 then
      K99 f
    else
      (p_X8_x V g f x0 x1 x4).bind fun v11 =>
      (p_X8_y V g f x0 x1 x4).bind fun v12 =>
      (p_X8_layPoint V g f x0 x1 x4 (v11 + x2) (v12 + x3)).bind fun v13 =>
      p_X8_doShift_l58 V g K99 N x0 x1 x2 x3 (x4 + (1 : Int32)) v13)
def p_X8_doShift (V : Nat → Nat) (g f : GH) (a0 : Nat) (a1 : Int32) (a2 : Int32) (a3 : Int32) : Option (Int32 × GH) :=
  h_me f a0 10 <|
  (p_X8_isCoast V g f a0 a1).bind fun v1 =>
  (if v1 = (0 : Int32) then
    some ((1 : Int32), f)
  else
    p_X8_doShift_l13 V g (fun f =>
      some ((3 : Int32), f)) (fun x0 x1 x2 x3 f =>
      p_X8_doShift_l58 V g (fun f =>
        some ((0 : Int32), f)) FU x0 x1 x2 x3 (0 : Int32) f) FU a0 a1 a2 a3 (0 : Int32) f)
abbrev rm_X8_doShift : Room := { frames := 5, cells := 0, slots := 0, locals := 183 }
theorem k_X8_doShift : g_CV yX8_doShift cX8_doShift 5 (some .int) 3 := ⟨⟨m_2009, m_14, by decide +kernel⟩, m_2008, ms_68⟩
set_option maxHeartbeats 4000000 in
set_option maxRecDepth 100000 in
theorem c_X8_doShift (l : Launch) (V : Nat → Nat) (g : GH) (D : va_G) (cT : Nat → ClassId) (f : GH) (n : Nat) (a0 : Nat) (a1 : Int32) (a2 : Int32) (a3 : Int32) (o : Int32 × GH) (hq : p_X8_doShift V g f a0 a1 a2 a3 = some o) : Met l yX8_doShift (Cond.code yX8_doShift cX8_doShift 5 (some .int) :: g_B) rm_X8_doShift (va_Pc [.ref a0, .int a1, .int a2, .int a3] (g_I V g D cT f n)) (g_Wi V D cT o.1 o.2 n) 0 0 (g_A V) := by
  refine g_begin (own := RX8) [.ref a0, .int a1, .int a2, .int a3] [(0, .ref a0), (1, .int a1), (2, .int a2), (3, .int a3)] (g_A V) (fun _ h => h) (by decide) rfl (Nat.le_of_ble_eq_true rfl) rfl ?_
  intro p e s m args below meth c hx hb hr hlocks hin hC hI ls hl
  obtain ⟨hx, hb, hml, hown, hB⟩ := id hC
  obtain ⟨H, hH⟩ : ∃ H, H = s.heap := ⟨_, rfl⟩
  obtain ⟨locs, hlocs⟩ : ∃ L : List Loc, L = [] := ⟨_, rfl⟩
  rw [← hH, ← hlocs] at hI ⊢
  clear hH hlocs
  unfold p_X8_doShift at hq
  replace hq := (h_me_eq hq).2
  refine lv_aload_n hx hb dX8_doShift_0 rfl (lv_at hl 0 rfl) ?_
  refine lv_iload_n hx hb dX8_doShift_1 rfl (lv_at hl 1 rfl) ?_
  obtain ⟨v1, ev1, hq⟩ := b_s hq
  refine gr_i (g_runV (As := [.int a1]) (rest := []) (ci := 10) hC (c_X8_isCoast l V g D cT f n a0 a1 v1 ev1) k_X8_isCoast m_1630 rfl rfl ⟨Nat.le_of_ble_eq_true rfl, Nat.le_of_ble_eq_true rfl⟩ hI rfl rfl (h_me_eq ev1).1 rfl hl.1 rfl (Nat.le_of_ble_eq_true rfl) dX8_doShift_2 ⟨by decide, by decide⟩) hI (fun H locs hI => ?_)
  refine lv_if_ne (tgt := 10) hx hb dX8_doShift_5 (by decide) (fun c2 => ?_) (fun c2 => ?_)
  · replace hq := i_f c2 hq
    refine lv_iconst (v := (0 : Int32)) hx hb dX8_doShift_10 (by decide) ?_
    refine lv_istore (lv' := [(4, .int (0 : Int32)), (0, .ref a0), (1, .int a1), (2, .int a2), (3, .int a3)]) hx hb dX8_doShift_11 hl (by decide) rfl (fun ls hl => ?_)
    have hl13 : ∀ (K47 : GH → Option (Int32 × GH)) (hK47 : ∀ (f : GH) (H : Heap) (locs : List Loc) (ls : Array Slot), g_at (g_A V) V g D cT f n s H locs → lv_has ls 5 [] → K47 f = some o → W p l e rm_X8_doShift s m args below meth c H locs 0 0 (MQ below (g_Wi V D cT o.1 o.2 n) args s 0 0 (g_A V)) (F0 m 47 ls [])) (K55 : Nat → Int32 → Int32 → Int32 → GH → Option (Int32 × GH)) (hK55 : ∀ (x0 : Nat) (x1 : Int32) (x2 : Int32) (x3 : Int32) (f : GH) (H : Heap) (locs : List Loc) (ls : Array Slot), g_at (g_A V) V g D cT f n s H locs → lv_has ls 5 [(0, .ref x0), (1, .int x1), (2, .int x2), (3, .int x3)] → K55 x0 x1 x2 x3 f = some o → W p l e rm_X8_doShift s m args below meth c H locs 0 0 (MQ below (g_Wi V D cT o.1 o.2 n) args s 0 0 (g_A V)) (F0 m 55 ls [])) (N : Nat) (x0 : Nat) (x1 : Int32) (x2 : Int32) (x3 : Int32) (x4 : Int32) (f : GH) (H : Heap) (locs : List Loc) (ls : Array Slot), g_at (g_A V) V g D cT f n s H locs → lv_has ls 5 [(0, .ref x0), (1, .int x1), (2, .int x2), (3, .int x3), (4, .int x4)] → p_X8_doShift_l13 V g K47 K55 N x0 x1 x2 x3 x4 f = some o → W p l e rm_X8_doShift s m args below meth c H locs 0 0 (MQ below (g_Wi V D cT o.1 o.2 n) args s 0 0 (g_A V)) (F0 m 13 ls []) := by
      intro K47 hK47 K55 hK55 N
      induction N with
      | zero =>
        intro x0 x1 x2 x3 x4 f H locs ls hI hl hq
        rw [p_X8_doShift_l13] at hq
        cases hq
      | succ N ih =>
        intro x0 x1 x2 x3 x4 f H locs ls hI hl hq
        rw [p_X8_doShift_l13] at hq
        refine lv_iload hx hb dX8_doShift_13 (lv_at hl 4 rfl) ?_
        refine lv_aload_n hx hb dX8_doShift_15 rfl (lv_at hl 0 rfl) ?_
        refine lv_iload_n hx hb dX8_doShift_16 rfl (lv_at hl 1 rfl) ?_
        obtain ⟨v3, ev3, hq⟩ := b_s hq
        refine gr_i (g_runV (As := [.int x1]) (rest := [.int x4]) (ci := 10) hC (c_X8_count l V g D cT f n x0 x1 v3 ev3) k_X8_count m_1527 rfl rfl ⟨Nat.le_of_ble_eq_true rfl, Nat.le_of_ble_eq_true rfl⟩ hI rfl rfl (h_me_eq ev3).1 rfl hl.1 rfl (Nat.le_of_ble_eq_true rfl) dX8_doShift_17 ⟨by decide, by decide⟩) hI (fun H locs hI => ?_)
        refine lv_icmp_ge (tgt := 55) hx hb dX8_doShift_20 (by decide) (fun c4 => ?_) (fun c4 => ?_)
        · replace hq := i_t c4 hq
          exact hK55 x0 x1 x2 x3 f H locs ls hI (lv_sub hl [0, 1, 2, 3] rfl) hq
        · replace hq := i_f c4 hq
          refine lv_aload_n hx hb dX8_doShift_23 rfl (lv_at hl 0 rfl) ?_
          refine lv_iload_n hx hb dX8_doShift_24 rfl (lv_at hl 1 rfl) ?_
          refine lv_iload hx hb dX8_doShift_25 (lv_at hl 4 rfl) ?_
          obtain ⟨v5, ev5, hq⟩ := b_s hq
          refine gr_i (g_runV (As := [.int x1, .int x4]) (rest := []) (ci := 10) hC (c_X8_x l V g D cT f n x0 x1 x4 v5 ev5) k_X8_x m_1657 rfl rfl ⟨Nat.le_of_ble_eq_true rfl, Nat.le_of_ble_eq_true rfl⟩ hI rfl rfl (h_me_eq ev5).1 rfl hl.1 rfl (Nat.le_of_ble_eq_true rfl) dX8_doShift_27 ⟨by decide, by decide⟩) hI (fun H locs hI => ?_)
          refine lv_iload_n hx hb dX8_doShift_30 rfl (lv_at hl 2 rfl) ?_
          refine lv_iadd hx hb dX8_doShift_31 ?_
          refine lv_aload_n hx hb dX8_doShift_32 rfl (lv_at hl 0 rfl) ?_
          refine lv_iload_n hx hb dX8_doShift_33 rfl (lv_at hl 1 rfl) ?_
          refine lv_iload hx hb dX8_doShift_34 (lv_at hl 4 rfl) ?_
          obtain ⟨v6, ev6, hq⟩ := b_s hq
          refine gr_i (g_runV (As := [.int x1, .int x4]) (rest := [.int (v5 + x2)]) (ci := 10) hC (c_X8_y l V g D cT f n x0 x1 x4 v6 ev6) k_X8_y m_1665 rfl rfl ⟨Nat.le_of_ble_eq_true rfl, Nat.le_of_ble_eq_true rfl⟩ hI rfl rfl (h_me_eq ev6).1 rfl hl.1 rfl (Nat.le_of_ble_eq_true rfl) dX8_doShift_36 ⟨by decide, by decide⟩) hI (fun H locs hI => ?_)
          refine lv_iload_n hx hb dX8_doShift_39 rfl (lv_at hl 3 rfl) ?_
          refine lv_iadd hx hb dX8_doShift_40 ?_
          obtain ⟨v7, ev7, hq⟩ := b_s hq
          refine gr_i (g_runS (As := [.int (v5 + x2), .int (v6 + x3)]) (rest := []) hC (c_X8_isPosition l V g D cT f n (v5 + x2) (v6 + x3) v7 ev7) k_X8_isPosition m_1687 rfl rfl ⟨Nat.le_of_ble_eq_true rfl, Nat.le_of_ble_eq_true rfl⟩ hI rfl hl.1 rfl (Nat.le_of_ble_eq_true rfl) dX8_doShift_41 ⟨by decide, by decide⟩) hI (fun H locs hI => ?_)
          refine lv_if_ne (tgt := 49) hx hb dX8_doShift_44 (by decide) (fun c8 => ?_) (fun c8 => ?_)
          · replace hq := i_f c8 hq
            refine lv_iinc (v := x4 + (1 : Int32)) (lv' := [(4, .int (x4 + (1 : Int32))), (0, .ref x0), (1, .int x1), (2, .int x2), (3, .int x3)]) hx hb dX8_doShift_49 hl (k := 4) rfl rfl (by decide) rfl (fun ls hl => ?_)
            refine lv_goto (tgt := 13) hx hb dX8_doShift_52 (by decide) ?_
            exact ih x0 x1 x2 x3 (x4 + (1 : Int32)) f H locs ls hI (lv_sub hl [1, 2, 3, 4, 0] rfl) hq
          · replace hq := i_t c8 hq
            exact hK47 f H locs ls hI (lv_sub hl [] rfl) hq
    refine hl13 _ ?_ _ ?_ FU a0 a1 a2 a3 (0 : Int32) f H locs ls hI (lv_sub hl [1, 2, 3, 4, 0] rfl) hq
    · intro f H locs ls hI hl hq
      refine lv_iconst (v := (3 : Int32)) hx hb dX8_doShift_47 (by decide) ?_
      exact ge_Wi hx hb hlocks hr rfl hI (congrArg (fun z => z.1) (Option.some.inj hq)) (congrArg (fun z => z.2) (Option.some.inj hq)) dX8_doShift_48
    · intro x0 x1 x2 x3 f H locs ls hI hl hq
      refine lv_iconst (v := (0 : Int32)) hx hb dX8_doShift_55 (by decide) ?_
      refine lv_istore (lv' := [(4, .int (0 : Int32)), (0, .ref x0), (1, .int x1), (2, .int x2), (3, .int x3)]) hx hb dX8_doShift_56 hl (by decide) rfl (fun ls hl => ?_)
      have hl58 : ∀ (K99 : GH → Option (Int32 × GH)) (hK99 : ∀ (f : GH) (H : Heap) (locs : List Loc) (ls : Array Slot), g_at (g_A V) V g D cT f n s H locs → lv_has ls 5 [] → K99 f = some o → W p l e rm_X8_doShift s m args below meth c H locs 0 0 (MQ below (g_Wi V D cT o.1 o.2 n) args s 0 0 (g_A V)) (F0 m 99 ls [])) (N : Nat) (x0 : Nat) (x1 : Int32) (x2 : Int32) (x3 : Int32) (x4 : Int32) (f : GH) (H : Heap) (locs : List Loc) (ls : Array Slot), g_at (g_A V) V g D cT f n s H locs → lv_has ls 5 [(0, .ref x0), (1, .int x1), (2, .int x2), (3, .int x3), (4, .int x4)] → p_X8_doShift_l58 V g K99 N x0 x1 x2 x3 x4 f = some o → W p l e rm_X8_doShift s m args below meth c H locs 0 0 (MQ below (g_Wi V D cT o.1 o.2 n) args s 0 0 (g_A V)) (F0 m 58 ls []) := by
        intro K99 hK99 N
        induction N with
        | zero =>
          intro x0 x1 x2 x3 x4 f H locs ls hI hl hq
          rw [p_X8_doShift_l58] at hq
          cases hq
        | succ N ih =>
          intro x0 x1 x2 x3 x4 f H locs ls hI hl hq
          rw [p_X8_doShift_l58] at hq
          refine lv_iload hx hb dX8_doShift_58 (lv_at hl 4 rfl) ?_
          refine lv_aload_n hx hb dX8_doShift_60 rfl (lv_at hl 0 rfl) ?_
          refine lv_iload_n hx hb dX8_doShift_61 rfl (lv_at hl 1 rfl) ?_
          obtain ⟨v9, ev9, hq⟩ := b_s hq
          refine gr_i (g_runV (As := [.int x1]) (rest := [.int x4]) (ci := 10) hC (c_X8_count l V g D cT f n x0 x1 v9 ev9) k_X8_count m_1527 rfl rfl ⟨Nat.le_of_ble_eq_true rfl, Nat.le_of_ble_eq_true rfl⟩ hI rfl rfl (h_me_eq ev9).1 rfl hl.1 rfl (Nat.le_of_ble_eq_true rfl) dX8_doShift_62 ⟨by decide, by decide⟩) hI (fun H locs hI => ?_)
          refine lv_icmp_ge (tgt := 99) hx hb dX8_doShift_65 (by decide) (fun c10 => ?_) (fun c10 => ?_)
          · replace hq := i_t c10 hq
            exact hK99 f H locs ls hI (lv_sub hl [] rfl) hq
          · replace hq := i_f c10 hq
            refine lv_aload_n hx hb dX8_doShift_68 rfl (lv_at hl 0 rfl) ?_
            refine lv_iload_n hx hb dX8_doShift_69 rfl (lv_at hl 1 rfl) ?_
            refine lv_iload hx hb dX8_doShift_70 (lv_at hl 4 rfl) ?_
            refine lv_aload_n hx hb dX8_doShift_72 rfl (lv_at hl 0 rfl) ?_
            refine lv_iload_n hx hb dX8_doShift_73 rfl (lv_at hl 1 rfl) ?_
            refine lv_iload hx hb dX8_doShift_74 (lv_at hl 4 rfl) ?_
            obtain ⟨v11, ev11, hq⟩ := b_s hq
            refine gr_i (g_runV (As := [.int x1, .int x4]) (rest := [.int x4, .int x1, .ref x0]) (ci := 10) hC (c_X8_x l V g D cT f n x0 x1 x4 v11 ev11) k_X8_x m_1657 rfl rfl ⟨Nat.le_of_ble_eq_true rfl, Nat.le_of_ble_eq_true rfl⟩ hI rfl rfl (h_me_eq ev11).1 rfl hl.1 rfl (Nat.le_of_ble_eq_true rfl) dX8_doShift_76 ⟨by decide, by decide⟩) hI (fun H locs hI => ?_)
            refine lv_iload_n hx hb dX8_doShift_79 rfl (lv_at hl 2 rfl) ?_
            refine lv_iadd hx hb dX8_doShift_80 ?_
            refine lv_aload_n hx hb dX8_doShift_81 rfl (lv_at hl 0 rfl) ?_
            refine lv_iload_n hx hb dX8_doShift_82 rfl (lv_at hl 1 rfl) ?_
            refine lv_iload hx hb dX8_doShift_83 (lv_at hl 4 rfl) ?_
            obtain ⟨v12, ev12, hq⟩ := b_s hq
            refine gr_i (g_runV (As := [.int x1, .int x4]) (rest := [.int (v11 + x2), .int x4, .int x1, .ref x0]) (ci := 10) hC (c_X8_y l V g D cT f n x0 x1 x4 v12 ev12) k_X8_y m_1665 rfl rfl ⟨Nat.le_of_ble_eq_true rfl, Nat.le_of_ble_eq_true rfl⟩ hI rfl rfl (h_me_eq ev12).1 rfl hl.1 rfl (Nat.le_of_ble_eq_true rfl) dX8_doShift_85 ⟨by decide, by decide⟩) hI (fun H locs hI => ?_)
            refine lv_iload_n hx hb dX8_doShift_88 rfl (lv_at hl 3 rfl) ?_
            refine lv_iadd hx hb dX8_doShift_89 ?_
            obtain ⟨v13, ev13, hq⟩ := b_s hq
            refine gw_v (g_runV (As := [.int x1, .int x4, .int (v11 + x2), .int (v12 + x3)]) (rest := []) (ci := 10) hC (c_X8_layPoint l V g D cT f n x0 x1 x4 (v11 + x2) (v12 + x3) v13 ev13) k_X8_layPoint m_1880 rfl rfl ⟨Nat.le_of_ble_eq_true rfl, Nat.le_of_ble_eq_true rfl⟩ hI rfl rfl (h_me_eq ev13).1 rfl hl.1 rfl (Nat.le_of_ble_eq_true rfl) dX8_doShift_90 ⟨by decide, by decide⟩) hI (fun H locs hI => ?_)
            refine lv_iinc (v := x4 + (1 : Int32)) (lv' := [(4, .int (x4 + (1 : Int32))), (0, .ref x0), (1, .int x1), (2, .int x2), (3, .int x3)]) hx hb dX8_doShift_93 hl (k := 4) rfl rfl (by decide) rfl (fun ls hl => ?_)
            refine lv_goto (tgt := 58) hx hb dX8_doShift_96 (by decide) ?_
            exact ih x0 x1 x2 x3 (x4 + (1 : Int32)) v13 H locs ls hI (lv_sub hl [1, 2, 3, 4, 0] rfl) hq
      refine hl58 _ ?_ FU x0 x1 x2 x3 (0 : Int32) f H locs ls hI (lv_sub hl [1, 2, 3, 4, 0] rfl) hq
      · intro f H locs ls hI hl hq
        refine lv_iconst (v := (0 : Int32)) hx hb dX8_doShift_99 (by decide) ?_
        exact ge_Wi hx hb hlocks hr rfl hI (congrArg (fun z => z.1) (Option.some.inj hq)) (congrArg (fun z => z.2) (Option.some.inj hq)) dX8_doShift_100
  · replace hq := i_t c2 hq
    refine lv_iconst (v := (1 : Int32)) hx hb dX8_doShift_8 (by decide) ?_
    exact ge_Wi hx hb hlocks hr rfl hI (congrArg (fun z => z.1) (Option.some.inj hq)) (congrArg (fun z => z.2) (Option.some.inj hq)) dX8_doShift_9

def p_X8_doReverse_l19 (V : Nat → Nat) (g : GH) (K64 : GH → Option (Int32 × GH)) : Nat → Nat → Int32 → Int32 → GH → Option (Int32 × GH)
  | 0, _, _, _, _ => none
  | N + 1, x0, x1, x2, f =>
    (p_X8_count V g f x0 x1).bind fun v4 =>
    (if v4 ≤ x2 then
      K64 f
    else
      (p_X8_count V g f x0 x1).bind fun v6 =>
      (p_X8_x V g f x0 (6 : Int32) ((v6 - (1 : Int32)) - x2)).bind fun v7 =>
      (p_X8_y V g f x0 (6 : Int32) ((v6 - (1 : Int32)) - x2)).bind fun v8 =>
      (p_X8_layPoint V g f x0 x1 x2 v7 v8).bind fun v9 =>
      p_X8_doReverse_l19 V g K64 N x0 x1 (x2 + (1 : Int32)) v9)
def p_X8_doReverse (V : Nat → Nat) (g f : GH) (a0 : Nat) (a1 : Int32) : Option (Int32 × GH) :=
  h_me f a0 10 <|
  (p_X8_isCoast V g f a0 a1).bind fun v1 =>
  (if v1 = (0 : Int32) then
    some ((1 : Int32), f)
  else
    (p_X8_copyCoast V g f a0 a1 (6 : Int32)).bind fun v3 =>
    p_X8_doReverse_l19 V g (fun f =>
      some ((0 : Int32), f)) FU a0 a1 (0 : Int32) v3)
abbrev rm_X8_doReverse : Room := { frames := 4, cells := 0, slots := 0, locals := 164 }
theorem k_X8_doReverse : g_CV yX8_doReverse cX8_doReverse 4 (some .int) 1 := ⟨⟨m_2017, m_14, by decide +kernel⟩, m_2016, ms_69⟩
set_option maxHeartbeats 4000000 in
set_option maxRecDepth 100000 in
theorem c_X8_doReverse (l : Launch) (V : Nat → Nat) (g : GH) (D : va_G) (cT : Nat → ClassId) (f : GH) (n : Nat) (a0 : Nat) (a1 : Int32) (o : Int32 × GH) (hq : p_X8_doReverse V g f a0 a1 = some o) : Met l yX8_doReverse (Cond.code yX8_doReverse cX8_doReverse 4 (some .int) :: g_B) rm_X8_doReverse (va_Pc [.ref a0, .int a1] (g_I V g D cT f n)) (g_Wi V D cT o.1 o.2 n) 0 0 (g_A V) := by
  refine g_begin (own := RX8) [.ref a0, .int a1] [(0, .ref a0), (1, .int a1)] (g_A V) (fun _ h => h) (by decide) rfl (Nat.le_of_ble_eq_true rfl) rfl ?_
  intro p e s m args below meth c hx hb hr hlocks hin hC hI ls hl
  obtain ⟨hx, hb, hml, hown, hB⟩ := id hC
  obtain ⟨H, hH⟩ : ∃ H, H = s.heap := ⟨_, rfl⟩
  obtain ⟨locs, hlocs⟩ : ∃ L : List Loc, L = [] := ⟨_, rfl⟩
  rw [← hH, ← hlocs] at hI ⊢
  clear hH hlocs
  unfold p_X8_doReverse at hq
  replace hq := (h_me_eq hq).2
  refine lv_aload_n hx hb dX8_doReverse_0 rfl (lv_at hl 0 rfl) ?_
  refine lv_iload_n hx hb dX8_doReverse_1 rfl (lv_at hl 1 rfl) ?_
  obtain ⟨v1, ev1, hq⟩ := b_s hq
  refine gr_i (g_runV (As := [.int a1]) (rest := []) (ci := 10) hC (c_X8_isCoast l V g D cT f n a0 a1 v1 ev1) k_X8_isCoast m_1630 rfl rfl ⟨Nat.le_of_ble_eq_true rfl, Nat.le_of_ble_eq_true rfl⟩ hI rfl rfl (h_me_eq ev1).1 rfl hl.1 rfl (Nat.le_of_ble_eq_true rfl) dX8_doReverse_2 ⟨by decide, by decide⟩) hI (fun H locs hI => ?_)
  refine lv_if_ne (tgt := 10) hx hb dX8_doReverse_5 (by decide) (fun c2 => ?_) (fun c2 => ?_)
  · replace hq := i_f c2 hq
    refine lv_aload_n hx hb dX8_doReverse_10 rfl (lv_at hl 0 rfl) ?_
    refine lv_iload_n hx hb dX8_doReverse_11 rfl (lv_at hl 1 rfl) ?_
    refine lv_bipush (v := (6 : Int32)) hx hb dX8_doReverse_12 (by decide) ?_
    obtain ⟨v3, ev3, hq⟩ := b_s hq
    refine gw_v (g_runV (As := [.int a1, .int (6 : Int32)]) (rest := []) (ci := 10) hC (c_X8_copyCoast l V g D cT f n a0 a1 (6 : Int32) v3 ev3) k_X8_copyCoast m_1904 rfl rfl ⟨Nat.le_of_ble_eq_true rfl, Nat.le_of_ble_eq_true rfl⟩ hI rfl rfl (h_me_eq ev3).1 rfl hl.1 rfl (Nat.le_of_ble_eq_true rfl) dX8_doReverse_14 ⟨by decide, by decide⟩) hI (fun H locs hI => ?_)
    refine lv_iconst (v := (0 : Int32)) hx hb dX8_doReverse_17 (by decide) ?_
    refine lv_istore_n (lv' := [(2, .int (0 : Int32)), (0, .ref a0), (1, .int a1)]) hx hb dX8_doReverse_18 rfl hl (by decide) rfl (fun ls hl => ?_)
    have hl19 : ∀ (K64 : GH → Option (Int32 × GH)) (hK64 : ∀ (f : GH) (H : Heap) (locs : List Loc) (ls : Array Slot), g_at (g_A V) V g D cT f n s H locs → lv_has ls 4 [] → K64 f = some o → W p l e rm_X8_doReverse s m args below meth c H locs 0 0 (MQ below (g_Wi V D cT o.1 o.2 n) args s 0 0 (g_A V)) (F0 m 64 ls [])) (N : Nat) (x0 : Nat) (x1 : Int32) (x2 : Int32) (f : GH) (H : Heap) (locs : List Loc) (ls : Array Slot), g_at (g_A V) V g D cT f n s H locs → lv_has ls 4 [(0, .ref x0), (1, .int x1), (2, .int x2)] → p_X8_doReverse_l19 V g K64 N x0 x1 x2 f = some o → W p l e rm_X8_doReverse s m args below meth c H locs 0 0 (MQ below (g_Wi V D cT o.1 o.2 n) args s 0 0 (g_A V)) (F0 m 19 ls []) := by
      intro K64 hK64 N
      induction N with
      | zero =>
        intro x0 x1 x2 f H locs ls hI hl hq
        rw [p_X8_doReverse_l19] at hq
        cases hq
      | succ N ih =>
        intro x0 x1 x2 f H locs ls hI hl hq
        rw [p_X8_doReverse_l19] at hq
        refine lv_iload_n hx hb dX8_doReverse_19 rfl (lv_at hl 2 rfl) ?_
        refine lv_aload_n hx hb dX8_doReverse_20 rfl (lv_at hl 0 rfl) ?_
        refine lv_iload_n hx hb dX8_doReverse_21 rfl (lv_at hl 1 rfl) ?_
        obtain ⟨v4, ev4, hq⟩ := b_s hq
        refine gr_i (g_runV (As := [.int x1]) (rest := [.int x2]) (ci := 10) hC (c_X8_count l V g D cT f n x0 x1 v4 ev4) k_X8_count m_1527 rfl rfl ⟨Nat.le_of_ble_eq_true rfl, Nat.le_of_ble_eq_true rfl⟩ hI rfl rfl (h_me_eq ev4).1 rfl hl.1 rfl (Nat.le_of_ble_eq_true rfl) dX8_doReverse_22 ⟨by decide, by decide⟩) hI (fun H locs hI => ?_)
        refine lv_icmp_ge (tgt := 64) hx hb dX8_doReverse_25 (by decide) (fun c5 => ?_) (fun c5 => ?_)
        · replace hq := i_t c5 hq
          exact hK64 f H locs ls hI (lv_sub hl [] rfl) hq
        · replace hq := i_f c5 hq
          refine lv_aload_n hx hb dX8_doReverse_28 rfl (lv_at hl 0 rfl) ?_
          refine lv_iload_n hx hb dX8_doReverse_29 rfl (lv_at hl 1 rfl) ?_
          obtain ⟨v6, ev6, hq⟩ := b_s hq
          refine gr_i (g_runV (As := [.int x1]) (rest := []) (ci := 10) hC (c_X8_count l V g D cT f n x0 x1 v6 ev6) k_X8_count m_1527 rfl rfl ⟨Nat.le_of_ble_eq_true rfl, Nat.le_of_ble_eq_true rfl⟩ hI rfl rfl (h_me_eq ev6).1 rfl hl.1 rfl (Nat.le_of_ble_eq_true rfl) dX8_doReverse_30 ⟨by decide, by decide⟩) hI (fun H locs hI => ?_)
          refine lv_iconst (v := (1 : Int32)) hx hb dX8_doReverse_33 (by decide) ?_
          refine lv_isub hx hb dX8_doReverse_34 ?_
          refine lv_iload_n hx hb dX8_doReverse_35 rfl (lv_at hl 2 rfl) ?_
          refine lv_isub hx hb dX8_doReverse_36 ?_
          refine lv_istore_n (lv' := [(3, .int ((v6 - (1 : Int32)) - x2)), (0, .ref x0), (1, .int x1), (2, .int x2)]) hx hb dX8_doReverse_37 rfl hl (by decide) rfl (fun ls hl => ?_)
          refine lv_aload_n hx hb dX8_doReverse_38 rfl (lv_at hl 1 rfl) ?_
          refine lv_iload_n hx hb dX8_doReverse_39 rfl (lv_at hl 2 rfl) ?_
          refine lv_iload_n hx hb dX8_doReverse_40 rfl (lv_at hl 3 rfl) ?_
          refine lv_aload_n hx hb dX8_doReverse_41 rfl (lv_at hl 1 rfl) ?_
          refine lv_bipush (v := (6 : Int32)) hx hb dX8_doReverse_42 (by decide) ?_
          refine lv_iload_n hx hb dX8_doReverse_44 rfl (lv_at hl 0 rfl) ?_
          obtain ⟨v7, ev7, hq⟩ := b_s hq
          refine gr_i (g_runV (As := [.int (6 : Int32), .int ((v6 - (1 : Int32)) - x2)]) (rest := [.int x2, .int x1, .ref x0]) (ci := 10) hC (c_X8_x l V g D cT f n x0 (6 : Int32) ((v6 - (1 : Int32)) - x2) v7 ev7) k_X8_x m_1657 rfl rfl ⟨Nat.le_of_ble_eq_true rfl, Nat.le_of_ble_eq_true rfl⟩ hI rfl rfl (h_me_eq ev7).1 rfl hl.1 rfl (Nat.le_of_ble_eq_true rfl) dX8_doReverse_45 ⟨by decide, by decide⟩) hI (fun H locs hI => ?_)
          refine lv_aload_n hx hb dX8_doReverse_48 rfl (lv_at hl 1 rfl) ?_
          refine lv_bipush (v := (6 : Int32)) hx hb dX8_doReverse_49 (by decide) ?_
          refine lv_iload_n hx hb dX8_doReverse_51 rfl (lv_at hl 0 rfl) ?_
          obtain ⟨v8, ev8, hq⟩ := b_s hq
          refine gr_i (g_runV (As := [.int (6 : Int32), .int ((v6 - (1 : Int32)) - x2)]) (rest := [.int v7, .int x2, .int x1, .ref x0]) (ci := 10) hC (c_X8_y l V g D cT f n x0 (6 : Int32) ((v6 - (1 : Int32)) - x2) v8 ev8) k_X8_y m_1665 rfl rfl ⟨Nat.le_of_ble_eq_true rfl, Nat.le_of_ble_eq_true rfl⟩ hI rfl rfl (h_me_eq ev8).1 rfl hl.1 rfl (Nat.le_of_ble_eq_true rfl) dX8_doReverse_52 ⟨by decide, by decide⟩) hI (fun H locs hI => ?_)
          obtain ⟨v9, ev9, hq⟩ := b_s hq
          refine gw_v (g_runV (As := [.int x1, .int x2, .int v7, .int v8]) (rest := []) (ci := 10) hC (c_X8_layPoint l V g D cT f n x0 x1 x2 v7 v8 v9 ev9) k_X8_layPoint m_1880 rfl rfl ⟨Nat.le_of_ble_eq_true rfl, Nat.le_of_ble_eq_true rfl⟩ hI rfl rfl (h_me_eq ev9).1 rfl hl.1 rfl (Nat.le_of_ble_eq_true rfl) dX8_doReverse_55 ⟨by decide, by decide⟩) hI (fun H locs hI => ?_)
          refine lv_iinc (v := x2 + (1 : Int32)) (lv' := [(2, .int (x2 + (1 : Int32))), (3, .int ((v6 - (1 : Int32)) - x2)), (0, .ref x0), (1, .int x1)]) hx hb dX8_doReverse_58 hl (k := 3) rfl rfl (by decide) rfl (fun ls hl => ?_)
          refine lv_goto (tgt := 19) hx hb dX8_doReverse_61 (by decide) ?_
          exact ih x0 x1 (x2 + (1 : Int32)) v9 H locs ls hI (lv_sub hl [2, 3, 0] rfl) hq
    refine hl19 _ ?_ FU a0 a1 (0 : Int32) v3 H locs ls hI (lv_sub hl [1, 2, 0] rfl) hq
    · intro f H locs ls hI hl hq
      refine lv_iconst (v := (0 : Int32)) hx hb dX8_doReverse_64 (by decide) ?_
      exact ge_Wi hx hb hlocks hr rfl hI (congrArg (fun z => z.1) (Option.some.inj hq)) (congrArg (fun z => z.2) (Option.some.inj hq)) dX8_doReverse_65
  · replace hq := i_t c2 hq
    refine lv_iconst (v := (1 : Int32)) hx hb dX8_doReverse_8 (by decide) ?_
    exact ge_Wi hx hb hlocks hr rfl hI (congrArg (fun z => z.1) (Option.some.inj hq)) (congrArg (fun z => z.2) (Option.some.inj hq)) dX8_doReverse_9

def p_X8_copy (V : Nat → Nat) (g f : GH) (a0 : Nat) (a1 : Int32) (a2 : Nat) (a3 : Int32) : Option GH :=
  (h_cp f 0 a0 ((1825 : Int32) * a1) a2 ((1825 : Int32) * a3) (1825 : Int32)).bind fun f1 =>
  some f1
abbrev rm_X8_copy : Room := { frames := 2, cells := 0, slots := 0, locals := 120 }
theorem k_X8_copy : g_CS yX8_copy cX8_copy 4 none 4 := ⟨⟨m_1946, m_14, by decide +kernel⟩, m_1945⟩
set_option maxHeartbeats 4000000 in
set_option maxRecDepth 100000 in
theorem c_X8_copy (l : Launch) (V : Nat → Nat) (g : GH) (D : va_G) (cT : Nat → ClassId) (f : GH) (n : Nat) (a0 : Nat) (a1 : Int32) (a2 : Nat) (a3 : Int32) (o : GH) (hq : p_X8_copy V g f a0 a1 a2 a3 = some o) : Met l yX8_copy (Cond.code yX8_copy cX8_copy 4 none :: g_B) rm_X8_copy (va_Pc [.ref a0, .int a1, .ref a2, .int a3] (g_I V g D cT f n)) (g_Wv V D cT o n) 0 0 (g_A V) := by
  refine g_begin (own := RX8) [.ref a0, .int a1, .ref a2, .int a3] [(0, .ref a0), (1, .int a1), (2, .ref a2), (3, .int a3)] (g_A V) (fun _ h => h) (by decide) rfl (Nat.le_of_ble_eq_true rfl) rfl ?_
  intro p e s m args below meth c hx hb hr hlocks hin hC hI ls hl
  obtain ⟨hx, hb, hml, hown, hB⟩ := id hC
  obtain ⟨H, hH⟩ : ∃ H, H = s.heap := ⟨_, rfl⟩
  obtain ⟨locs, hlocs⟩ : ∃ L : List Loc, L = [] := ⟨_, rfl⟩
  rw [← hH, ← hlocs] at hI ⊢
  clear hH hlocs
  unfold p_X8_copy at hq
  refine lv_aload_n hx hb dX8_copy_0 rfl (lv_at hl 0 rfl) ?_
  refine lv_sipush (v := (1825 : Int32)) hx hb dX8_copy_1 (by decide) ?_
  refine lv_iload_n hx hb dX8_copy_4 rfl (lv_at hl 1 rfl) ?_
  refine lv_imul hx hb dX8_copy_5 ?_
  refine lv_aload_n hx hb dX8_copy_6 rfl (lv_at hl 2 rfl) ?_
  refine lv_sipush (v := (1825 : Int32)) hx hb dX8_copy_7 (by decide) ?_
  refine lv_iload_n hx hb dX8_copy_10 rfl (lv_at hl 3 rfl) ?_
  refine lv_imul hx hb dX8_copy_11 ?_
  refine lv_sipush (v := (1825 : Int32)) hx hb dX8_copy_12 (by decide) ?_
  obtain ⟨f1, ef1, hq⟩ := b_s hq
  refine fa_cp (own := RX8) hx hb (hml.trans hl.1.symm) hB hown m_1518 m_252 m_251 m_13 hI ef1 (by decide) (by decide) dX8_copy_15 (fun H locs hI => ?_)
  exact ge_Wv hx hb hlocks hr hI (Option.some.inj hq) dX8_copy_18

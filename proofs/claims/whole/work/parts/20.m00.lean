def p_X8_at (V : Nat → Nat) (g f : GH) (a0 : Int32) : Option Int32 :=
  some ((5 : Int32) + ((260 : Int32) * a0))
abbrev rm_X8_at : Room := { frames := 2, cells := 0, slots := 0, locals := 120 }
theorem k_X8_at : g_CS yX8_at cX8_at 1 (some .int) 1 := ⟨⟨m_1517, m_14, by decide +kernel⟩, m_1516⟩
set_option maxHeartbeats 4000000 in
set_option maxRecDepth 100000 in
theorem c_X8_at (l : Launch) (V : Nat → Nat) (g : GH) (D : va_G) (cT : Nat → ClassId) (f : GH) (n : Nat) (a0 : Int32) (o : Int32) (hq : p_X8_at V g f a0 = some o) : Met l yX8_at (Cond.code yX8_at cX8_at 1 (some .int) :: g_B) rm_X8_at (va_Pc [.int a0] (g_I V g D cT f n)) (g_Ri o n) 0 0 g_no := by
  refine g_begin (own := RX8) [.int a0] [(0, .int a0)] g_no (fun _ h => h.elim) (by decide) rfl (Nat.le_of_ble_eq_true rfl) rfl ?_
  intro p e s m args below meth c hx hb hr hlocks hin hC hI ls hl
  obtain ⟨hx, hb, hml, hown, hB⟩ := id hC
  obtain ⟨H, hH⟩ : ∃ H, H = s.heap := ⟨_, rfl⟩
  obtain ⟨locs, hlocs⟩ : ∃ L : List Loc, L = [] := ⟨_, rfl⟩
  rw [← hH, ← hlocs] at hI ⊢
  clear hH hlocs
  unfold p_X8_at at hq
  refine lv_iconst (v := (5 : Int32)) hx hb dX8_at_0 (by decide) ?_
  refine lv_sipush (v := (260 : Int32)) hx hb dX8_at_1 (by decide) ?_
  refine lv_iload_n hx hb dX8_at_4 rfl (lv_at hl 0 rfl) ?_
  refine lv_imul hx hb dX8_at_5 ?_
  refine lv_iadd hx hb dX8_at_6 ?_
  exact ge_Ri hx hb hlocks hr rfl hI hq dX8_at_7

def p_X8_layTold (V : Nat → Nat) (g f : GH) (a0 : Nat) : Option GH :=
  h_me f a0 10 <|
  (h_gr f a0 10 22).bind fun v1 =>
  (h_gr f a0 10 5).bind fun v2 =>
  (h_gr f a0 10 5).bind fun v3 =>
  (h_li f v3 0 (1 : Int32)).bind fun v4 =>
  (p_X8_at V g f v4).bind fun v5 =>
  (h_gr f a0 10 22).bind fun v6 =>
  (h_al f v6 0).bind fun v7 =>
  (h_cp f 0 v1 (0 : Int32) v2 v5 v7).bind fun f8 =>
  (h_gr f8 a0 10 5).bind fun v9 =>
  (h_li f8 v9 0 (1 : Int32)).bind fun v10 =>
  (h_si f8 v9 0 (1 : Int32) (v10 + (1 : Int32))).bind fun f11 =>
  some f11
abbrev rm_X8_layTold : Room := { frames := 3, cells := 0, slots := 0, locals := 140 }
theorem k_X8_layTold : g_CV yX8_layTold cX8_layTold 1 none 0 := ⟨⟨m_1514, m_14, by decide +kernel⟩, m_1513, ms_20⟩
set_option maxHeartbeats 4000000 in
set_option maxRecDepth 100000 in
theorem c_X8_layTold (l : Launch) (V : Nat → Nat) (g : GH) (D : va_G) (cT : Nat → ClassId) (f : GH) (n : Nat) (a0 : Nat) (o : GH) (hq : p_X8_layTold V g f a0 = some o) : Met l yX8_layTold (Cond.code yX8_layTold cX8_layTold 1 none :: g_B) rm_X8_layTold (va_Pc [.ref a0] (g_I V g D cT f n)) (g_Wv V D cT o n) 0 0 (g_A V) := by
  refine g_begin (own := RX8) [.ref a0] [(0, .ref a0)] (g_A V) (fun _ h => h) (by decide) rfl (Nat.le_of_ble_eq_true rfl) rfl ?_
  intro p e s m args below meth c hx hb hr hlocks hin hC hI ls hl
  obtain ⟨hx, hb, hml, hown, hB⟩ := id hC
  obtain ⟨H, hH⟩ : ∃ H, H = s.heap := ⟨_, rfl⟩
  obtain ⟨locs, hlocs⟩ : ∃ L : List Loc, L = [] := ⟨_, rfl⟩
  rw [← hH, ← hlocs] at hI ⊢
  clear hH hlocs
  unfold p_X8_layTold at hq
  replace hq := (h_me_eq hq).2
  refine lv_aload_n hx hb dX8_layTold_0 rfl (lv_at hl 0 rfl) ?_
  obtain ⟨v1, ev1, hq⟩ := b_s hq
  refine fa_gr (own := RX8) (ref := "CoastlineRulerModel") (k := 22) hx hb hB inB_RX8 hown hI rfl (by decide) m_1553 (fun _ h9 => h9) ev1 dX8_layTold_1 ?_
  refine lv_iconst (v := (0 : Int32)) hx hb dX8_layTold_4 (by decide) ?_
  refine lv_aload_n hx hb dX8_layTold_5 rfl (lv_at hl 0 rfl) ?_
  obtain ⟨v2, ev2, hq⟩ := b_s hq
  refine fa_gr (own := RX8) (ref := "CoastlineRulerModel") (k := 5) hx hb hB inB_RX8 hown hI rfl (by decide) m_1536 (fun _ h9 => h9) ev2 dX8_layTold_6 ?_
  refine lv_aload_n hx hb dX8_layTold_9 rfl (lv_at hl 0 rfl) ?_
  obtain ⟨v3, ev3, hq⟩ := b_s hq
  refine fa_gr (own := RX8) (ref := "CoastlineRulerModel") (k := 5) hx hb hB inB_RX8 hown hI rfl (by decide) m_1536 (fun _ h9 => h9) ev3 dX8_layTold_10 ?_
  refine lv_iconst (v := (1 : Int32)) hx hb dX8_layTold_13 (by decide) ?_
  obtain ⟨v4, ev4, hq⟩ := b_s hq
  refine fa_li hx hb hI ev4 dX8_layTold_14 ?_
  obtain ⟨v5, ev5, hq⟩ := b_s hq
  refine gr_i (g_runS (As := [.int v4]) (rest := [.ref v2, .int (0 : Int32), .ref v1]) hC (c_X8_at l V g D cT f n v4 v5 ev5) k_X8_at m_1515 rfl rfl ⟨Nat.le_of_ble_eq_true rfl, Nat.le_of_ble_eq_true rfl⟩ hI rfl hl.1 rfl (Nat.le_of_ble_eq_true rfl) dX8_layTold_15 ⟨by decide, by decide⟩) hI (fun H locs hI => ?_)
  refine lv_aload_n hx hb dX8_layTold_18 rfl (lv_at hl 0 rfl) ?_
  obtain ⟨v6, ev6, hq⟩ := b_s hq
  refine fa_gr (own := RX8) (ref := "CoastlineRulerModel") (k := 22) hx hb hB inB_RX8 hown hI rfl (by decide) m_1553 (fun _ h9 => h9) ev6 dX8_layTold_19 ?_
  obtain ⟨v7, ev7, hq⟩ := b_s hq
  refine fa_al hx hb hI (by decide) ev7 dX8_layTold_22 ?_
  obtain ⟨f8, ef8, hq⟩ := b_s hq
  refine fa_cp (own := RX8) hx hb (hml.trans hl.1.symm) hB hown m_1518 m_252 m_251 m_13 hI ef8 (by decide) (by decide) dX8_layTold_23 (fun H locs hI => ?_)
  refine lv_aload_n hx hb dX8_layTold_26 rfl (lv_at hl 0 rfl) ?_
  obtain ⟨v9, ev9, hq⟩ := b_s hq
  refine fa_gr (own := RX8) (ref := "CoastlineRulerModel") (k := 5) hx hb hB inB_RX8 hown hI rfl (by decide) m_1536 (fun _ h9 => h9) ev9 dX8_layTold_27 ?_
  refine lv_iconst (v := (1 : Int32)) hx hb dX8_layTold_30 (by decide) ?_
  refine lv_dup2_11 hx hb dX8_layTold_31 rfl rfl ?_
  obtain ⟨v10, ev10, hq⟩ := b_s hq
  refine fa_li hx hb hI ev10 dX8_layTold_32 ?_
  refine lv_iconst (v := (1 : Int32)) hx hb dX8_layTold_33 (by decide) ?_
  refine lv_iadd hx hb dX8_layTold_34 ?_
  obtain ⟨f11, ef11, hq⟩ := b_s hq
  refine fa_si hx hb hI ef11 dX8_layTold_35 (fun H locs hI => ?_)
  exact ge_Wv hx hb hlocks hr hI (Option.some.inj hq) dX8_layTold_36

def p_X8_count (V : Nat → Nat) (g f : GH) (a0 : Nat) (a1 : Int32) : Option Int32 :=
  h_me f a0 10 <|
  (h_gr f a0 10 5).bind fun v1 =>
  (p_X8_at V g f a1).bind fun v2 =>
  (h_li f v1 0 (v2 + (1 : Int32))).bind fun v3 =>
  some v3
abbrev rm_X8_count : Room := { frames := 3, cells := 0, slots := 0, locals := 140 }
theorem k_X8_count : g_CV yX8_count cX8_count 2 (some .int) 1 := ⟨⟨m_1530, m_14, by decide +kernel⟩, m_1529, ms_23⟩
set_option maxHeartbeats 4000000 in
set_option maxRecDepth 100000 in
theorem c_X8_count (l : Launch) (V : Nat → Nat) (g : GH) (D : va_G) (cT : Nat → ClassId) (f : GH) (n : Nat) (a0 : Nat) (a1 : Int32) (o : Int32) (hq : p_X8_count V g f a0 a1 = some o) : Met l yX8_count (Cond.code yX8_count cX8_count 2 (some .int) :: g_B) rm_X8_count (va_Pc [.ref a0, .int a1] (g_I V g D cT f n)) (g_Ri o n) 0 0 g_no := by
  refine g_begin (own := RX8) [.ref a0, .int a1] [(0, .ref a0), (1, .int a1)] g_no (fun _ h => h.elim) (by decide) rfl (Nat.le_of_ble_eq_true rfl) rfl ?_
  intro p e s m args below meth c hx hb hr hlocks hin hC hI ls hl
  obtain ⟨hx, hb, hml, hown, hB⟩ := id hC
  obtain ⟨H, hH⟩ : ∃ H, H = s.heap := ⟨_, rfl⟩
  obtain ⟨locs, hlocs⟩ : ∃ L : List Loc, L = [] := ⟨_, rfl⟩
  rw [← hH, ← hlocs] at hI ⊢
  clear hH hlocs
  unfold p_X8_count at hq
  replace hq := (h_me_eq hq).2
  refine lv_aload_n hx hb dX8_count_0 rfl (lv_at hl 0 rfl) ?_
  obtain ⟨v1, ev1, hq⟩ := b_s hq
  refine fa_gr (own := RX8) (ref := "CoastlineRulerModel") (k := 5) hx hb hB inB_RX8 hown hI rfl (by decide) m_1536 (fun _ h9 => h9) ev1 dX8_count_1 ?_
  refine lv_iload_n hx hb dX8_count_4 rfl (lv_at hl 1 rfl) ?_
  obtain ⟨v2, ev2, hq⟩ := b_s hq
  refine gr_i (g_runS (As := [.int a1]) (rest := [.ref v1]) hC (c_X8_at l V g D cT f n a1 v2 ev2) k_X8_at m_1515 rfl rfl ⟨Nat.le_of_ble_eq_true rfl, Nat.le_of_ble_eq_true rfl⟩ hI rfl hl.1 rfl (Nat.le_of_ble_eq_true rfl) dX8_count_5 ⟨by decide, by decide⟩) hI (fun H locs hI => ?_)
  refine lv_iconst (v := (1 : Int32)) hx hb dX8_count_8 (by decide) ?_
  refine lv_iadd hx hb dX8_count_9 ?_
  obtain ⟨v3, ev3, hq⟩ := b_s hq
  refine fa_li hx hb hI ev3 dX8_count_10 ?_
  exact ge_Ri hx hb hlocks hr rfl hI hq dX8_count_11

def p_X8_allPoints_l4 (V : Nat → Nat) (g f : GH) (K28 : Int32 → Option Int32) : Nat → Nat → Int32 → Int32 → Option Int32
  | 0, _, _, _ => none
  | N + 1, x0, x1, x2 =>
    (h_gr f x0 10 5).bind fun v1 =>
    (h_li f v1 0 (1 : Int32)).bind fun v2 =>
    (if v2 ≤ x2 then
      K28 x1
    else
      (p_X8_count V g f x0 x2).bind fun v4 =>
      p_X8_allPoints_l4 V g f K28 N x0 (x1 + v4) (x2 + (1 : Int32)))
def p_X8_allPoints (V : Nat → Nat) (g f : GH) (a0 : Nat) : Option Int32 :=
  h_me f a0 10 <|
  p_X8_allPoints_l4 V g f (fun x1 =>
    some x1) FU a0 (0 : Int32) (0 : Int32)
abbrev rm_X8_allPoints : Room := { frames := 4, cells := 0, slots := 0, locals := 161 }
theorem k_X8_allPoints : g_CV yX8_allPoints cX8_allPoints 3 (some .int) 0 := ⟨⟨m_1526, m_14, by decide +kernel⟩, m_1525, ms_22⟩
set_option maxHeartbeats 4000000 in
set_option maxRecDepth 100000 in
theorem c_X8_allPoints (l : Launch) (V : Nat → Nat) (g : GH) (D : va_G) (cT : Nat → ClassId) (f : GH) (n : Nat) (a0 : Nat) (o : Int32) (hq : p_X8_allPoints V g f a0 = some o) : Met l yX8_allPoints (Cond.code yX8_allPoints cX8_allPoints 3 (some .int) :: g_B) rm_X8_allPoints (va_Pc [.ref a0] (g_I V g D cT f n)) (g_Ri o n) 0 0 g_no := by
  refine g_begin (own := RX8) [.ref a0] [(0, .ref a0)] g_no (fun _ h => h.elim) (by decide) rfl (Nat.le_of_ble_eq_true rfl) rfl ?_
  intro p e s m args below meth c hx hb hr hlocks hin hC hI ls hl
  obtain ⟨hx, hb, hml, hown, hB⟩ := id hC
  obtain ⟨H, hH⟩ : ∃ H, H = s.heap := ⟨_, rfl⟩
  obtain ⟨locs, hlocs⟩ : ∃ L : List Loc, L = [] := ⟨_, rfl⟩
  rw [← hH, ← hlocs] at hI ⊢
  clear hH hlocs
  unfold p_X8_allPoints at hq
  replace hq := (h_me_eq hq).2
  refine lv_iconst (v := (0 : Int32)) hx hb dX8_allPoints_0 (by decide) ?_
  refine lv_istore_n (lv' := [(1, .int (0 : Int32)), (0, .ref a0)]) hx hb dX8_allPoints_1 rfl hl (by decide) rfl (fun ls hl => ?_)
  refine lv_iconst (v := (0 : Int32)) hx hb dX8_allPoints_2 (by decide) ?_
  refine lv_istore_n (lv' := [(2, .int (0 : Int32)), (1, .int (0 : Int32)), (0, .ref a0)]) hx hb dX8_allPoints_3 rfl hl (by decide) rfl (fun ls hl => ?_)
  have hl4 : ∀ (K28 : Int32 → Option Int32) (hK28 : ∀ (x1 : Int32) (H : Heap) (locs : List Loc) (ls : Array Slot), g_at g_no V g D cT f n s H locs → lv_has ls 3 [(1, .int x1)] → K28 x1 = some o → W p l e rm_X8_allPoints s m args below meth c H locs 0 0 (MQ below (g_Ri o n) args s 0 0 g_no) (F0 m 28 ls [])) (N : Nat) (x0 : Nat) (x1 : Int32) (x2 : Int32) (H : Heap) (locs : List Loc) (ls : Array Slot), g_at g_no V g D cT f n s H locs → lv_has ls 3 [(0, .ref x0), (1, .int x1), (2, .int x2)] → p_X8_allPoints_l4 V g f K28 N x0 x1 x2 = some o → W p l e rm_X8_allPoints s m args below meth c H locs 0 0 (MQ below (g_Ri o n) args s 0 0 g_no) (F0 m 4 ls []) := by
    intro K28 hK28 N
    induction N with
    | zero =>
      intro x0 x1 x2 H locs ls hI hl hq
      rw [p_X8_allPoints_l4] at hq
      cases hq
    | succ N ih =>
      intro x0 x1 x2 H locs ls hI hl hq
      rw [p_X8_allPoints_l4] at hq
      refine lv_iload_n hx hb dX8_allPoints_4 rfl (lv_at hl 2 rfl) ?_
      refine lv_aload_n hx hb dX8_allPoints_5 rfl (lv_at hl 0 rfl) ?_
      obtain ⟨v1, ev1, hq⟩ := b_s hq
      refine fa_gr (own := RX8) (ref := "CoastlineRulerModel") (k := 5) hx hb hB inB_RX8 hown hI rfl (by decide) m_1536 (fun _ h9 => h9) ev1 dX8_allPoints_6 ?_
      refine lv_iconst (v := (1 : Int32)) hx hb dX8_allPoints_9 (by decide) ?_
      obtain ⟨v2, ev2, hq⟩ := b_s hq
      refine fa_li hx hb hI ev2 dX8_allPoints_10 ?_
      refine lv_icmp_ge (tgt := 28) hx hb dX8_allPoints_11 (by decide) (fun c3 => ?_) (fun c3 => ?_)
      · replace hq := i_t c3 hq
        exact hK28 x1 H locs ls hI (lv_sub hl [1] rfl) hq
      · replace hq := i_f c3 hq
        refine lv_iload_n hx hb dX8_allPoints_14 rfl (lv_at hl 1 rfl) ?_
        refine lv_aload_n hx hb dX8_allPoints_15 rfl (lv_at hl 0 rfl) ?_
        refine lv_iload_n hx hb dX8_allPoints_16 rfl (lv_at hl 2 rfl) ?_
        obtain ⟨v4, ev4, hq⟩ := b_s hq
        refine gr_i (g_runV (As := [.int x2]) (rest := [.int x1]) (ci := 10) hC (c_X8_count l V g D cT f n x0 x2 v4 ev4) k_X8_count m_1527 rfl rfl ⟨Nat.le_of_ble_eq_true rfl, Nat.le_of_ble_eq_true rfl⟩ hI rfl rfl (h_me_eq ev4).1 rfl hl.1 rfl (Nat.le_of_ble_eq_true rfl) dX8_allPoints_17 ⟨by decide, by decide⟩) hI (fun H locs hI => ?_)
        refine lv_iadd hx hb dX8_allPoints_20 ?_
        refine lv_istore_n (lv' := [(1, .int (x1 + v4)), (0, .ref x0), (2, .int x2)]) hx hb dX8_allPoints_21 rfl hl (by decide) rfl (fun ls hl => ?_)
        refine lv_iinc (v := x2 + (1 : Int32)) (lv' := [(2, .int (x2 + (1 : Int32))), (1, .int (x1 + v4)), (0, .ref x0)]) hx hb dX8_allPoints_22 hl (k := 2) rfl rfl (by decide) rfl (fun ls hl => ?_)
        refine lv_goto (tgt := 4) hx hb dX8_allPoints_25 (by decide) ?_
        exact ih x0 (x1 + v4) (x2 + (1 : Int32)) H locs ls hI (lv_sub hl [2, 1, 0] rfl) hq
  refine hl4 _ ?_ FU a0 (0 : Int32) (0 : Int32) H locs ls hI (lv_sub hl [2, 1, 0] rfl) hq
  · intro x1 H locs ls hI hl hq
    refine lv_iload_n hx hb dX8_allPoints_28 rfl (lv_at hl 0 rfl) ?_
    exact ge_Ri hx hb hlocks hr rfl hI hq dX8_allPoints_29

def p_X8_restartLedgers (V : Nat → Nat) (g f : GH) (a0 : Nat) : Option GH :=
  h_me f a0 10 <|
  (h_gr f a0 10 5).bind fun v1 =>
  (p_X8_allPoints V g f a0).bind fun v2 =>
  (h_si f v1 0 (2 : Int32) v2).bind fun f3 =>
  (h_gr f3 a0 10 5).bind fun v4 =>
  (h_si f3 v4 0 (3 : Int32) (0 : Int32)).bind fun f5 =>
  (h_gr f5 a0 10 5).bind fun v6 =>
  (h_si f5 v6 0 (4 : Int32) (0 : Int32)).bind fun f7 =>
  some f7
abbrev rm_X8_restartLedgers : Room := { frames := 5, cells := 0, slots := 0, locals := 183 }
theorem k_X8_restartLedgers : g_CV yX8_restartLedgers cX8_restartLedgers 1 none 0 := ⟨⟨m_1522, m_14, by decide +kernel⟩, m_1521, ms_21⟩
set_option maxHeartbeats 4000000 in
set_option maxRecDepth 100000 in
theorem c_X8_restartLedgers (l : Launch) (V : Nat → Nat) (g : GH) (D : va_G) (cT : Nat → ClassId) (f : GH) (n : Nat) (a0 : Nat) (o : GH) (hq : p_X8_restartLedgers V g f a0 = some o) : Met l yX8_restartLedgers (Cond.code yX8_restartLedgers cX8_restartLedgers 1 none :: g_B) rm_X8_restartLedgers (va_Pc [.ref a0] (g_I V g D cT f n)) (g_Wv V D cT o n) 0 0 (g_A V) := by
  refine g_begin (own := RX8) [.ref a0] [(0, .ref a0)] (g_A V) (fun _ h => h) (by decide) rfl (Nat.le_of_ble_eq_true rfl) rfl ?_
  intro p e s m args below meth c hx hb hr hlocks hin hC hI ls hl
  obtain ⟨hx, hb, hml, hown, hB⟩ := id hC
  obtain ⟨H, hH⟩ : ∃ H, H = s.heap := ⟨_, rfl⟩
  obtain ⟨locs, hlocs⟩ : ∃ L : List Loc, L = [] := ⟨_, rfl⟩
  rw [← hH, ← hlocs] at hI ⊢
  clear hH hlocs
  unfold p_X8_restartLedgers at hq
  replace hq := (h_me_eq hq).2
  refine lv_aload_n hx hb dX8_restartLedgers_0 rfl (lv_at hl 0 rfl) ?_
  obtain ⟨v1, ev1, hq⟩ := b_s hq
  refine fa_gr (own := RX8) (ref := "CoastlineRulerModel") (k := 5) hx hb hB inB_RX8 hown hI rfl (by decide) m_1536 (fun _ h9 => h9) ev1 dX8_restartLedgers_1 ?_
  refine lv_iconst (v := (2 : Int32)) hx hb dX8_restartLedgers_4 (by decide) ?_
  refine lv_aload_n hx hb dX8_restartLedgers_5 rfl (lv_at hl 0 rfl) ?_
  obtain ⟨v2, ev2, hq⟩ := b_s hq
  refine gr_i (g_runV (As := []) (rest := [.int (2 : Int32), .ref v1]) (ci := 10) hC (c_X8_allPoints l V g D cT f n a0 v2 ev2) k_X8_allPoints m_1523 rfl rfl ⟨Nat.le_of_ble_eq_true rfl, Nat.le_of_ble_eq_true rfl⟩ hI rfl rfl (h_me_eq ev2).1 rfl hl.1 rfl (Nat.le_of_ble_eq_true rfl) dX8_restartLedgers_6 ⟨by decide, by decide⟩) hI (fun H locs hI => ?_)
  obtain ⟨f3, ef3, hq⟩ := b_s hq
  refine fa_si hx hb hI ef3 dX8_restartLedgers_9 (fun H locs hI => ?_)
  refine lv_aload_n hx hb dX8_restartLedgers_10 rfl (lv_at hl 0 rfl) ?_
  obtain ⟨v4, ev4, hq⟩ := b_s hq
  refine fa_gr (own := RX8) (ref := "CoastlineRulerModel") (k := 5) hx hb hB inB_RX8 hown hI rfl (by decide) m_1536 (fun _ h9 => h9) ev4 dX8_restartLedgers_11 ?_
  refine lv_iconst (v := (3 : Int32)) hx hb dX8_restartLedgers_14 (by decide) ?_
  refine lv_iconst (v := (0 : Int32)) hx hb dX8_restartLedgers_15 (by decide) ?_
  obtain ⟨f5, ef5, hq⟩ := b_s hq
  refine fa_si hx hb hI ef5 dX8_restartLedgers_16 (fun H locs hI => ?_)
  refine lv_aload_n hx hb dX8_restartLedgers_17 rfl (lv_at hl 0 rfl) ?_
  obtain ⟨v6, ev6, hq⟩ := b_s hq
  refine fa_gr (own := RX8) (ref := "CoastlineRulerModel") (k := 5) hx hb hB inB_RX8 hown hI rfl (by decide) m_1536 (fun _ h9 => h9) ev6 dX8_restartLedgers_18 ?_
  refine lv_iconst (v := (4 : Int32)) hx hb dX8_restartLedgers_21 (by decide) ?_
  refine lv_iconst (v := (0 : Int32)) hx hb dX8_restartLedgers_22 (by decide) ?_
  obtain ⟨f7, ef7, hq⟩ := b_s hq
  refine fa_si hx hb hI ef7 dX8_restartLedgers_23 (fun H locs hI => ?_)
  exact ge_Wv hx hb hlocks hr hI (Option.some.inj hq) dX8_restartLedgers_24

def p_X8_startCoast (V : Nat → Nat) (g f : GH) (a0 : Nat) (a1 : Int32) : Option GH :=
  h_me f a0 10 <|
  (h_gr f a0 10 22).bind fun v1 =>
  (h_si f v1 0 (0 : Int32) a1).bind fun f2 =>
  (h_gr f2 a0 10 22).bind fun v3 =>
  (h_si f2 v3 0 (1 : Int32) (0 : Int32)).bind fun f4 =>
  some f4
abbrev rm_X8_startCoast : Room := { frames := 2, cells := 0, slots := 0, locals := 120 }
theorem k_X8_startCoast : g_CV yX8_startCoast cX8_startCoast 2 none 1 := ⟨⟨m_1506, m_14, by decide +kernel⟩, m_1505, ms_18⟩
set_option maxHeartbeats 4000000 in
set_option maxRecDepth 100000 in
theorem c_X8_startCoast (l : Launch) (V : Nat → Nat) (g : GH) (D : va_G) (cT : Nat → ClassId) (f : GH) (n : Nat) (a0 : Nat) (a1 : Int32) (o : GH) (hq : p_X8_startCoast V g f a0 a1 = some o) : Met l yX8_startCoast (Cond.code yX8_startCoast cX8_startCoast 2 none :: g_B) rm_X8_startCoast (va_Pc [.ref a0, .int a1] (g_I V g D cT f n)) (g_Wv V D cT o n) 0 0 (g_A V) := by
  refine g_begin (own := RX8) [.ref a0, .int a1] [(0, .ref a0), (1, .int a1)] (g_A V) (fun _ h => h) (by decide) rfl (Nat.le_of_ble_eq_true rfl) rfl ?_
  intro p e s m args below meth c hx hb hr hlocks hin hC hI ls hl
  obtain ⟨hx, hb, hml, hown, hB⟩ := id hC
  obtain ⟨H, hH⟩ : ∃ H, H = s.heap := ⟨_, rfl⟩
  obtain ⟨locs, hlocs⟩ : ∃ L : List Loc, L = [] := ⟨_, rfl⟩
  rw [← hH, ← hlocs] at hI ⊢
  clear hH hlocs
  unfold p_X8_startCoast at hq
  replace hq := (h_me_eq hq).2
  refine lv_aload_n hx hb dX8_startCoast_0 rfl (lv_at hl 0 rfl) ?_
  obtain ⟨v1, ev1, hq⟩ := b_s hq
  refine fa_gr (own := RX8) (ref := "CoastlineRulerModel") (k := 22) hx hb hB inB_RX8 hown hI rfl (by decide) m_1553 (fun _ h9 => h9) ev1 dX8_startCoast_1 ?_
  refine lv_iconst (v := (0 : Int32)) hx hb dX8_startCoast_4 (by decide) ?_
  refine lv_iload_n hx hb dX8_startCoast_5 rfl (lv_at hl 1 rfl) ?_
  obtain ⟨f2, ef2, hq⟩ := b_s hq
  refine fa_si hx hb hI ef2 dX8_startCoast_6 (fun H locs hI => ?_)
  refine lv_aload_n hx hb dX8_startCoast_7 rfl (lv_at hl 0 rfl) ?_
  obtain ⟨v3, ev3, hq⟩ := b_s hq
  refine fa_gr (own := RX8) (ref := "CoastlineRulerModel") (k := 22) hx hb hB inB_RX8 hown hI rfl (by decide) m_1553 (fun _ h9 => h9) ev3 dX8_startCoast_8 ?_
  refine lv_iconst (v := (1 : Int32)) hx hb dX8_startCoast_11 (by decide) ?_
  refine lv_iconst (v := (0 : Int32)) hx hb dX8_startCoast_12 (by decide) ?_
  obtain ⟨f4, ef4, hq⟩ := b_s hq
  refine fa_si hx hb hI ef4 dX8_startCoast_13 (fun H locs hI => ?_)
  exact ge_Wv hx hb hlocks hr hI (Option.some.inj hq) dX8_startCoast_14

def p_X8_tellPoint (V : Nat → Nat) (g f : GH) (a0 : Nat) (a1 : Int32) (a2 : Int32) : Option GH :=
  h_me f a0 10 <|
  (h_gr f a0 10 22).bind fun v1 =>
  (h_gr f a0 10 22).bind fun v2 =>
  (h_li f v2 0 (1 : Int32)).bind fun v3 =>
  (h_si f v1 0 ((2 : Int32) + ((2 : Int32) * v3)) a1).bind fun f4 =>
  (h_gr f4 a0 10 22).bind fun v5 =>
  (h_gr f4 a0 10 22).bind fun v6 =>
  (h_li f4 v6 0 (1 : Int32)).bind fun v7 =>
  (h_si f4 v5 0 (((2 : Int32) + ((2 : Int32) * v7)) + (1 : Int32)) a2).bind fun f8 =>
  (h_gr f8 a0 10 22).bind fun v9 =>
  (h_li f8 v9 0 (1 : Int32)).bind fun v10 =>
  (h_si f8 v9 0 (1 : Int32) (v10 + (1 : Int32))).bind fun f11 =>
  some f11
abbrev rm_X8_tellPoint : Room := { frames := 2, cells := 0, slots := 0, locals := 120 }
theorem k_X8_tellPoint : g_CV yX8_tellPoint cX8_tellPoint 3 none 2 := ⟨⟨m_1510, m_14, by decide +kernel⟩, m_1509, ms_19⟩
set_option maxHeartbeats 4000000 in
set_option maxRecDepth 100000 in
theorem c_X8_tellPoint (l : Launch) (V : Nat → Nat) (g : GH) (D : va_G) (cT : Nat → ClassId) (f : GH) (n : Nat) (a0 : Nat) (a1 : Int32) (a2 : Int32) (o : GH) (hq : p_X8_tellPoint V g f a0 a1 a2 = some o) : Met l yX8_tellPoint (Cond.code yX8_tellPoint cX8_tellPoint 3 none :: g_B) rm_X8_tellPoint (va_Pc [.ref a0, .int a1, .int a2] (g_I V g D cT f n)) (g_Wv V D cT o n) 0 0 (g_A V) := by
  refine g_begin (own := RX8) [.ref a0, .int a1, .int a2] [(0, .ref a0), (1, .int a1), (2, .int a2)] (g_A V) (fun _ h => h) (by decide) rfl (Nat.le_of_ble_eq_true rfl) rfl ?_
  intro p e s m args below meth c hx hb hr hlocks hin hC hI ls hl
  obtain ⟨hx, hb, hml, hown, hB⟩ := id hC
  obtain ⟨H, hH⟩ : ∃ H, H = s.heap := ⟨_, rfl⟩
  obtain ⟨locs, hlocs⟩ : ∃ L : List Loc, L = [] := ⟨_, rfl⟩
  rw [← hH, ← hlocs] at hI ⊢
  clear hH hlocs
  unfold p_X8_tellPoint at hq
  replace hq := (h_me_eq hq).2
  refine lv_aload_n hx hb dX8_tellPoint_0 rfl (lv_at hl 0 rfl) ?_
  obtain ⟨v1, ev1, hq⟩ := b_s hq
  refine fa_gr (own := RX8) (ref := "CoastlineRulerModel") (k := 22) hx hb hB inB_RX8 hown hI rfl (by decide) m_1553 (fun _ h9 => h9) ev1 dX8_tellPoint_1 ?_
  refine lv_iconst (v := (2 : Int32)) hx hb dX8_tellPoint_4 (by decide) ?_
  refine lv_iconst (v := (2 : Int32)) hx hb dX8_tellPoint_5 (by decide) ?_
  refine lv_aload_n hx hb dX8_tellPoint_6 rfl (lv_at hl 0 rfl) ?_
  obtain ⟨v2, ev2, hq⟩ := b_s hq
  refine fa_gr (own := RX8) (ref := "CoastlineRulerModel") (k := 22) hx hb hB inB_RX8 hown hI rfl (by decide) m_1553 (fun _ h9 => h9) ev2 dX8_tellPoint_7 ?_
  refine lv_iconst (v := (1 : Int32)) hx hb dX8_tellPoint_10 (by decide) ?_
  obtain ⟨v3, ev3, hq⟩ := b_s hq
  refine fa_li hx hb hI ev3 dX8_tellPoint_11 ?_
  refine lv_imul hx hb dX8_tellPoint_12 ?_
  refine lv_iadd hx hb dX8_tellPoint_13 ?_
  refine lv_iload_n hx hb dX8_tellPoint_14 rfl (lv_at hl 1 rfl) ?_
  obtain ⟨f4, ef4, hq⟩ := b_s hq
  refine fa_si hx hb hI ef4 dX8_tellPoint_15 (fun H locs hI => ?_)
  refine lv_aload_n hx hb dX8_tellPoint_16 rfl (lv_at hl 0 rfl) ?_
  obtain ⟨v5, ev5, hq⟩ := b_s hq
  refine fa_gr (own := RX8) (ref := "CoastlineRulerModel") (k := 22) hx hb hB inB_RX8 hown hI rfl (by decide) m_1553 (fun _ h9 => h9) ev5 dX8_tellPoint_17 ?_
  refine lv_iconst (v := (2 : Int32)) hx hb dX8_tellPoint_20 (by decide) ?_
  refine lv_iconst (v := (2 : Int32)) hx hb dX8_tellPoint_21 (by decide) ?_
  refine lv_aload_n hx hb dX8_tellPoint_22 rfl (lv_at hl 0 rfl) ?_
  obtain ⟨v6, ev6, hq⟩ := b_s hq
  refine fa_gr (own := RX8) (ref := "CoastlineRulerModel") (k := 22) hx hb hB inB_RX8 hown hI rfl (by decide) m_1553 (fun _ h9 => h9) ev6 dX8_tellPoint_23 ?_
  refine lv_iconst (v := (1 : Int32)) hx hb dX8_tellPoint_26 (by decide) ?_
  obtain ⟨v7, ev7, hq⟩ := b_s hq
  refine fa_li hx hb hI ev7 dX8_tellPoint_27 ?_
  refine lv_imul hx hb dX8_tellPoint_28 ?_
  refine lv_iadd hx hb dX8_tellPoint_29 ?_
  refine lv_iconst (v := (1 : Int32)) hx hb dX8_tellPoint_30 (by decide) ?_
  refine lv_iadd hx hb dX8_tellPoint_31 ?_
  refine lv_iload_n hx hb dX8_tellPoint_32 rfl (lv_at hl 2 rfl) ?_
  obtain ⟨f8, ef8, hq⟩ := b_s hq
  refine fa_si hx hb hI ef8 dX8_tellPoint_33 (fun H locs hI => ?_)
  refine lv_aload_n hx hb dX8_tellPoint_34 rfl (lv_at hl 0 rfl) ?_
  obtain ⟨v9, ev9, hq⟩ := b_s hq
  refine fa_gr (own := RX8) (ref := "CoastlineRulerModel") (k := 22) hx hb hB inB_RX8 hown hI rfl (by decide) m_1553 (fun _ h9 => h9) ev9 dX8_tellPoint_35 ?_
  refine lv_iconst (v := (1 : Int32)) hx hb dX8_tellPoint_38 (by decide) ?_
  refine lv_dup2_11 hx hb dX8_tellPoint_39 rfl rfl ?_
  obtain ⟨v10, ev10, hq⟩ := b_s hq
  refine fa_li hx hb hI ev10 dX8_tellPoint_40 ?_
  refine lv_iconst (v := (1 : Int32)) hx hb dX8_tellPoint_41 (by decide) ?_
  refine lv_iadd hx hb dX8_tellPoint_42 ?_
  obtain ⟨f11, ef11, hq⟩ := b_s hq
  refine fa_si hx hb hI ef11 dX8_tellPoint_43 (fun H locs hI => ?_)
  exact ge_Wv hx hb hlocks hr hI (Option.some.inj hq) dX8_tellPoint_44

def p_X8_thrown (V : Nat → Nat) (g f : GH) (a0 : Nat) : Option Int32 :=
  h_me f a0 10 <|
  (h_gi f a0 10 7).bind fun v1 =>
  some v1
abbrev rm_X8_thrown : Room := { frames := 2, cells := 0, slots := 0, locals := 120 }
theorem k_X8_thrown : g_CV yX8_thrown cX8_thrown 1 (some .int) 0 := ⟨⟨m_1613, m_14, by decide +kernel⟩, m_1611, m_1612⟩
set_option maxHeartbeats 4000000 in
set_option maxRecDepth 100000 in
theorem c_X8_thrown (l : Launch) (V : Nat → Nat) (g : GH) (D : va_G) (cT : Nat → ClassId) (f : GH) (n : Nat) (a0 : Nat) (o : Int32) (hq : p_X8_thrown V g f a0 = some o) : Met l yX8_thrown (Cond.code yX8_thrown cX8_thrown 1 (some .int) :: g_B) rm_X8_thrown (va_Pc [.ref a0] (g_I V g D cT f n)) (g_Ri o n) 0 0 g_no := by
  refine g_begin (own := RX8) [.ref a0] [(0, .ref a0)] g_no (fun _ h => h.elim) (by decide) rfl (Nat.le_of_ble_eq_true rfl) rfl ?_
  intro p e s m args below meth c hx hb hr hlocks hin hC hI ls hl
  obtain ⟨hx, hb, hml, hown, hB⟩ := id hC
  obtain ⟨H, hH⟩ : ∃ H, H = s.heap := ⟨_, rfl⟩
  obtain ⟨locs, hlocs⟩ : ∃ L : List Loc, L = [] := ⟨_, rfl⟩
  rw [← hH, ← hlocs] at hI ⊢
  clear hH hlocs
  unfold p_X8_thrown at hq
  replace hq := (h_me_eq hq).2
  refine lv_aload_n hx hb dX8_thrown_0 rfl (lv_at hl 0 rfl) ?_
  obtain ⟨v1, ev1, hq⟩ := b_s hq
  refine fa_gi (own := RX8) (ref := "CoastlineRulerModel") (k := 7) hx hb hB inB_RX8 hown hI rfl (by decide) m_1538 (fun _ h9 => h9) ev1 dX8_thrown_1 ?_
  exact ge_Ri hx hb hlocks hr rfl hI hq dX8_thrown_4

def p_X8_inRange (V : Nat → Nat) (g f : GH) (a0 : Int32) (a1 : Int32) (a2 : Int32) : Option Int32 :=
  (if a0 < a1 then
    some (0 : Int32)
  else
    (if a2 < a0 then
      some (0 : Int32)
    else
      some (1 : Int32)))
abbrev rm_X8_inRange : Room := { frames := 2, cells := 0, slots := 0, locals := 120 }
theorem k_X8_inRange : g_CS yX8_inRange cX8_inRange 3 (some .boolean) 3 := ⟨⟨m_1636, m_14, by decide +kernel⟩, m_1635⟩
set_option maxHeartbeats 4000000 in
set_option maxRecDepth 100000 in
theorem c_X8_inRange (l : Launch) (V : Nat → Nat) (g : GH) (D : va_G) (cT : Nat → ClassId) (f : GH) (n : Nat) (a0 : Int32) (a1 : Int32) (a2 : Int32) (o : Int32) (hq : p_X8_inRange V g f a0 a1 a2 = some o) : Met l yX8_inRange (Cond.code yX8_inRange cX8_inRange 3 (some .boolean) :: g_B) rm_X8_inRange (va_Pc [.int a0, .int a1, .int a2] (g_I V g D cT f n)) (g_Ri o n) 0 0 g_no := by
  refine g_begin (own := RX8) [.int a0, .int a1, .int a2] [(0, .int a0), (1, .int a1), (2, .int a2)] g_no (fun _ h => h.elim) (by decide) rfl (Nat.le_of_ble_eq_true rfl) rfl ?_
  intro p e s m args below meth c hx hb hr hlocks hin hC hI ls hl
  obtain ⟨hx, hb, hml, hown, hB⟩ := id hC
  obtain ⟨H, hH⟩ : ∃ H, H = s.heap := ⟨_, rfl⟩
  obtain ⟨locs, hlocs⟩ : ∃ L : List Loc, L = [] := ⟨_, rfl⟩
  rw [← hH, ← hlocs] at hI ⊢
  clear hH hlocs
  unfold p_X8_inRange at hq
  refine lv_iload_n hx hb dX8_inRange_0 rfl (lv_at hl 0 rfl) ?_
  refine lv_iload_n hx hb dX8_inRange_1 rfl (lv_at hl 1 rfl) ?_
  refine lv_icmp_lt (tgt := 14) hx hb dX8_inRange_2 (by decide) (fun c1 => ?_) (fun c1 => ?_)
  · replace hq := i_t c1 hq
    refine lv_iconst (v := (0 : Int32)) hx hb dX8_inRange_14 (by decide) ?_
    exact ge_Ri hx hb hlocks hr (by decide +kernel) hI hq dX8_inRange_15
  · replace hq := i_f c1 hq
    refine lv_iload_n hx hb dX8_inRange_5 rfl (lv_at hl 0 rfl) ?_
    refine lv_iload_n hx hb dX8_inRange_6 rfl (lv_at hl 2 rfl) ?_
    refine lv_icmp_gt (tgt := 14) hx hb dX8_inRange_7 (by decide) (fun c2 => ?_) (fun c2 => ?_)
    · replace hq := i_t c2 hq
      refine lv_iconst (v := (0 : Int32)) hx hb dX8_inRange_14 (by decide) ?_
      exact ge_Ri hx hb hlocks hr (by decide +kernel) hI hq dX8_inRange_15
    · replace hq := i_f c2 hq
      refine lv_iconst (v := (1 : Int32)) hx hb dX8_inRange_10 (by decide) ?_
      refine lv_goto (tgt := 15) hx hb dX8_inRange_11 (by decide) ?_
      exact ge_Ri hx hb hlocks hr (by decide +kernel) hI hq dX8_inRange_15

def p_X8_lacks (V : Nat → Nat) (g f : GH) (a0 : Nat) (a1 : Int32) : Option (Int32 × GH) :=
  h_me f a0 10 <|
  (if a1 = (0 : Int32) then
    (h_pt f a0 10 7 (.int (1 : Int32))).bind fun f2 =>
    (if a1 = (0 : Int32) then
      some ((1 : Int32), f2)
    else
      some ((0 : Int32), f2))
  else
    (h_pt f a0 10 7 (.int (0 : Int32))).bind fun f4 =>
    (if a1 = (0 : Int32) then
      some ((1 : Int32), f4)
    else
      some ((0 : Int32), f4)))
abbrev rm_X8_lacks : Room := { frames := 2, cells := 0, slots := 0, locals := 120 }
theorem k_X8_lacks : g_CV yX8_lacks cX8_lacks 2 (some .boolean) 1 := ⟨⟨m_1640, m_14, by decide +kernel⟩, m_1639, ms_26⟩
set_option maxHeartbeats 4000000 in
set_option maxRecDepth 100000 in
theorem c_X8_lacks (l : Launch) (V : Nat → Nat) (g : GH) (D : va_G) (cT : Nat → ClassId) (f : GH) (n : Nat) (a0 : Nat) (a1 : Int32) (o : Int32 × GH) (hq : p_X8_lacks V g f a0 a1 = some o) : Met l yX8_lacks (Cond.code yX8_lacks cX8_lacks 2 (some .boolean) :: g_B) rm_X8_lacks (va_Pc [.ref a0, .int a1] (g_I V g D cT f n)) (g_Wi V D cT o.1 o.2 n) 0 0 (g_A V) := by
  refine g_begin (own := RX8) [.ref a0, .int a1] [(0, .ref a0), (1, .int a1)] (g_A V) (fun _ h => h) (by decide) rfl (Nat.le_of_ble_eq_true rfl) rfl ?_
  intro p e s m args below meth c hx hb hr hlocks hin hC hI ls hl
  obtain ⟨hx, hb, hml, hown, hB⟩ := id hC
  obtain ⟨H, hH⟩ : ∃ H, H = s.heap := ⟨_, rfl⟩
  obtain ⟨locs, hlocs⟩ : ∃ L : List Loc, L = [] := ⟨_, rfl⟩
  rw [← hH, ← hlocs] at hI ⊢
  clear hH hlocs
  unfold p_X8_lacks at hq
  replace hq := (h_me_eq hq).2
  refine lv_aload_n hx hb dX8_lacks_0 rfl (lv_at hl 0 rfl) ?_
  refine lv_iload_n hx hb dX8_lacks_1 rfl (lv_at hl 1 rfl) ?_
  refine lv_if_eq (tgt := 9) hx hb dX8_lacks_2 (by decide) (fun c1 => ?_) (fun c1 => ?_)
  · replace hq := i_t c1 hq
    refine lv_iconst (v := (1 : Int32)) hx hb dX8_lacks_9 (by decide) ?_
    obtain ⟨f2, ef2, hq⟩ := b_s hq
    refine fa_pt (own := RX8) (ref := "CoastlineRulerModel") (k := 7) hx hb hB inB_RX8 tyX8_ok nmX8 hown hI rfl (by decide) m_1538 (fun _ h9 => h9) (by decide) rfl rfl ef2 dX8_lacks_10 (fun H locs hI => ?_)
    refine lv_iload_n hx hb dX8_lacks_13 rfl (lv_at hl 1 rfl) ?_
    refine lv_if_ne (tgt := 21) hx hb dX8_lacks_14 (by decide) (fun c3 => ?_) (fun c3 => ?_)
    · replace hq := i_f c3 hq
      refine lv_iconst (v := (0 : Int32)) hx hb dX8_lacks_21 (by decide) ?_
      exact ge_Wi hx hb hlocks hr (by decide +kernel) hI (congrArg (fun z => z.1) (Option.some.inj hq)) (congrArg (fun z => z.2) (Option.some.inj hq)) dX8_lacks_22
    · replace hq := i_t c3 hq
      refine lv_iconst (v := (1 : Int32)) hx hb dX8_lacks_17 (by decide) ?_
      refine lv_goto (tgt := 22) hx hb dX8_lacks_18 (by decide) ?_
      exact ge_Wi hx hb hlocks hr (by decide +kernel) hI (congrArg (fun z => z.1) (Option.some.inj hq)) (congrArg (fun z => z.2) (Option.some.inj hq)) dX8_lacks_22
  · replace hq := i_f c1 hq
    refine lv_iconst (v := (0 : Int32)) hx hb dX8_lacks_5 (by decide) ?_
    refine lv_goto (tgt := 10) hx hb dX8_lacks_6 (by decide) ?_
    obtain ⟨f4, ef4, hq⟩ := b_s hq
    refine fa_pt (own := RX8) (ref := "CoastlineRulerModel") (k := 7) hx hb hB inB_RX8 tyX8_ok nmX8 hown hI rfl (by decide) m_1538 (fun _ h9 => h9) (by decide) rfl rfl ef4 dX8_lacks_10 (fun H locs hI => ?_)
    refine lv_iload_n hx hb dX8_lacks_13 rfl (lv_at hl 1 rfl) ?_
    refine lv_if_ne (tgt := 21) hx hb dX8_lacks_14 (by decide) (fun c5 => ?_) (fun c5 => ?_)
    · replace hq := i_f c5 hq
      refine lv_iconst (v := (0 : Int32)) hx hb dX8_lacks_21 (by decide) ?_
      exact ge_Wi hx hb hlocks hr (by decide +kernel) hI (congrArg (fun z => z.1) (Option.some.inj hq)) (congrArg (fun z => z.2) (Option.some.inj hq)) dX8_lacks_22
    · replace hq := i_t c5 hq
      refine lv_iconst (v := (1 : Int32)) hx hb dX8_lacks_17 (by decide) ?_
      refine lv_goto (tgt := 22) hx hb dX8_lacks_18 (by decide) ?_
      exact ge_Wi hx hb hlocks hr (by decide +kernel) hI (congrArg (fun z => z.1) (Option.some.inj hq)) (congrArg (fun z => z.2) (Option.some.inj hq)) dX8_lacks_22

def p_X8_lacksBoth (V : Nat → Nat) (g f : GH) (a0 : Nat) (a1 : Int32) (a2 : Int32) : Option (Int32 × GH) :=
  h_me f a0 10 <|
  (p_X8_lacks V g f a0 a1).bind fun v1 =>
  (if v1.1 = (0 : Int32) then
    (if a2 = (0 : Int32) then
      (h_pt v1.2 a0 10 7 (.int (2 : Int32))).bind fun f4 =>
      (h_gi f4 a0 10 7).bind fun v5 =>
      (if v5 = (0 : Int32) then
        some ((0 : Int32), f4)
      else
        some ((1 : Int32), f4))
    else
      (h_pt v1.2 a0 10 7 (.int (0 : Int32))).bind fun f7 =>
      (h_gi f7 a0 10 7).bind fun v8 =>
      (if v8 = (0 : Int32) then
        some ((0 : Int32), f7)
      else
        some ((1 : Int32), f7)))
  else
    some ((1 : Int32), v1.2))
abbrev rm_X8_lacksBoth : Room := { frames := 3, cells := 0, slots := 0, locals := 141 }
theorem k_X8_lacksBoth : g_CV yX8_lacksBoth cX8_lacksBoth 3 (some .boolean) 2 := ⟨⟨m_1696, m_14, by decide +kernel⟩, m_1695, ms_32⟩
set_option maxHeartbeats 4000000 in
set_option maxRecDepth 100000 in
theorem c_X8_lacksBoth (l : Launch) (V : Nat → Nat) (g : GH) (D : va_G) (cT : Nat → ClassId) (f : GH) (n : Nat) (a0 : Nat) (a1 : Int32) (a2 : Int32) (o : Int32 × GH) (hq : p_X8_lacksBoth V g f a0 a1 a2 = some o) : Met l yX8_lacksBoth (Cond.code yX8_lacksBoth cX8_lacksBoth 3 (some .boolean) :: g_B) rm_X8_lacksBoth (va_Pc [.ref a0, .int a1, .int a2] (g_I V g D cT f n)) (g_Wi V D cT o.1 o.2 n) 0 0 (g_A V) := by
  refine g_begin (own := RX8) [.ref a0, .int a1, .int a2] [(0, .ref a0), (1, .int a1), (2, .int a2)] (g_A V) (fun _ h => h) (by decide) rfl (Nat.le_of_ble_eq_true rfl) rfl ?_
  intro p e s m args below meth c hx hb hr hlocks hin hC hI ls hl
  obtain ⟨hx, hb, hml, hown, hB⟩ := id hC
  obtain ⟨H, hH⟩ : ∃ H, H = s.heap := ⟨_, rfl⟩
  obtain ⟨locs, hlocs⟩ : ∃ L : List Loc, L = [] := ⟨_, rfl⟩
  rw [← hH, ← hlocs] at hI ⊢
  clear hH hlocs
  unfold p_X8_lacksBoth at hq
  replace hq := (h_me_eq hq).2
  refine lv_aload_n hx hb dX8_lacksBoth_0 rfl (lv_at hl 0 rfl) ?_
  refine lv_iload_n hx hb dX8_lacksBoth_1 rfl (lv_at hl 1 rfl) ?_
  obtain ⟨v1, ev1, hq⟩ := b_s hq
  refine gw_i (g_runV (As := [.int a1]) (rest := []) (ci := 10) hC (c_X8_lacks l V g D cT f n a0 a1 v1 ev1) k_X8_lacks m_1637 rfl rfl ⟨Nat.le_of_ble_eq_true rfl, Nat.le_of_ble_eq_true rfl⟩ hI rfl rfl (h_me_eq ev1).1 rfl hl.1 rfl (Nat.le_of_ble_eq_true rfl) dX8_lacksBoth_2 ⟨by decide, by decide⟩) hI (fun H locs hI => ?_)
  refine lv_if_eq (tgt := 10) hx hb dX8_lacksBoth_5 (by decide) (fun c2 => ?_) (fun c2 => ?_)
  · replace hq := i_t c2 hq
    refine lv_aload_n hx hb dX8_lacksBoth_10 rfl (lv_at hl 0 rfl) ?_
    refine lv_iload_n hx hb dX8_lacksBoth_11 rfl (lv_at hl 2 rfl) ?_
    refine lv_if_eq (tgt := 19) hx hb dX8_lacksBoth_12 (by decide) (fun c3 => ?_) (fun c3 => ?_)
    · replace hq := i_t c3 hq
      refine lv_iconst (v := (2 : Int32)) hx hb dX8_lacksBoth_19 (by decide) ?_
      obtain ⟨f4, ef4, hq⟩ := b_s hq
      refine fa_pt (own := RX8) (ref := "CoastlineRulerModel") (k := 7) hx hb hB inB_RX8 tyX8_ok nmX8 hown hI rfl (by decide) m_1538 (fun _ h9 => h9) (by decide) rfl rfl ef4 dX8_lacksBoth_20 (fun H locs hI => ?_)
      refine lv_aload_n hx hb dX8_lacksBoth_23 rfl (lv_at hl 0 rfl) ?_
      obtain ⟨v5, ev5, hq⟩ := b_s hq
      refine fa_gi (own := RX8) (ref := "CoastlineRulerModel") (k := 7) hx hb hB inB_RX8 hown hI rfl (by decide) m_1538 (fun _ h9 => h9) ev5 dX8_lacksBoth_24 ?_
      refine lv_if_eq (tgt := 34) hx hb dX8_lacksBoth_27 (by decide) (fun c6 => ?_) (fun c6 => ?_)
      · replace hq := i_t c6 hq
        refine lv_iconst (v := (0 : Int32)) hx hb dX8_lacksBoth_34 (by decide) ?_
        exact ge_Wi hx hb hlocks hr (by decide +kernel) hI (congrArg (fun z => z.1) (Option.some.inj hq)) (congrArg (fun z => z.2) (Option.some.inj hq)) dX8_lacksBoth_35
      · replace hq := i_f c6 hq
        refine lv_iconst (v := (1 : Int32)) hx hb dX8_lacksBoth_30 (by decide) ?_
        refine lv_goto (tgt := 35) hx hb dX8_lacksBoth_31 (by decide) ?_
        exact ge_Wi hx hb hlocks hr (by decide +kernel) hI (congrArg (fun z => z.1) (Option.some.inj hq)) (congrArg (fun z => z.2) (Option.some.inj hq)) dX8_lacksBoth_35
    · replace hq := i_f c3 hq
      refine lv_iconst (v := (0 : Int32)) hx hb dX8_lacksBoth_15 (by decide) ?_
      refine lv_goto (tgt := 20) hx hb dX8_lacksBoth_16 (by decide) ?_
      obtain ⟨f7, ef7, hq⟩ := b_s hq
      refine fa_pt (own := RX8) (ref := "CoastlineRulerModel") (k := 7) hx hb hB inB_RX8 tyX8_ok nmX8 hown hI rfl (by decide) m_1538 (fun _ h9 => h9) (by decide) rfl rfl ef7 dX8_lacksBoth_20 (fun H locs hI => ?_)
      refine lv_aload_n hx hb dX8_lacksBoth_23 rfl (lv_at hl 0 rfl) ?_
      obtain ⟨v8, ev8, hq⟩ := b_s hq
      refine fa_gi (own := RX8) (ref := "CoastlineRulerModel") (k := 7) hx hb hB inB_RX8 hown hI rfl (by decide) m_1538 (fun _ h9 => h9) ev8 dX8_lacksBoth_24 ?_
      refine lv_if_eq (tgt := 34) hx hb dX8_lacksBoth_27 (by decide) (fun c9 => ?_) (fun c9 => ?_)
      · replace hq := i_t c9 hq
        refine lv_iconst (v := (0 : Int32)) hx hb dX8_lacksBoth_34 (by decide) ?_
        exact ge_Wi hx hb hlocks hr (by decide +kernel) hI (congrArg (fun z => z.1) (Option.some.inj hq)) (congrArg (fun z => z.2) (Option.some.inj hq)) dX8_lacksBoth_35
      · replace hq := i_f c9 hq
        refine lv_iconst (v := (1 : Int32)) hx hb dX8_lacksBoth_30 (by decide) ?_
        refine lv_goto (tgt := 35) hx hb dX8_lacksBoth_31 (by decide) ?_
        exact ge_Wi hx hb hlocks hr (by decide +kernel) hI (congrArg (fun z => z.1) (Option.some.inj hq)) (congrArg (fun z => z.2) (Option.some.inj hq)) dX8_lacksBoth_35
  · replace hq := i_f c2 hq
    refine lv_iconst (v := (1 : Int32)) hx hb dX8_lacksBoth_8 (by decide) ?_
    exact ge_Wi hx hb hlocks hr (by decide +kernel) hI (congrArg (fun z => z.1) (Option.some.inj hq)) (congrArg (fun z => z.2) (Option.some.inj hq)) dX8_lacksBoth_9

def p_X8_sizeOf (V : Nat → Nat) (g f : GH) (a0 : Int32) : Option Int32 :=
  (if (0 : Int32) ≤ a0 then
    some a0
  else
    some (-a0))
abbrev rm_X8_sizeOf : Room := { frames := 2, cells := 0, slots := 0, locals := 120 }
theorem k_X8_sizeOf : g_CS yX8_sizeOf cX8_sizeOf 1 (some .int) 1 := ⟨⟨m_1682, m_14, by decide +kernel⟩, m_1681⟩
set_option maxHeartbeats 4000000 in
set_option maxRecDepth 100000 in
theorem c_X8_sizeOf (l : Launch) (V : Nat → Nat) (g : GH) (D : va_G) (cT : Nat → ClassId) (f : GH) (n : Nat) (a0 : Int32) (o : Int32) (hq : p_X8_sizeOf V g f a0 = some o) : Met l yX8_sizeOf (Cond.code yX8_sizeOf cX8_sizeOf 1 (some .int) :: g_B) rm_X8_sizeOf (va_Pc [.int a0] (g_I V g D cT f n)) (g_Ri o n) 0 0 g_no := by
  refine g_begin (own := RX8) [.int a0] [(0, .int a0)] g_no (fun _ h => h.elim) (by decide) rfl (Nat.le_of_ble_eq_true rfl) rfl ?_
  intro p e s m args below meth c hx hb hr hlocks hin hC hI ls hl
  obtain ⟨hx, hb, hml, hown, hB⟩ := id hC
  obtain ⟨H, hH⟩ : ∃ H, H = s.heap := ⟨_, rfl⟩
  obtain ⟨locs, hlocs⟩ : ∃ L : List Loc, L = [] := ⟨_, rfl⟩
  rw [← hH, ← hlocs] at hI ⊢
  clear hH hlocs
  unfold p_X8_sizeOf at hq
  refine lv_iload_n hx hb dX8_sizeOf_0 rfl (lv_at hl 0 rfl) ?_
  refine lv_if_ge (tgt := 9) hx hb dX8_sizeOf_1 (by decide) (fun c1 => ?_) (fun c1 => ?_)
  · replace hq := i_t c1 hq
    refine lv_iload_n hx hb dX8_sizeOf_9 rfl (lv_at hl 0 rfl) ?_
    exact ge_Ri hx hb hlocks hr rfl hI hq dX8_sizeOf_10
  · replace hq := i_f c1 hq
    refine lv_iload_n hx hb dX8_sizeOf_4 rfl (lv_at hl 0 rfl) ?_
    refine lv_ineg hx hb dX8_sizeOf_5 ?_
    refine lv_goto (tgt := 10) hx hb dX8_sizeOf_6 (by decide) ?_
    exact ge_Ri hx hb hlocks hr rfl hI hq dX8_sizeOf_10

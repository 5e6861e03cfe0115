def p_X3_init (V : Nat → Nat) (g f : GH) (n : Nat) (a0 : Nat) : Option (GH × Nat) :=
  h_me f a0 6 <|
  (h_pt f a0 6 0 (.ref (V 11))).bind fun f1 =>
  (some (h_up f1 n (.inr (5, [.null, .null, .int 0, .int 0])))).bind fun f2 =>
  (p_X2_init V g f2 (n + 1) n (33 : Int32)).bind fun v3 =>
  (h_pt v3.1 a0 6 6 (.ref n)).bind fun f4 =>
  some (f4, v3.2)
abbrev rm_X3_init : Room := { frames := 3, cells := 3, slots := 404, locals := 141 }
theorem k_X3_init : g_CI yX3_init cX3_init 1 0 := ⟨⟨m_162, m_6, by decide +kernel⟩, rfl, m_161⟩
set_option maxHeartbeats 4000000 in
set_option maxRecDepth 100000 in
theorem c_X3_init (l : Launch) (V : Nat → Nat) (g : GH) (D : va_G) (cT : Nat → ClassId) (f : GH) (n : Nat) (a0 : Nat) (o : GH × Nat) (hq : p_X3_init V g f n a0 = some o) : Met l yX3_init (Cond.code yX3_init cX3_init 1 none :: g_B) rm_X3_init (va_Pc [.ref a0] (g_I V g D cT f n)) (g_Wv V D cT o.1 o.2) 3 404 (g_A V) := by
  refine g_begin (own := RX3) [.ref a0] [(0, .ref a0)] (g_A V) (fun _ h => h) (by decide) rfl (Nat.le_of_ble_eq_true rfl) rfl ?_
  intro p e s m args below meth c hx hb hr hlocks hin hC hI ls hl
  obtain ⟨hx, hb, hml, hown, hB⟩ := id hC
  obtain ⟨H, hH⟩ : ∃ H, H = s.heap := ⟨_, rfl⟩
  obtain ⟨locs, hlocs⟩ : ∃ L : List Loc, L = [] := ⟨_, rfl⟩
  rw [← hH, ← hlocs] at hI ⊢
  clear hH hlocs
  unfold p_X3_init at hq
  replace hq := (h_me_eq hq).2
  refine lv_aload_n hx hb dX3_init_0 rfl (lv_at hl 0 rfl) ?_
  refine W.objInit hx hb hown (hB _ m_163) (hB _ m_36) (hB _ m_37) rfl (by rw [hml]; exact hl.1) rfl dX3_init_1 (Nat.le_of_ble_eq_true rfl) (Nat.le_of_ble_eq_true rfl) ?_
  refine W.eq (g2 := F0 m 4 ls []) rfl ?_
  refine lv_aload_n hx hb dX3_init_4 rfl (lv_at hl 0 rfl) ?_
  refine fs_gs (i := 10) hx hb hown hI rfl (hB _ m_164) (fun _ h9 => h9) dX3_init_5 ?_
  obtain ⟨f1, ef1, hq⟩ := b_s hq
  refine fa_pt (own := RX3) (ref := "CoastlineRuler$Command") (k := 0) hx hb hB inB_RX3 tyX3_ok nmX3 hown hI rfl (by decide) m_168 (fun _ h9 => h9) (by decide) rfl rfl ef1 dX3_init_8 (fun H locs hI => ?_)
  refine lv_aload_n hx hb dX3_init_11 rfl (lv_at hl 0 rfl) ?_
  obtain ⟨f2, ef2, hq⟩ := b_s hq
  refine fa_new (own := RX3) (ci := 5) hx hb hB inB_RX2 tyX2_ok hown m_166 m_46 m_3 hI rfl (by decide +kernel) (by decide) (by decide) ef2 dX3_init_12 (fun H locs hI => ?_)
  refine lv_dup hx hb dX3_init_15 rfl ?_
  refine lv_bipush (v := (33 : Int32)) hx hb dX3_init_16 (by decide) ?_
  obtain ⟨v3, ev3, hq⟩ := b_s hq
  refine gw_v (g_runI (As := [.int (33 : Int32)]) (rest := [.ref n, .ref a0]) hC (c_X2_init l V g D cT f2 (n + 1) n (33 : Int32) v3 ev3) k_X2_init m_167 rfl rfl ⟨Nat.le_of_ble_eq_true rfl, Nat.le_of_ble_eq_true rfl⟩ hI rfl hl.1 rfl (Nat.le_of_ble_eq_true rfl) dX3_init_18 ⟨by decide, by decide⟩) hI (fun H locs hI => ?_)
  obtain ⟨f4, ef4, hq⟩ := b_s hq
  refine fa_ptF (own := RX3) (ref := "CoastlineRuler$Command") (k := 6) hx hb hB inB_RX3 tyX3_ok nmX3 hown hI rfl (by decide) m_187 (fun _ h9 => h9) (by decide) hin (by decide) rfl rfl ef4 dX3_init_21 (fun H locs hI => ?_)
  obtain rfl := Option.some.inj hq
  exact ge_Wv hx hb hlocks hr hI rfl dX3_init_24

def p_X3_set (V : Nat → Nat) (g f : GH) (a0 : Nat) (a1 : Nat) (a2 : Int32) (a3 : Int32) (a4 : Int32) (a5 : Int32) : Option GH :=
  h_me f a0 6 <|
  (h_pt f a0 6 0 (.ref a1)).bind fun f1 =>
  (h_pt f1 a0 6 1 (.int a2)).bind fun f2 =>
  (h_pt f2 a0 6 2 (.int a3)).bind fun f3 =>
  (h_pt f3 a0 6 3 (.int a4)).bind fun f4 =>
  (h_pt f4 a0 6 4 (.int a5)).bind fun f5 =>
  some f5
abbrev rm_X3_set : Room := { frames := 2, cells := 0, slots := 0, locals := 120 }
theorem k_X3_set : g_CV yX3_set cX3_set 6 none 5 := ⟨⟨m_357, m_6, by decide +kernel⟩, m_355, m_356⟩
set_option maxHeartbeats 4000000 in
set_option maxRecDepth 100000 in
theorem c_X3_set (l : Launch) (V : Nat → Nat) (g : GH) (D : va_G) (cT : Nat → ClassId) (f : GH) (n : Nat) (a0 : Nat) (a1 : Nat) (a2 : Int32) (a3 : Int32) (a4 : Int32) (a5 : Int32) (o : GH) (hq : p_X3_set V g f a0 a1 a2 a3 a4 a5 = some o) : Met l yX3_set (Cond.code yX3_set cX3_set 6 none :: g_B) rm_X3_set (va_Pc [.ref a0, .ref a1, .int a2, .int a3, .int a4, .int a5] (g_I V g D cT f n)) (g_Wv V D cT o n) 0 0 (g_A V) := by
  refine g_begin (own := RX3) [.ref a0, .ref a1, .int a2, .int a3, .int a4, .int a5] [(0, .ref a0), (1, .ref a1), (2, .int a2), (3, .int a3), (4, .int a4), (5, .int a5)] (g_A V) (fun _ h => h) (by decide) rfl (Nat.le_of_ble_eq_true rfl) rfl ?_
  intro p e s m args below meth c hx hb hr hlocks hin hC hI ls hl
  obtain ⟨hx, hb, hml, hown, hB⟩ := id hC
  obtain ⟨H, hH⟩ : ∃ H, H = s.heap := ⟨_, rfl⟩
  obtain ⟨locs, hlocs⟩ : ∃ L : List Loc, L = [] := ⟨_, rfl⟩
  rw [← hH, ← hlocs] at hI ⊢
  clear hH hlocs
  unfold p_X3_set at hq
  replace hq := (h_me_eq hq).2
  refine lv_aload_n hx hb dX3_set_0 rfl (lv_at hl 0 rfl) ?_
  refine lv_aload_n hx hb dX3_set_1 rfl (lv_at hl 1 rfl) ?_
  obtain ⟨f1, ef1, hq⟩ := b_s hq
  refine fa_pt (own := RX3) (ref := "CoastlineRuler$Command") (k := 0) hx hb hB inB_RX3 tyX3_ok nmX3 hown hI rfl (by decide) m_168 (fun _ h9 => h9) (by decide) rfl rfl ef1 dX3_set_2 (fun H locs hI => ?_)
  refine lv_aload_n hx hb dX3_set_5 rfl (lv_at hl 0 rfl) ?_
  refine lv_iload_n hx hb dX3_set_6 rfl (lv_at hl 2 rfl) ?_
  obtain ⟨f2, ef2, hq⟩ := b_s hq
  refine fa_pt (own := RX3) (ref := "CoastlineRuler$Command") (k := 1) hx hb hB inB_RX3 tyX3_ok nmX3 hown hI rfl (by decide) m_172 (fun _ h9 => h9) (by decide) rfl rfl ef2 dX3_set_7 (fun H locs hI => ?_)
  refine lv_aload_n hx hb dX3_set_10 rfl (lv_at hl 0 rfl) ?_
  refine lv_iload_n hx hb dX3_set_11 rfl (lv_at hl 3 rfl) ?_
  obtain ⟨f3, ef3, hq⟩ := b_s hq
  refine fa_pt (own := RX3) (ref := "CoastlineRuler$Command") (k := 2) hx hb hB inB_RX3 tyX3_ok nmX3 hown hI rfl (by decide) m_175 (fun _ h9 => h9) (by decide) rfl rfl ef3 dX3_set_12 (fun H locs hI => ?_)
  refine lv_aload_n hx hb dX3_set_15 rfl (lv_at hl 0 rfl) ?_
  refine lv_iload hx hb dX3_set_16 (lv_at hl 4 rfl) ?_
  obtain ⟨f4, ef4, hq⟩ := b_s hq
  refine fa_pt (own := RX3) (ref := "CoastlineRuler$Command") (k := 3) hx hb hB inB_RX3 tyX3_ok nmX3 hown hI rfl (by decide) m_178 (fun _ h9 => h9) (by decide) rfl rfl ef4 dX3_set_18 (fun H locs hI => ?_)
  refine lv_aload_n hx hb dX3_set_21 rfl (lv_at hl 0 rfl) ?_
  refine lv_iload hx hb dX3_set_22 (lv_at hl 5 rfl) ?_
  obtain ⟨f5, ef5, hq⟩ := b_s hq
  refine fa_pt (own := RX3) (ref := "CoastlineRuler$Command") (k := 4) hx hb hB inB_RX3 tyX3_ok nmX3 hown hI rfl (by decide) m_181 (fun _ h9 => h9) (by decide) rfl rfl ef5 dX3_set_24 (fun H locs hI => ?_)
  exact ge_Wv hx hb hlocks hr hI (Option.some.inj hq) dX3_set_27

def p_X4_init (V : Nat → Nat) (g f : GH) (a0 : Nat) (a1 : Nat) : Option GH :=
  h_me f a0 7 <|
  (h_pt f a0 7 2 (.int (-1 : Int32))).bind fun f1 =>
  (h_pt f1 a0 7 0 (.ref a1)).bind fun f2 =>
  some f2
abbrev rm_X4_init : Room := { frames := 2, cells := 0, slots := 0, locals := 120 }
theorem k_X4_init : g_CI yX4_init cX4_init 2 1 := ⟨⟨m_137, m_5, by decide +kernel⟩, rfl, m_136⟩
set_option maxHeartbeats 4000000 in
set_option maxRecDepth 100000 in
theorem c_X4_init (l : Launch) (V : Nat → Nat) (g : GH) (D : va_G) (cT : Nat → ClassId) (f : GH) (n : Nat) (a0 : Nat) (a1 : Nat) (o : GH) (hq : p_X4_init V g f a0 a1 = some o) : Met l yX4_init (Cond.code yX4_init cX4_init 2 none :: g_B) rm_X4_init (va_Pc [.ref a0, .ref a1] (g_I V g D cT f n)) (g_Wv V D cT o n) 0 0 (g_A V) := by
  refine g_begin (own := RX4) [.ref a0, .ref a1] [(0, .ref a0), (1, .ref a1)] (g_A V) (fun _ h => h) (by decide) rfl (Nat.le_of_ble_eq_true rfl) rfl ?_
  intro p e s m args below meth c hx hb hr hlocks hin hC hI ls hl
  obtain ⟨hx, hb, hml, hown, hB⟩ := id hC
  obtain ⟨H, hH⟩ : ∃ H, H = s.heap := ⟨_, rfl⟩
  obtain ⟨locs, hlocs⟩ : ∃ L : List Loc, L = [] := ⟨_, rfl⟩
  rw [← hH, ← hlocs] at hI ⊢
  clear hH hlocs
  unfold p_X4_init at hq
  replace hq := (h_me_eq hq).2
  refine lv_aload_n hx hb dX4_init_0 rfl (lv_at hl 0 rfl) ?_
  refine W.objInit hx hb hown (hB _ m_138) (hB _ m_36) (hB _ m_37) rfl (by rw [hml]; exact hl.1) rfl dX4_init_1 (Nat.le_of_ble_eq_true rfl) (Nat.le_of_ble_eq_true rfl) ?_
  refine W.eq (g2 := F0 m 4 ls []) rfl ?_
  refine lv_aload_n hx hb dX4_init_4 rfl (lv_at hl 0 rfl) ?_
  refine lv_iconst (v := (-1 : Int32)) hx hb dX4_init_5 (by decide) ?_
  obtain ⟨f1, ef1, hq⟩ := b_s hq
  refine fa_pt (own := RX4) (ref := "CoastlineRuler$Grammar") (k := 2) hx hb hB inB_RX4 tyX4_ok nmX4 hown hI rfl (by decide) m_142 (fun _ h9 => h9) (by decide) rfl rfl ef1 dX4_init_6 (fun H locs hI => ?_)
  refine lv_aload_n hx hb dX4_init_9 rfl (lv_at hl 0 rfl) ?_
  refine lv_aload_n hx hb dX4_init_10 rfl (lv_at hl 1 rfl) ?_
  obtain ⟨f2, ef2, hq⟩ := b_s hq
  refine fa_ptF (own := RX4) (ref := "CoastlineRuler$Grammar") (k := 0) hx hb hB inB_RX4 tyX4_ok nmX4 hown hI rfl (by decide) m_139 (fun _ h9 => h9) (by decide) hin (by decide) rfl rfl ef2 dX4_init_11 (fun H locs hI => ?_)
  exact ge_Wv hx hb hlocks hr hI (Option.some.inj hq) dX4_init_14

def p_X5_endOfRun_l5 (V : Nat → Nat) (g f : GH) (K39 : Int32 → Option Int32) : Nat → Nat → Int32 → Int32 → Int32 → Option Int32
  | 0, _, _, _, _ => none
  | N + 1, x0, x1, x2, x3 =>
    (h_gi f x0 8 2).bind fun v2 =>
    (if v2 ≤ x3 then
      K39 x3
    else
      (h_gr f x0 8 0).bind fun v4 =>
      (h_li f v4 1 x3).bind fun v5 =>
      (if v5 < x1 then
        K39 x3
      else
        (h_gr f x0 8 0).bind fun v7 =>
        (h_li f v7 1 x3).bind fun v8 =>
        (if x2 < v8 then
          K39 x3
        else
          p_X5_endOfRun_l5 V g f K39 N x0 x1 x2 (x3 + (1 : Int32)))))
def p_X5_endOfRun (V : Nat → Nat) (g f : GH) (a0 : Nat) (a1 : Int32) (a2 : Int32) : Option Int32 :=
  h_me f a0 8 <|
  (h_gi f a0 8 4).bind fun v1 =>
  p_X5_endOfRun_l5 V g f (fun x3 =>
    some x3) FU a0 a1 a2 v1
abbrev rm_X5_endOfRun : Room := { frames := 2, cells := 0, slots := 0, locals := 120 }
theorem k_X5_endOfRun : g_CV yX5_endOfRun cX5_endOfRun 4 (some .int) 2 := ⟨⟨m_640, m_4, by decide +kernel⟩, m_638, m_639⟩
set_option maxHeartbeats 4000000 in
set_option maxRecDepth 100000 in
theorem c_X5_endOfRun (l : Launch) (V : Nat → Nat) (g : GH) (D : va_G) (cT : Nat → ClassId) (f : GH) (n : Nat) (a0 : Nat) (a1 : Int32) (a2 : Int32) (o : Int32) (hq : p_X5_endOfRun V g f a0 a1 a2 = some o) : Met l yX5_endOfRun (Cond.code yX5_endOfRun cX5_endOfRun 4 (some .int) :: g_B) rm_X5_endOfRun (va_Pc [.ref a0, .int a1, .int a2] (g_I V g D cT f n)) (g_Ri o n) 0 0 g_no := by
  refine g_begin (own := RX5) [.ref a0, .int a1, .int a2] [(0, .ref a0), (1, .int a1), (2, .int a2)] g_no (fun _ h => h.elim) (by decide) rfl (Nat.le_of_ble_eq_true rfl) rfl ?_
  intro p e s m args below meth c hx hb hr hlocks hin hC hI ls hl
  obtain ⟨hx, hb, hml, hown, hB⟩ := id hC
  obtain ⟨H, hH⟩ : ∃ H, H = s.heap := ⟨_, rfl⟩
  obtain ⟨locs, hlocs⟩ : ∃ L : List Loc, L = [] := ⟨_, rfl⟩
  rw [← hH, ← hlocs] at hI ⊢
  clear hH hlocs
  unfold p_X5_endOfRun at hq
  replace hq := (h_me_eq hq).2
  refine lv_aload_n hx hb dX5_endOfRun_0 rfl (lv_at hl 0 rfl) ?_
  obtain ⟨v1, ev1, hq⟩ := b_s hq
  refine fa_gi (own := RX5) (ref := "CoastlineRuler$Tokens") (k := 4) hx hb hB inB_RX5 hown hI rfl (by decide) m_116 (fun _ h9 => h9) ev1 dX5_endOfRun_1 ?_
  refine lv_istore_n (lv' := [(3, .int v1), (0, .ref a0), (1, .int a1), (2, .int a2)]) hx hb dX5_endOfRun_4 rfl hl (by decide) rfl (fun ls hl => ?_)
  have hl5 : ∀ (K39 : Int32 → Option Int32) (hK39 : ∀ (x3 : Int32) (H : Heap) (locs : List Loc) (ls : Array Slot), g_at g_no V g D cT f n s H locs → lv_has ls 4 [(3, .int x3)] → K39 x3 = some o → W p l e rm_X5_endOfRun s m args below meth c H locs 0 0 (MQ below (g_Ri o n) args s 0 0 g_no) (F0 m 39 ls [])) (N : Nat) (x0 : Nat) (x1 : Int32) (x2 : Int32) (x3 : Int32) (H : Heap) (locs : List Loc) (ls : Array Slot), g_at g_no V g D cT f n s H locs → lv_has ls 4 [(0, .ref x0), (1, .int x1), (2, .int x2), (3, .int x3)] → p_X5_endOfRun_l5 V g f K39 N x0 x1 x2 x3 = some o → W p l e rm_X5_endOfRun s m args below meth c H locs 0 0 (MQ below (g_Ri o n) args s 0 0 g_no) (F0 m 5 ls []) := by
    intro K39 hK39 N
    induction N with
    | zero =>
      intro x0 x1 x2 x3 H locs ls hI hl hq
      rw [p_X5_endOfRun_l5] at hq
      cases hq
    | succ N ih =>
      intro x0 x1 x2 x3 H locs ls hI hl hq
      rw [p_X5_endOfRun_l5] at hq
      refine lv_iload_n hx hb dX5_endOfRun_5 rfl (lv_at hl 3 rfl) ?_
      refine lv_aload_n hx hb dX5_endOfRun_6 rfl (lv_at hl 0 rfl) ?_
      obtain ⟨v2, ev2, hq⟩ := b_s hq
      refine fa_gi (own := RX5) (ref := "CoastlineRuler$Tokens") (k := 2) hx hb hB inB_RX5 hown hI rfl (by decide) m_113 (fun _ h9 => h9) ev2 dX5_endOfRun_7 ?_
      refine lv_icmp_ge (tgt := 39) hx hb dX5_endOfRun_10 (by decide) (fun c3 => ?_) (fun c3 => ?_)
      · replace hq := i_t c3 hq
        exact hK39 x3 H locs ls hI (lv_sub hl [3] rfl) hq
      · replace hq := i_f c3 hq
        refine lv_aload_n hx hb dX5_endOfRun_13 rfl (lv_at hl 0 rfl) ?_
        obtain ⟨v4, ev4, hq⟩ := b_s hq
        refine fa_gr (own := RX5) (ref := "CoastlineRuler$Tokens") (k := 0) hx hb hB inB_RX5 hown hI rfl (by decide) m_110 (fun _ h9 => h9) ev4 dX5_endOfRun_14 ?_
        refine lv_iload_n hx hb dX5_endOfRun_17 rfl (lv_at hl 3 rfl) ?_
        obtain ⟨v5, ev5, hq⟩ := b_s hq
        refine fa_lb hx hb hI ev5 dX5_endOfRun_18 ?_
        refine lv_iload_n hx hb dX5_endOfRun_19 rfl (lv_at hl 1 rfl) ?_
        refine lv_icmp_lt (tgt := 39) hx hb dX5_endOfRun_20 (by decide) (fun c6 => ?_) (fun c6 => ?_)
        · replace hq := i_t c6 hq
          exact hK39 x3 H locs ls hI (lv_sub hl [3] rfl) hq
        · replace hq := i_f c6 hq
          refine lv_aload_n hx hb dX5_endOfRun_23 rfl (lv_at hl 0 rfl) ?_
          obtain ⟨v7, ev7, hq⟩ := b_s hq
          refine fa_gr (own := RX5) (ref := "CoastlineRuler$Tokens") (k := 0) hx hb hB inB_RX5 hown hI rfl (by decide) m_110 (fun _ h9 => h9) ev7 dX5_endOfRun_24 ?_
          refine lv_iload_n hx hb dX5_endOfRun_27 rfl (lv_at hl 3 rfl) ?_
          obtain ⟨v8, ev8, hq⟩ := b_s hq
          refine fa_lb hx hb hI ev8 dX5_endOfRun_28 ?_
          refine lv_iload_n hx hb dX5_endOfRun_29 rfl (lv_at hl 2 rfl) ?_
          refine lv_icmp_gt (tgt := 39) hx hb dX5_endOfRun_30 (by decide) (fun c9 => ?_) (fun c9 => ?_)
          · replace hq := i_t c9 hq
            exact hK39 x3 H locs ls hI (lv_sub hl [3] rfl) hq
          · replace hq := i_f c9 hq
            refine lv_iinc (v := x3 + (1 : Int32)) (lv' := [(3, .int (x3 + (1 : Int32))), (0, .ref x0), (1, .int x1), (2, .int x2)]) hx hb dX5_endOfRun_33 hl (k := 3) rfl rfl (by decide) rfl (fun ls hl => ?_)
            refine lv_goto (tgt := 5) hx hb dX5_endOfRun_36 (by decide) ?_
            exact ih x0 x1 x2 (x3 + (1 : Int32)) H locs ls hI (lv_sub hl [1, 2, 3, 0] rfl) hq
  refine hl5 _ ?_ FU a0 a1 a2 v1 H locs ls hI (lv_sub hl [1, 2, 3, 0] rfl) hq
  · intro x3 H locs ls hI hl hq
    refine lv_iload_n hx hb dX5_endOfRun_39 rfl (lv_at hl 0 rfl) ?_
    exact ge_Ri hx hb hlocks hr rfl hI hq dX5_endOfRun_40

def p_X5_kindOfSign (V : Nat → Nat) (g f : GH) (a0 : Int32) : Option Int32 :=
  (if a0 = (59 : Int32) then
    some (3 : Int32)
  else
    (if a0 = (44 : Int32) then
      some (4 : Int32)
    else
      (if a0 = (45 : Int32) then
        some (5 : Int32)
      else
        some (6 : Int32))))
abbrev rm_X5_kindOfSign : Room := { frames := 2, cells := 0, slots := 0, locals := 120 }
theorem k_X5_kindOfSign : g_CS yX5_kindOfSign cX5_kindOfSign 1 (some .int) 1 := ⟨⟨m_643, m_4, by decide +kernel⟩, m_642⟩
set_option maxHeartbeats 4000000 in
set_option maxRecDepth 100000 in
theorem c_X5_kindOfSign (l : Launch) (V : Nat → Nat) (g : GH) (D : va_G) (cT : Nat → ClassId) (f : GH) (n : Nat) (a0 : Int32) (o : Int32) (hq : p_X5_kindOfSign V g f a0 = some o) : Met l yX5_kindOfSign (Cond.code yX5_kindOfSign cX5_kindOfSign 1 (some .int) :: g_B) rm_X5_kindOfSign (va_Pc [.int a0] (g_I V g D cT f n)) (g_Ri o n) 0 0 g_no := by
  refine g_begin (own := RX5) [.int a0] [(0, .int a0)] g_no (fun _ h => h.elim) (by decide) rfl (Nat.le_of_ble_eq_true rfl) rfl ?_
  intro p e s m args below meth c hx hb hr hlocks hin hC hI ls hl
  obtain ⟨hx, hb, hml, hown, hB⟩ := id hC
  obtain ⟨H, hH⟩ : ∃ H, H = s.heap := ⟨_, rfl⟩
  obtain ⟨locs, hlocs⟩ : ∃ L : List Loc, L = [] := ⟨_, rfl⟩
  rw [← hH, ← hlocs] at hI ⊢
  clear hH hlocs
  unfold p_X5_kindOfSign at hq
  refine lv_iload_n hx hb dX5_kindOfSign_0 rfl (lv_at hl 0 rfl) ?_
  refine lv_bipush (v := (59 : Int32)) hx hb dX5_kindOfSign_1 (by decide) ?_
  refine lv_icmp_ne (tgt := 8) hx hb dX5_kindOfSign_3 (by decide) (fun c1 => ?_) (fun c1 => ?_)
  · replace hq := i_f c1 hq
    refine lv_iload_n hx hb dX5_kindOfSign_8 rfl (lv_at hl 0 rfl) ?_
    refine lv_bipush (v := (44 : Int32)) hx hb dX5_kindOfSign_9 (by decide) ?_
    refine lv_icmp_ne (tgt := 16) hx hb dX5_kindOfSign_11 (by decide) (fun c2 => ?_) (fun c2 => ?_)
    · replace hq := i_f c2 hq
      refine lv_iload_n hx hb dX5_kindOfSign_16 rfl (lv_at hl 0 rfl) ?_
      refine lv_bipush (v := (45 : Int32)) hx hb dX5_kindOfSign_17 (by decide) ?_
      refine lv_icmp_ne (tgt := 26) hx hb dX5_kindOfSign_19 (by decide) (fun c3 => ?_) (fun c3 => ?_)
      · replace hq := i_f c3 hq
        refine lv_bipush (v := (6 : Int32)) hx hb dX5_kindOfSign_26 (by decide) ?_
        exact ge_Ri hx hb hlocks hr rfl hI hq dX5_kindOfSign_28
      · replace hq := i_t c3 hq
        refine lv_iconst (v := (5 : Int32)) hx hb dX5_kindOfSign_22 (by decide) ?_
        refine lv_goto (tgt := 28) hx hb dX5_kindOfSign_23 (by decide) ?_
        exact ge_Ri hx hb hlocks hr rfl hI hq dX5_kindOfSign_28
    · replace hq := i_t c2 hq
      refine lv_iconst (v := (4 : Int32)) hx hb dX5_kindOfSign_14 (by decide) ?_
      exact ge_Ri hx hb hlocks hr rfl hI hq dX5_kindOfSign_15
  · replace hq := i_t c1 hq
    refine lv_iconst (v := (3 : Int32)) hx hb dX5_kindOfSign_6 (by decide) ?_
    exact ge_Ri hx hb hlocks hr rfl hI hq dX5_kindOfSign_7

def p_X5_advance_l0 (V : Nat → Nat) (g : GH) (K52 : Nat → GH → Option GH) : Nat → Nat → GH → Option GH
  | 0, _, _ => none
  | N + 1, x0, f =>
    (h_gi f x0 8 5).bind fun v1 =>
    (h_gi f x0 8 2).bind fun v2 =>
    (if v2 ≤ v1 then
      K52 x0 f
    else
      (h_gr f x0 8 0).bind fun v4 =>
      (h_gi f x0 8 5).bind fun v5 =>
      (h_li f v4 1 v5).bind fun v6 =>
      (if v6 = (32 : Int32) then
        (h_gi f x0 8 5).bind fun v8 =>
        (h_pt f x0 8 5 (.int (v8 + (1 : Int32)))).bind fun f9 =>
        p_X5_advance_l0 V g K52 N x0 f9
      else
        (h_gr f x0 8 0).bind fun v10 =>
        (h_gi f x0 8 5).bind fun v11 =>
        (h_li f v10 1 v11).bind fun v12 =>
        (if v12 = (10 : Int32) then
          (h_gi f x0 8 5).bind fun v14 =>
          (h_pt f x0 8 5 (.int (v14 + (1 : Int32)))).bind fun f15 =>
          p_X5_advance_l0 V g K52 N x0 f15
        else
          K52 x0 f)))
def p_X5_advance_j175 (V : Nat → Nat) (g : GH) (x0 : Nat) (f : GH) : Option GH :=
  (h_gr f x0 8 0).bind fun v27 =>
  (h_gi f x0 8 5).bind fun v28 =>
  (h_li f v27 1 v28).bind fun v29 =>
  (p_X5_kindOfSign V g f v29).bind fun v30 =>
  (h_pt f x0 8 3 (.int v30)).bind fun f31 =>
  (h_gi f31 x0 8 5).bind fun v32 =>
  (h_pt f31 x0 8 5 (.int (v32 + (1 : Int32)))).bind fun f33 =>
  some f33
def p_X5_advance_j127 (V : Nat → Nat) (g : GH) (x0 : Nat) (f : GH) : Option GH :=
  (h_gr f x0 8 0).bind fun v24 =>
  (h_gi f x0 8 5).bind fun v25 =>
  (h_li f v24 1 v25).bind fun v26 =>
  (if v26 < (48 : Int32) then
    p_X5_advance_j175 V g x0 f
  else
    (h_gr f x0 8 0).bind fun v35 =>
    (h_gi f x0 8 5).bind fun v36 =>
    (h_li f v35 1 v36).bind fun v37 =>
    (if (57 : Int32) < v37 then
      p_X5_advance_j175 V g x0 f
    else
      (h_pt f x0 8 3 (.int (2 : Int32))).bind fun f39 =>
      (p_X5_endOfRun V g f39 x0 (48 : Int32) (57 : Int32)).bind fun v40 =>
      (h_pt f39 x0 8 5 (.int v40)).bind fun f41 =>
      some f41))
def p_X5_advance (V : Nat → Nat) (g f : GH) (a0 : Nat) : Option GH :=
  h_me f a0 8 <|
  p_X5_advance_l0 V g (fun x0 f =>
    (h_gi f x0 8 5).bind fun v16 =>
    (h_pt f x0 8 4 (.int v16)).bind fun f17 =>
    (h_gi f17 x0 8 5).bind fun v18 =>
    (h_gi f17 x0 8 2).bind fun v19 =>
    (if v18 < v19 then
      (h_gr f17 x0 8 0).bind fun v21 =>
      (h_gi f17 x0 8 5).bind fun v22 =>
      (h_li f17 v21 1 v22).bind fun v23 =>
      (if v23 < (97 : Int32) then
        p_X5_advance_j127 V g x0 f17
      else
        (h_gr f17 x0 8 0).bind fun v43 =>
        (h_gi f17 x0 8 5).bind fun v44 =>
        (h_li f17 v43 1 v44).bind fun v45 =>
        (if (122 : Int32) < v45 then
          p_X5_advance_j127 V g x0 f17
        else
          (h_pt f17 x0 8 3 (.int (1 : Int32))).bind fun f47 =>
          (p_X5_endOfRun V g f47 x0 (97 : Int32) (122 : Int32)).bind fun v48 =>
          (h_pt f47 x0 8 5 (.int v48)).bind fun f49 =>
          some f49))
    else
      (h_pt f17 x0 8 3 (.int (0 : Int32))).bind fun f50 =>
      some f50)) FU a0 f
abbrev rm_X5_advance : Room := { frames := 3, cells := 0, slots := 0, locals := 143 }
theorem k_X5_advance : g_CV yX5_advance cX5_advance 1 none 0 := ⟨⟨m_636, m_4, by decide +kernel⟩, m_634, m_635⟩
set_option maxHeartbeats 4000000 in
set_option maxRecDepth 100000 in
theorem c_X5_advance (l : Launch) (V : Nat → Nat) (g : GH) (D : va_G) (cT : Nat → ClassId) (f : GH) (n : Nat) (a0 : Nat) (o : GH) (hq : p_X5_advance V g f a0 = some o) : Met l yX5_advance (Cond.code yX5_advance cX5_advance 1 none :: g_B) rm_X5_advance (va_Pc [.ref a0] (g_I V g D cT f n)) (g_Wv V D cT o n) 0 0 (g_A V) := by
  refine g_begin (own := RX5) [.ref a0] [(0, .ref a0)] (g_A V) (fun _ h => h) (by decide) rfl (Nat.le_of_ble_eq_true rfl) rfl ?_
  intro p e s m args below meth c hx hb hr hlocks hin hC hI ls hl
  obtain ⟨hx, hb, hml, hown, hB⟩ := id hC
  obtain ⟨H, hH⟩ : ∃ H, H = s.heap := ⟨_, rfl⟩
  obtain ⟨locs, hlocs⟩ : ∃ L : List Loc, L = [] := ⟨_, rfl⟩
  rw [← hH, ← hlocs] at hI ⊢
  clear hH hlocs
  unfold p_X5_advance at hq
  replace hq := (h_me_eq hq).2
  have hl0 : ∀ (K52 : Nat → GH → Option GH) (hK52 : ∀ (x0 : Nat) (f : GH) (H : Heap) (locs : List Loc) (ls : Array Slot), g_at (g_A V) V g D cT f n s H locs → lv_has ls 1 [(0, .ref x0)] → K52 x0 f = some o → W p l e rm_X5_advance s m args below meth c H locs 0 0 (MQ below (g_Wv V D cT o n) args s 0 0 (g_A V)) (F0 m 52 ls [])) (N : Nat) (x0 : Nat) (f : GH) (H : Heap) (locs : List Loc) (ls : Array Slot), g_at (g_A V) V g D cT f n s H locs → lv_has ls 1 [(0, .ref x0)] → p_X5_advance_l0 V g K52 N x0 f = some o → W p l e rm_X5_advance s m args below meth c H locs 0 0 (MQ below (g_Wv V D cT o n) args s 0 0 (g_A V)) (F0 m 0 ls []) := by
    intro K52 hK52 N
    induction N with
    | zero =>
      intro x0 f H locs ls hI hl hq
      rw [p_X5_advance_l0] at hq
      cases hq
    | succ N ih =>
      intro x0 f H locs ls hI hl hq
      rw [p_X5_advance_l0] at hq
      refine lv_aload_n hx hb dX5_advance_0 rfl (lv_at hl 0 rfl) ?_
      obtain ⟨v1, ev1, hq⟩ := b_s hq
      refine fa_gi (own := RX5) (ref := "CoastlineRuler$Tokens") (k := 5) hx hb hB inB_RX5 hown hI rfl (by decide) m_118 (fun _ h9 => h9) ev1 dX5_advance_1 ?_
      refine lv_aload_n hx hb dX5_advance_4 rfl (lv_at hl 0 rfl) ?_
      obtain ⟨v2, ev2, hq⟩ := b_s hq
      refine fa_gi (own := RX5) (ref := "CoastlineRuler$Tokens") (k := 2) hx hb hB inB_RX5 hown hI rfl (by decide) m_113 (fun _ h9 => h9) ev2 dX5_advance_5 ?_
      refine lv_icmp_ge (tgt := 52) hx hb dX5_advance_8 (by decide) (fun c3 => ?_) (fun c3 => ?_)
      · replace hq := i_t c3 hq
        exact hK52 x0 f H locs ls hI (lv_sub hl [0] rfl) hq
      · replace hq := i_f c3 hq
        refine lv_aload_n hx hb dX5_advance_11 rfl (lv_at hl 0 rfl) ?_
        obtain ⟨v4, ev4, hq⟩ := b_s hq
        refine fa_gr (own := RX5) (ref := "CoastlineRuler$Tokens") (k := 0) hx hb hB inB_RX5 hown hI rfl (by decide) m_110 (fun _ h9 => h9) ev4 dX5_advance_12 ?_
        refine lv_aload_n hx hb dX5_advance_15 rfl (lv_at hl 0 rfl) ?_
        obtain ⟨v5, ev5, hq⟩ := b_s hq
        refine fa_gi (own := RX5) (ref := "CoastlineRuler$Tokens") (k := 5) hx hb hB inB_RX5 hown hI rfl (by decide) m_118 (fun _ h9 => h9) ev5 dX5_advance_16 ?_
        obtain ⟨v6, ev6, hq⟩ := b_s hq
        refine fa_lb hx hb hI ev6 dX5_advance_19 ?_
        refine lv_bipush (v := (32 : Int32)) hx hb dX5_advance_20 (by decide) ?_
        refine lv_icmp_eq (tgt := 39) hx hb dX5_advance_22 (by decide) (fun c7 => ?_) (fun c7 => ?_)
        · replace hq := i_t c7 hq
          refine lv_aload_n hx hb dX5_advance_39 rfl (lv_at hl 0 rfl) ?_
          refine lv_dup hx hb dX5_advance_40 rfl ?_
          obtain ⟨v8, ev8, hq⟩ := b_s hq
          refine fa_gi (own := RX5) (ref := "CoastlineRuler$Tokens") (k := 5) hx hb hB inB_RX5 hown hI rfl (by decide) m_118 (fun _ h9 => h9) ev8 dX5_advance_41 ?_
          refine lv_iconst (v := (1 : Int32)) hx hb dX5_advance_44 (by decide) ?_
          refine lv_iadd hx hb dX5_advance_45 ?_
          obtain ⟨f9, ef9, hq⟩ := b_s hq
          refine fa_pt (own := RX5) (ref := "CoastlineRuler$Tokens") (k := 5) hx hb hB inB_RX5 tyX5_ok nmX5 hown hI rfl (by decide) m_118 (fun _ h9 => h9) (by decide) rfl rfl ef9 dX5_advance_46 (fun H locs hI => ?_)
          refine lv_goto (tgt := 0) hx hb dX5_advance_49 (by decide) ?_
          exact ih x0 f9 H locs ls hI (lv_sub hl [0] rfl) hq
        · replace hq := i_f c7 hq
          refine lv_aload_n hx hb dX5_advance_25 rfl (lv_at hl 0 rfl) ?_
          obtain ⟨v10, ev10, hq⟩ := b_s hq
          refine fa_gr (own := RX5) (ref := "CoastlineRuler$Tokens") (k := 0) hx hb hB inB_RX5 hown hI rfl (by decide) m_110 (fun _ h9 => h9) ev10 dX5_advance_26 ?_
          refine lv_aload_n hx hb dX5_advance_29 rfl (lv_at hl 0 rfl) ?_
          obtain ⟨v11, ev11, hq⟩ := b_s hq
          refine fa_gi (own := RX5) (ref := "CoastlineRuler$Tokens") (k := 5) hx hb hB inB_RX5 hown hI rfl (by decide) m_118 (fun _ h9 => h9) ev11 dX5_advance_30 ?_
          obtain ⟨v12, ev12, hq⟩ := b_s hq
          refine fa_lb hx hb hI ev12 dX5_advance_33 ?_
          refine lv_bipush (v := (10 : Int32)) hx hb dX5_advance_34 (by decide) ?_
          refine lv_icmp_ne (tgt := 52) hx hb dX5_advance_36 (by decide) (fun c13 => ?_) (fun c13 => ?_)
          · replace hq := i_f c13 hq
            exact hK52 x0 f H locs ls hI (lv_sub hl [0] rfl) hq
          · replace hq := i_t c13 hq
            refine lv_aload_n hx hb dX5_advance_39 rfl (lv_at hl 0 rfl) ?_
            refine lv_dup hx hb dX5_advance_40 rfl ?_
            obtain ⟨v14, ev14, hq⟩ := b_s hq
            refine fa_gi (own := RX5) (ref := "CoastlineRuler$Tokens") (k := 5) hx hb hB inB_RX5 hown hI rfl (by decide) m_118 (fun _ h9 => h9) ev14 dX5_advance_41 ?_
            refine lv_iconst (v := (1 : Int32)) hx hb dX5_advance_44 (by decide) ?_
            refine lv_iadd hx hb dX5_advance_45 ?_
            obtain ⟨f15, ef15, hq⟩ := b_s hq
            refine fa_pt (own := RX5) (ref := "CoastlineRuler$Tokens") (k := 5) hx hb hB inB_RX5 tyX5_ok nmX5 hown hI rfl (by decide) m_118 (fun _ h9 => h9) (by decide) rfl rfl ef15 dX5_advance_46 (fun H locs hI => ?_)
            refine lv_goto (tgt := 0) hx hb dX5_advance_49 (by decide) ?_
            exact ih x0 f15 H locs ls hI (lv_sub hl [0] rfl) hq
  refine hl0 _ ?_ FU a0 f H locs ls hI (lv_sub hl [0] rfl) hq
  · intro x0 f H locs ls hI hl hq
    refine lv_aload_n hx hb dX5_advance_52 rfl (lv_at hl 0 rfl) ?_
    refine lv_aload_n hx hb dX5_advance_53 rfl (lv_at hl 0 rfl) ?_
    obtain ⟨v16, ev16, hq⟩ := b_s hq
    refine fa_gi (own := RX5) (ref := "CoastlineRuler$Tokens") (k := 5) hx hb hB inB_RX5 hown hI rfl (by decide) m_118 (fun _ h9 => h9) ev16 dX5_advance_54 ?_
    obtain ⟨f17, ef17, hq⟩ := b_s hq
    refine fa_pt (own := RX5) (ref := "CoastlineRuler$Tokens") (k := 4) hx hb hB inB_RX5 tyX5_ok nmX5 hown hI rfl (by decide) m_116 (fun _ h9 => h9) (by decide) rfl rfl ef17 dX5_advance_57 (fun H locs hI => ?_)
    refine lv_aload_n hx hb dX5_advance_60 rfl (lv_at hl 0 rfl) ?_
    obtain ⟨v18, ev18, hq⟩ := b_s hq
    refine fa_gi (own := RX5) (ref := "CoastlineRuler$Tokens") (k := 5) hx hb hB inB_RX5 hown hI rfl (by decide) m_118 (fun _ h9 => h9) ev18 dX5_advance_61 ?_
    refine lv_aload_n hx hb dX5_advance_64 rfl (lv_at hl 0 rfl) ?_
    obtain ⟨v19, ev19, hq⟩ := b_s hq
    refine fa_gi (own := RX5) (ref := "CoastlineRuler$Tokens") (k := 2) hx hb hB inB_RX5 hown hI rfl (by decide) m_113 (fun _ h9 => h9) ev19 dX5_advance_65 ?_
    refine lv_icmp_lt (tgt := 79) hx hb dX5_advance_68 (by decide) (fun c20 => ?_) (fun c20 => ?_)
    · replace hq := i_t c20 hq
      refine lv_aload_n hx hb dX5_advance_79 rfl (lv_at hl 0 rfl) ?_
      obtain ⟨v21, ev21, hq⟩ := b_s hq
      refine fa_gr (own := RX5) (ref := "CoastlineRuler$Tokens") (k := 0) hx hb hB inB_RX5 hown hI rfl (by decide) m_110 (fun _ h9 => h9) ev21 dX5_advance_80 ?_
      refine lv_aload_n hx hb dX5_advance_83 rfl (lv_at hl 0 rfl) ?_
      obtain ⟨v22, ev22, hq⟩ := b_s hq
      refine fa_gi (own := RX5) (ref := "CoastlineRuler$Tokens") (k := 5) hx hb hB inB_RX5 hown hI rfl (by decide) m_118 (fun _ h9 => h9) ev22 dX5_advance_84 ?_
      obtain ⟨v23, ev23, hq⟩ := b_s hq
      refine fa_lb hx hb hI ev23 dX5_advance_87 ?_
      refine lv_bipush (v := (97 : Int32)) hx hb dX5_advance_88 (by decide) ?_
      have hj127 : ∀ (x0 : Nat) (f : GH) (H : Heap) (locs : List Loc) (ls : Array Slot), g_at (g_A V) V g D cT f n s H locs → lv_has ls 1 [(0, .ref x0)] → p_X5_advance_j127 V g x0 f = some o → W p l e rm_X5_advance s m args below meth c H locs 0 0 (MQ below (g_Wv V D cT o n) args s 0 0 (g_A V)) (F0 m 127 ls []) := by
        intro x0 f H locs ls hI hl hq
        unfold p_X5_advance_j127 at hq
        refine lv_aload_n hx hb dX5_advance_127 rfl (lv_at hl 0 rfl) ?_
        obtain ⟨v24, ev24, hq⟩ := b_s hq
        refine fa_gr (own := RX5) (ref := "CoastlineRuler$Tokens") (k := 0) hx hb hB inB_RX5 hown hI rfl (by decide) m_110 (fun _ h9 => h9) ev24 dX5_advance_128 ?_
        refine lv_aload_n hx hb dX5_advance_131 rfl (lv_at hl 0 rfl) ?_
        obtain ⟨v25, ev25, hq⟩ := b_s hq
        refine fa_gi (own := RX5) (ref := "CoastlineRuler$Tokens") (k := 5) hx hb hB inB_RX5 hown hI rfl (by decide) m_118 (fun _ h9 => h9) ev25 dX5_advance_132 ?_
        obtain ⟨v26, ev26, hq⟩ := b_s hq
        refine fa_lb hx hb hI ev26 dX5_advance_135 ?_
        refine lv_bipush (v := (48 : Int32)) hx hb dX5_advance_136 (by decide) ?_
        have hj175 : ∀ (x0 : Nat) (f : GH) (H : Heap) (locs : List Loc) (ls : Array Slot), g_at (g_A V) V g D cT f n s H locs → lv_has ls 1 [(0, .ref x0)] → p_X5_advance_j175 V g x0 f = some o → W p l e rm_X5_advance s m args below meth c H locs 0 0 (MQ below (g_Wv V D cT o n) args s 0 0 (g_A V)) (F0 m 175 ls []) := by
          intro x0 f H locs ls hI hl hq
          unfold p_X5_advance_j175 at hq
          refine lv_aload_n hx hb dX5_advance_175 rfl (lv_at hl 0 rfl) ?_
          refine lv_aload_n hx hb dX5_advance_176 rfl (lv_at hl 0 rfl) ?_
          obtain ⟨v27, ev27, hq⟩ := b_s hq
          refine fa_gr (own := RX5) (ref := "CoastlineRuler$Tokens") (k := 0) hx hb hB inB_RX5 hown hI rfl (by decide) m_110 (fun _ h9 => h9) ev27 dX5_advance_177 ?_
          refine lv_aload_n hx hb dX5_advance_180 rfl (lv_at hl 0 rfl) ?_
          obtain ⟨v28, ev28, hq⟩ := b_s hq
          refine fa_gi (own := RX5) (ref := "CoastlineRuler$Tokens") (k := 5) hx hb hB inB_RX5 hown hI rfl (by decide) m_118 (fun _ h9 => h9) ev28 dX5_advance_181 ?_
          obtain ⟨v29, ev29, hq⟩ := b_s hq
          refine fa_lb hx hb hI ev29 dX5_advance_184 ?_
          obtain ⟨v30, ev30, hq⟩ := b_s hq
          refine gr_i (g_runS (As := [.int v29]) (rest := [.ref x0]) hC (c_X5_kindOfSign l V g D cT f n v29 v30 ev30) k_X5_kindOfSign m_641 rfl rfl ⟨Nat.le_of_ble_eq_true rfl, Nat.le_of_ble_eq_true rfl⟩ hI rfl hl.1 rfl (Nat.le_of_ble_eq_true rfl) dX5_advance_185 ⟨by decide, by decide⟩) hI (fun H locs hI => ?_)
          obtain ⟨f31, ef31, hq⟩ := b_s hq
          refine fa_pt (own := RX5) (ref := "CoastlineRuler$Tokens") (k := 3) hx hb hB inB_RX5 tyX5_ok nmX5 hown hI rfl (by decide) m_115 (fun _ h9 => h9) (by decide) rfl rfl ef31 dX5_advance_188 (fun H locs hI => ?_)
          refine lv_aload_n hx hb dX5_advance_191 rfl (lv_at hl 0 rfl) ?_
          refine lv_dup hx hb dX5_advance_192 rfl ?_
          obtain ⟨v32, ev32, hq⟩ := b_s hq
          refine fa_gi (own := RX5) (ref := "CoastlineRuler$Tokens") (k := 5) hx hb hB inB_RX5 hown hI rfl (by decide) m_118 (fun _ h9 => h9) ev32 dX5_advance_193 ?_
          refine lv_iconst (v := (1 : Int32)) hx hb dX5_advance_196 (by decide) ?_
          refine lv_iadd hx hb dX5_advance_197 ?_
          obtain ⟨f33, ef33, hq⟩ := b_s hq
          refine fa_pt (own := RX5) (ref := "CoastlineRuler$Tokens") (k := 5) hx hb hB inB_RX5 tyX5_ok nmX5 hown hI rfl (by decide) m_118 (fun _ h9 => h9) (by decide) rfl rfl ef33 dX5_advance_198 (fun H locs hI => ?_)
          exact ge_Wv hx hb hlocks hr hI (Option.some.inj hq) dX5_advance_201
        refine lv_icmp_lt (tgt := 175) hx hb dX5_advance_138 (by decide) (fun c34 => ?_) (fun c34 => ?_)
        · replace hq := i_t c34 hq
          exact hj175 x0 f H locs ls hI (lv_sub hl [0] rfl) hq
        · replace hq := i_f c34 hq
          refine lv_aload_n hx hb dX5_advance_141 rfl (lv_at hl 0 rfl) ?_
          obtain ⟨v35, ev35, hq⟩ := b_s hq
          refine fa_gr (own := RX5) (ref := "CoastlineRuler$Tokens") (k := 0) hx hb hB inB_RX5 hown hI rfl (by decide) m_110 (fun _ h9 => h9) ev35 dX5_advance_142 ?_
          refine lv_aload_n hx hb dX5_advance_145 rfl (lv_at hl 0 rfl) ?_
          obtain ⟨v36, ev36, hq⟩ := b_s hq
          refine fa_gi (own := RX5) (ref := "CoastlineRuler$Tokens") (k := 5) hx hb hB inB_RX5 hown hI rfl (by decide) m_118 (fun _ h9 => h9) ev36 dX5_advance_146 ?_
          obtain ⟨v37, ev37, hq⟩ := b_s hq
          refine fa_lb hx hb hI ev37 dX5_advance_149 ?_
          refine lv_bipush (v := (57 : Int32)) hx hb dX5_advance_150 (by decide) ?_
          refine lv_icmp_gt (tgt := 175) hx hb dX5_advance_152 (by decide) (fun c38 => ?_) (fun c38 => ?_)
          · replace hq := i_t c38 hq
            exact hj175 x0 f H locs ls hI (lv_sub hl [0] rfl) hq
          · replace hq := i_f c38 hq
            refine lv_aload_n hx hb dX5_advance_155 rfl (lv_at hl 0 rfl) ?_
            refine lv_iconst (v := (2 : Int32)) hx hb dX5_advance_156 (by decide) ?_
            obtain ⟨f39, ef39, hq⟩ := b_s hq
            refine fa_pt (own := RX5) (ref := "CoastlineRuler$Tokens") (k := 3) hx hb hB inB_RX5 tyX5_ok nmX5 hown hI rfl (by decide) m_115 (fun _ h9 => h9) (by decide) rfl rfl ef39 dX5_advance_157 (fun H locs hI => ?_)
            refine lv_aload_n hx hb dX5_advance_160 rfl (lv_at hl 0 rfl) ?_
            refine lv_aload_n hx hb dX5_advance_161 rfl (lv_at hl 0 rfl) ?_
            refine lv_bipush (v := (48 : Int32)) hx hb dX5_advance_162 (by decide) ?_
            refine lv_bipush (v := (57 : Int32)) hx hb dX5_advance_164 (by decide) ?_
            obtain ⟨v40, ev40, hq⟩ := b_s hq
            refine gr_i (g_runV (As := [.int (48 : Int32), .int (57 : Int32)]) (rest := [.ref x0]) (ci := 8) hC (c_X5_endOfRun l V g D cT f39 n x0 (48 : Int32) (57 : Int32) v40 ev40) k_X5_endOfRun m_637 rfl rfl ⟨Nat.le_of_ble_eq_true rfl, Nat.le_of_ble_eq_true rfl⟩ hI rfl rfl (h_me_eq ev40).1 rfl hl.1 rfl (Nat.le_of_ble_eq_true rfl) dX5_advance_166 ⟨by decide, by decide⟩) hI (fun H locs hI => ?_)
            obtain ⟨f41, ef41, hq⟩ := b_s hq
            refine fa_pt (own := RX5) (ref := "CoastlineRuler$Tokens") (k := 5) hx hb hB inB_RX5 tyX5_ok nmX5 hown hI rfl (by decide) m_118 (fun _ h9 => h9) (by decide) rfl rfl ef41 dX5_advance_169 (fun H locs hI => ?_)
            refine lv_goto (tgt := 201) hx hb dX5_advance_172 (by decide) ?_
            exact ge_Wv hx hb hlocks hr hI (Option.some.inj hq) dX5_advance_201
      refine lv_icmp_lt (tgt := 127) hx hb dX5_advance_90 (by decide) (fun c42 => ?_) (fun c42 => ?_)
      · replace hq := i_t c42 hq
        exact hj127 x0 f17 H locs ls hI (lv_sub hl [0] rfl) hq
      · replace hq := i_f c42 hq
        refine lv_aload_n hx hb dX5_advance_93 rfl (lv_at hl 0 rfl) ?_
        obtain ⟨v43, ev43, hq⟩ := b_s hq
        refine fa_gr (own := RX5) (ref := "CoastlineRuler$Tokens") (k := 0) hx hb hB inB_RX5 hown hI rfl (by decide) m_110 (fun _ h9 => h9) ev43 dX5_advance_94 ?_
        refine lv_aload_n hx hb dX5_advance_97 rfl (lv_at hl 0 rfl) ?_
        obtain ⟨v44, ev44, hq⟩ := b_s hq
        refine fa_gi (own := RX5) (ref := "CoastlineRuler$Tokens") (k := 5) hx hb hB inB_RX5 hown hI rfl (by decide) m_118 (fun _ h9 => h9) ev44 dX5_advance_98 ?_
        obtain ⟨v45, ev45, hq⟩ := b_s hq
        refine fa_lb hx hb hI ev45 dX5_advance_101 ?_
        refine lv_bipush (v := (122 : Int32)) hx hb dX5_advance_102 (by decide) ?_
        refine lv_icmp_gt (tgt := 127) hx hb dX5_advance_104 (by decide) (fun c46 => ?_) (fun c46 => ?_)
        · replace hq := i_t c46 hq
          exact hj127 x0 f17 H locs ls hI (lv_sub hl [0] rfl) hq
        · replace hq := i_f c46 hq
          refine lv_aload_n hx hb dX5_advance_107 rfl (lv_at hl 0 rfl) ?_
          refine lv_iconst (v := (1 : Int32)) hx hb dX5_advance_108 (by decide) ?_
          obtain ⟨f47, ef47, hq⟩ := b_s hq
          refine fa_pt (own := RX5) (ref := "CoastlineRuler$Tokens") (k := 3) hx hb hB inB_RX5 tyX5_ok nmX5 hown hI rfl (by decide) m_115 (fun _ h9 => h9) (by decide) rfl rfl ef47 dX5_advance_109 (fun H locs hI => ?_)
          refine lv_aload_n hx hb dX5_advance_112 rfl (lv_at hl 0 rfl) ?_
          refine lv_aload_n hx hb dX5_advance_113 rfl (lv_at hl 0 rfl) ?_
          refine lv_bipush (v := (97 : Int32)) hx hb dX5_advance_114 (by decide) ?_
          refine lv_bipush (v := (122 : Int32)) hx hb dX5_advance_116 (by decide) ?_
          obtain ⟨v48, ev48, hq⟩ := b_s hq
          refine gr_i (g_runV (As := [.int (97 : Int32), .int (122 : Int32)]) (rest := [.ref x0]) (ci := 8) hC (c_X5_endOfRun l V g D cT f47 n x0 (97 : Int32) (122 : Int32) v48 ev48) k_X5_endOfRun m_637 rfl rfl ⟨Nat.le_of_ble_eq_true rfl, Nat.le_of_ble_eq_true rfl⟩ hI rfl rfl (h_me_eq ev48).1 rfl hl.1 rfl (Nat.le_of_ble_eq_true rfl) dX5_advance_118 ⟨by decide, by decide⟩) hI (fun H locs hI => ?_)
          obtain ⟨f49, ef49, hq⟩ := b_s hq
          refine fa_pt (own := RX5) (ref := "CoastlineRuler$Tokens") (k := 5) hx hb hB inB_RX5 tyX5_ok nmX5 hown hI rfl (by decide) m_118 (fun _ h9 => h9) (by decide) rfl rfl ef49 dX5_advance_121 (fun H locs hI => ?_)
          refine lv_goto (tgt := 201) hx hb dX5_advance_124 (by decide) ?_
          exact ge_Wv hx hb hlocks hr hI (Option.some.inj hq) dX5_advance_201
    · replace hq := i_f c20 hq
      refine lv_aload_n hx hb dX5_advance_71 rfl (lv_at hl 0 rfl) ?_
      refine lv_iconst (v := (0 : Int32)) hx hb dX5_advance_72 (by decide) ?_
      obtain ⟨f50, ef50, hq⟩ := b_s hq
      refine fa_pt (own := RX5) (ref := "CoastlineRuler$Tokens") (k := 3) hx hb hB inB_RX5 tyX5_ok nmX5 hown hI rfl (by decide) m_115 (fun _ h9 => h9) (by decide) rfl rfl ef50 dX5_advance_73 (fun H locs hI => ?_)
      refine lv_goto (tgt := 201) hx hb dX5_advance_76 (by decide) ?_
      exact ge_Wv hx hb hlocks hr hI (Option.some.inj hq) dX5_advance_201

def p_X5_begin (V : Nat → Nat) (g f : GH) (a0 : Nat) (a1 : Int32) : Option GH :=
  h_me f a0 8 <|
  (h_pt f a0 8 2 (.int a1)).bind fun f1 =>
  (h_pt f1 a0 8 5 (.int (0 : Int32))).bind fun f2 =>
  (p_X5_advance V g f2 a0).bind fun v3 =>
  some v3
abbrev rm_X5_begin : Room := { frames := 4, cells := 0, slots := 0, locals := 163 }
theorem k_X5_begin : g_CV yX5_begin cX5_begin 2 none 1 := ⟨⟨m_632, m_4, by decide +kernel⟩, m_630, m_631⟩
set_option maxHeartbeats 4000000 in
set_option maxRecDepth 100000 in
theorem c_X5_begin (l : Launch) (V : Nat → Nat) (g : GH) (D : va_G) (cT : Nat → ClassId) (f : GH) (n : Nat) (a0 : Nat) (a1 : Int32) (o : GH) (hq : p_X5_begin V g f a0 a1 = some o) : Met l yX5_begin (Cond.code yX5_begin cX5_begin 2 none :: g_B) rm_X5_begin (va_Pc [.ref a0, .int a1] (g_I V g D cT f n)) (g_Wv V D cT o n) 0 0 (g_A V) := by
  refine g_begin (own := RX5) [.ref a0, .int a1] [(0, .ref a0), (1, .int a1)] (g_A V) (fun _ h => h) (by decide) rfl (Nat.le_of_ble_eq_true rfl) rfl ?_
  intro p e s m args below meth c hx hb hr hlocks hin hC hI ls hl
  obtain ⟨hx, hb, hml, hown, hB⟩ := id hC
  obtain ⟨H, hH⟩ : ∃ H, H = s.heap := ⟨_, rfl⟩
  obtain ⟨locs, hlocs⟩ : ∃ L : List Loc, L = [] := ⟨_, rfl⟩
  rw [← hH, ← hlocs] at hI ⊢
  clear hH hlocs
  unfold p_X5_begin at hq
  replace hq := (h_me_eq hq).2
  refine lv_aload_n hx hb dX5_begin_0 rfl (lv_at hl 0 rfl) ?_
  refine lv_iload_n hx hb dX5_begin_1 rfl (lv_at hl 1 rfl) ?_
  obtain ⟨f1, ef1, hq⟩ := b_s hq
  refine fa_pt (own := RX5) (ref := "CoastlineRuler$Tokens") (k := 2) hx hb hB inB_RX5 tyX5_ok nmX5 hown hI rfl (by decide) m_113 (fun _ h9 => h9) (by decide) rfl rfl ef1 dX5_begin_2 (fun H locs hI => ?_)
  refine lv_aload_n hx hb dX5_begin_5 rfl (lv_at hl 0 rfl) ?_
  refine lv_iconst (v := (0 : Int32)) hx hb dX5_begin_6 (by decide) ?_
  obtain ⟨f2, ef2, hq⟩ := b_s hq
  refine fa_pt (own := RX5) (ref := "CoastlineRuler$Tokens") (k := 5) hx hb hB inB_RX5 tyX5_ok nmX5 hown hI rfl (by decide) m_118 (fun _ h9 => h9) (by decide) rfl rfl ef2 dX5_begin_7 (fun H locs hI => ?_)
  refine lv_aload_n hx hb dX5_begin_10 rfl (lv_at hl 0 rfl) ?_
  obtain ⟨v3, ev3, hq⟩ := b_s hq
  refine gw_v (g_runV (As := []) (rest := []) (ci := 8) hC (c_X5_advance l V g D cT f2 n a0 v3 ev3) k_X5_advance m_633 rfl rfl ⟨Nat.le_of_ble_eq_true rfl, Nat.le_of_ble_eq_true rfl⟩ hI rfl rfl (h_me_eq ev3).1 rfl hl.1 rfl (Nat.le_of_ble_eq_true rfl) dX5_begin_11 ⟨by decide, by decide⟩) hI (fun H locs hI => ?_)
  exact ge_Wv hx hb hlocks hr hI (Option.some.inj hq) dX5_begin_14

def p_X4_begin (V : Nat → Nat) (g f : GH) (a0 : Nat) (a1 : Int32) : Option GH :=
  h_me f a0 7 <|
  (h_pt f a0 7 1 (.int (0 : Int32))).bind fun f1 =>
  (h_pt f1 a0 7 2 (.int (-1 : Int32))).bind fun f2 =>
  (h_gr f2 a0 7 0).bind fun v3 =>
  (p_X5_begin V g f2 v3 a1).bind fun v4 =>
  some v4
abbrev rm_X4_begin : Room := { frames := 5, cells := 0, slots := 0, locals := 184 }
theorem k_X4_begin : g_CV yX4_begin cX4_begin 2 none 1 := ⟨⟨m_628, m_5, by decide +kernel⟩, m_627, ms_4⟩
set_option maxHeartbeats 4000000 in
set_option maxRecDepth 100000 in
theorem c_X4_begin (l : Launch) (V : Nat → Nat) (g : GH) (D : va_G) (cT : Nat → ClassId) (f : GH) (n : Nat) (a0 : Nat) (a1 : Int32) (o : GH) (hq : p_X4_begin V g f a0 a1 = some o) : Met l yX4_begin (Cond.code yX4_begin cX4_begin 2 none :: g_B) rm_X4_begin (va_Pc [.ref a0, .int a1] (g_I V g D cT f n)) (g_Wv V D cT o n) 0 0 (g_A V) := by
  refine g_begin (own := RX4) [.ref a0, .int a1] [(0, .ref a0), (1, .int a1)] (g_A V) (fun _ h => h) (by decide) rfl (Nat.le_of_ble_eq_true rfl) rfl ?_
  intro p e s m args below meth c hx hb hr hlocks hin hC hI ls hl
  obtain ⟨hx, hb, hml, hown, hB⟩ := id hC
  obtain ⟨H, hH⟩ : ∃ H, H = s.heap := ⟨_, rfl⟩
  obtain ⟨locs, hlocs⟩ : ∃ L : List Loc, L = [] := ⟨_, rfl⟩
  rw [← hH, ← hlocs] at hI ⊢
  clear hH hlocs
  unfold p_X4_begin at hq
  replace hq := (h_me_eq hq).2
  refine lv_aload_n hx hb dX4_begin_0 rfl (lv_at hl 0 rfl) ?_
  refine lv_iconst (v := (0 : Int32)) hx hb dX4_begin_1 (by decide) ?_
  obtain ⟨f1, ef1, hq⟩ := b_s hq
  refine fa_pt (own := RX4) (ref := "CoastlineRuler$Grammar") (k := 1) hx hb hB inB_RX4 tyX4_ok nmX4 hown hI rfl (by decide) m_141 (fun _ h9 => h9) (by decide) rfl rfl ef1 dX4_begin_2 (fun H locs hI => ?_)
  refine lv_aload_n hx hb dX4_begin_5 rfl (lv_at hl 0 rfl) ?_
  refine lv_iconst (v := (-1 : Int32)) hx hb dX4_begin_6 (by decide) ?_
  obtain ⟨f2, ef2, hq⟩ := b_s hq
  refine fa_pt (own := RX4) (ref := "CoastlineRuler$Grammar") (k := 2) hx hb hB inB_RX4 tyX4_ok nmX4 hown hI rfl (by decide) m_142 (fun _ h9 => h9) (by decide) rfl rfl ef2 dX4_begin_7 (fun H locs hI => ?_)
  refine lv_aload_n hx hb dX4_begin_10 rfl (lv_at hl 0 rfl) ?_
  obtain ⟨v3, ev3, hq⟩ := b_s hq
  refine fa_gr (own := RX4) (ref := "CoastlineRuler$Grammar") (k := 0) hx hb hB inB_RX4 hown hI rfl (by decide) m_139 (fun _ h9 => h9) ev3 dX4_begin_11 ?_
  refine lv_iload_n hx hb dX4_begin_14 rfl (lv_at hl 1 rfl) ?_
  obtain ⟨v4, ev4, hq⟩ := b_s hq
  refine gw_v (g_runV (As := [.int a1]) (rest := []) (ci := 8) hC (c_X5_begin l V g D cT f2 n v3 a1 v4 ev4) k_X5_begin m_629 rfl rfl ⟨Nat.le_of_ble_eq_true rfl, Nat.le_of_ble_eq_true rfl⟩ hI rfl rfl (h_me_eq ev4).1 rfl hl.1 rfl (Nat.le_of_ble_eq_true rfl) dX4_begin_15 ⟨by decide, by decide⟩) hI (fun H locs hI => ?_)
  exact ge_Wv hx hb hlocks hr hI (Option.some.inj hq) dX4_begin_18

def p_X4_fail (V : Nat → Nat) (g f : GH) (a0 : Nat) (a1 : Int32) : Option (Int32 × GH) :=
  h_me f a0 7 <|
  (h_pt f a0 7 1 (.int a1)).bind fun f1 =>
  (h_gr f1 a0 7 0).bind fun v2 =>
  (h_gi f1 v2 8 4).bind fun v3 =>
  (h_pt f1 a0 7 2 (.int v3)).bind fun f4 =>
  some ((0 : Int32), f4)
abbrev rm_X4_fail : Room := { frames := 2, cells := 0, slots := 0, locals := 120 }
theorem k_X4_fail : g_CV yX4_fail cX4_fail 2 (some .boolean) 1 := ⟨⟨m_703, m_5, by decide +kernel⟩, m_702, ms_6⟩
set_option maxHeartbeats 4000000 in
set_option maxRecDepth 100000 in
theorem c_X4_fail (l : Launch) (V : Nat → Nat) (g : GH) (D : va_G) (cT : Nat → ClassId) (f : GH) (n : Nat) (a0 : Nat) (a1 : Int32) (o : Int32 × GH) (hq : p_X4_fail V g f a0 a1 = some o) : Met l yX4_fail (Cond.code yX4_fail cX4_fail 2 (some .boolean) :: g_B) rm_X4_fail (va_Pc [.ref a0, .int a1] (g_I V g D cT f n)) (g_Wi V D cT o.1 o.2 n) 0 0 (g_A V) := by
  refine g_begin (own := RX4) [.ref a0, .int a1] [(0, .ref a0), (1, .int a1)] (g_A V) (fun _ h => h) (by decide) rfl (Nat.le_of_ble_eq_true rfl) rfl ?_
  intro p e s m args below meth c hx hb hr hlocks hin hC hI ls hl
  obtain ⟨hx, hb, hml, hown, hB⟩ := id hC
  obtain ⟨H, hH⟩ : ∃ H, H = s.heap := ⟨_, rfl⟩
  obtain ⟨locs, hlocs⟩ : ∃ L : List Loc, L = [] := ⟨_, rfl⟩
  rw [← hH, ← hlocs] at hI ⊢
  clear hH hlocs
  unfold p_X4_fail at hq
  replace hq := (h_me_eq hq).2
  refine lv_aload_n hx hb dX4_fail_0 rfl (lv_at hl 0 rfl) ?_
  refine lv_iload_n hx hb dX4_fail_1 rfl (lv_at hl 1 rfl) ?_
  obtain ⟨f1, ef1, hq⟩ := b_s hq
  refine fa_pt (own := RX4) (ref := "CoastlineRuler$Grammar") (k := 1) hx hb hB inB_RX4 tyX4_ok nmX4 hown hI rfl (by decide) m_141 (fun _ h9 => h9) (by decide) rfl rfl ef1 dX4_fail_2 (fun H locs hI => ?_)
  refine lv_aload_n hx hb dX4_fail_5 rfl (lv_at hl 0 rfl) ?_
  refine lv_aload_n hx hb dX4_fail_6 rfl (lv_at hl 0 rfl) ?_
  obtain ⟨v2, ev2, hq⟩ := b_s hq
  refine fa_gr (own := RX4) (ref := "CoastlineRuler$Grammar") (k := 0) hx hb hB inB_RX4 hown hI rfl (by decide) m_139 (fun _ h9 => h9) ev2 dX4_fail_7 ?_
  obtain ⟨v3, ev3, hq⟩ := b_s hq
  refine fa_gi (own := RX4) (ref := "CoastlineRuler$Tokens") (k := 4) hx hb hB inB_RX5 hown hI rfl (by decide) m_117 (fun _ h9 => h9) ev3 dX4_fail_10 ?_
  obtain ⟨f4, ef4, hq⟩ := b_s hq
  refine fa_pt (own := RX4) (ref := "CoastlineRuler$Grammar") (k := 2) hx hb hB inB_RX4 tyX4_ok nmX4 hown hI rfl (by decide) m_142 (fun _ h9 => h9) (by decide) rfl rfl ef4 dX4_fail_13 (fun H locs hI => ?_)
  refine lv_iconst (v := (0 : Int32)) hx hb dX4_fail_16 (by decide) ?_
  exact ge_Wi hx hb hlocks hr (by decide +kernel) hI (congrArg (fun z => z.1) (Option.some.inj hq)) (congrArg (fun z => z.2) (Option.some.inj hq)) dX4_fail_17

def p_X5_value_l7 (V : Nat → Nat) (g f : GH) (K42 : Int32 → Option Int32) : Nat → Nat → Int32 → Int32 → Option Int32
  | 0, _, _, _ => none
  | N + 1, x0, x1, x2 =>
    (h_gi f x0 8 5).bind fun v2 =>
    (if v2 ≤ x2 then
      K42 x1
    else
      (if (1000000 : Int32) < x1 then
        K42 x1
      else
        (h_gr f x0 8 0).bind fun v5 =>
        (h_li f v5 1 x2).bind fun v6 =>
        p_X5_value_l7 V g f K42 N x0 ((((10 : Int32) * x1) + v6) - (48 : Int32)) (x2 + (1 : Int32))))
def p_X5_value (V : Nat → Nat) (g f : GH) (a0 : Nat) : Option Int32 :=
  h_me f a0 8 <|
  (h_gi f a0 8 4).bind fun v1 =>
  p_X5_value_l7 V g f (fun x1 =>
    some x1) FU a0 (0 : Int32) v1
abbrev rm_X5_value : Room := { frames := 2, cells := 0, slots := 0, locals := 120 }
theorem k_X5_value : g_CV yX5_value cX5_value 3 (some .int) 0 := ⟨⟨m_728, m_4, by decide +kernel⟩, m_726, m_727⟩
set_option maxHeartbeats 4000000 in
set_option maxRecDepth 100000 in
theorem c_X5_value (l : Launch) (V : Nat → Nat) (g : GH) (D : va_G) (cT : Nat → ClassId) (f : GH) (n : Nat) (a0 : Nat) (o : Int32) (hq : p_X5_value V g f a0 = some o) : Met l yX5_value (Cond.code yX5_value cX5_value 3 (some .int) :: g_B) rm_X5_value (va_Pc [.ref a0] (g_I V g D cT f n)) (g_Ri o n) 0 0 g_no := by
  refine g_begin (own := RX5) [.ref a0] [(0, .ref a0)] g_no (fun _ h => h.elim) (by decide) rfl (Nat.le_of_ble_eq_true rfl) rfl ?_
  intro p e s m args below meth c hx hb hr hlocks hin hC hI ls hl
  obtain ⟨hx, hb, hml, hown, hB⟩ := id hC
  obtain ⟨H, hH⟩ : ∃ H, H = s.heap := ⟨_, rfl⟩
  obtain ⟨locs, hlocs⟩ : ∃ L : List Loc, L = [] := ⟨_, rfl⟩
  rw [← hH, ← hlocs] at hI ⊢
  clear hH hlocs
  unfold p_X5_value at hq
  replace hq := (h_me_eq hq).2
  refine lv_iconst (v := (0 : Int32)) hx hb dX5_value_0 (by decide) ?_
  refine lv_istore_n (lv' := [(1, .int (0 : Int32)), (0, .ref a0)]) hx hb dX5_value_1 rfl hl (by decide) rfl (fun ls hl => ?_)
  refine lv_aload_n hx hb dX5_value_2 rfl (lv_at hl 1 rfl) ?_
  obtain ⟨v1, ev1, hq⟩ := b_s hq
  refine fa_gi (own := RX5) (ref := "CoastlineRuler$Tokens") (k := 4) hx hb hB inB_RX5 hown hI rfl (by decide) m_116 (fun _ h9 => h9) ev1 dX5_value_3 ?_
  refine lv_istore_n (lv' := [(2, .int v1), (1, .int (0 : Int32)), (0, .ref a0)]) hx hb dX5_value_6 rfl hl (by decide) rfl (fun ls hl => ?_)
  have hl7 : ∀ (K42 : Int32 → Option Int32) (hK42 : ∀ (x1 : Int32) (H : Heap) (locs : List Loc) (ls : Array Slot), g_at g_no V g D cT f n s H locs → lv_has ls 3 [(1, .int x1)] → K42 x1 = some o → W p l e rm_X5_value s m args below meth c H locs 0 0 (MQ below (g_Ri o n) args s 0 0 g_no) (F0 m 42 ls [])) (N : Nat) (x0 : Nat) (x1 : Int32) (x2 : Int32) (H : Heap) (locs : List Loc) (ls : Array Slot), g_at g_no V g D cT f n s H locs → lv_has ls 3 [(0, .ref x0), (1, .int x1), (2, .int x2)] → p_X5_value_l7 V g f K42 N x0 x1 x2 = some o → W p l e rm_X5_value s m args below meth c H locs 0 0 (MQ below (g_Ri o n) args s 0 0 g_no) (F0 m 7 ls []) := by
    intro K42 hK42 N
    induction N with
    | zero =>
      intro x0 x1 x2 H locs ls hI hl hq
      rw [p_X5_value_l7] at hq
      cases hq
    | succ N ih =>
      intro x0 x1 x2 H locs ls hI hl hq
      rw [p_X5_value_l7] at hq
      refine lv_iload_n hx hb dX5_value_7 rfl (lv_at hl 2 rfl) ?_
      refine lv_aload_n hx hb dX5_value_8 rfl (lv_at hl 0 rfl) ?_
      obtain ⟨v2, ev2, hq⟩ := b_s hq
      refine fa_gi (own := RX5) (ref := "CoastlineRuler$Tokens") (k := 5) hx hb hB inB_RX5 hown hI rfl (by decide) m_118 (fun _ h9 => h9) ev2 dX5_value_9 ?_
      refine lv_icmp_ge (tgt := 42) hx hb dX5_value_12 (by decide) (fun c3 => ?_) (fun c3 => ?_)
      · replace hq := i_t c3 hq
        exact hK42 x1 H locs ls hI (lv_sub hl [1] rfl) hq
      · replace hq := i_f c3 hq
        refine lv_iload_n hx hb dX5_value_15 rfl (lv_at hl 1 rfl) ?_
        refine lv_ldc (own := RX5) (index := 42) (v := (1000000 : Int32)) hx hb hown (hB _ m_729) dX5_value_16 ?_
        refine lv_icmp_gt (tgt := 42) hx hb dX5_value_18 (by decide) (fun c4 => ?_) (fun c4 => ?_)
        · replace hq := i_t c4 hq
          exact hK42 x1 H locs ls hI (lv_sub hl [1] rfl) hq
        · replace hq := i_f c4 hq
          refine lv_bipush (v := (10 : Int32)) hx hb dX5_value_21 (by decide) ?_
          refine lv_iload_n hx hb dX5_value_23 rfl (lv_at hl 1 rfl) ?_
          refine lv_imul hx hb dX5_value_24 ?_
          refine lv_aload_n hx hb dX5_value_25 rfl (lv_at hl 0 rfl) ?_
          obtain ⟨v5, ev5, hq⟩ := b_s hq
          refine fa_gr (own := RX5) (ref := "CoastlineRuler$Tokens") (k := 0) hx hb hB inB_RX5 hown hI rfl (by decide) m_110 (fun _ h9 => h9) ev5 dX5_value_26 ?_
          refine lv_iload_n hx hb dX5_value_29 rfl (lv_at hl 2 rfl) ?_
          obtain ⟨v6, ev6, hq⟩ := b_s hq
          refine fa_lb hx hb hI ev6 dX5_value_30 ?_
          refine lv_iadd hx hb dX5_value_31 ?_
          refine lv_bipush (v := (48 : Int32)) hx hb dX5_value_32 (by decide) ?_
          refine lv_isub hx hb dX5_value_34 ?_
          refine lv_istore_n (lv' := [(1, .int ((((10 : Int32) * x1) + v6) - (48 : Int32))), (0, .ref x0), (2, .int x2)]) hx hb dX5_value_35 rfl hl (by decide) rfl (fun ls hl => ?_)
          refine lv_iinc (v := x2 + (1 : Int32)) (lv' := [(2, .int (x2 + (1 : Int32))), (1, .int ((((10 : Int32) * x1) + v6) - (48 : Int32))), (0, .ref x0)]) hx hb dX5_value_36 hl (k := 2) rfl rfl (by decide) rfl (fun ls hl => ?_)
          refine lv_goto (tgt := 7) hx hb dX5_value_39 (by decide) ?_
          exact ih x0 ((((10 : Int32) * x1) + v6) - (48 : Int32)) (x2 + (1 : Int32)) H locs ls hI (lv_sub hl [2, 1, 0] rfl) hq
  refine hl7 _ ?_ FU a0 (0 : Int32) v1 H locs ls hI (lv_sub hl [2, 1, 0] rfl) hq
  · intro x1 H locs ls hI hl hq
    refine lv_iload_n hx hb dX5_value_42 rfl (lv_at hl 0 rfl) ?_
    exact ge_Ri hx hb hlocks hr rfl hI hq dX5_value_43

def p_X4_readInteger_j72 (V : Nat → Nat) (g : GH) (x0 : Nat) (x1 : Int32) (x2 : Int32) (t0 : Int32) (t1 : Nat) (f : GH) : Option (Int32 × GH) :=
  (h_pt f t1 7 3 (.int t0)).bind fun f4 =>
  (h_gi f4 x0 7 3).bind fun v5 =>
  (if v5 < x1 then
    (p_X4_fail V g f4 x0 (2 : Int32)).bind fun v7 =>
    (h_bz v7.1).bind fun _ =>
    some (v7.1, v7.2)
  else
    (h_gi f4 x0 7 3).bind fun v9 =>
    (if v9 ≤ x2 then
      (h_gr f4 x0 7 0).bind fun v11 =>
      (p_X5_advance V g f4 v11).bind fun v12 =>
      some ((1 : Int32), v12)
    else
      (p_X4_fail V g f4 x0 (2 : Int32)).bind fun v13 =>
      (h_bz v13.1).bind fun _ =>
      some (v13.1, v13.2)))
def p_X4_readInteger_j32 (V : Nat → Nat) (g : GH) (x0 : Nat) (x1 : Int32) (x2 : Int32) (x3 : Int32) (f : GH) : Option (Int32 × GH) :=
  (h_gr f x0 7 0).bind fun v1 =>
  (h_gi f v1 8 3).bind fun v2 =>
  (if v2 = (2 : Int32) then
    (if x3 = (0 : Int32) then
      (h_gr f x0 7 0).bind fun v16 =>
      (p_X5_value V g f v16).bind fun v17 =>
      p_X4_readInteger_j72 V g x0 x1 x2 v17 x0 f
    else
      (h_gr f x0 7 0).bind fun v18 =>
      (p_X5_value V g f v18).bind fun v19 =>
      p_X4_readInteger_j72 V g x0 x1 x2 (-v19) x0 f)
  else
    (p_X4_fail V g f x0 (1 : Int32)).bind fun v20 =>
    (h_bz v20.1).bind fun _ =>
    some (v20.1, v20.2))
def p_X4_readInteger_j20 (V : Nat → Nat) (g : GH) (x0 : Nat) (x1 : Int32) (x2 : Int32) (t0 : Int32) (f : GH) : Option (Int32 × GH) :=
  (if t0 = (0 : Int32) then
    p_X4_readInteger_j32 V g x0 x1 x2 t0 f
  else
    (h_gr f x0 7 0).bind fun v23 =>
    (p_X5_advance V g f v23).bind fun v24 =>
    p_X4_readInteger_j32 V g x0 x1 x2 t0 v24)
def p_X4_readInteger_j19 (V : Nat → Nat) (g : GH) (K20 : Nat → Int32 → Int32 → Int32 → GH → Option (Int32 × GH)) (x0 : Nat) (x1 : Int32) (x2 : Int32) (f : GH) : Option (Int32 × GH) :=
  K20 x0 x1 x2 (0 : Int32) f
def p_X4_readInteger (V : Nat → Nat) (g f : GH) (a0 : Nat) (a1 : Int32) (a2 : Int32) : Option (Int32 × GH) :=
  h_me f a0 7 <|
  (if (0 : Int32) ≤ a1 then
    p_X4_readInteger_j19 V g (p_X4_readInteger_j20 V g) a0 a1 a2 f
  else
    (h_gr f a0 7 0).bind fun v26 =>
    (h_gi f v26 8 3).bind fun v27 =>
    (if v27 = (5 : Int32) then
      p_X4_readInteger_j20 V g a0 a1 a2 (1 : Int32) f
    else
      p_X4_readInteger_j19 V g (p_X4_readInteger_j20 V g) a0 a1 a2 f))
abbrev rm_X4_readInteger : Room := { frames := 4, cells := 0, slots := 0, locals := 163 }
theorem k_X4_readInteger : g_CV yX4_readInteger cX4_readInteger 4 (some .boolean) 2 := ⟨⟨m_724, m_5, by decide +kernel⟩, m_723, ms_10⟩
set_option maxHeartbeats 4000000 in
set_option maxRecDepth 100000 in
theorem c_X4_readInteger (l : Launch) (V : Nat → Nat) (g : GH) (D : va_G) (cT : Nat → ClassId) (f : GH) (n : Nat) (a0 : Nat) (a1 : Int32) (a2 : Int32) (o : Int32 × GH) (hq : p_X4_readInteger V g f a0 a1 a2 = some o) : Met l yX4_readInteger (Cond.code yX4_readInteger cX4_readInteger 4 (some .boolean) :: g_B) rm_X4_readInteger (va_Pc [.ref a0, .int a1, .int a2] (g_I V g D cT f n)) (g_Wi V D cT o.1 o.2 n) 0 0 (g_A V) := by
  refine g_begin (own := RX4) [.ref a0, .int a1, .int a2] [(0, .ref a0), (1, .int a1), (2, .int a2)] (g_A V) (fun _ h => h) (by decide) rfl (Nat.le_of_ble_eq_true rfl) rfl ?_
  intro p e s m args below meth c hx hb hr hlocks hin hC hI ls hl
  obtain ⟨hx, hb, hml, hown, hB⟩ := id hC
  obtain ⟨H, hH⟩ : ∃ H, H = s.heap := ⟨_, rfl⟩
  obtain ⟨locs, hlocs⟩ : ∃ L : List Loc, L = [] := ⟨_, rfl⟩
  rw [← hH, ← hlocs] at hI ⊢
  clear hH hlocs
  unfold p_X4_readInteger at hq
  replace hq := (h_me_eq hq).2
  refine lv_iload_n hx hb dX4_readInteger_0 rfl (lv_at hl 1 rfl) ?_
  have hj20 : ∀ (x0 : Nat) (x1 : Int32) (x2 : Int32) (t0 : Int32) (f : GH) (H : Heap) (locs : List Loc) (ls : Array Slot), g_at (g_A V) V g D cT f n s H locs → lv_has ls 4 [(0, .ref x0), (1, .int x1), (2, .int x2)] → p_X4_readInteger_j20 V g x0 x1 x2 t0 f = some o → W p l e rm_X4_readInteger s m args below meth c H locs 0 0 (MQ below (g_Wi V D cT o.1 o.2 n) args s 0 0 (g_A V)) (F0 m 20 ls [.int t0]) := by
    intro x0 x1 x2 t0 f H locs ls hI hl hq
    unfold p_X4_readInteger_j20 at hq
    refine lv_istore_n (lv' := [(3, .int t0), (0, .ref x0), (1, .int x1), (2, .int x2)]) hx hb dX4_readInteger_20 rfl hl (by decide) rfl (fun ls hl => ?_)
    refine lv_iload_n hx hb dX4_readInteger_21 rfl (lv_at hl 0 rfl) ?_
    have hj32 : ∀ (x0 : Nat) (x1 : Int32) (x2 : Int32) (x3 : Int32) (f : GH) (H : Heap) (locs : List Loc) (ls : Array Slot), g_at (g_A V) V g D cT f n s H locs → lv_has ls 4 [(0, .ref x0), (1, .int x1), (2, .int x2), (3, .int x3)] → p_X4_readInteger_j32 V g x0 x1 x2 x3 f = some o → W p l e rm_X4_readInteger s m args below meth c H locs 0 0 (MQ below (g_Wi V D cT o.1 o.2 n) args s 0 0 (g_A V)) (F0 m 32 ls []) := by
      intro x0 x1 x2 x3 f H locs ls hI hl hq
      unfold p_X4_readInteger_j32 at hq
      refine lv_aload_n hx hb dX4_readInteger_32 rfl (lv_at hl 0 rfl) ?_
      obtain ⟨v1, ev1, hq⟩ := b_s hq
      refine fa_gr (own := RX4) (ref := "CoastlineRuler$Grammar") (k := 0) hx hb hB inB_RX4 hown hI rfl (by decide) m_139 (fun _ h9 => h9) ev1 dX4_readInteger_33 ?_
      obtain ⟨v2, ev2, hq⟩ := b_s hq
      refine fa_gi (own := RX4) (ref := "CoastlineRuler$Tokens") (k := 3) hx hb hB inB_RX5 hown hI rfl (by decide) m_114 (fun _ h9 => h9) ev2 dX4_readInteger_36 ?_
      refine lv_iconst (v := (2 : Int32)) hx hb dX4_readInteger_39 (by decide) ?_
      refine lv_icmp_eq (tgt := 49) hx hb dX4_readInteger_40 (by decide) (fun c3 => ?_) (fun c3 => ?_)
      · replace hq := i_t c3 hq
        refine lv_aload_n hx hb dX4_readInteger_49 rfl (lv_at hl 0 rfl) ?_
        refine lv_iload_n hx hb dX4_readInteger_50 rfl (lv_at hl 3 rfl) ?_
        have hj72 : ∀ (x0 : Nat) (x1 : Int32) (x2 : Int32) (t0 : Int32) (t1 : Nat) (f : GH) (H : Heap) (locs : List Loc) (ls : Array Slot), g_at (g_A V) V g D cT f n s H locs → lv_has ls 4 [(0, .ref x0), (1, .int x1), (2, .int x2)] → p_X4_readInteger_j72 V g x0 x1 x2 t0 t1 f = some o → W p l e rm_X4_readInteger s m args below meth c H locs 0 0 (MQ below (g_Wi V D cT o.1 o.2 n) args s 0 0 (g_A V)) (F0 m 72 ls [.int t0, .ref t1]) := by
          intro x0 x1 x2 t0 t1 f H locs ls hI hl hq
          unfold p_X4_readInteger_j72 at hq
          obtain ⟨f4, ef4, hq⟩ := b_s hq
          refine fa_pt (own := RX4) (ref := "CoastlineRuler$Grammar") (k := 3) hx hb hB inB_RX4 tyX4_ok nmX4 hown hI rfl (by decide) m_144 (fun _ h9 => h9) (by decide) rfl rfl ef4 dX4_readInteger_72 (fun H locs hI => ?_)
          refine lv_aload_n hx hb dX4_readInteger_75 rfl (lv_at hl 0 rfl) ?_
          obtain ⟨v5, ev5, hq⟩ := b_s hq
          refine fa_gi (own := RX4) (ref := "CoastlineRuler$Grammar") (k := 3) hx hb hB inB_RX4 hown hI rfl (by decide) m_144 (fun _ h9 => h9) ev5 dX4_readInteger_76 ?_
          refine lv_iload_n hx hb dX4_readInteger_79 rfl (lv_at hl 1 rfl) ?_
          refine lv_icmp_lt (tgt := 91) hx hb dX4_readInteger_80 (by decide) (fun c6 => ?_) (fun c6 => ?_)
          · replace hq := i_t c6 hq
            refine lv_aload_n hx hb dX4_readInteger_91 rfl (lv_at hl 0 rfl) ?_
            refine lv_iconst (v := (2 : Int32)) hx hb dX4_readInteger_92 (by decide) ?_
            obtain ⟨v7, ev7, hq⟩ := b_s hq
            refine gw_i (g_runV (As := [.int (2 : Int32)]) (rest := []) (ci := 7) hC (c_X4_fail l V g D cT f4 n x0 (2 : Int32) v7 ev7) k_X4_fail m_700 rfl rfl ⟨Nat.le_of_ble_eq_true rfl, Nat.le_of_ble_eq_true rfl⟩ hI rfl rfl (h_me_eq ev7).1 rfl hl.1 rfl (Nat.le_of_ble_eq_true rfl) dX4_readInteger_93 ⟨by decide, by decide⟩) hI (fun H locs hI => ?_)
            obtain ⟨_, ev8, hq⟩ := b_s hq
            exact ge_Wi hx hb hlocks hr (h_bz_eq ev8).2.1 hI (congrArg (fun z => z.1) (Option.some.inj hq)) (congrArg (fun z => z.2) (Option.some.inj hq)) dX4_readInteger_96
          · replace hq := i_f c6 hq
            refine lv_aload_n hx hb dX4_readInteger_83 rfl (lv_at hl 0 rfl) ?_
            obtain ⟨v9, ev9, hq⟩ := b_s hq
            refine fa_gi (own := RX4) (ref := "CoastlineRuler$Grammar") (k := 3) hx hb hB inB_RX4 hown hI rfl (by decide) m_144 (fun _ h9 => h9) ev9 dX4_readInteger_84 ?_
            refine lv_iload_n hx hb dX4_readInteger_87 rfl (lv_at hl 2 rfl) ?_
            refine lv_icmp_le (tgt := 97) hx hb dX4_readInteger_88 (by decide) (fun c10 => ?_) (fun c10 => ?_)
            · replace hq := i_t c10 hq
              refine lv_aload_n hx hb dX4_readInteger_97 rfl (lv_at hl 0 rfl) ?_
              obtain ⟨v11, ev11, hq⟩ := b_s hq
              refine fa_gr (own := RX4) (ref := "CoastlineRuler$Grammar") (k := 0) hx hb hB inB_RX4 hown hI rfl (by decide) m_139 (fun _ h9 => h9) ev11 dX4_readInteger_98 ?_
              obtain ⟨v12, ev12, hq⟩ := b_s hq
              refine gw_v (g_runV (As := []) (rest := []) (ci := 8) hC (c_X5_advance l V g D cT f4 n v11 v12 ev12) k_X5_advance m_704 rfl rfl ⟨Nat.le_of_ble_eq_true rfl, Nat.le_of_ble_eq_true rfl⟩ hI rfl rfl (h_me_eq ev12).1 rfl hl.1 rfl (Nat.le_of_ble_eq_true rfl) dX4_readInteger_101 ⟨by decide, by decide⟩) hI (fun H locs hI => ?_)
              refine lv_iconst (v := (1 : Int32)) hx hb dX4_readInteger_104 (by decide) ?_
              exact ge_Wi hx hb hlocks hr (by decide +kernel) hI (congrArg (fun z => z.1) (Option.some.inj hq)) (congrArg (fun z => z.2) (Option.some.inj hq)) dX4_readInteger_105
            · replace hq := i_f c10 hq
              refine lv_aload_n hx hb dX4_readInteger_91 rfl (lv_at hl 0 rfl) ?_
              refine lv_iconst (v := (2 : Int32)) hx hb dX4_readInteger_92 (by decide) ?_
              obtain ⟨v13, ev13, hq⟩ := b_s hq
              refine gw_i (g_runV (As := [.int (2 : Int32)]) (rest := []) (ci := 7) hC (c_X4_fail l V g D cT f4 n x0 (2 : Int32) v13 ev13) k_X4_fail m_700 rfl rfl ⟨Nat.le_of_ble_eq_true rfl, Nat.le_of_ble_eq_true rfl⟩ hI rfl rfl (h_me_eq ev13).1 rfl hl.1 rfl (Nat.le_of_ble_eq_true rfl) dX4_readInteger_93 ⟨by decide, by decide⟩) hI (fun H locs hI => ?_)
              obtain ⟨_, ev14, hq⟩ := b_s hq
              exact ge_Wi hx hb hlocks hr (h_bz_eq ev14).2.1 hI (congrArg (fun z => z.1) (Option.some.inj hq)) (congrArg (fun z => z.2) (Option.some.inj hq)) dX4_readInteger_96
        refine lv_if_eq (tgt := 65) hx hb dX4_readInteger_51 (by decide) (fun c15 => ?_) (fun c15 => ?_)
        · replace hq := i_t c15 hq
          refine lv_aload_n hx hb dX4_readInteger_65 rfl (lv_at hl 0 rfl) ?_
          obtain ⟨v16, ev16, hq⟩ := b_s hq
          refine fa_gr (own := RX4) (ref := "CoastlineRuler$Grammar") (k := 0) hx hb hB inB_RX4 hown hI rfl (by decide) m_139 (fun _ h9 => h9) ev16 dX4_readInteger_66 ?_
          obtain ⟨v17, ev17, hq⟩ := b_s hq
          refine gr_i (g_runV (As := []) (rest := [.ref x0]) (ci := 8) hC (c_X5_value l V g D cT f n v16 v17 ev17) k_X5_value m_725 rfl rfl ⟨Nat.le_of_ble_eq_true rfl, Nat.le_of_ble_eq_true rfl⟩ hI rfl rfl (h_me_eq ev17).1 rfl hl.1 rfl (Nat.le_of_ble_eq_true rfl) dX4_readInteger_69 ⟨by decide, by decide⟩) hI (fun H locs hI => ?_)
          exact hj72 x0 x1 x2 v17 x0 f H locs ls hI (lv_sub hl [0, 1, 2] rfl) hq
        · replace hq := i_f c15 hq
          refine lv_aload_n hx hb dX4_readInteger_54 rfl (lv_at hl 0 rfl) ?_
          obtain ⟨v18, ev18, hq⟩ := b_s hq
          refine fa_gr (own := RX4) (ref := "CoastlineRuler$Grammar") (k := 0) hx hb hB inB_RX4 hown hI rfl (by decide) m_139 (fun _ h9 => h9) ev18 dX4_readInteger_55 ?_
          obtain ⟨v19, ev19, hq⟩ := b_s hq
          refine gr_i (g_runV (As := []) (rest := [.ref x0]) (ci := 8) hC (c_X5_value l V g D cT f n v18 v19 ev19) k_X5_value m_725 rfl rfl ⟨Nat.le_of_ble_eq_true rfl, Nat.le_of_ble_eq_true rfl⟩ hI rfl rfl (h_me_eq ev19).1 rfl hl.1 rfl (Nat.le_of_ble_eq_true rfl) dX4_readInteger_58 ⟨by decide, by decide⟩) hI (fun H locs hI => ?_)
          refine lv_ineg hx hb dX4_readInteger_61 ?_
          refine lv_goto (tgt := 72) hx hb dX4_readInteger_62 (by decide) ?_
          exact hj72 x0 x1 x2 (-v19) x0 f H locs ls hI (lv_sub hl [0, 1, 2] rfl) hq
      · replace hq := i_f c3 hq
        refine lv_aload_n hx hb dX4_readInteger_43 rfl (lv_at hl 0 rfl) ?_
        refine lv_iconst (v := (1 : Int32)) hx hb dX4_readInteger_44 (by decide) ?_
        obtain ⟨v20, ev20, hq⟩ := b_s hq
        refine gw_i (g_runV (As := [.int (1 : Int32)]) (rest := []) (ci := 7) hC (c_X4_fail l V g D cT f n x0 (1 : Int32) v20 ev20) k_X4_fail m_700 rfl rfl ⟨Nat.le_of_ble_eq_true rfl, Nat.le_of_ble_eq_true rfl⟩ hI rfl rfl (h_me_eq ev20).1 rfl hl.1 rfl (Nat.le_of_ble_eq_true rfl) dX4_readInteger_45 ⟨by decide, by decide⟩) hI (fun H locs hI => ?_)
        obtain ⟨_, ev21, hq⟩ := b_s hq
        exact ge_Wi hx hb hlocks hr (h_bz_eq ev21).2.1 hI (congrArg (fun z => z.1) (Option.some.inj hq)) (congrArg (fun z => z.2) (Option.some.inj hq)) dX4_readInteger_48
    refine lv_if_eq (tgt := 32) hx hb dX4_readInteger_22 (by decide) (fun c22 => ?_) (fun c22 => ?_)
    · replace hq := i_t c22 hq
      exact hj32 x0 x1 x2 t0 f H locs ls hI (lv_sub hl [1, 2, 3, 0] rfl) hq
    · replace hq := i_f c22 hq
      refine lv_aload_n hx hb dX4_readInteger_25 rfl (lv_at hl 1 rfl) ?_
      obtain ⟨v23, ev23, hq⟩ := b_s hq
      refine fa_gr (own := RX4) (ref := "CoastlineRuler$Grammar") (k := 0) hx hb hB inB_RX4 hown hI rfl (by decide) m_139 (fun _ h9 => h9) ev23 dX4_readInteger_26 ?_
      obtain ⟨v24, ev24, hq⟩ := b_s hq
      refine gw_v (g_runV (As := []) (rest := []) (ci := 8) hC (c_X5_advance l V g D cT f n v23 v24 ev24) k_X5_advance m_704 rfl rfl ⟨Nat.le_of_ble_eq_true rfl, Nat.le_of_ble_eq_true rfl⟩ hI rfl rfl (h_me_eq ev24).1 rfl hl.1 rfl (Nat.le_of_ble_eq_true rfl) dX4_readInteger_29 ⟨by decide, by decide⟩) hI (fun H locs hI => ?_)
      exact hj32 x0 x1 x2 t0 v24 H locs ls hI (lv_sub hl [1, 2, 3, 0] rfl) hq
  have hj19 : ∀ (x0 : Nat) (x1 : Int32) (x2 : Int32) (f : GH) (H : Heap) (locs : List Loc) (ls : Array Slot), g_at (g_A V) V g D cT f n s H locs → lv_has ls 4 [(0, .ref x0), (1, .int x1), (2, .int x2)] → p_X4_readInteger_j19 V g (p_X4_readInteger_j20 V g) x0 x1 x2 f = some o → W p l e rm_X4_readInteger s m args below meth c H locs 0 0 (MQ below (g_Wi V D cT o.1 o.2 n) args s 0 0 (g_A V)) (F0 m 19 ls []) := by
    intro x0 x1 x2 f H locs ls hI hl hq
    unfold p_X4_readInteger_j19 at hq
    refine lv_iconst (v := (0 : Int32)) hx hb dX4_readInteger_19 (by decide) ?_
    exact hj20 x0 x1 x2 (0 : Int32) f H locs ls hI (lv_sub hl [0, 1, 2] rfl) hq
  refine lv_if_ge (tgt := 19) hx hb dX4_readInteger_1 (by decide) (fun c25 => ?_) (fun c25 => ?_)
  · replace hq := i_t c25 hq
    exact hj19 a0 a1 a2 f H locs ls hI (lv_sub hl [0, 1, 2] rfl) hq
  · replace hq := i_f c25 hq
    refine lv_aload_n hx hb dX4_readInteger_4 rfl (lv_at hl 0 rfl) ?_
    obtain ⟨v26, ev26, hq⟩ := b_s hq
    refine fa_gr (own := RX4) (ref := "CoastlineRuler$Grammar") (k := 0) hx hb hB inB_RX4 hown hI rfl (by decide) m_139 (fun _ h9 => h9) ev26 dX4_readInteger_5 ?_
    obtain ⟨v27, ev27, hq⟩ := b_s hq
    refine fa_gi (own := RX4) (ref := "CoastlineRuler$Tokens") (k := 3) hx hb hB inB_RX5 hown hI rfl (by decide) m_114 (fun _ h9 => h9) ev27 dX4_readInteger_8 ?_
    refine lv_iconst (v := (5 : Int32)) hx hb dX4_readInteger_11 (by decide) ?_
    refine lv_icmp_ne (tgt := 19) hx hb dX4_readInteger_12 (by decide) (fun c28 => ?_) (fun c28 => ?_)
    · replace hq := i_f c28 hq
      exact hj19 a0 a1 a2 f H locs ls hI (lv_sub hl [0, 1, 2] rfl) hq
    · replace hq := i_t c28 hq
      refine lv_iconst (v := (1 : Int32)) hx hb dX4_readInteger_15 (by decide) ?_
      refine lv_goto (tgt := 20) hx hb dX4_readInteger_16 (by decide) ?_
      exact hj20 a0 a1 a2 (1 : Int32) f H locs ls hI (lv_sub hl [0, 1, 2] rfl) hq

def p_X4_refusePoint (V : Nat → Nat) (g f : GH) (a0 : Nat) : Option (Int32 × GH) :=
  h_me f a0 7 <|
  (h_gr f a0 7 0).bind fun v1 =>
  (h_gi f v1 8 3).bind fun v2 =>
  (if v2 = (5 : Int32) then
    (p_X4_fail V g f a0 (3 : Int32)).bind fun v16 =>
    (h_bz v16.1).bind fun _ =>
    some (v16.1, v16.2)
  else
    (h_gr f a0 7 0).bind fun v4 =>
    (h_gi f v4 8 3).bind fun v5 =>
    (if v5 = (2 : Int32) then
      (h_gr f a0 7 0).bind fun v7 =>
      (p_X5_value V g f v7).bind fun v8 =>
      (if v8 ≤ (1000 : Int32) then
        (p_X4_fail V g f a0 (3 : Int32)).bind fun v10 =>
        (h_bz v10.1).bind fun _ =>
        some (v10.1, v10.2)
      else
        (p_X4_fail V g f a0 (2 : Int32)).bind fun v12 =>
        (h_bz v12.1).bind fun _ =>
        some (v12.1, v12.2))
    else
      (p_X4_fail V g f a0 (1 : Int32)).bind fun v14 =>
      (h_bz v14.1).bind fun _ =>
      some (v14.1, v14.2)))
abbrev rm_X4_refusePoint : Room := { frames := 3, cells := 0, slots := 0, locals := 142 }
theorem k_X4_refusePoint : g_CV yX4_refusePoint cX4_refusePoint 1 (some .boolean) 0 := ⟨⟨m_735, m_5, by decide +kernel⟩, m_734, ms_11⟩
set_option maxHeartbeats 4000000 in
set_option maxRecDepth 100000 in
theorem c_X4_refusePoint (l : Launch) (V : Nat → Nat) (g : GH) (D : va_G) (cT : Nat → ClassId) (f : GH) (n : Nat) (a0 : Nat) (o : Int32 × GH) (hq : p_X4_refusePoint V g f a0 = some o) : Met l yX4_refusePoint (Cond.code yX4_refusePoint cX4_refusePoint 1 (some .boolean) :: g_B) rm_X4_refusePoint (va_Pc [.ref a0] (g_I V g D cT f n)) (g_Wi V D cT o.1 o.2 n) 0 0 (g_A V) := by
  refine g_begin (own := RX4) [.ref a0] [(0, .ref a0)] (g_A V) (fun _ h => h) (by decide) rfl (Nat.le_of_ble_eq_true rfl) rfl ?_
  intro p e s m args below meth c hx hb hr hlocks hin hC hI ls hl
  obtain ⟨hx, hb, hml, hown, hB⟩ := id hC
  obtain ⟨H, hH⟩ : ∃ H, H = s.heap := ⟨_, rfl⟩
  obtain ⟨locs, hlocs⟩ : ∃ L : List Loc, L = [] := ⟨_, rfl⟩
  rw [← hH, ← hlocs] at hI ⊢
  clear hH hlocs
  unfold p_X4_refusePoint at hq
  replace hq := (h_me_eq hq).2
  refine lv_aload_n hx hb dX4_refusePoint_0 rfl (lv_at hl 0 rfl) ?_
  obtain ⟨v1, ev1, hq⟩ := b_s hq
  refine fa_gr (own := RX4) (ref := "CoastlineRuler$Grammar") (k := 0) hx hb hB inB_RX4 hown hI rfl (by decide) m_139 (fun _ h9 => h9) ev1 dX4_refusePoint_1 ?_
  obtain ⟨v2, ev2, hq⟩ := b_s hq
  refine fa_gi (own := RX4) (ref := "CoastlineRuler$Tokens") (k := 3) hx hb hB inB_RX5 hown hI rfl (by decide) m_114 (fun _ h9 => h9) ev2 dX4_refusePoint_4 ?_
  refine lv_iconst (v := (5 : Int32)) hx hb dX4_refusePoint_7 (by decide) ?_
  refine lv_icmp_ne (tgt := 17) hx hb dX4_refusePoint_8 (by decide) (fun c3 => ?_) (fun c3 => ?_)
  · replace hq := i_f c3 hq
    refine lv_aload_n hx hb dX4_refusePoint_17 rfl (lv_at hl 0 rfl) ?_
    obtain ⟨v4, ev4, hq⟩ := b_s hq
    refine fa_gr (own := RX4) (ref := "CoastlineRuler$Grammar") (k := 0) hx hb hB inB_RX4 hown hI rfl (by decide) m_139 (fun _ h9 => h9) ev4 dX4_refusePoint_18 ?_
    obtain ⟨v5, ev5, hq⟩ := b_s hq
    refine fa_gi (own := RX4) (ref := "CoastlineRuler$Tokens") (k := 3) hx hb hB inB_RX5 hown hI rfl (by decide) m_114 (fun _ h9 => h9) ev5 dX4_refusePoint_21 ?_
    refine lv_iconst (v := (2 : Int32)) hx hb dX4_refusePoint_24 (by decide) ?_
    refine lv_icmp_eq (tgt := 34) hx hb dX4_refusePoint_25 (by decide) (fun c6 => ?_) (fun c6 => ?_)
    · replace hq := i_t c6 hq
      refine lv_aload_n hx hb dX4_refusePoint_34 rfl (lv_at hl 0 rfl) ?_
      refine lv_aload_n hx hb dX4_refusePoint_35 rfl (lv_at hl 0 rfl) ?_
      obtain ⟨v7, ev7, hq⟩ := b_s hq
      refine fa_gr (own := RX4) (ref := "CoastlineRuler$Grammar") (k := 0) hx hb hB inB_RX4 hown hI rfl (by decide) m_139 (fun _ h9 => h9) ev7 dX4_refusePoint_36 ?_
      obtain ⟨v8, ev8, hq⟩ := b_s hq
      refine gr_i (g_runV (As := []) (rest := [.ref a0]) (ci := 8) hC (c_X5_value l V g D cT f n v7 v8 ev8) k_X5_value m_725 rfl rfl ⟨Nat.le_of_ble_eq_true rfl, Nat.le_of_ble_eq_true rfl⟩ hI rfl rfl (h_me_eq ev8).1 rfl hl.1 rfl (Nat.le_of_ble_eq_true rfl) dX4_refusePoint_39 ⟨by decide, by decide⟩) hI (fun H locs hI => ?_)
      refine lv_sipush (v := (1000 : Int32)) hx hb dX4_refusePoint_42 (by decide) ?_
      refine lv_icmp_le (tgt := 52) hx hb dX4_refusePoint_45 (by decide) (fun c9 => ?_) (fun c9 => ?_)
      · replace hq := i_t c9 hq
        refine lv_iconst (v := (3 : Int32)) hx hb dX4_refusePoint_52 (by decide) ?_
        obtain ⟨v10, ev10, hq⟩ := b_s hq
        refine gw_i (g_runV (As := [.int (3 : Int32)]) (rest := []) (ci := 7) hC (c_X4_fail l V g D cT f n a0 (3 : Int32) v10 ev10) k_X4_fail m_700 rfl rfl ⟨Nat.le_of_ble_eq_true rfl, Nat.le_of_ble_eq_true rfl⟩ hI rfl rfl (h_me_eq ev10).1 rfl hl.1 rfl (Nat.le_of_ble_eq_true rfl) dX4_refusePoint_53 ⟨by decide, by decide⟩) hI (fun H locs hI => ?_)
        obtain ⟨_, ev11, hq⟩ := b_s hq
        exact ge_Wi hx hb hlocks hr (h_bz_eq ev11).2.1 hI (congrArg (fun z => z.1) (Option.some.inj hq)) (congrArg (fun z => z.2) (Option.some.inj hq)) dX4_refusePoint_56
      · replace hq := i_f c9 hq
        refine lv_iconst (v := (2 : Int32)) hx hb dX4_refusePoint_48 (by decide) ?_
        refine lv_goto (tgt := 53) hx hb dX4_refusePoint_49 (by decide) ?_
        obtain ⟨v12, ev12, hq⟩ := b_s hq
        refine gw_i (g_runV (As := [.int (2 : Int32)]) (rest := []) (ci := 7) hC (c_X4_fail l V g D cT f n a0 (2 : Int32) v12 ev12) k_X4_fail m_700 rfl rfl ⟨Nat.le_of_ble_eq_true rfl, Nat.le_of_ble_eq_true rfl⟩ hI rfl rfl (h_me_eq ev12).1 rfl hl.1 rfl (Nat.le_of_ble_eq_true rfl) dX4_refusePoint_53 ⟨by decide, by decide⟩) hI (fun H locs hI => ?_)
        obtain ⟨_, ev13, hq⟩ := b_s hq
        exact ge_Wi hx hb hlocks hr (h_bz_eq ev13).2.1 hI (congrArg (fun z => z.1) (Option.some.inj hq)) (congrArg (fun z => z.2) (Option.some.inj hq)) dX4_refusePoint_56
    · replace hq := i_f c6 hq
      refine lv_aload_n hx hb dX4_refusePoint_28 rfl (lv_at hl 0 rfl) ?_
      refine lv_iconst (v := (1 : Int32)) hx hb dX4_refusePoint_29 (by decide) ?_
      obtain ⟨v14, ev14, hq⟩ := b_s hq
      refine gw_i (g_runV (As := [.int (1 : Int32)]) (rest := []) (ci := 7) hC (c_X4_fail l V g D cT f n a0 (1 : Int32) v14 ev14) k_X4_fail m_700 rfl rfl ⟨Nat.le_of_ble_eq_true rfl, Nat.le_of_ble_eq_true rfl⟩ hI rfl rfl (h_me_eq ev14).1 rfl hl.1 rfl (Nat.le_of_ble_eq_true rfl) dX4_refusePoint_30 ⟨by decide, by decide⟩) hI (fun H locs hI => ?_)
      obtain ⟨_, ev15, hq⟩ := b_s hq
      exact ge_Wi hx hb hlocks hr (h_bz_eq ev15).2.1 hI (congrArg (fun z => z.1) (Option.some.inj hq)) (congrArg (fun z => z.2) (Option.some.inj hq)) dX4_refusePoint_33
  · replace hq := i_t c3 hq
    refine lv_aload_n hx hb dX4_refusePoint_11 rfl (lv_at hl 0 rfl) ?_
    refine lv_iconst (v := (3 : Int32)) hx hb dX4_refusePoint_12 (by decide) ?_
    obtain ⟨v16, ev16, hq⟩ := b_s hq
    refine gw_i (g_runV (As := [.int (3 : Int32)]) (rest := []) (ci := 7) hC (c_X4_fail l V g D cT f n a0 (3 : Int32) v16 ev16) k_X4_fail m_700 rfl rfl ⟨Nat.le_of_ble_eq_true rfl, Nat.le_of_ble_eq_true rfl⟩ hI rfl rfl (h_me_eq ev16).1 rfl hl.1 rfl (Nat.le_of_ble_eq_true rfl) dX4_refusePoint_13 ⟨by decide, by decide⟩) hI (fun H locs hI => ?_)
    obtain ⟨_, ev17, hq⟩ := b_s hq
    exact ge_Wi hx hb hlocks hr (h_bz_eq ev17).2.1 hI (congrArg (fun z => z.1) (Option.some.inj hq)) (congrArg (fun z => z.2) (Option.some.inj hq)) dX4_refusePoint_16

def p_J0_isLatin1_aae02 (V : Nat → Nat) (g f : GH) (a0 : Nat) : Option Int32 :=
  h_me f a0 0 <|
  (h_gi f a0 0 1).bind fun v1 =>
  (if v1 = (0 : Int32) then
    some (1 : Int32)
  else
    some (0 : Int32))
abbrev rm_J0_isLatin1_aae02 : Room := { frames := 2, cells := 0, slots := 0, locals := 120 }
theorem k_J0_isLatin1_aae02 : g_CV yJ0_isLatin1_aae02 cJ0_isLatin1_aae02 1 (some .boolean) 0 := ⟨⟨m_669, m_11, by decide +kernel⟩, m_667, m_668⟩
set_option maxHeartbeats 4000000 in
set_option maxRecDepth 100000 in
theorem c_J0_isLatin1_aae02 (l : Launch) (V : Nat → Nat) (g : GH) (D : va_G) (cT : Nat → ClassId) (f : GH) (n : Nat) (a0 : Nat) (o : Int32) (hq : p_J0_isLatin1_aae02 V g f a0 = some o) : Met l yJ0_isLatin1_aae02 (Cond.code yJ0_isLatin1_aae02 cJ0_isLatin1_aae02 1 (some .boolean) :: g_B) rm_J0_isLatin1_aae02 (va_Pc [.ref a0] (g_I V g D cT f n)) (g_Ri o n) 0 0 g_no := by
  refine g_begin (own := RJ0) [.ref a0] [(0, .ref a0)] g_no (fun _ h => h.elim) (by decide) rfl (Nat.le_of_ble_eq_true rfl) rfl ?_
  intro p e s m args below meth c hx hb hr hlocks hin hC hI ls hl
  obtain ⟨hx, hb, hml, hown, hB⟩ := id hC
  obtain ⟨H, hH⟩ : ∃ H, H = s.heap := ⟨_, rfl⟩
  obtain ⟨locs, hlocs⟩ : ∃ L : List Loc, L = [] := ⟨_, rfl⟩
  rw [← hH, ← hlocs] at hI ⊢
  clear hH hlocs
  unfold p_J0_isLatin1_aae02 at hq
  replace hq := (h_me_eq hq).2
  refine fs_gs (i := 18) hx hb hown hI rfl (hB _ m_661) (fun _ h9 => h9) dJ0_isLatin1_aae02_0 ?_
  refine lv_if_eq (tgt := 17) hx hb dJ0_isLatin1_aae02_3 (by decide) (fun c => absurd c (by decide)) (fun _ => ?_)
  refine lv_aload_n hx hb dJ0_isLatin1_aae02_6 rfl (lv_at hl 0 rfl) ?_
  obtain ⟨v1, ev1, hq⟩ := b_s hq
  refine fa_gi (own := RJ0) (ref := "java/lang/String") (k := 1) hx hb hB inB_RJ0 hown hI rfl (by decide) m_1378 (fun _ h9 => h9) ev1 dJ0_isLatin1_aae02_7 ?_
  refine lv_if_ne (tgt := 17) hx hb dJ0_isLatin1_aae02_10 (by decide) (fun c2 => ?_) (fun c2 => ?_)
  · replace hq := i_f c2 hq
    refine lv_iconst (v := (0 : Int32)) hx hb dJ0_isLatin1_aae02_17 (by decide) ?_
    exact ge_Ri hx hb hlocks hr (by decide +kernel) hI hq dJ0_isLatin1_aae02_18
  · replace hq := i_t c2 hq
    refine lv_iconst (v := (1 : Int32)) hx hb dJ0_isLatin1_aae02_13 (by decide) ?_
    refine lv_goto (tgt := 18) hx hb dJ0_isLatin1_aae02_14 (by decide) ?_
    exact ge_Ri hx hb hlocks hr (by decide +kernel) hI hq dJ0_isLatin1_aae02_18

def p_J3_checkIndex_8e157 (V : Nat → Nat) (g f : GH) (a0 : Int32) (a1 : Int32) (a2 : Option Nat) : Option Int32 :=
  (if a0 < (0 : Int32) then
    none
  else
    (if a0 < a1 then
      some a0
    else
      none))
abbrev rm_J3_checkIndex_8e157 : Room := { frames := 2, cells := 0, slots := 0, locals := 120 }
theorem k_J3_checkIndex_8e157 : g_CS yJ3_checkIndex_8e157 cJ3_checkIndex_8e157 3 (some .int) 3 := ⟨⟨m_680, m_20, by decide +kernel⟩, m_679⟩
set_option maxHeartbeats 4000000 in
set_option maxRecDepth 100000 in
theorem c_J3_checkIndex_8e157 (l : Launch) (V : Nat → Nat) (g : GH) (D : va_G) (cT : Nat → ClassId) (f : GH) (n : Nat) (a0 : Int32) (a1 : Int32) (a2 : Option Nat) (o : Int32) (hq : p_J3_checkIndex_8e157 V g f a0 a1 a2 = some o) : Met l yJ3_checkIndex_8e157 (Cond.code yJ3_checkIndex_8e157 cJ3_checkIndex_8e157 3 (some .int) :: g_B) rm_J3_checkIndex_8e157 (va_Pc [.int a0, .int a1, va_rf a2] (g_I V g D cT f n)) (g_Ri o n) 0 0 g_no := by
  refine g_begin (own := RJ3) [.int a0, .int a1, va_rf a2] [(0, .int a0), (1, .int a1), (2, va_rf a2)] g_no (fun _ h => h.elim) (by decide) rfl (Nat.le_of_ble_eq_true rfl) rfl ?_
  intro p e s m args below meth c hx hb hr hlocks hin hC hI ls hl
  obtain ⟨hx, hb, hml, hown, hB⟩ := id hC
  obtain ⟨H, hH⟩ : ∃ H, H = s.heap := ⟨_, rfl⟩
  obtain ⟨locs, hlocs⟩ : ∃ L : List Loc, L = [] := ⟨_, rfl⟩
  rw [← hH, ← hlocs] at hI ⊢
  clear hH hlocs
  unfold p_J3_checkIndex_8e157 at hq
  refine lv_iload_n hx hb dJ3_checkIndex_8e157_0 rfl (lv_at hl 0 rfl) ?_
  refine lv_if_lt (tgt := 9) hx hb dJ3_checkIndex_8e157_1 (by decide) (fun c1 => ?_) (fun c1 => ?_)
  · replace hq := i_t c1 hq
    cases hq
  · replace hq := i_f c1 hq
    refine lv_iload_n hx hb dJ3_checkIndex_8e157_4 rfl (lv_at hl 0 rfl) ?_
    refine lv_iload_n hx hb dJ3_checkIndex_8e157_5 rfl (lv_at hl 1 rfl) ?_
    refine lv_icmp_lt (tgt := 16) hx hb dJ3_checkIndex_8e157_6 (by decide) (fun c2 => ?_) (fun c2 => ?_)
    · replace hq := i_t c2 hq
      refine lv_iload_n hx hb dJ3_checkIndex_8e157_16 rfl (lv_at hl 0 rfl) ?_
      exact ge_Ri hx hb hlocks hr rfl hI hq dJ3_checkIndex_8e157_17
    · replace hq := i_f c2 hq
      cases hq

def p_J0_checkIndex_df160 (V : Nat → Nat) (g f : GH) (a0 : Int32) (a1 : Int32) : Option Unit :=
  (p_J3_checkIndex_8e157 V g f a0 a1 (if V 19 = 0 then none else some (V 19 - 1))).bind fun v1 =>
  some ()
abbrev rm_J0_checkIndex_df160 : Room := { frames := 3, cells := 0, slots := 0, locals := 142 }
theorem k_J0_checkIndex_df160 : g_CS yJ0_checkIndex_df160 cJ0_checkIndex_df160 2 none 2 := ⟨⟨m_675, m_11, by decide +kernel⟩, m_674⟩
set_option maxHeartbeats 4000000 in
set_option maxRecDepth 100000 in
theorem c_J0_checkIndex_df160 (l : Launch) (V : Nat → Nat) (g : GH) (D : va_G) (cT : Nat → ClassId) (f : GH) (n : Nat) (a0 : Int32) (a1 : Int32) (o : Unit) (hq : p_J0_checkIndex_df160 V g f a0 a1 = some o) : Met l yJ0_checkIndex_df160 (Cond.code yJ0_checkIndex_df160 cJ0_checkIndex_df160 2 none :: g_B) rm_J0_checkIndex_df160 (va_Pc [.int a0, .int a1] (g_I V g D cT f n)) (g_Rv o n) 0 0 g_no := by
  refine g_begin (own := RJ0) [.int a0, .int a1] [(0, .int a0), (1, .int a1)] g_no (fun _ h => h.elim) (by decide) rfl (Nat.le_of_ble_eq_true rfl) rfl ?_
  intro p e s m args below meth c hx hb hr hlocks hin hC hI ls hl
  obtain ⟨hx, hb, hml, hown, hB⟩ := id hC
  obtain ⟨H, hH⟩ : ∃ H, H = s.heap := ⟨_, rfl⟩
  obtain ⟨locs, hlocs⟩ : ∃ L : List Loc, L = [] := ⟨_, rfl⟩
  rw [← hH, ← hlocs] at hI ⊢
  clear hH hlocs
  unfold p_J0_checkIndex_df160 at hq
  refine lv_iload_n hx hb dJ0_checkIndex_df160_0 rfl (lv_at hl 0 rfl) ?_
  refine lv_iload_n hx hb dJ0_checkIndex_df160_1 rfl (lv_at hl 1 rfl) ?_
  refine fs_gs (i := 19) hx hb hown hI rfl (hB _ m_676) (fun _ h9 => h9) dJ0_checkIndex_df160_2 ?_
  obtain ⟨v1, ev1, hq⟩ := b_s hq
  refine gr_i (g_runS (As := [.int a0, .int a1, va_rf (if V 19 = 0 then none else some (V 19 - 1))]) (rest := []) hC (c_J3_checkIndex_8e157 l V g D cT f n a0 a1 (if V 19 = 0 then none else some (V 19 - 1)) v1 ev1) k_J3_checkIndex_8e157 m_678 rfl rfl ⟨Nat.le_of_ble_eq_true rfl, Nat.le_of_ble_eq_true rfl⟩ hI rfl hl.1 rfl (Nat.le_of_ble_eq_true rfl) dJ0_checkIndex_df160_5 ⟨by decide, by decide⟩) hI (fun H locs hI => ?_)
  refine lv_pop hx hb dJ0_checkIndex_df160_8 rfl ?_
  exact ge_Rv hx hb hlocks hr hI dJ0_checkIndex_df160_9

def p_J1_charAt_3b067 (V : Nat → Nat) (g f : GH) (a0 : Nat) (a1 : Int32) : Option Int32 :=
  (h_al g a0 1).bind fun v1 =>
  (p_J0_checkIndex_df160 V g f a1 v1).bind fun v2 =>
  (h_li g a0 1 a1).bind fun v3 =>
  (h_cz (((v3 &&& (255 : Int32)).toUInt32 % 65536).toInt32)).bind fun _ =>
  some (((v3 &&& (255 : Int32)).toUInt32 % 65536).toInt32)
abbrev rm_J1_charAt_3b067 : Room := { frames := 4, cells := 0, slots := 0, locals := 163 }
theorem k_J1_charAt_3b067 : g_CS yJ1_charAt_3b067 cJ1_charAt_3b067 2 (some .char) 2 := ⟨⟨m_672, m_19, by decide +kernel⟩, m_671⟩
set_option maxHeartbeats 4000000 in
set_option maxRecDepth 100000 in
theorem c_J1_charAt_3b067 (l : Launch) (V : Nat → Nat) (g : GH) (D : va_G) (cT : Nat → ClassId) (f : GH) (n : Nat) (a0 : Nat) (a1 : Int32) (o : Int32) (hq : p_J1_charAt_3b067 V g f a0 a1 = some o) : Met l yJ1_charAt_3b067 (Cond.code yJ1_charAt_3b067 cJ1_charAt_3b067 2 (some .char) :: g_B) rm_J1_charAt_3b067 (va_Pc [.ref a0, .int a1] (g_I V g D cT f n)) (g_Ri o n) 0 0 g_no := by
  refine g_begin (own := RJ1) [.ref a0, .int a1] [(0, .ref a0), (1, .int a1)] g_no (fun _ h => h.elim) (by decide) rfl (Nat.le_of_ble_eq_true rfl) rfl ?_
  intro p e s m args below meth c hx hb hr hlocks hin hC hI ls hl
  obtain ⟨hx, hb, hml, hown, hB⟩ := id hC
  obtain ⟨H, hH⟩ : ∃ H, H = s.heap := ⟨_, rfl⟩
  obtain ⟨locs, hlocs⟩ : ∃ L : List Loc, L = [] := ⟨_, rfl⟩
  rw [← hH, ← hlocs] at hI ⊢
  clear hH hlocs
  unfold p_J1_charAt_3b067 at hq
  refine lv_iload_n hx hb dJ1_charAt_3b067_0 rfl (lv_at hl 1 rfl) ?_
  refine lv_aload_n hx hb dJ1_charAt_3b067_1 rfl (lv_at hl 0 rfl) ?_
  obtain ⟨v1, ev1, hq⟩ := b_s hq
  refine fs_al hx hb hI (by decide) ev1 dJ1_charAt_3b067_2 ?_
  obtain ⟨v2, ev2, hq⟩ := b_s hq
  refine gr_v (g_runS (As := [.int a1, .int v1]) (rest := []) hC (c_J0_checkIndex_df160 l V g D cT f n a1 v1 v2 ev2) k_J0_checkIndex_df160 m_673 rfl rfl ⟨Nat.le_of_ble_eq_true rfl, Nat.le_of_ble_eq_true rfl⟩ hI rfl hl.1 rfl (Nat.le_of_ble_eq_true rfl) dJ1_charAt_3b067_3 ⟨by decide, by decide⟩) hI (fun H locs hI => ?_)
  refine lv_aload_n hx hb dJ1_charAt_3b067_6 rfl (lv_at hl 0 rfl) ?_
  refine lv_iload_n hx hb dJ1_charAt_3b067_7 rfl (lv_at hl 1 rfl) ?_
  obtain ⟨v3, ev3, hq⟩ := b_s hq
  refine fs_lb hx hb hI ev3 dJ1_charAt_3b067_8 ?_
  refine lv_sipush (v := (255 : Int32)) hx hb dJ1_charAt_3b067_9 (by decide) ?_
  refine lv_iand hx hb dJ1_charAt_3b067_12 ?_
  refine lv_i2c (v := ((v3 &&& (255 : Int32)).toUInt32 % 65536).toInt32) hx hb dJ1_charAt_3b067_13 rfl ?_
  obtain ⟨_, ev4, hq⟩ := b_s hq
  exact ge_Ri hx hb hlocks hr (h_cz_eq ev4).2.1 hI hq dJ1_charAt_3b067_14

def p_J0_charAt_5068e (V : Nat → Nat) (g f : GH) (a0 : Nat) (a1 : Int32) : Option Int32 :=
  h_me f a0 0 <|
  (p_J0_isLatin1_aae02 V g f a0).bind fun v1 =>
  (if v1 = (0 : Int32) then
    none
  else
    (h_gr f a0 0 0).bind fun v3 =>
    (p_J1_charAt_3b067 V g f v3 a1).bind fun v4 =>
    (h_cz v4).bind fun _ =>
    some v4)
abbrev rm_J0_charAt_5068e : Room := { frames := 5, cells := 0, slots := 0, locals := 184 }
theorem k_J0_charAt_5068e : g_CV yJ0_charAt_5068e cJ0_charAt_5068e 2 (some .char) 1 := ⟨⟨m_665, m_11, by decide +kernel⟩, m_663, m_664⟩
set_option maxHeartbeats 4000000 in
set_option maxRecDepth 100000 in
theorem c_J0_charAt_5068e (l : Launch) (V : Nat → Nat) (g : GH) (D : va_G) (cT : Nat → ClassId) (f : GH) (n : Nat) (a0 : Nat) (a1 : Int32) (o : Int32) (hq : p_J0_charAt_5068e V g f a0 a1 = some o) : Met l yJ0_charAt_5068e (Cond.code yJ0_charAt_5068e cJ0_charAt_5068e 2 (some .char) :: g_B) rm_J0_charAt_5068e (va_Pc [.ref a0, .int a1] (g_I V g D cT f n)) (g_Ri o n) 0 0 g_no := by
  refine g_begin (own := RJ0) [.ref a0, .int a1] [(0, .ref a0), (1, .int a1)] g_no (fun _ h => h.elim) (by decide) rfl (Nat.le_of_ble_eq_true rfl) rfl ?_
  intro p e s m args below meth c hx hb hr hlocks hin hC hI ls hl
  obtain ⟨hx, hb, hml, hown, hB⟩ := id hC
  obtain ⟨H, hH⟩ : ∃ H, H = s.heap := ⟨_, rfl⟩
  obtain ⟨locs, hlocs⟩ : ∃ L : List Loc, L = [] := ⟨_, rfl⟩
  rw [← hH, ← hlocs] at hI ⊢
  clear hH hlocs
  unfold p_J0_charAt_5068e at hq
  replace hq := (h_me_eq hq).2
  refine lv_aload_n hx hb dJ0_charAt_5068e_0 rfl (lv_at hl 0 rfl) ?_
  obtain ⟨v1, ev1, hq⟩ := b_s hq
  refine gr_i (g_runVs (As := []) (rest := []) (ci := 51) hC (c_J0_isLatin1_aae02 l V g D cT f n a0 v1 ev1) k_J0_isLatin1_aae02 m_666 rfl rfl ⟨Nat.le_of_ble_eq_true rfl, Nat.le_of_ble_eq_true rfl⟩ hI rfl (h_me_eq ev1).1 rfl hl.1 rfl (Nat.le_of_ble_eq_true rfl) dJ0_charAt_5068e_1 ⟨by decide, by decide⟩) hI (fun H locs hI => ?_)
  refine lv_if_eq (tgt := 16) hx hb dJ0_charAt_5068e_4 (by decide) (fun c2 => ?_) (fun c2 => ?_)
  · replace hq := i_t c2 hq
    cases hq
  · replace hq := i_f c2 hq
    refine lv_aload_n hx hb dJ0_charAt_5068e_7 rfl (lv_at hl 0 rfl) ?_
    obtain ⟨v3, ev3, hq⟩ := b_s hq
    refine fa_gr (own := RJ0) (ref := "java/lang/String") (k := 0) hx hb hB inB_RJ0 hown hI rfl (by decide) m_1377 (fun _ h9 => h9) ev3 dJ0_charAt_5068e_8 ?_
    refine lv_iload_n hx hb dJ0_charAt_5068e_11 rfl (lv_at hl 1 rfl) ?_
    obtain ⟨v4, ev4, hq⟩ := b_s hq
    refine gr_i (g_runS (As := [.ref v3, .int a1]) (rest := []) hC (c_J1_charAt_3b067 l V g D cT f n v3 a1 v4 ev4) k_J1_charAt_3b067 m_670 rfl rfl ⟨Nat.le_of_ble_eq_true rfl, Nat.le_of_ble_eq_true rfl⟩ hI rfl hl.1 rfl (Nat.le_of_ble_eq_true rfl) dJ0_charAt_5068e_12 ⟨by decide, by decide⟩) hI (fun H locs hI => ?_)
    obtain ⟨_, ev5, hq⟩ := b_s hq
    exact ge_Ri hx hb hlocks hr (h_cz_eq ev5).2.1 hI hq dJ0_charAt_5068e_15

def p_J0_coder_7d493 (V : Nat → Nat) (g f : GH) (a0 : Nat) : Option Int32 :=
  h_me f a0 0 <|
  (h_gi f a0 0 1).bind fun v1 =>
  (h_yz v1).bind fun _ =>
  some v1
abbrev rm_J0_coder_7d493 : Room := { frames := 2, cells := 0, slots := 0, locals := 120 }
theorem k_J0_coder_7d493 : g_CV yJ0_coder_7d493 cJ0_coder_7d493 1 (some .byte) 0 := ⟨⟨m_660, m_11, by decide +kernel⟩, m_658, m_659⟩
set_option maxHeartbeats 4000000 in
set_option maxRecDepth 100000 in
theorem c_J0_coder_7d493 (l : Launch) (V : Nat → Nat) (g : GH) (D : va_G) (cT : Nat → ClassId) (f : GH) (n : Nat) (a0 : Nat) (o : Int32) (hq : p_J0_coder_7d493 V g f a0 = some o) : Met l yJ0_coder_7d493 (Cond.code yJ0_coder_7d493 cJ0_coder_7d493 1 (some .byte) :: g_B) rm_J0_coder_7d493 (va_Pc [.ref a0] (g_I V g D cT f n)) (g_Ri o n) 0 0 g_no := by
  refine g_begin (own := RJ0) [.ref a0] [(0, .ref a0)] g_no (fun _ h => h.elim) (by decide) rfl (Nat.le_of_ble_eq_true rfl) rfl ?_
  intro p e s m args below meth c hx hb hr hlocks hin hC hI ls hl
  obtain ⟨hx, hb, hml, hown, hB⟩ := id hC
  obtain ⟨H, hH⟩ : ∃ H, H = s.heap := ⟨_, rfl⟩
  obtain ⟨locs, hlocs⟩ : ∃ L : List Loc, L = [] := ⟨_, rfl⟩
  rw [← hH, ← hlocs] at hI ⊢
  clear hH hlocs
  unfold p_J0_coder_7d493 at hq
  replace hq := (h_me_eq hq).2
  refine fs_gs (i := 18) hx hb hown hI rfl (hB _ m_661) (fun _ h9 => h9) dJ0_coder_7d493_0 ?_
  refine lv_if_eq (tgt := 13) hx hb dJ0_coder_7d493_3 (by decide) (fun c => absurd c (by decide)) (fun _ => ?_)
  refine lv_aload_n hx hb dJ0_coder_7d493_6 rfl (lv_at hl 0 rfl) ?_
  obtain ⟨v1, ev1, hq⟩ := b_s hq
  refine fa_gi (own := RJ0) (ref := "java/lang/String") (k := 1) hx hb hB inB_RJ0 hown hI rfl (by decide) m_1378 (fun _ h9 => h9) ev1 dJ0_coder_7d493_7 ?_
  refine lv_goto (tgt := 14) hx hb dJ0_coder_7d493_10 (by decide) ?_
  obtain ⟨_, ev2, hq⟩ := b_s hq
  exact ge_Ri hx hb hlocks hr (h_yz_eq ev2).2.1 hI hq dJ0_coder_7d493_14

def p_J0_length_8abf5 (V : Nat → Nat) (g f : GH) (a0 : Nat) : Option Int32 :=
  h_me f a0 0 <|
  (h_gr f a0 0 0).bind fun v1 =>
  (h_al f v1 1).bind fun v2 =>
  (p_J0_coder_7d493 V g f a0).bind fun v3 =>
  some (v2 >>> (v3 &&& 31))
abbrev rm_J0_length_8abf5 : Room := { frames := 3, cells := 0, slots := 0, locals := 140 }
theorem k_J0_length_8abf5 : g_CV yJ0_length_8abf5 cJ0_length_8abf5 1 (some .int) 0 := ⟨⟨m_656, m_11, by decide +kernel⟩, m_654, m_655⟩
set_option maxHeartbeats 4000000 in
set_option maxRecDepth 100000 in
theorem c_J0_length_8abf5 (l : Launch) (V : Nat → Nat) (g : GH) (D : va_G) (cT : Nat → ClassId) (f : GH) (n : Nat) (a0 : Nat) (o : Int32) (hq : p_J0_length_8abf5 V g f a0 = some o) : Met l yJ0_length_8abf5 (Cond.code yJ0_length_8abf5 cJ0_length_8abf5 1 (some .int) :: g_B) rm_J0_length_8abf5 (va_Pc [.ref a0] (g_I V g D cT f n)) (g_Ri o n) 0 0 g_no := by
  refine g_begin (own := RJ0) [.ref a0] [(0, .ref a0)] g_no (fun _ h => h.elim) (by decide) rfl (Nat.le_of_ble_eq_true rfl) rfl ?_
  intro p e s m args below meth c hx hb hr hlocks hin hC hI ls hl
  obtain ⟨hx, hb, hml, hown, hB⟩ := id hC
  obtain ⟨H, hH⟩ : ∃ H, H = s.heap := ⟨_, rfl⟩
  obtain ⟨locs, hlocs⟩ : ∃ L : List Loc, L = [] := ⟨_, rfl⟩
  rw [← hH, ← hlocs] at hI ⊢
  clear hH hlocs
  unfold p_J0_length_8abf5 at hq
  replace hq := (h_me_eq hq).2
  refine lv_aload_n hx hb dJ0_length_8abf5_0 rfl (lv_at hl 0 rfl) ?_
  obtain ⟨v1, ev1, hq⟩ := b_s hq
  refine fa_gr (own := RJ0) (ref := "java/lang/String") (k := 0) hx hb hB inB_RJ0 hown hI rfl (by decide) m_1377 (fun _ h9 => h9) ev1 dJ0_length_8abf5_1 ?_
  obtain ⟨v2, ev2, hq⟩ := b_s hq
  refine fa_al hx hb hI (by decide) ev2 dJ0_length_8abf5_4 ?_
  refine lv_aload_n hx hb dJ0_length_8abf5_5 rfl (lv_at hl 0 rfl) ?_
  obtain ⟨v3, ev3, hq⟩ := b_s hq
  refine gr_i (g_runVs (As := []) (rest := [.int v2]) (ci := 51) hC (c_J0_coder_7d493 l V g D cT f n a0 v3 ev3) k_J0_coder_7d493 m_657 rfl rfl ⟨Nat.le_of_ble_eq_true rfl, Nat.le_of_ble_eq_true rfl⟩ hI rfl (h_me_eq ev3).1 rfl hl.1 rfl (Nat.le_of_ble_eq_true rfl) dJ0_length_8abf5_6 ⟨by decide, by decide⟩) hI (fun H locs hI => ?_)
  refine lv_ishr hx hb dJ0_length_8abf5_9 ?_
  exact ge_Ri hx hb hlocks hr rfl hI hq dJ0_length_8abf5_10

def p_X5_isWord_l28 (V : Nat → Nat) (g f : GH) (K55 : Option Int32) (K63 : Option Int32) : Nat → Nat → Nat → Int32 → Option Int32
  | 0, _, _, _ => none
  | N + 1, x0, x1, x2 =>
    (p_J0_length_8abf5 V g f x1).bind fun v7 =>
    (if v7 ≤ x2 then
      K63
    else
      (h_gr f x0 8 0).bind fun v9 =>
      (h_gi f x0 8 4).bind fun v10 =>
      (h_li f v9 1 (v10 + x2)).bind fun v11 =>
      (p_J0_charAt_5068e V g f x1 x2).bind fun v12 =>
      (if v11 = v12 then
        p_X5_isWord_l28 V g f K55 K63 N x0 x1 (x2 + (1 : Int32))
      else
        K55))
def p_X5_isWord (V : Nat → Nat) (g f : GH) (a0 : Nat) (a1 : Nat) : Option Int32 :=
  h_me f a0 8 <|
  (h_gi f a0 8 3).bind fun v1 =>
  (if v1 = (1 : Int32) then
    (h_gi f a0 8 5).bind fun v3 =>
    (h_gi f a0 8 4).bind fun v4 =>
    (p_J0_length_8abf5 V g f a1).bind fun v5 =>
    (if (v3 - v4) = v5 then
      p_X5_isWord_l28 V g f (some (0 : Int32)) (some (1 : Int32)) FU a0 a1 (0 : Int32)
    else
      some (0 : Int32))
  else
    some (0 : Int32))
abbrev rm_X5_isWord : Room := { frames := 6, cells := 0, slots := 0, locals := 205 }
theorem k_X5_isWord : g_CV yX5_isWord cX5_isWord 3 (some .boolean) 1 := ⟨⟨m_652, m_4, by decide +kernel⟩, m_650, m_651⟩
set_option maxHeartbeats 4000000 in
set_option maxRecDepth 100000 in
theorem c_X5_isWord (l : Launch) (V : Nat → Nat) (g : GH) (D : va_G) (cT : Nat → ClassId) (f : GH) (n : Nat) (a0 : Nat) (a1 : Nat) (o : Int32) (hq : p_X5_isWord V g f a0 a1 = some o) : Met l yX5_isWord (Cond.code yX5_isWord cX5_isWord 3 (some .boolean) :: g_B) rm_X5_isWord (va_Pc [.ref a0, .ref a1] (g_I V g D cT f n)) (g_Ri o n) 0 0 g_no := by
  refine g_begin (own := RX5) [.ref a0, .ref a1] [(0, .ref a0), (1, .ref a1)] g_no (fun _ h => h.elim) (by decide) rfl (Nat.le_of_ble_eq_true rfl) rfl ?_
  intro p e s m args below meth c hx hb hr hlocks hin hC hI ls hl
  obtain ⟨hx, hb, hml, hown, hB⟩ := id hC
  obtain ⟨H, hH⟩ : ∃ H, H = s.heap := ⟨_, rfl⟩
  obtain ⟨locs, hlocs⟩ : ∃ L : List Loc, L = [] := ⟨_, rfl⟩
  rw [← hH, ← hlocs] at hI ⊢
  clear hH hlocs
  unfold p_X5_isWord at hq
  replace hq := (h_me_eq hq).2
  refine lv_aload_n hx hb dX5_isWord_0 rfl (lv_at hl 0 rfl) ?_
  obtain ⟨v1, ev1, hq⟩ := b_s hq
  refine fa_gi (own := RX5) (ref := "CoastlineRuler$Tokens") (k := 3) hx hb hB inB_RX5 hown hI rfl (by decide) m_115 (fun _ h9 => h9) ev1 dX5_isWord_1 ?_
  refine lv_iconst (v := (1 : Int32)) hx hb dX5_isWord_4 (by decide) ?_
  refine lv_icmp_ne (tgt := 24) hx hb dX5_isWord_5 (by decide) (fun c2 => ?_) (fun c2 => ?_)
  · replace hq := i_f c2 hq
    refine lv_iconst (v := (0 : Int32)) hx hb dX5_isWord_24 (by decide) ?_
    exact ge_Ri hx hb hlocks hr (by decide +kernel) hI hq dX5_isWord_25
  · replace hq := i_t c2 hq
    refine lv_aload_n hx hb dX5_isWord_8 rfl (lv_at hl 0 rfl) ?_
    obtain ⟨v3, ev3, hq⟩ := b_s hq
    refine fa_gi (own := RX5) (ref := "CoastlineRuler$Tokens") (k := 5) hx hb hB inB_RX5 hown hI rfl (by decide) m_118 (fun _ h9 => h9) ev3 dX5_isWord_9 ?_
    refine lv_aload_n hx hb dX5_isWord_12 rfl (lv_at hl 0 rfl) ?_
    obtain ⟨v4, ev4, hq⟩ := b_s hq
    refine fa_gi (own := RX5) (ref := "CoastlineRuler$Tokens") (k := 4) hx hb hB inB_RX5 hown hI rfl (by decide) m_116 (fun _ h9 => h9) ev4 dX5_isWord_13 ?_
    refine lv_isub hx hb dX5_isWord_16 ?_
    refine lv_aload_n hx hb dX5_isWord_17 rfl (lv_at hl 1 rfl) ?_
    obtain ⟨v5, ev5, hq⟩ := b_s hq
    refine gr_i (g_runVs (As := []) (rest := [.int (v3 - v4)]) (ci := 51) hC (c_J0_length_8abf5 l V g D cT f n a1 v5 ev5) k_J0_length_8abf5 m_653 rfl rfl ⟨Nat.le_of_ble_eq_true rfl, Nat.le_of_ble_eq_true rfl⟩ hI rfl (h_me_eq ev5).1 rfl hl.1 rfl (Nat.le_of_ble_eq_true rfl) dX5_isWord_18 ⟨by decide, by decide⟩) hI (fun H locs hI => ?_)
    refine lv_icmp_eq (tgt := 26) hx hb dX5_isWord_21 (by decide) (fun c6 => ?_) (fun c6 => ?_)
    · replace hq := i_t c6 hq
      refine lv_iconst (v := (0 : Int32)) hx hb dX5_isWord_26 (by decide) ?_
      refine lv_istore_n (lv' := [(2, .int (0 : Int32)), (0, .ref a0), (1, .ref a1)]) hx hb dX5_isWord_27 rfl hl (by decide) rfl (fun ls hl => ?_)
      have hl28 : ∀ (K55 : Option Int32) (hK55 : ∀  (H : Heap) (locs : List Loc) (ls : Array Slot), g_at g_no V g D cT f n s H locs → lv_has ls 3 [] → K55  = some o → W p l e rm_X5_isWord s m args below meth c H locs 0 0 (MQ below (g_Ri o n) args s 0 0 g_no) (F0 m 55 ls [])) (K63 : Option Int32) (hK63 : ∀  (H : Heap) (locs : List Loc) (ls : Array Slot), g_at g_no V g D cT f n s H locs → lv_has ls 3 [] → K63  = some o → W p l e rm_X5_isWord s m args below meth c H locs 0 0 (MQ below (g_Ri o n) args s 0 0 g_no) (F0 m 63 ls [])) (N : Nat) (x0 : Nat) (x1 : Nat) (x2 : Int32) (H : Heap) (locs : List Loc) (ls : Array Slot), g_at g_no V g D cT f n s H locs → lv_has ls 3 [(0, .ref x0), (1, .ref x1), (2, .int x2)] → p_X5_isWord_l28 V g f K55 K63 N x0 x1 x2 = some o → W p l e rm_X5_isWord s m args below meth c H locs 0 0 (MQ below (g_Ri o n) args s 0 0 g_no) (F0 m 28 ls []) := by
        intro K55 hK55 K63 hK63 N
        induction N with
        | zero =>
          intro x0 x1 x2 H locs ls hI hl hq
          rw [p_X5_isWord_l28] at hq
          cases hq
        | succ N ih =>
          intro x0 x1 x2 H locs ls hI hl hq
          rw [p_X5_isWord_l28] at hq
          refine lv_iload_n hx hb dX5_isWord_28 rfl (lv_at hl 2 rfl) ?_
          refine lv_aload_n hx hb dX5_isWord_29 rfl (lv_at hl 1 rfl) ?_
          obtain ⟨v7, ev7, hq⟩ := b_s hq
          refine gr_i (g_runVs (As := []) (rest := [.int x2]) (ci := 51) hC (c_J0_length_8abf5 l V g D cT f n x1 v7 ev7) k_J0_length_8abf5 m_653 rfl rfl ⟨Nat.le_of_ble_eq_true rfl, Nat.le_of_ble_eq_true rfl⟩ hI rfl (h_me_eq ev7).1 rfl hl.1 rfl (Nat.le_of_ble_eq_true rfl) dX5_isWord_30 ⟨by decide, by decide⟩) hI (fun H locs hI => ?_)
          refine lv_icmp_ge (tgt := 63) hx hb dX5_isWord_33 (by decide) (fun c8 => ?_) (fun c8 => ?_)
          · replace hq := i_t c8 hq
            exact hK63  H locs ls hI (lv_sub hl [] rfl) hq
          · replace hq := i_f c8 hq
            refine lv_aload_n hx hb dX5_isWord_36 rfl (lv_at hl 0 rfl) ?_
            obtain ⟨v9, ev9, hq⟩ := b_s hq
            refine fa_gr (own := RX5) (ref := "CoastlineRuler$Tokens") (k := 0) hx hb hB inB_RX5 hown hI rfl (by decide) m_110 (fun _ h9 => h9) ev9 dX5_isWord_37 ?_
            refine lv_aload_n hx hb dX5_isWord_40 rfl (lv_at hl 0 rfl) ?_
            obtain ⟨v10, ev10, hq⟩ := b_s hq
            refine fa_gi (own := RX5) (ref := "CoastlineRuler$Tokens") (k := 4) hx hb hB inB_RX5 hown hI rfl (by decide) m_116 (fun _ h9 => h9) ev10 dX5_isWord_41 ?_
            refine lv_iload_n hx hb dX5_isWord_44 rfl (lv_at hl 2 rfl) ?_
            refine lv_iadd hx hb dX5_isWord_45 ?_
            obtain ⟨v11, ev11, hq⟩ := b_s hq
            refine fa_lb hx hb hI ev11 dX5_isWord_46 ?_
            refine lv_aload_n hx hb dX5_isWord_47 rfl (lv_at hl 1 rfl) ?_
            refine lv_iload_n hx hb dX5_isWord_48 rfl (lv_at hl 2 rfl) ?_
            obtain ⟨v12, ev12, hq⟩ := b_s hq
            refine gr_i (g_runVs (As := [.int x2]) (rest := [.int v11]) (ci := 51) hC (c_J0_charAt_5068e l V g D cT f n x1 x2 v12 ev12) k_J0_charAt_5068e m_662 rfl rfl ⟨Nat.le_of_ble_eq_true rfl, Nat.le_of_ble_eq_true rfl⟩ hI rfl (h_me_eq ev12).1 rfl hl.1 rfl (Nat.le_of_ble_eq_true rfl) dX5_isWord_49 ⟨by decide, by decide⟩) hI (fun H locs hI => ?_)
            refine lv_icmp_eq (tgt := 57) hx hb dX5_isWord_52 (by decide) (fun c13 => ?_) (fun c13 => ?_)
            · replace hq := i_t c13 hq
              refine lv_iinc (v := x2 + (1 : Int32)) (lv' := [(2, .int (x2 + (1 : Int32))), (0, .ref x0), (1, .ref x1)]) hx hb dX5_isWord_57 hl (k := 2) rfl rfl (by decide) rfl (fun ls hl => ?_)
              refine lv_goto (tgt := 28) hx hb dX5_isWord_60 (by decide) ?_
              exact ih x0 x1 (x2 + (1 : Int32)) H locs ls hI (lv_sub hl [1, 2, 0] rfl) hq
            · replace hq := i_f c13 hq
              exact hK55  H locs ls hI (lv_sub hl [] rfl) hq
      refine hl28 _ ?_ _ ?_ FU a0 a1 (0 : Int32) H locs ls hI (lv_sub hl [1, 2, 0] rfl) hq
      · intro  H locs ls hI hl hq
        refine lv_iconst (v := (0 : Int32)) hx hb dX5_isWord_55 (by decide) ?_
        exact ge_Ri hx hb hlocks hr (by decide +kernel) hI hq dX5_isWord_56
      · intro  H locs ls hI hl hq
        refine lv_iconst (v := (1 : Int32)) hx hb dX5_isWord_63 (by decide) ?_
        exact ge_Ri hx hb hlocks hr (by decide +kernel) hI hq dX5_isWord_64
    · replace hq := i_f c6 hq
      refine lv_iconst (v := (0 : Int32)) hx hb dX5_isWord_24 (by decide) ?_
      exact ge_Ri hx hb hlocks hr (by decide +kernel) hI hq dX5_isWord_25

def p_X4_takeWord (V : Nat → Nat) (g f : GH) (a0 : Nat) (a1 : Nat) : Option (Int32 × GH) :=
  h_me f a0 7 <|
  (h_gr f a0 7 0).bind fun v1 =>
  (p_X5_isWord V g f v1 a1).bind fun v2 =>
  (if v2 = (0 : Int32) then
    (p_X4_fail V g f a0 (1 : Int32)).bind fun v6 =>
    (h_bz v6.1).bind fun _ =>
    some (v6.1, v6.2)
  else
    (h_gr f a0 7 0).bind fun v4 =>
    (p_X5_advance V g f v4).bind fun v5 =>
    some ((1 : Int32), v5))
abbrev rm_X4_takeWord : Room := { frames := 7, cells := 0, slots := 0, locals := 227 }
theorem k_X4_takeWord : g_CV yX4_takeWord cX4_takeWord 2 (some .boolean) 1 := ⟨⟨m_648, m_5, by decide +kernel⟩, m_647, ms_5⟩
set_option maxHeartbeats 4000000 in
set_option maxRecDepth 100000 in
theorem c_X4_takeWord (l : Launch) (V : Nat → Nat) (g : GH) (D : va_G) (cT : Nat → ClassId) (f : GH) (n : Nat) (a0 : Nat) (a1 : Nat) (o : Int32 × GH) (hq : p_X4_takeWord V g f a0 a1 = some o) : Met l yX4_takeWord (Cond.code yX4_takeWord cX4_takeWord 2 (some .boolean) :: g_B) rm_X4_takeWord (va_Pc [.ref a0, .ref a1] (g_I V g D cT f n)) (g_Wi V D cT o.1 o.2 n) 0 0 (g_A V) := by
  refine g_begin (own := RX4) [.ref a0, .ref a1] [(0, .ref a0), (1, .ref a1)] (g_A V) (fun _ h => h) (by decide) rfl (Nat.le_of_ble_eq_true rfl) rfl ?_
  intro p e s m args below meth c hx hb hr hlocks hin hC hI ls hl
  obtain ⟨hx, hb, hml, hown, hB⟩ := id hC
  obtain ⟨H, hH⟩ : ∃ H, H = s.heap := ⟨_, rfl⟩
  obtain ⟨locs, hlocs⟩ : ∃ L : List Loc, L = [] := ⟨_, rfl⟩
  rw [← hH, ← hlocs] at hI ⊢
  clear hH hlocs
  unfold p_X4_takeWord at hq
  replace hq := (h_me_eq hq).2
  refine lv_aload_n hx hb dX4_takeWord_0 rfl (lv_at hl 0 rfl) ?_
  obtain ⟨v1, ev1, hq⟩ := b_s hq
  refine fa_gr (own := RX4) (ref := "CoastlineRuler$Grammar") (k := 0) hx hb hB inB_RX4 hown hI rfl (by decide) m_139 (fun _ h9 => h9) ev1 dX4_takeWord_1 ?_
  refine lv_aload_n hx hb dX4_takeWord_4 rfl (lv_at hl 1 rfl) ?_
  obtain ⟨v2, ev2, hq⟩ := b_s hq
  refine gr_i (g_runV (As := [.ref a1]) (rest := []) (ci := 8) hC (c_X5_isWord l V g D cT f n v1 a1 v2 ev2) k_X5_isWord m_649 rfl rfl ⟨Nat.le_of_ble_eq_true rfl, Nat.le_of_ble_eq_true rfl⟩ hI rfl rfl (h_me_eq ev2).1 rfl hl.1 rfl (Nat.le_of_ble_eq_true rfl) dX4_takeWord_5 ⟨by decide, by decide⟩) hI (fun H locs hI => ?_)
  refine lv_if_ne (tgt := 17) hx hb dX4_takeWord_8 (by decide) (fun c3 => ?_) (fun c3 => ?_)
  · replace hq := i_f c3 hq
    refine lv_aload_n hx hb dX4_takeWord_17 rfl (lv_at hl 0 rfl) ?_
    obtain ⟨v4, ev4, hq⟩ := b_s hq
    refine fa_gr (own := RX4) (ref := "CoastlineRuler$Grammar") (k := 0) hx hb hB inB_RX4 hown hI rfl (by decide) m_139 (fun _ h9 => h9) ev4 dX4_takeWord_18 ?_
    obtain ⟨v5, ev5, hq⟩ := b_s hq
    refine gw_v (g_runV (As := []) (rest := []) (ci := 8) hC (c_X5_advance l V g D cT f n v4 v5 ev5) k_X5_advance m_704 rfl rfl ⟨Nat.le_of_ble_eq_true rfl, Nat.le_of_ble_eq_true rfl⟩ hI rfl rfl (h_me_eq ev5).1 rfl hl.1 rfl (Nat.le_of_ble_eq_true rfl) dX4_takeWord_21 ⟨by decide, by decide⟩) hI (fun H locs hI => ?_)
    refine lv_iconst (v := (1 : Int32)) hx hb dX4_takeWord_24 (by decide) ?_
    exact ge_Wi hx hb hlocks hr (by decide +kernel) hI (congrArg (fun z => z.1) (Option.some.inj hq)) (congrArg (fun z => z.2) (Option.some.inj hq)) dX4_takeWord_25
  · replace hq := i_t c3 hq
    refine lv_aload_n hx hb dX4_takeWord_11 rfl (lv_at hl 0 rfl) ?_
    refine lv_iconst (v := (1 : Int32)) hx hb dX4_takeWord_12 (by decide) ?_
    obtain ⟨v6, ev6, hq⟩ := b_s hq
    refine gw_i (g_runV (As := [.int (1 : Int32)]) (rest := []) (ci := 7) hC (c_X4_fail l V g D cT f n a0 (1 : Int32) v6 ev6) k_X4_fail m_700 rfl rfl ⟨Nat.le_of_ble_eq_true rfl, Nat.le_of_ble_eq_true rfl⟩ hI rfl rfl (h_me_eq ev6).1 rfl hl.1 rfl (Nat.le_of_ble_eq_true rfl) dX4_takeWord_13 ⟨by decide, by decide⟩) hI (fun H locs hI => ?_)
    obtain ⟨_, ev7, hq⟩ := b_s hq
    exact ge_Wi hx hb hlocks hr (h_bz_eq ev7).2.1 hI (congrArg (fun z => z.1) (Option.some.inj hq)) (congrArg (fun z => z.2) (Option.some.inj hq)) dX4_takeWord_16

def p_X4_readCoast_l43 (V : Nat → Nat) (g : GH) (K62 : GH → Option (Int32 × GH)) (K82 : GH → Option (Int32 × GH)) (K108 : Nat → Nat → GH → Option (Int32 × GH)) (K146 : Nat → GH → Option (Int32 × GH)) : Nat → Nat → Nat → Int32 → GH → Option (Int32 × GH)
  | 0, _, _, _, _ => none
  | N + 1, x0, x1, x2, f =>
    (if (33 : Int32) ≤ x2 then
      K146 x0 f
    else
      (p_X4_readInteger V g f x0 (-1000 : Int32) (1000 : Int32)).bind fun v10 =>
      (if v10.1 = (0 : Int32) then
        K62 v10.2
      else
        (h_gi v10.2 x0 7 3).bind fun v12 =>
        (p_X4_readInteger V g v10.2 x0 (-1000 : Int32) (1000 : Int32)).bind fun v13 =>
        (if v13.1 = (0 : Int32) then
          K82 v13.2
        else
          (h_gi v13.2 x1 5 2).bind fun v15 =>
          (h_gi v13.2 x0 7 3).bind fun v16 =>
          (p_X2_insert V g v13.2 x1 v15 v12 v16).bind fun v17 =>
          (h_gr v17 x0 7 0).bind fun v18 =>
          (h_gi v17 v18 8 3).bind fun v19 =>
          (if v19 = (4 : Int32) then
            (h_gr v17 x0 7 0).bind fun v21 =>
            (p_X5_advance V g v17 v21).bind fun v22 =>
            p_X4_readCoast_l43 V g K62 K82 K108 K146 N x0 x1 (x2 + (1 : Int32)) v22
          else
            K108 x0 x1 v17))))
def p_X4_readCoast_j33 (V : Nat → Nat) (g : GH) (x0 : Nat) (x1 : Nat) (t0 : Nat) (t1 : Nat) (f : GH) : Option (Int32 × GH) :=
  (p_X4_takeWord V g f t1 t0).bind fun v7 =>
  (if v7.1 = (0 : Int32) then
    some ((0 : Int32), v7.2)
  else
    p_X4_readCoast_l43 V g (fun f =>
      some ((0 : Int32), f)) (fun f =>
      some ((0 : Int32), f)) (fun x0 x1 f =>
      (h_gi f x1 5 2).bind fun v23 =>
      (p_X2_neededPoints V g f x1).bind fun v24 =>
      (if v24 ≤ v23 then
        some ((1 : Int32), f)
      else
        (p_X4_fail V g f x0 (1 : Int32)).bind fun v26 =>
        (if v26.1 = (0 : Int32) then
          some ((0 : Int32), v26.2)
        else
          some ((1 : Int32), v26.2)))) (fun x0 f =>
      (p_X4_refusePoint V g f x0).bind fun v28 =>
      (h_bz v28.1).bind fun _ =>
      some (v28.1, v28.2)) FU x0 x1 (0 : Int32) v7.2)
def p_X4_readCoast (V : Nat → Nat) (g f : GH) (a0 : Nat) (a1 : Nat) : Option (Int32 × GH) :=
  h_me f a0 7 <|
  (h_gr f a0 7 0).bind fun v1 =>
  (p_X5_isWord V g f v1 (V 26)).bind fun v2 =>
  (h_bz v2).bind fun _ =>
  (h_pt f a1 5 3 (.int v2)).bind fun f4 =>
  (h_pt f4 a1 5 2 (.int (0 : Int32))).bind fun f5 =>
  (h_gi f5 a1 5 3).bind fun v6 =>
  (if v6 = (0 : Int32) then
    p_X4_readCoast_j33 V g a0 a1 (V 27) a0 f5
  else
    p_X4_readCoast_j33 V g a0 a1 (V 26) a0 f5)
abbrev rm_X4_readCoast : Room := { frames := 8, cells := 0, slots := 0, locals := 248 }
theorem k_X4_readCoast : g_CV yX4_readCoast cX4_readCoast 4 (some .boolean) 1 := ⟨⟨m_718, m_5, by decide +kernel⟩, m_717, ms_9⟩
set_option maxHeartbeats 4000000 in
set_option maxRecDepth 100000 in
theorem c_X4_readCoast (l : Launch) (V : Nat → Nat) (g : GH) (D : va_G) (cT : Nat → ClassId) (f : GH) (n : Nat) (a0 : Nat) (a1 : Nat) (o : Int32 × GH) (hq : p_X4_readCoast V g f a0 a1 = some o) : Met l yX4_readCoast (Cond.code yX4_readCoast cX4_readCoast 4 (some .boolean) :: g_B) rm_X4_readCoast (va_Pc [.ref a0, .ref a1] (g_I V g D cT f n)) (g_Wi V D cT o.1 o.2 n) 0 0 (g_A V) := by
  refine g_begin (own := RX4) [.ref a0, .ref a1] [(0, .ref a0), (1, .ref a1)] (g_A V) (fun _ h => h) (by decide) rfl (Nat.le_of_ble_eq_true rfl) rfl ?_
  intro p e s m args below meth c hx hb hr hlocks hin hC hI ls hl
  obtain ⟨hx, hb, hml, hown, hB⟩ := id hC
  obtain ⟨H, hH⟩ : ∃ H, H = s.heap := ⟨_, rfl⟩
  obtain ⟨locs, hlocs⟩ : ∃ L : List Loc, L = [] := ⟨_, rfl⟩
  rw [← hH, ← hlocs] at hI ⊢
  clear hH hlocs
  unfold p_X4_readCoast at hq
  replace hq := (h_me_eq hq).2
  refine lv_aload_n hx hb dX4_readCoast_0 rfl (lv_at hl 1 rfl) ?_
  refine lv_aload_n hx hb dX4_readCoast_1 rfl (lv_at hl 0 rfl) ?_
  obtain ⟨v1, ev1, hq⟩ := b_s hq
  refine fa_gr (own := RX4) (ref := "CoastlineRuler$Grammar") (k := 0) hx hb hB inB_RX4 hown hI rfl (by decide) m_139 (fun _ h9 => h9) ev1 dX4_readCoast_2 ?_
  refine lv_ldcS hx hb hown (g_rtx hI (i := 6) rfl) dX4_readCoast_5 ?_
  obtain ⟨v2, ev2, hq⟩ := b_s hq
  refine gr_i (g_runV (As := [.ref (V 26)]) (rest := [.ref a1]) (ci := 8) hC (c_X5_isWord l V g D cT f n v1 (V 26) v2 ev2) k_X5_isWord m_649 rfl rfl ⟨Nat.le_of_ble_eq_true rfl, Nat.le_of_ble_eq_true rfl⟩ hI rfl rfl (h_me_eq ev2).1 rfl hl.1 rfl (Nat.le_of_ble_eq_true rfl) dX4_readCoast_7 ⟨by decide, by decide⟩) hI (fun H locs hI => ?_)
  obtain ⟨_, ev3, hq⟩ := b_s hq
  obtain ⟨f4, ef4, hq⟩ := b_s hq
  refine fa_pt (own := RX4) (ref := "CoastlineRuler$Coast") (k := 3) hx hb hB inB_RX2 tyX2_ok nmX2 hown hI rfl (by decide) m_64 (fun _ h9 => h9) (by decide) (h_bz_eq ev3).2.1 (h_bz_eq ev3).2.2 ef4 dX4_readCoast_10 (fun H locs hI => ?_)
  refine lv_aload_n hx hb dX4_readCoast_13 rfl (lv_at hl 1 rfl) ?_
  refine lv_iconst (v := (0 : Int32)) hx hb dX4_readCoast_14 (by decide) ?_
  obtain ⟨f5, ef5, hq⟩ := b_s hq
  refine fa_pt (own := RX4) (ref := "CoastlineRuler$Coast") (k := 2) hx hb hB inB_RX2 tyX2_ok nmX2 hown hI rfl (by decide) m_60 (fun _ h9 => h9) (by decide) rfl rfl ef5 dX4_readCoast_15 (fun H locs hI => ?_)
  refine lv_aload_n hx hb dX4_readCoast_18 rfl (lv_at hl 0 rfl) ?_
  refine lv_aload_n hx hb dX4_readCoast_19 rfl (lv_at hl 1 rfl) ?_
  obtain ⟨v6, ev6, hq⟩ := b_s hq
  refine fa_gi (own := RX4) (ref := "CoastlineRuler$Coast") (k := 3) hx hb hB inB_RX2 hown hI rfl (by decide) m_64 (fun _ h9 => h9) ev6 dX4_readCoast_20 ?_
  have hj33 : ∀ (x0 : Nat) (x1 : Nat) (t0 : Nat) (t1 : Nat) (f : GH) (H : Heap) (locs : List Loc) (ls : Array Slot), g_at (g_A V) V g D cT f n s H locs → lv_has ls 4 [(0, .ref x0), (1, .ref x1)] → p_X4_readCoast_j33 V g x0 x1 t0 t1 f = some o → W p l e rm_X4_readCoast s m args below meth c H locs 0 0 (MQ below (g_Wi V D cT o.1 o.2 n) args s 0 0 (g_A V)) (F0 m 33 ls [.ref t0, .ref t1]) := by
    intro x0 x1 t0 t1 f H locs ls hI hl hq
    unfold p_X4_readCoast_j33 at hq
    obtain ⟨v7, ev7, hq⟩ := b_s hq
    refine gw_i (g_runV (As := [.ref t0]) (rest := []) (ci := 7) hC (c_X4_takeWord l V g D cT f n t1 t0 v7 ev7) k_X4_takeWord m_645 rfl rfl ⟨Nat.le_of_ble_eq_true rfl, Nat.le_of_ble_eq_true rfl⟩ hI rfl rfl (h_me_eq ev7).1 rfl hl.1 rfl (Nat.le_of_ble_eq_true rfl) dX4_readCoast_33 ⟨by decide, by decide⟩) hI (fun H locs hI => ?_)
    refine lv_if_ne (tgt := 41) hx hb dX4_readCoast_36 (by decide) (fun c8 => ?_) (fun c8 => ?_)
    · replace hq := i_f c8 hq
      refine lv_iconst (v := (0 : Int32)) hx hb dX4_readCoast_41 (by decide) ?_
      refine lv_istore_n (lv' := [(2, .int (0 : Int32)), (0, .ref x0), (1, .ref x1)]) hx hb dX4_readCoast_42 rfl hl (by decide) rfl (fun ls hl => ?_)
      have hl43 : ∀ (K62 : GH → Option (Int32 × GH)) (hK62 : ∀ (f : GH) (H : Heap) (locs : List Loc) (ls : Array Slot), g_at (g_A V) V g D cT f n s H locs → lv_has ls 4 [] → K62 f = some o → W p l e rm_X4_readCoast s m args below meth c H locs 0 0 (MQ below (g_Wi V D cT o.1 o.2 n) args s 0 0 (g_A V)) (F0 m 62 ls [])) (K82 : GH → Option (Int32 × GH)) (hK82 : ∀ (f : GH) (H : Heap) (locs : List Loc) (ls : Array Slot), g_at (g_A V) V g D cT f n s H locs → lv_has ls 4 [] → K82 f = some o → W p l e rm_X4_readCoast s m args below meth c H locs 0 0 (MQ below (g_Wi V D cT o.1 o.2 n) args s 0 0 (g_A V)) (F0 m 82 ls [])) (K108 : Nat → Nat → GH → Option (Int32 × GH)) (hK108 : ∀ (x0 : Nat) (x1 : Nat) (f : GH) (H : Heap) (locs : List Loc) (ls : Array Slot), g_at (g_A V) V g D cT f n s H locs → lv_has ls 4 [(0, .ref x0), (1, .ref x1)] → K108 x0 x1 f = some o → W p l e rm_X4_readCoast s m args below meth c H locs 0 0 (MQ below (g_Wi V D cT o.1 o.2 n) args s 0 0 (g_A V)) (F0 m 108 ls [])) (K146 : Nat → GH → Option (Int32 × GH)) (hK146 : ∀ (x0 : Nat) (f : GH) (H : Heap) (locs : List Loc) (ls : Array Slot), g_at (g_A V) V g D cT f n s H locs → lv_has ls 4 [(0, .ref x0)] → K146 x0 f = some o → W p l e rm_X4_readCoast s m args below meth c H locs 0 0 (MQ below (g_Wi V D cT o.1 o.2 n) args s 0 0 (g_A V)) (F0 m 146 ls [])) (N : Nat) (x0 : Nat) (x1 : Nat) (x2 : Int32) (f : GH) (H : Heap) (locs : List Loc) (ls : Array Slot), g_at (g_A V) V g D cT f n s H locs → lv_has ls 4 [(0, .ref x0), (1, .ref x1), (2, .int x2)] → p_X4_readCoast_l43 V g K62 K82 K108 K146 N x0 x1 x2 f = some o → W p l e rm_X4_readCoast s m args below meth c H locs 0 0 (MQ below (g_Wi V D cT o.1 o.2 n) args s 0 0 (g_A V)) (F0 m 43 ls []) := by
        intro K62 hK62 K82 hK82 K108 hK108 K146 hK146 N
        induction N with
        | zero =>
          intro x0 x1 x2 f H locs ls hI hl hq
          rw [p_X4_readCoast_l43] at hq
          cases hq
        | succ N ih =>
          intro x0 x1 x2 f H locs ls hI hl hq
          rw [p_X4_readCoast_l43] at hq
          refine lv_iload_n hx hb dX4_readCoast_43 rfl (lv_at hl 2 rfl) ?_
          refine lv_bipush (v := (33 : Int32)) hx hb dX4_readCoast_44 (by decide) ?_
          refine lv_icmp_ge (tgt := 146) hx hb dX4_readCoast_46 (by decide) (fun c9 => ?_) (fun c9 => ?_)
          · replace hq := i_t c9 hq
            exact hK146 x0 f H locs ls hI (lv_sub hl [0] rfl) hq
          · replace hq := i_f c9 hq
            refine lv_aload_n hx hb dX4_readCoast_49 rfl (lv_at hl 0 rfl) ?_
            refine lv_sipush (v := (-1000 : Int32)) hx hb dX4_readCoast_50 (by decide) ?_
            refine lv_sipush (v := (1000 : Int32)) hx hb dX4_readCoast_53 (by decide) ?_
            obtain ⟨v10, ev10, hq⟩ := b_s hq
            refine gw_i (g_runV (As := [.int (-1000 : Int32), .int (1000 : Int32)]) (rest := []) (ci := 7) hC (c_X4_readInteger l V g D cT f n x0 (-1000 : Int32) (1000 : Int32) v10 ev10) k_X4_readInteger m_721 rfl rfl ⟨Nat.le_of_ble_eq_true rfl, Nat.le_of_ble_eq_true rfl⟩ hI rfl rfl (h_me_eq ev10).1 rfl hl.1 rfl (Nat.le_of_ble_eq_true rfl) dX4_readCoast_56 ⟨by decide, by decide⟩) hI (fun H locs hI => ?_)
            refine lv_if_ne (tgt := 64) hx hb dX4_readCoast_59 (by decide) (fun c11 => ?_) (fun c11 => ?_)
            · replace hq := i_f c11 hq
              refine lv_aload_n hx hb dX4_readCoast_64 rfl (lv_at hl 0 rfl) ?_
              obtain ⟨v12, ev12, hq⟩ := b_s hq
              refine fa_gi (own := RX4) (ref := "CoastlineRuler$Grammar") (k := 3) hx hb hB inB_RX4 hown hI rfl (by decide) m_144 (fun _ h9 => h9) ev12 dX4_readCoast_65 ?_
              refine lv_istore_n (lv' := [(3, .int v12), (0, .ref x0), (1, .ref x1), (2, .int x2)]) hx hb dX4_readCoast_68 rfl hl (by decide) rfl (fun ls hl => ?_)
              refine lv_aload_n hx hb dX4_readCoast_69 rfl (lv_at hl 1 rfl) ?_
              refine lv_sipush (v := (-1000 : Int32)) hx hb dX4_readCoast_70 (by decide) ?_
              refine lv_sipush (v := (1000 : Int32)) hx hb dX4_readCoast_73 (by decide) ?_
              obtain ⟨v13, ev13, hq⟩ := b_s hq
              refine gw_i (g_runV (As := [.int (-1000 : Int32), .int (1000 : Int32)]) (rest := []) (ci := 7) hC (c_X4_readInteger l V g D cT v10.2 n x0 (-1000 : Int32) (1000 : Int32) v13 ev13) k_X4_readInteger m_721 rfl rfl ⟨Nat.le_of_ble_eq_true rfl, Nat.le_of_ble_eq_true rfl⟩ hI rfl rfl (h_me_eq ev13).1 rfl hl.1 rfl (Nat.le_of_ble_eq_true rfl) dX4_readCoast_76 ⟨by decide, by decide⟩) hI (fun H locs hI => ?_)
              refine lv_if_ne (tgt := 84) hx hb dX4_readCoast_79 (by decide) (fun c14 => ?_) (fun c14 => ?_)
              · replace hq := i_f c14 hq
                refine lv_aload_n hx hb dX4_readCoast_84 rfl (lv_at hl 2 rfl) ?_
                refine lv_aload_n hx hb dX4_readCoast_85 rfl (lv_at hl 2 rfl) ?_
                obtain ⟨v15, ev15, hq⟩ := b_s hq
                refine fa_gi (own := RX4) (ref := "CoastlineRuler$Coast") (k := 2) hx hb hB inB_RX2 hown hI rfl (by decide) m_60 (fun _ h9 => h9) ev15 dX4_readCoast_86 ?_
                refine lv_iload_n hx hb dX4_readCoast_89 rfl (lv_at hl 0 rfl) ?_
                refine lv_aload_n hx hb dX4_readCoast_90 rfl (lv_at hl 1 rfl) ?_
                obtain ⟨v16, ev16, hq⟩ := b_s hq
                refine fa_gi (own := RX4) (ref := "CoastlineRuler$Grammar") (k := 3) hx hb hB inB_RX4 hown hI rfl (by decide) m_144 (fun _ h9 => h9) ev16 dX4_readCoast_91 ?_
                obtain ⟨v17, ev17, hq⟩ := b_s hq
                refine gw_v (g_runV (As := [.int v15, .int v12, .int v16]) (rest := []) (ci := 5) hC (c_X2_insert l V g D cT v13.2 n x1 v15 v12 v16 v17 ev17) k_X2_insert m_730 rfl rfl ⟨Nat.le_of_ble_eq_true rfl, Nat.le_of_ble_eq_true rfl⟩ hI rfl rfl (h_me_eq ev17).1 rfl hl.1 rfl (Nat.le_of_ble_eq_true rfl) dX4_readCoast_94 ⟨by decide, by decide⟩) hI (fun H locs hI => ?_)
                refine lv_aload_n hx hb dX4_readCoast_97 rfl (lv_at hl 1 rfl) ?_
                obtain ⟨v18, ev18, hq⟩ := b_s hq
                refine fa_gr (own := RX4) (ref := "CoastlineRuler$Grammar") (k := 0) hx hb hB inB_RX4 hown hI rfl (by decide) m_139 (fun _ h9 => h9) ev18 dX4_readCoast_98 ?_
                obtain ⟨v19, ev19, hq⟩ := b_s hq
                refine fa_gi (own := RX4) (ref := "CoastlineRuler$Tokens") (k := 3) hx hb hB inB_RX5 hown hI rfl (by decide) m_114 (fun _ h9 => h9) ev19 dX4_readCoast_101 ?_
                refine lv_iconst (v := (4 : Int32)) hx hb dX4_readCoast_104 (by decide) ?_
                refine lv_icmp_eq (tgt := 133) hx hb dX4_readCoast_105 (by decide) (fun c20 => ?_) (fun c20 => ?_)
                · replace hq := i_t c20 hq
                  refine lv_aload_n hx hb dX4_readCoast_133 rfl (lv_at hl 1 rfl) ?_
                  obtain ⟨v21, ev21, hq⟩ := b_s hq
                  refine fa_gr (own := RX4) (ref := "CoastlineRuler$Grammar") (k := 0) hx hb hB inB_RX4 hown hI rfl (by decide) m_139 (fun _ h9 => h9) ev21 dX4_readCoast_134 ?_
                  obtain ⟨v22, ev22, hq⟩ := b_s hq
                  refine gw_v (g_runV (As := []) (rest := []) (ci := 8) hC (c_X5_advance l V g D cT v17 n v21 v22 ev22) k_X5_advance m_704 rfl rfl ⟨Nat.le_of_ble_eq_true rfl, Nat.le_of_ble_eq_true rfl⟩ hI rfl rfl (h_me_eq ev22).1 rfl hl.1 rfl (Nat.le_of_ble_eq_true rfl) dX4_readCoast_137 ⟨by decide, by decide⟩) hI (fun H locs hI => ?_)
                  refine lv_iinc (v := x2 + (1 : Int32)) (lv' := [(2, .int (x2 + (1 : Int32))), (3, .int v12), (0, .ref x0), (1, .ref x1)]) hx hb dX4_readCoast_140 hl (k := 3) rfl rfl (by decide) rfl (fun ls hl => ?_)
                  refine lv_goto (tgt := 43) hx hb dX4_readCoast_143 (by decide) ?_
                  exact ih x0 x1 (x2 + (1 : Int32)) v22 H locs ls hI (lv_sub hl [2, 3, 0] rfl) hq
                · replace hq := i_f c20 hq
                  exact hK108 x0 x1 v17 H locs ls hI (lv_sub hl [1, 2] rfl) hq
              · replace hq := i_t c14 hq
                exact hK82 v13.2 H locs ls hI (lv_sub hl [] rfl) hq
            · replace hq := i_t c11 hq
              exact hK62 v10.2 H locs ls hI (lv_sub hl [] rfl) hq
      refine hl43 _ ?_ _ ?_ _ ?_ _ ?_ FU x0 x1 (0 : Int32) v7.2 H locs ls hI (lv_sub hl [1, 2, 0] rfl) hq
      · intro f H locs ls hI hl hq
        refine lv_iconst (v := (0 : Int32)) hx hb dX4_readCoast_62 (by decide) ?_
        exact ge_Wi hx hb hlocks hr (by decide +kernel) hI (congrArg (fun z => z.1) (Option.some.inj hq)) (congrArg (fun z => z.2) (Option.some.inj hq)) dX4_readCoast_63
      · intro f H locs ls hI hl hq
        refine lv_iconst (v := (0 : Int32)) hx hb dX4_readCoast_82 (by decide) ?_
        exact ge_Wi hx hb hlocks hr (by decide +kernel) hI (congrArg (fun z => z.1) (Option.some.inj hq)) (congrArg (fun z => z.2) (Option.some.inj hq)) dX4_readCoast_83
      · intro x0 x1 f H locs ls hI hl hq
        refine lv_aload_n hx hb dX4_readCoast_108 rfl (lv_at hl 1 rfl) ?_
        obtain ⟨v23, ev23, hq⟩ := b_s hq
        refine fa_gi (own := RX4) (ref := "CoastlineRuler$Coast") (k := 2) hx hb hB inB_RX2 hown hI rfl (by decide) m_60 (fun _ h9 => h9) ev23 dX4_readCoast_109 ?_
        refine lv_aload_n hx hb dX4_readCoast_112 rfl (lv_at hl 1 rfl) ?_
        obtain ⟨v24, ev24, hq⟩ := b_s hq
        refine gr_i (g_runV (As := []) (rest := [.int v23]) (ci := 5) hC (c_X2_neededPoints l V g D cT f n x1 v24 ev24) k_X2_neededPoints m_731 rfl rfl ⟨Nat.le_of_ble_eq_true rfl, Nat.le_of_ble_eq_true rfl⟩ hI rfl rfl (h_me_eq ev24).1 rfl hl.1 rfl (Nat.le_of_ble_eq_true rfl) dX4_readCoast_113 ⟨by decide, by decide⟩) hI (fun H locs hI => ?_)
        refine lv_icmp_ge (tgt := 127) hx hb dX4_readCoast_116 (by decide) (fun c25 => ?_) (fun c25 => ?_)
        · replace hq := i_t c25 hq
          refine lv_iconst (v := (1 : Int32)) hx hb dX4_readCoast_127 (by decide) ?_
          refine lv_goto (tgt := 132) hx hb dX4_readCoast_128 (by decide) ?_
          exact ge_Wi hx hb hlocks hr (by decide +kernel) hI (congrArg (fun z => z.1) (Option.some.inj hq)) (congrArg (fun z => z.2) (Option.some.inj hq)) dX4_readCoast_132
        · replace hq := i_f c25 hq
          refine lv_aload_n hx hb dX4_readCoast_119 rfl (lv_at hl 0 rfl) ?_
          refine lv_iconst (v := (1 : Int32)) hx hb dX4_readCoast_120 (by decide) ?_
          obtain ⟨v26, ev26, hq⟩ := b_s hq
          refine gw_i (g_runV (As := [.int (1 : Int32)]) (rest := []) (ci := 7) hC (c_X4_fail l V g D cT f n x0 (1 : Int32) v26 ev26) k_X4_fail m_700 rfl rfl ⟨Nat.le_of_ble_eq_true rfl, Nat.le_of_ble_eq_true rfl⟩ hI rfl rfl (h_me_eq ev26).1 rfl hl.1 rfl (Nat.le_of_ble_eq_true rfl) dX4_readCoast_121 ⟨by decide, by decide⟩) hI (fun H locs hI => ?_)
          refine lv_if_eq (tgt := 131) hx hb dX4_readCoast_124 (by decide) (fun c27 => ?_) (fun c27 => ?_)
          · replace hq := i_t c27 hq
            refine lv_iconst (v := (0 : Int32)) hx hb dX4_readCoast_131 (by decide) ?_
            exact ge_Wi hx hb hlocks hr (by decide +kernel) hI (congrArg (fun z => z.1) (Option.some.inj hq)) (congrArg (fun z => z.2) (Option.some.inj hq)) dX4_readCoast_132
          · replace hq := i_f c27 hq
            refine lv_iconst (v := (1 : Int32)) hx hb dX4_readCoast_127 (by decide) ?_
            refine lv_goto (tgt := 132) hx hb dX4_readCoast_128 (by decide) ?_
            exact ge_Wi hx hb hlocks hr (by decide +kernel) hI (congrArg (fun z => z.1) (Option.some.inj hq)) (congrArg (fun z => z.2) (Option.some.inj hq)) dX4_readCoast_132
      · intro x0 f H locs ls hI hl hq
        refine lv_aload_n hx hb dX4_readCoast_146 rfl (lv_at hl 0 rfl) ?_
        obtain ⟨v28, ev28, hq⟩ := b_s hq
        refine gw_i (g_runV (As := []) (rest := []) (ci := 7) hC (c_X4_refusePoint l V g D cT f n x0 v28 ev28) k_X4_refusePoint m_732 rfl rfl ⟨Nat.le_of_ble_eq_true rfl, Nat.le_of_ble_eq_true rfl⟩ hI rfl rfl (h_me_eq ev28).1 rfl hl.1 rfl (Nat.le_of_ble_eq_true rfl) dX4_readCoast_147 ⟨by decide, by decide⟩) hI (fun H locs hI => ?_)
        obtain ⟨_, ev29, hq⟩ := b_s hq
        exact ge_Wi hx hb hlocks hr (h_bz_eq ev29).2.1 hI (congrArg (fun z => z.1) (Option.some.inj hq)) (congrArg (fun z => z.2) (Option.some.inj hq)) dX4_readCoast_150
    · replace hq := i_t c8 hq
      refine lv_iconst (v := (0 : Int32)) hx hb dX4_readCoast_39 (by decide) ?_
      exact ge_Wi hx hb hlocks hr (by decide +kernel) hI (congrArg (fun z => z.1) (Option.some.inj hq)) (congrArg (fun z => z.2) (Option.some.inj hq)) dX4_readCoast_40
  refine lv_if_eq (tgt := 31) hx hb dX4_readCoast_23 (by decide) (fun c30 => ?_) (fun c30 => ?_)
  · replace hq := i_t c30 hq
    refine lv_ldcS hx hb hown (g_rtx hI (i := 7) rfl) dX4_readCoast_31 ?_
    exact hj33 a0 a1 (V 27) a0 f5 H locs ls hI (lv_sub hl [0, 1] rfl) hq
  · replace hq := i_f c30 hq
    refine lv_ldcS hx hb hown (g_rtx hI (i := 6) rfl) dX4_readCoast_26 ?_
    refine lv_goto (tgt := 33) hx hb dX4_readCoast_28 (by decide) ?_
    exact hj33 a0 a1 (V 26) a0 f5 H locs ls hI (lv_sub hl [0, 1] rfl) hq

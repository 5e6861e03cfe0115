def p_X4_readMetric (V : Nat → Nat) (g f : GH) (a0 : Nat) : Option (Int32 × GH) :=
  h_me f a0 7 <|
  (h_gr f a0 7 0).bind fun v1 =>
  (p_X5_isWord V g f v1 (V 24)).bind fun v2 =>
  (h_bz v2).bind fun _ =>
  (h_pt f a0 7 4 (.int v2)).bind fun f4 =>
  (h_gi f4 a0 7 4).bind fun v5 =>
  (if v5 = (0 : Int32) then
    (p_X4_takeWord V g f4 a0 (V 25)).bind fun v7 =>
    (h_bz v7.1).bind fun _ =>
    some (v7.1, v7.2)
  else
    (p_X4_takeWord V g f4 a0 (V 24)).bind fun v9 =>
    (h_bz v9.1).bind fun _ =>
    some (v9.1, v9.2))
abbrev rm_X4_readMetric : Room := { frames := 8, cells := 0, slots := 0, locals := 248 }
theorem k_X4_readMetric : g_CV yX4_readMetric cX4_readMetric 1 (some .boolean) 0 := ⟨⟨m_708, m_5, by decide +kernel⟩, m_707, ms_7⟩
set_option maxHeartbeats 4000000 in
set_option maxRecDepth 100000 in
theorem c_X4_readMetric (l : Launch) (V : Nat → Nat) (g : GH) (D : va_G) (cT : Nat → ClassId) (f : GH) (n : Nat) (a0 : Nat) (o : Int32 × GH) (hq : p_X4_readMetric V g f a0 = some o) : Met l yX4_readMetric (Cond.code yX4_readMetric cX4_readMetric 1 (some .boolean) :: g_B) rm_X4_readMetric (va_Pc [.ref a0] (g_I V g D cT f n)) (g_Wi V D cT o.1 o.2 n) 0 0 (g_A V) := by
  refine g_begin (own := RX4) [.ref a0] [(0, .ref a0)] (g_A V) (fun _ h => h) (by decide) rfl (Nat.le_of_ble_eq_true rfl) rfl ?_
  intro p e s m args below meth c hx hb hr hlocks hin hC hI ls hl
  obtain ⟨hx, hb, hml, hown, hB⟩ := id hC
  obtain ⟨H, hH⟩ : ∃ H, H = s.heap := ⟨_, rfl⟩
  obtain ⟨locs, hlocs⟩ : ∃ L : List Loc, L = [] := ⟨_, rfl⟩
  rw [← hH, ← hlocs] at hI ⊢
  clear hH hlocs
  unfold p_X4_readMetric at hq
  replace hq := (h_me_eq hq).2
  refine lv_aload_n hx hb dX4_readMetric_0 rfl (lv_at hl 0 rfl) ?_
  refine lv_aload_n hx hb dX4_readMetric_1 rfl (lv_at hl 0 rfl) ?_
  obtain ⟨v1, ev1, hq⟩ := b_s hq
  refine fa_gr (own := RX4) (ref := "CoastlineRuler$Grammar") (k := 0) hx hb hB inB_RX4 hown hI rfl (by decide) m_139 (fun _ h9 => h9) ev1 dX4_readMetric_2 ?_
  refine lv_ldcS hx hb hown (g_rtx hI (i := 4) rfl) dX4_readMetric_5 ?_
  obtain ⟨v2, ev2, hq⟩ := b_s hq
  refine gr_i (g_runV (As := [.ref (V 24)]) (rest := [.ref a0]) (ci := 8) hC (c_X5_isWord l V g D cT f n v1 (V 24) v2 ev2) k_X5_isWord m_649 rfl rfl ⟨Nat.le_of_ble_eq_true rfl, Nat.le_of_ble_eq_true rfl⟩ hI rfl rfl (h_me_eq ev2).1 rfl hl.1 rfl (Nat.le_of_ble_eq_true rfl) dX4_readMetric_7 ⟨by decide, by decide⟩) hI (fun H locs hI => ?_)
  obtain ⟨_, ev3, hq⟩ := b_s hq
  obtain ⟨f4, ef4, hq⟩ := b_s hq
  refine fa_pt (own := RX4) (ref := "CoastlineRuler$Grammar") (k := 4) hx hb hB inB_RX4 tyX4_ok nmX4 hown hI rfl (by decide) m_145 (fun _ h9 => h9) (by decide) (h_bz_eq ev3).2.1 (h_bz_eq ev3).2.2 ef4 dX4_readMetric_10 (fun H locs hI => ?_)
  refine lv_aload_n hx hb dX4_readMetric_13 rfl (lv_at hl 0 rfl) ?_
  refine lv_aload_n hx hb dX4_readMetric_14 rfl (lv_at hl 0 rfl) ?_
  obtain ⟨v5, ev5, hq⟩ := b_s hq
  refine fa_gi (own := RX4) (ref := "CoastlineRuler$Grammar") (k := 4) hx hb hB inB_RX4 hown hI rfl (by decide) m_145 (fun _ h9 => h9) ev5 dX4_readMetric_15 ?_
  refine lv_if_eq (tgt := 26) hx hb dX4_readMetric_18 (by decide) (fun c6 => ?_) (fun c6 => ?_)
  · replace hq := i_t c6 hq
    refine lv_ldcS hx hb hown (g_rtx hI (i := 5) rfl) dX4_readMetric_26 ?_
    obtain ⟨v7, ev7, hq⟩ := b_s hq
    refine gw_i (g_runV (As := [.ref (V 25)]) (rest := []) (ci := 7) hC (c_X4_takeWord l V g D cT f4 n a0 (V 25) v7 ev7) k_X4_takeWord m_645 rfl rfl ⟨Nat.le_of_ble_eq_true rfl, Nat.le_of_ble_eq_true rfl⟩ hI rfl rfl (h_me_eq ev7).1 rfl hl.1 rfl (Nat.le_of_ble_eq_true rfl) dX4_readMetric_28 ⟨by decide, by decide⟩) hI (fun H locs hI => ?_)
    obtain ⟨_, ev8, hq⟩ := b_s hq
    exact ge_Wi hx hb hlocks hr (h_bz_eq ev8).2.1 hI (congrArg (fun z => z.1) (Option.some.inj hq)) (congrArg (fun z => z.2) (Option.some.inj hq)) dX4_readMetric_31
  · replace hq := i_f c6 hq
    refine lv_ldcS hx hb hown (g_rtx hI (i := 4) rfl) dX4_readMetric_21 ?_
    refine lv_goto (tgt := 28) hx hb dX4_readMetric_23 (by decide) ?_
    obtain ⟨v9, ev9, hq⟩ := b_s hq
    refine gw_i (g_runV (As := [.ref (V 24)]) (rest := []) (ci := 7) hC (c_X4_takeWord l V g D cT f4 n a0 (V 24) v9 ev9) k_X4_takeWord m_645 rfl rfl ⟨Nat.le_of_ble_eq_true rfl, Nat.le_of_ble_eq_true rfl⟩ hI rfl rfl (h_me_eq ev9).1 rfl hl.1 rfl (Nat.le_of_ble_eq_true rfl) dX4_readMetric_28 ⟨by decide, by decide⟩) hI (fun H locs hI => ?_)
    obtain ⟨_, ev10, hq⟩ := b_s hq
    exact ge_Wi hx hb hlocks hr (h_bz_eq ev10).2.1 hI (congrArg (fun z => z.1) (Option.some.inj hq)) (congrArg (fun z => z.2) (Option.some.inj hq)) dX4_readMetric_31

def p_X4_take (V : Nat → Nat) (g f : GH) (a0 : Nat) (a1 : Int32) : Option (Int32 × GH) :=
  h_me f a0 7 <|
  (h_gr f a0 7 0).bind fun v1 =>
  (h_gi f v1 8 3).bind fun v2 =>
  (if v2 = a1 then
    (h_gr f a0 7 0).bind fun v4 =>
    (p_X5_advance V g f v4).bind fun v5 =>
    some ((1 : Int32), v5)
  else
    (p_X4_fail V g f a0 (1 : Int32)).bind fun v6 =>
    (h_bz v6.1).bind fun _ =>
    some (v6.1, v6.2))
abbrev rm_X4_take : Room := { frames := 4, cells := 0, slots := 0, locals := 163 }
theorem k_X4_take : g_CV yX4_take cX4_take 2 (some .boolean) 1 := ⟨⟨m_714, m_5, by decide +kernel⟩, m_713, ms_8⟩
set_option maxHeartbeats 4000000 in
set_option maxRecDepth 100000 in
theorem c_X4_take (l : Launch) (V : Nat → Nat) (g : GH) (D : va_G) (cT : Nat → ClassId) (f : GH) (n : Nat) (a0 : Nat) (a1 : Int32) (o : Int32 × GH) (hq : p_X4_take V g f a0 a1 = some o) : Met l yX4_take (Cond.code yX4_take cX4_take 2 (some .boolean) :: g_B) rm_X4_take (va_Pc [.ref a0, .int a1] (g_I V g D cT f n)) (g_Wi V D cT o.1 o.2 n) 0 0 (g_A V) := by
  refine g_begin (own := RX4) [.ref a0, .int a1] [(0, .ref a0), (1, .int a1)] (g_A V) (fun _ h => h) (by decide) rfl (Nat.le_of_ble_eq_true rfl) rfl ?_
  intro p e s m args below meth c hx hb hr hlocks hin hC hI ls hl
  obtain ⟨hx, hb, hml, hown, hB⟩ := id hC
  obtain ⟨H, hH⟩ : ∃ H, H = s.heap := ⟨_, rfl⟩
  obtain ⟨locs, hlocs⟩ : ∃ L : List Loc, L = [] := ⟨_, rfl⟩
  rw [← hH, ← hlocs] at hI ⊢
  clear hH hlocs
  unfold p_X4_take at hq
  replace hq := (h_me_eq hq).2
  refine lv_aload_n hx hb dX4_take_0 rfl (lv_at hl 0 rfl) ?_
  obtain ⟨v1, ev1, hq⟩ := b_s hq
  refine fa_gr (own := RX4) (ref := "CoastlineRuler$Grammar") (k := 0) hx hb hB inB_RX4 hown hI rfl (by decide) m_139 (fun _ h9 => h9) ev1 dX4_take_1 ?_
  obtain ⟨v2, ev2, hq⟩ := b_s hq
  refine fa_gi (own := RX4) (ref := "CoastlineRuler$Tokens") (k := 3) hx hb hB inB_RX5 hown hI rfl (by decide) m_114 (fun _ h9 => h9) ev2 dX4_take_4 ?_
  refine lv_iload_n hx hb dX4_take_7 rfl (lv_at hl 1 rfl) ?_
  refine lv_icmp_eq (tgt := 17) hx hb dX4_take_8 (by decide) (fun c3 => ?_) (fun c3 => ?_)
  · replace hq := i_t c3 hq
    refine lv_aload_n hx hb dX4_take_17 rfl (lv_at hl 0 rfl) ?_
    obtain ⟨v4, ev4, hq⟩ := b_s hq
    refine fa_gr (own := RX4) (ref := "CoastlineRuler$Grammar") (k := 0) hx hb hB inB_RX4 hown hI rfl (by decide) m_139 (fun _ h9 => h9) ev4 dX4_take_18 ?_
    obtain ⟨v5, ev5, hq⟩ := b_s hq
    refine gw_v (g_runV (As := []) (rest := []) (ci := 8) hC (c_X5_advance l V g D cT f n v4 v5 ev5) k_X5_advance m_704 rfl rfl ⟨Nat.le_of_ble_eq_true rfl, Nat.le_of_ble_eq_true rfl⟩ hI rfl rfl (h_me_eq ev5).1 rfl hl.1 rfl (Nat.le_of_ble_eq_true rfl) dX4_take_21 ⟨by decide, by decide⟩) hI (fun H locs hI => ?_)
    refine lv_iconst (v := (1 : Int32)) hx hb dX4_take_24 (by decide) ?_
    exact ge_Wi hx hb hlocks hr (by decide +kernel) hI (congrArg (fun z => z.1) (Option.some.inj hq)) (congrArg (fun z => z.2) (Option.some.inj hq)) dX4_take_25
  · replace hq := i_f c3 hq
    refine lv_aload_n hx hb dX4_take_11 rfl (lv_at hl 0 rfl) ?_
    refine lv_iconst (v := (1 : Int32)) hx hb dX4_take_12 (by decide) ?_
    obtain ⟨v6, ev6, hq⟩ := b_s hq
    refine gw_i (g_runV (As := [.int (1 : Int32)]) (rest := []) (ci := 7) hC (c_X4_fail l V g D cT f n a0 (1 : Int32) v6 ev6) k_X4_fail m_700 rfl rfl ⟨Nat.le_of_ble_eq_true rfl, Nat.le_of_ble_eq_true rfl⟩ hI rfl rfl (h_me_eq ev6).1 rfl hl.1 rfl (Nat.le_of_ble_eq_true rfl) dX4_take_13 ⟨by decide, by decide⟩) hI (fun H locs hI => ?_)
    obtain ⟨_, ev7, hq⟩ := b_s hq
    exact ge_Wi hx hb hlocks hr (h_bz_eq ev7).2.1 hI (congrArg (fun z => z.1) (Option.some.inj hq)) (congrArg (fun z => z.2) (Option.some.inj hq)) dX4_take_16

def p_X4_verbHere_l2 (V : Nat → Nat) (g f : GH) (K28 : Int32 → Option (Option Nat)) (K40 : Option (Option Nat)) : Nat → Nat → Int32 → Option (Option Nat)
  | 0, _, _ => none
  | N + 1, x0, x1 =>
    (h_al g (V 12) 8).bind fun v1 =>
    (if v1 ≤ x1 then
      K40
    else
      (h_gr f x0 7 0).bind fun v3 =>
      (h_lq g (V 12) 8 x1).bind fun v4 =>
      (h_gr g v4 50 1).bind fun v5 =>
      (p_X5_isWord V g f v3 v5).bind fun v6 =>
      (if v6 = (0 : Int32) then
        p_X4_verbHere_l2 V g f K28 K40 N x0 (x1 + (1 : Int32))
      else
        K28 x1))
def p_X4_verbHere (V : Nat → Nat) (g f : GH) (a0 : Nat) : Option (Option Nat) :=
  h_me f a0 7 <|
  p_X4_verbHere_l2 V g f (fun x1 =>
    (h_lq g (V 12) 8 x1).bind fun v8 =>
    some (some v8)) (some none) FU a0 (0 : Int32)
abbrev rm_X4_verbHere : Room := { frames := 7, cells := 0, slots := 0, locals := 227 }
theorem k_X4_verbHere : g_CV yX4_verbHere cX4_verbHere 2 (some (.object "CoastlineRuler$Verb")) 0 := ⟨⟨m_739, m_5, by decide +kernel⟩, m_738, ms_12⟩
set_option maxHeartbeats 4000000 in
set_option maxRecDepth 100000 in
theorem c_X4_verbHere (l : Launch) (V : Nat → Nat) (g : GH) (D : va_G) (cT : Nat → ClassId) (f : GH) (n : Nat) (a0 : Nat) (o : Option Nat) (hq : p_X4_verbHere V g f a0 = some o) : Met l yX4_verbHere (Cond.code yX4_verbHere cX4_verbHere 2 (some (.object "CoastlineRuler$Verb")) :: g_B) rm_X4_verbHere (va_Pc [.ref a0] (g_I V g D cT f n)) (g_Rq o n) 0 0 g_no := by
  refine g_begin (own := RX4) [.ref a0] [(0, .ref a0)] g_no (fun _ h => h.elim) (by decide) rfl (Nat.le_of_ble_eq_true rfl) rfl ?_
  intro p e s m args below meth c hx hb hr hlocks hin hC hI ls hl
  obtain ⟨hx, hb, hml, hown, hB⟩ := id hC
  obtain ⟨H, hH⟩ : ∃ H, H = s.heap := ⟨_, rfl⟩
  obtain ⟨locs, hlocs⟩ : ∃ L : List Loc, L = [] := ⟨_, rfl⟩
  rw [← hH, ← hlocs] at hI ⊢
  clear hH hlocs
  unfold p_X4_verbHere at hq
  replace hq := (h_me_eq hq).2
  refine lv_iconst (v := (0 : Int32)) hx hb dX4_verbHere_0 (by decide) ?_
  refine lv_istore_n (lv' := [(1, .int (0 : Int32)), (0, .ref a0)]) hx hb dX4_verbHere_1 rfl hl (by decide) rfl (fun ls hl => ?_)
  have hl2 : ∀ (K28 : Int32 → Option (Option Nat)) (hK28 : ∀ (x1 : Int32) (H : Heap) (locs : List Loc) (ls : Array Slot), g_at g_no V g D cT f n s H locs → lv_has ls 2 [(1, .int x1)] → K28 x1 = some o → W p l e rm_X4_verbHere s m args below meth c H locs 0 0 (MQ below (g_Rq o n) args s 0 0 g_no) (F0 m 28 ls [])) (K40 : Option (Option Nat)) (hK40 : ∀  (H : Heap) (locs : List Loc) (ls : Array Slot), g_at g_no V g D cT f n s H locs → lv_has ls 2 [] → K40  = some o → W p l e rm_X4_verbHere s m args below meth c H locs 0 0 (MQ below (g_Rq o n) args s 0 0 g_no) (F0 m 40 ls [])) (N : Nat) (x0 : Nat) (x1 : Int32) (H : Heap) (locs : List Loc) (ls : Array Slot), g_at g_no V g D cT f n s H locs → lv_has ls 2 [(0, .ref x0), (1, .int x1)] → p_X4_verbHere_l2 V g f K28 K40 N x0 x1 = some o → W p l e rm_X4_verbHere s m args below meth c H locs 0 0 (MQ below (g_Rq o n) args s 0 0 g_no) (F0 m 2 ls []) := by
    intro K28 hK28 K40 hK40 N
    induction N with
    | zero =>
      intro x0 x1 H locs ls hI hl hq
      rw [p_X4_verbHere_l2] at hq
      cases hq
    | succ N ih =>
      intro x0 x1 H locs ls hI hl hq
      rw [p_X4_verbHere_l2] at hq
      refine lv_iload_n hx hb dX4_verbHere_2 rfl (lv_at hl 1 rfl) ?_
      refine fs_gsN (i := 11) (j := 3) hx hb hown hI rfl rfl (fun _ h9 => h9) dX4_verbHere_3 ?_
      obtain ⟨v1, ev1, hq⟩ := b_s hq
      refine fs_al hx hb hI (by decide) ev1 dX4_verbHere_6 ?_
      refine lv_icmp_ge (tgt := 40) hx hb dX4_verbHere_7 (by decide) (fun c2 => ?_) (fun c2 => ?_)
      · replace hq := i_t c2 hq
        exact hK40  H locs ls hI (lv_sub hl [] rfl) hq
      · replace hq := i_f c2 hq
        refine lv_aload_n hx hb dX4_verbHere_10 rfl (lv_at hl 0 rfl) ?_
        obtain ⟨v3, ev3, hq⟩ := b_s hq
        refine fa_gr (own := RX4) (ref := "CoastlineRuler$Grammar") (k := 0) hx hb hB inB_RX4 hown hI rfl (by decide) m_139 (fun _ h9 => h9) ev3 dX4_verbHere_11 ?_
        refine fs_gsN (i := 11) (j := 3) hx hb hown hI rfl rfl (fun _ h9 => h9) dX4_verbHere_14 ?_
        refine lv_iload_n hx hb dX4_verbHere_17 rfl (lv_at hl 1 rfl) ?_
        obtain ⟨v4, ev4, hq⟩ := b_s hq
        refine fs_lq hx hb hI (by decide) rfl ev4 dX4_verbHere_18 ?_
        obtain ⟨v5, ev5, hq⟩ := b_s hq
        refine fs_gr (own := RX4) (ref := "CoastlineRuler$Verb") (k := 1) hx hb hB hown hI m_2221 (fun _ h9 => h9) ev5 dX4_verbHere_19 ?_
        obtain ⟨v6, ev6, hq⟩ := b_s hq
        refine gr_i (g_runV (As := [.ref v5]) (rest := []) (ci := 8) hC (c_X5_isWord l V g D cT f n v3 v5 v6 ev6) k_X5_isWord m_649 rfl rfl ⟨Nat.le_of_ble_eq_true rfl, Nat.le_of_ble_eq_true rfl⟩ hI rfl rfl (h_me_eq ev6).1 rfl hl.1 rfl (Nat.le_of_ble_eq_true rfl) dX4_verbHere_22 ⟨by decide, by decide⟩) hI (fun H locs hI => ?_)
        refine lv_if_eq (tgt := 34) hx hb dX4_verbHere_25 (by decide) (fun c7 => ?_) (fun c7 => ?_)
        · replace hq := i_t c7 hq
          refine lv_iinc (v := x1 + (1 : Int32)) (lv' := [(1, .int (x1 + (1 : Int32))), (0, .ref x0)]) hx hb dX4_verbHere_34 hl (k := 1) rfl rfl (by decide) rfl (fun ls hl => ?_)
          refine lv_goto (tgt := 2) hx hb dX4_verbHere_37 (by decide) ?_
          exact ih x0 (x1 + (1 : Int32)) H locs ls hI (lv_sub hl [1, 0] rfl) hq
        · replace hq := i_f c7 hq
          exact hK28 x1 H locs ls hI (lv_sub hl [1] rfl) hq
  refine hl2 _ ?_ _ ?_ FU a0 (0 : Int32) H locs ls hI (lv_sub hl [1, 0] rfl) hq
  · intro x1 H locs ls hI hl hq
    refine fs_gsN (i := 11) (j := 3) hx hb hown hI rfl rfl (fun _ h9 => h9) dX4_verbHere_28 ?_
    refine lv_iload_n hx hb dX4_verbHere_31 rfl (lv_at hl 0 rfl) ?_
    obtain ⟨v8, ev8, hq⟩ := b_s hq
    refine fs_lq hx hb hI (by decide) rfl ev8 dX4_verbHere_32 ?_
    exact ge_Rq hx hb hlocks hr (Or.inl ⟨_, rfl⟩) hI hq dX4_verbHere_33
  · intro  H locs ls hI hl hq
    refine lv_nullN hx hb dX4_verbHere_40 ?_
    exact ge_Rq hx hb hlocks hr (Or.inl ⟨_, rfl⟩) hI hq dX4_verbHere_41

def p_X4_readMap_l46 (V : Nat → Nat) (g : GH) (K62 : GH → Option (Int32 × GH)) (K85 : GH → Option (Int32 × GH)) (K103 : Nat → GH → Option (Int32 × GH)) : Nat → Nat → Nat → Int32 → GH → Option (Int32 × GH)
  | 0, _, _, _, _ => none
  | N + 1, x0, x2, x3, f =>
    (if (6 : Int32) ≤ x3 then
      K103 x0 f
    else
      (h_gr f x0 7 0).bind fun v13 =>
      (h_gi f v13 8 3).bind fun v14 =>
      (if v14 = (0 : Int32) then
        K62 f
      else
        (h_gr f x2 4 0).bind fun v16 =>
        (h_lq f v16 5 x3).bind fun v17 =>
        (p_X4_readCoast V g f x0 v17).bind fun v18 =>
        (if v18.1 = (0 : Int32) then
          K85 v18.2
        else
          (p_X4_take V g v18.2 x0 (3 : Int32)).bind fun v20 =>
          (if v20.1 = (0 : Int32) then
            K85 v20.2
          else
            (h_gi v20.2 x2 4 1).bind fun v22 =>
            (h_pt v20.2 x2 4 1 (.int (v22 + (1 : Int32)))).bind fun f23 =>
            p_X4_readMap_l46 V g K62 K85 K103 N x0 x2 (x3 + (1 : Int32)) f23))))
def p_X4_readMap (V : Nat → Nat) (g f : GH) (a0 : Nat) (a1 : Int32) (a2 : Nat) : Option (Int32 × GH) :=
  h_me f a0 7 <|
  (p_X4_begin V g f a0 a1).bind fun v1 =>
  (p_X4_takeWord V g v1 a0 (V 23)).bind fun v2 =>
  (if v2.1 = (0 : Int32) then
    some ((0 : Int32), v2.2)
  else
    (p_X4_readMetric V g v2.2 a0).bind fun v4 =>
    (if v4.1 = (0 : Int32) then
      some ((0 : Int32), v4.2)
    else
      (p_X4_take V g v4.2 a0 (3 : Int32)).bind fun v6 =>
      (if v6.1 = (0 : Int32) then
        some ((0 : Int32), v6.2)
      else
        (h_gi v6.2 a0 7 4).bind fun v8 =>
        (h_bz v8).bind fun _ =>
        (h_pt v6.2 a2 4 2 (.int v8)).bind fun f10 =>
        (h_pt f10 a2 4 1 (.int (0 : Int32))).bind fun f11 =>
        p_X4_readMap_l46 V g (fun f =>
          some ((1 : Int32), f)) (fun f =>
          some ((0 : Int32), f)) (fun x0 f =>
          (h_gr f x0 7 0).bind fun v24 =>
          (h_gi f v24 8 3).bind fun v25 =>
          (if v25 = (0 : Int32) then
            some ((1 : Int32), f)
          else
            (p_X4_verbHere V g f x0).bind fun v27 =>
            (match v27 with
            | none =>
              (p_X4_fail V g f x0 (1 : Int32)).bind fun v35 =>
              (h_bz v35.1).bind fun _ =>
              some (v35.1, v35.2)
            | some v28 =>
              (h_gi g v28 50 2).bind fun v29 =>
              (if v29 = (0 : Int32) then
                (p_X4_fail V g f x0 (1 : Int32)).bind fun v31 =>
                (h_bz v31.1).bind fun _ =>
                some (v31.1, v31.2)
              else
                (p_X4_fail V g f x0 (3 : Int32)).bind fun v33 =>
                (h_bz v33.1).bind fun _ =>
                some (v33.1, v33.2))))) FU a0 a2 (0 : Int32) f11)))
abbrev rm_X4_readMap : Room := { frames := 9, cells := 0, slots := 0, locals := 271 }
theorem k_X4_readMap : g_CV yX4_readMap cX4_readMap 4 (some .boolean) 2 := ⟨⟨m_624, m_5, by decide +kernel⟩, m_622, m_623⟩
set_option maxHeartbeats 4000000 in
set_option maxRecDepth 100000 in
theorem c_X4_readMap (l : Launch) (V : Nat → Nat) (g : GH) (D : va_G) (cT : Nat → ClassId) (f : GH) (n : Nat) (a0 : Nat) (a1 : Int32) (a2 : Nat) (o : Int32 × GH) (hq : p_X4_readMap V g f a0 a1 a2 = some o) : Met l yX4_readMap (Cond.code yX4_readMap cX4_readMap 4 (some .boolean) :: g_B) rm_X4_readMap (va_Pc [.ref a0, .int a1, .ref a2] (g_I V g D cT f n)) (g_Wi V D cT o.1 o.2 n) 0 0 (g_A V) := by
  refine g_begin (own := RX4) [.ref a0, .int a1, .ref a2] [(0, .ref a0), (1, .int a1), (2, .ref a2)] (g_A V) (fun _ h => h) (by decide) rfl (Nat.le_of_ble_eq_true rfl) rfl ?_
  intro p e s m args below meth c hx hb hr hlocks hin hC hI ls hl
  obtain ⟨hx, hb, hml, hown, hB⟩ := id hC
  obtain ⟨H, hH⟩ : ∃ H, H = s.heap := ⟨_, rfl⟩
  obtain ⟨locs, hlocs⟩ : ∃ L : List Loc, L = [] := ⟨_, rfl⟩
  rw [← hH, ← hlocs] at hI ⊢
  clear hH hlocs
  unfold p_X4_readMap at hq
  replace hq := (h_me_eq hq).2
  refine lv_aload_n hx hb dX4_readMap_0 rfl (lv_at hl 0 rfl) ?_
  refine lv_iload_n hx hb dX4_readMap_1 rfl (lv_at hl 1 rfl) ?_
  obtain ⟨v1, ev1, hq⟩ := b_s hq
  refine gw_v (g_runV (As := [.int a1]) (rest := []) (ci := 7) hC (c_X4_begin l V g D cT f n a0 a1 v1 ev1) k_X4_begin m_625 rfl rfl ⟨Nat.le_of_ble_eq_true rfl, Nat.le_of_ble_eq_true rfl⟩ hI rfl rfl (h_me_eq ev1).1 rfl hl.1 rfl (Nat.le_of_ble_eq_true rfl) dX4_readMap_2 ⟨by decide, by decide⟩) hI (fun H locs hI => ?_)
  refine lv_aload_n hx hb dX4_readMap_5 rfl (lv_at hl 0 rfl) ?_
  refine lv_ldcS hx hb hown (g_rtx hI (i := 3) rfl) dX4_readMap_6 ?_
  obtain ⟨v2, ev2, hq⟩ := b_s hq
  refine gw_i (g_runV (As := [.ref (V 23)]) (rest := []) (ci := 7) hC (c_X4_takeWord l V g D cT v1 n a0 (V 23) v2 ev2) k_X4_takeWord m_645 rfl rfl ⟨Nat.le_of_ble_eq_true rfl, Nat.le_of_ble_eq_true rfl⟩ hI rfl rfl (h_me_eq ev2).1 rfl hl.1 rfl (Nat.le_of_ble_eq_true rfl) dX4_readMap_8 ⟨by decide, by decide⟩) hI (fun H locs hI => ?_)
  refine lv_if_eq (tgt := 29) hx hb dX4_readMap_11 (by decide) (fun c3 => ?_) (fun c3 => ?_)
  · replace hq := i_t c3 hq
    refine lv_iconst (v := (0 : Int32)) hx hb dX4_readMap_29 (by decide) ?_
    exact ge_Wi hx hb hlocks hr (by decide +kernel) hI (congrArg (fun z => z.1) (Option.some.inj hq)) (congrArg (fun z => z.2) (Option.some.inj hq)) dX4_readMap_30
  · replace hq := i_f c3 hq
    refine lv_aload_n hx hb dX4_readMap_14 rfl (lv_at hl 0 rfl) ?_
    obtain ⟨v4, ev4, hq⟩ := b_s hq
    refine gw_i (g_runV (As := []) (rest := []) (ci := 7) hC (c_X4_readMetric l V g D cT v2.2 n a0 v4 ev4) k_X4_readMetric m_705 rfl rfl ⟨Nat.le_of_ble_eq_true rfl, Nat.le_of_ble_eq_true rfl⟩ hI rfl rfl (h_me_eq ev4).1 rfl hl.1 rfl (Nat.le_of_ble_eq_true rfl) dX4_readMap_15 ⟨by decide, by decide⟩) hI (fun H locs hI => ?_)
    refine lv_if_eq (tgt := 29) hx hb dX4_readMap_18 (by decide) (fun c5 => ?_) (fun c5 => ?_)
    · replace hq := i_t c5 hq
      refine lv_iconst (v := (0 : Int32)) hx hb dX4_readMap_29 (by decide) ?_
      exact ge_Wi hx hb hlocks hr (by decide +kernel) hI (congrArg (fun z => z.1) (Option.some.inj hq)) (congrArg (fun z => z.2) (Option.some.inj hq)) dX4_readMap_30
    · replace hq := i_f c5 hq
      refine lv_aload_n hx hb dX4_readMap_21 rfl (lv_at hl 0 rfl) ?_
      refine lv_iconst (v := (3 : Int32)) hx hb dX4_readMap_22 (by decide) ?_
      obtain ⟨v6, ev6, hq⟩ := b_s hq
      refine gw_i (g_runV (As := [.int (3 : Int32)]) (rest := []) (ci := 7) hC (c_X4_take l V g D cT v4.2 n a0 (3 : Int32) v6 ev6) k_X4_take m_711 rfl rfl ⟨Nat.le_of_ble_eq_true rfl, Nat.le_of_ble_eq_true rfl⟩ hI rfl rfl (h_me_eq ev6).1 rfl hl.1 rfl (Nat.le_of_ble_eq_true rfl) dX4_readMap_23 ⟨by decide, by decide⟩) hI (fun H locs hI => ?_)
      refine lv_if_ne (tgt := 31) hx hb dX4_readMap_26 (by decide) (fun c7 => ?_) (fun c7 => ?_)
      · replace hq := i_f c7 hq
        refine lv_aload_n hx hb dX4_readMap_31 rfl (lv_at hl 2 rfl) ?_
        refine lv_aload_n hx hb dX4_readMap_32 rfl (lv_at hl 0 rfl) ?_
        obtain ⟨v8, ev8, hq⟩ := b_s hq
        refine fa_gi (own := RX4) (ref := "CoastlineRuler$Grammar") (k := 4) hx hb hB inB_RX4 hown hI rfl (by decide) m_145 (fun _ h9 => h9) ev8 dX4_readMap_33 ?_
        obtain ⟨_, ev9, hq⟩ := b_s hq
        obtain ⟨f10, ef10, hq⟩ := b_s hq
        refine fa_pt (own := RX4) (ref := "CoastlineRuler$Chart") (k := 2) hx hb hB inB_RX1 tyX1_ok nmX1 hown hI rfl (by decide) m_81 (fun _ h9 => h9) (by decide) (h_bz_eq ev9).2.1 (h_bz_eq ev9).2.2 ef10 dX4_readMap_36 (fun H locs hI => ?_)
        refine lv_aload_n hx hb dX4_readMap_39 rfl (lv_at hl 2 rfl) ?_
        refine lv_iconst (v := (0 : Int32)) hx hb dX4_readMap_40 (by decide) ?_
        obtain ⟨f11, ef11, hq⟩ := b_s hq
        refine fa_pt (own := RX4) (ref := "CoastlineRuler$Chart") (k := 1) hx hb hB inB_RX1 tyX1_ok nmX1 hown hI rfl (by decide) m_79 (fun _ h9 => h9) (by decide) rfl rfl ef11 dX4_readMap_41 (fun H locs hI => ?_)
        refine lv_iconst (v := (0 : Int32)) hx hb dX4_readMap_44 (by decide) ?_
        refine lv_istore_n (lv' := [(3, .int (0 : Int32)), (0, .ref a0), (1, .int a1), (2, .ref a2)]) hx hb dX4_readMap_45 rfl hl (by decide) rfl (fun ls hl => ?_)
        have hl46 : ∀ (K62 : GH → Option (Int32 × GH)) (hK62 : ∀ (f : GH) (H : Heap) (locs : List Loc) (ls : Array Slot), g_at (g_A V) V g D cT f n s H locs → lv_has ls 4 [] → K62 f = some o → W p l e rm_X4_readMap s m args below meth c H locs 0 0 (MQ below (g_Wi V D cT o.1 o.2 n) args s 0 0 (g_A V)) (F0 m 62 ls [])) (K85 : GH → Option (Int32 × GH)) (hK85 : ∀ (f : GH) (H : Heap) (locs : List Loc) (ls : Array Slot), g_at (g_A V) V g D cT f n s H locs → lv_has ls 4 [] → K85 f = some o → W p l e rm_X4_readMap s m args below meth c H locs 0 0 (MQ below (g_Wi V D cT o.1 o.2 n) args s 0 0 (g_A V)) (F0 m 85 ls [])) (K103 : Nat → GH → Option (Int32 × GH)) (hK103 : ∀ (x0 : Nat) (f : GH) (H : Heap) (locs : List Loc) (ls : Array Slot), g_at (g_A V) V g D cT f n s H locs → lv_has ls 4 [(0, .ref x0)] → K103 x0 f = some o → W p l e rm_X4_readMap s m args below meth c H locs 0 0 (MQ below (g_Wi V D cT o.1 o.2 n) args s 0 0 (g_A V)) (F0 m 103 ls [])) (N : Nat) (x0 : Nat) (x2 : Nat) (x3 : Int32) (f : GH) (H : Heap) (locs : List Loc) (ls : Array Slot), g_at (g_A V) V g D cT f n s H locs → lv_has ls 4 [(0, .ref x0), (2, .ref x2), (3, .int x3)] → p_X4_readMap_l46 V g K62 K85 K103 N x0 x2 x3 f = some o → W p l e rm_X4_readMap s m args below meth c H locs 0 0 (MQ below (g_Wi V D cT o.1 o.2 n) args s 0 0 (g_A V)) (F0 m 46 ls []) := by
          intro K62 hK62 K85 hK85 K103 hK103 N
          induction N with
          | zero =>
            intro x0 x2 x3 f H locs ls hI hl hq
            rw [p_X4_readMap_l46] at hq
            cases hq
          | succ N ih =>
            intro x0 x2 x3 f H locs ls hI hl hq
            rw [p_X4_readMap_l46] at hq
            refine lv_iload_n hx hb dX4_readMap_46 rfl (lv_at hl 2 rfl) ?_
            refine lv_bipush (v := (6 : Int32)) hx hb dX4_readMap_47 (by decide) ?_
            refine lv_icmp_ge (tgt := 103) hx hb dX4_readMap_49 (by decide) (fun c12 => ?_) (fun c12 => ?_)
            · replace hq := i_t c12 hq
              exact hK103 x0 f H locs ls hI (lv_sub hl [0] rfl) hq
            · replace hq := i_f c12 hq
              refine lv_aload_n hx hb dX4_readMap_52 rfl (lv_at hl 0 rfl) ?_
              obtain ⟨v13, ev13, hq⟩ := b_s hq
              refine fa_gr (own := RX4) (ref := "CoastlineRuler$Grammar") (k := 0) hx hb hB inB_RX4 hown hI rfl (by decide) m_139 (fun _ h9 => h9) ev13 dX4_readMap_53 ?_
              obtain ⟨v14, ev14, hq⟩ := b_s hq
              refine fa_gi (own := RX4) (ref := "CoastlineRuler$Tokens") (k := 3) hx hb hB inB_RX5 hown hI rfl (by decide) m_114 (fun _ h9 => h9) ev14 dX4_readMap_56 ?_
              refine lv_if_ne (tgt := 64) hx hb dX4_readMap_59 (by decide) (fun c15 => ?_) (fun c15 => ?_)
              · replace hq := i_f c15 hq
                refine lv_aload_n hx hb dX4_readMap_64 rfl (lv_at hl 0 rfl) ?_
                refine lv_aload_n hx hb dX4_readMap_65 rfl (lv_at hl 1 rfl) ?_
                obtain ⟨v16, ev16, hq⟩ := b_s hq
                refine fa_gr (own := RX4) (ref := "CoastlineRuler$Chart") (k := 0) hx hb hB inB_RX1 hown hI rfl (by decide) m_76 (fun _ h9 => h9) ev16 dX4_readMap_66 ?_
                refine lv_iload_n hx hb dX4_readMap_69 rfl (lv_at hl 2 rfl) ?_
                obtain ⟨v17, ev17, hq⟩ := b_s hq
                refine fa_lq hx hb hI (by decide) rfl ev17 dX4_readMap_70 ?_
                obtain ⟨v18, ev18, hq⟩ := b_s hq
                refine gw_i (g_runV (As := [.ref v17]) (rest := []) (ci := 7) hC (c_X4_readCoast l V g D cT f n x0 v17 v18 ev18) k_X4_readCoast m_715 rfl rfl ⟨Nat.le_of_ble_eq_true rfl, Nat.le_of_ble_eq_true rfl⟩ hI rfl rfl (h_me_eq ev18).1 rfl hl.1 rfl (Nat.le_of_ble_eq_true rfl) dX4_readMap_71 ⟨by decide, by decide⟩) hI (fun H locs hI => ?_)
                refine lv_if_eq (tgt := 85) hx hb dX4_readMap_74 (by decide) (fun c19 => ?_) (fun c19 => ?_)
                · replace hq := i_t c19 hq
                  exact hK85 v18.2 H locs ls hI (lv_sub hl [] rfl) hq
                · replace hq := i_f c19 hq
                  refine lv_aload_n hx hb dX4_readMap_77 rfl (lv_at hl 0 rfl) ?_
                  refine lv_iconst (v := (3 : Int32)) hx hb dX4_readMap_78 (by decide) ?_
                  obtain ⟨v20, ev20, hq⟩ := b_s hq
                  refine gw_i (g_runV (As := [.int (3 : Int32)]) (rest := []) (ci := 7) hC (c_X4_take l V g D cT v18.2 n x0 (3 : Int32) v20 ev20) k_X4_take m_711 rfl rfl ⟨Nat.le_of_ble_eq_true rfl, Nat.le_of_ble_eq_true rfl⟩ hI rfl rfl (h_me_eq ev20).1 rfl hl.1 rfl (Nat.le_of_ble_eq_true rfl) dX4_readMap_79 ⟨by decide, by decide⟩) hI (fun H locs hI => ?_)
                  refine lv_if_ne (tgt := 87) hx hb dX4_readMap_82 (by decide) (fun c21 => ?_) (fun c21 => ?_)
                  · replace hq := i_f c21 hq
                    refine lv_aload_n hx hb dX4_readMap_87 rfl (lv_at hl 1 rfl) ?_
                    refine lv_dup hx hb dX4_readMap_88 rfl ?_
                    obtain ⟨v22, ev22, hq⟩ := b_s hq
                    refine fa_gi (own := RX4) (ref := "CoastlineRuler$Chart") (k := 1) hx hb hB inB_RX1 hown hI rfl (by decide) m_79 (fun _ h9 => h9) ev22 dX4_readMap_89 ?_
                    refine lv_iconst (v := (1 : Int32)) hx hb dX4_readMap_92 (by decide) ?_
                    refine lv_iadd hx hb dX4_readMap_93 ?_
                    obtain ⟨f23, ef23, hq⟩ := b_s hq
                    refine fa_pt (own := RX4) (ref := "CoastlineRuler$Chart") (k := 1) hx hb hB inB_RX1 tyX1_ok nmX1 hown hI rfl (by decide) m_79 (fun _ h9 => h9) (by decide) rfl rfl ef23 dX4_readMap_94 (fun H locs hI => ?_)
                    refine lv_iinc (v := x3 + (1 : Int32)) (lv' := [(3, .int (x3 + (1 : Int32))), (0, .ref x0), (2, .ref x2)]) hx hb dX4_readMap_97 hl (k := 2) rfl rfl (by decide) rfl (fun ls hl => ?_)
                    refine lv_goto (tgt := 46) hx hb dX4_readMap_100 (by decide) ?_
                    exact ih x0 x2 (x3 + (1 : Int32)) f23 H locs ls hI (lv_sub hl [1, 2, 0] rfl) hq
                  · replace hq := i_t c21 hq
                    exact hK85 v20.2 H locs ls hI (lv_sub hl [] rfl) hq
              · replace hq := i_t c15 hq
                exact hK62 f H locs ls hI (lv_sub hl [] rfl) hq
        refine hl46 _ ?_ _ ?_ _ ?_ FU a0 a2 (0 : Int32) f11 H locs ls hI (lv_sub hl [1, 3, 0] rfl) hq
        · intro f H locs ls hI hl hq
          refine lv_iconst (v := (1 : Int32)) hx hb dX4_readMap_62 (by decide) ?_
          exact ge_Wi hx hb hlocks hr (by decide +kernel) hI (congrArg (fun z => z.1) (Option.some.inj hq)) (congrArg (fun z => z.2) (Option.some.inj hq)) dX4_readMap_63
        · intro f H locs ls hI hl hq
          refine lv_iconst (v := (0 : Int32)) hx hb dX4_readMap_85 (by decide) ?_
          exact ge_Wi hx hb hlocks hr (by decide +kernel) hI (congrArg (fun z => z.1) (Option.some.inj hq)) (congrArg (fun z => z.2) (Option.some.inj hq)) dX4_readMap_86
        · intro x0 f H locs ls hI hl hq
          refine lv_aload_n hx hb dX4_readMap_103 rfl (lv_at hl 0 rfl) ?_
          obtain ⟨v24, ev24, hq⟩ := b_s hq
          refine fa_gr (own := RX4) (ref := "CoastlineRuler$Grammar") (k := 0) hx hb hB inB_RX4 hown hI rfl (by decide) m_139 (fun _ h9 => h9) ev24 dX4_readMap_104 ?_
          obtain ⟨v25, ev25, hq⟩ := b_s hq
          refine fa_gi (own := RX4) (ref := "CoastlineRuler$Tokens") (k := 3) hx hb hB inB_RX5 hown hI rfl (by decide) m_114 (fun _ h9 => h9) ev25 dX4_readMap_107 ?_
          refine lv_if_ne (tgt := 115) hx hb dX4_readMap_110 (by decide) (fun c26 => ?_) (fun c26 => ?_)
          · replace hq := i_f c26 hq
            refine lv_aload_n hx hb dX4_readMap_115 rfl (lv_at hl 0 rfl) ?_
            obtain ⟨v27, ev27, hq⟩ := b_s hq
            refine gr_q (g_runV (As := []) (rest := []) (ci := 7) hC (c_X4_verbHere l V g D cT f n x0 v27 ev27) k_X4_verbHere m_736 rfl rfl ⟨Nat.le_of_ble_eq_true rfl, Nat.le_of_ble_eq_true rfl⟩ hI rfl rfl (h_me_eq ev27).1 rfl hl.1 rfl (Nat.le_of_ble_eq_true rfl) dX4_readMap_116 ⟨by decide, by decide⟩) hI (fun H locs hI => ?_)
            refine lv_astore_nN2 (lv' := [(3, va_rf v27), (0, .ref x0)]) hx hb dX4_readMap_119 rfl hl (by decide) rfl (fun ls hl => ?_)
            refine lv_aload_n hx hb dX4_readMap_120 rfl (lv_at hl 1 rfl) ?_
            refine lv_aload_nN2 hx hb dX4_readMap_121 rfl (lv_at hl 0 rfl) ?_
            rcases v27 with _ | v28
            · refine lv_ifnullN (tgt := 136) hx hb dX4_readMap_122 (by decide) ?_
              refine lv_iconst (v := (1 : Int32)) hx hb dX4_readMap_136 (by decide) ?_
              obtain ⟨v35, ev35, hq⟩ := b_s hq
              refine gw_i (g_runV (As := [.int (1 : Int32)]) (rest := []) (ci := 7) hC (c_X4_fail l V g D cT f n x0 (1 : Int32) v35 ev35) k_X4_fail m_700 rfl rfl ⟨Nat.le_of_ble_eq_true rfl, Nat.le_of_ble_eq_true rfl⟩ hI rfl rfl (h_me_eq ev35).1 rfl hl.1 rfl (Nat.le_of_ble_eq_true rfl) dX4_readMap_137 ⟨by decide, by decide⟩) hI (fun H locs hI => ?_)
              obtain ⟨_, ev36, hq⟩ := b_s hq
              exact ge_Wi hx hb hlocks hr (h_bz_eq ev36).2.1 hI (congrArg (fun z => z.1) (Option.some.inj hq)) (congrArg (fun z => z.2) (Option.some.inj hq)) dX4_readMap_140
            · refine lv_ifnull hx hb dX4_readMap_122 ?_
              refine lv_aload_n hx hb dX4_readMap_125 rfl (lv_at hl 0 rfl) ?_
              obtain ⟨v29, ev29, hq⟩ := b_s hq
              refine fs_gi (own := RX4) (ref := "CoastlineRuler$Verb") (k := 2) hx hb hB hown hI m_2222 (fun _ h9 => h9) ev29 dX4_readMap_126 ?_
              refine lv_if_eq (tgt := 136) hx hb dX4_readMap_129 (by decide) (fun c30 => ?_) (fun c30 => ?_)
              · replace hq := i_t c30 hq
                refine lv_iconst (v := (1 : Int32)) hx hb dX4_readMap_136 (by decide) ?_
                obtain ⟨v31, ev31, hq⟩ := b_s hq
                refine gw_i (g_runV (As := [.int (1 : Int32)]) (rest := []) (ci := 7) hC (c_X4_fail l V g D cT f n x0 (1 : Int32) v31 ev31) k_X4_fail m_700 rfl rfl ⟨Nat.le_of_ble_eq_true rfl, Nat.le_of_ble_eq_true rfl⟩ hI rfl rfl (h_me_eq ev31).1 rfl hl.1 rfl (Nat.le_of_ble_eq_true rfl) dX4_readMap_137 ⟨by decide, by decide⟩) hI (fun H locs hI => ?_)
                obtain ⟨_, ev32, hq⟩ := b_s hq
                exact ge_Wi hx hb hlocks hr (h_bz_eq ev32).2.1 hI (congrArg (fun z => z.1) (Option.some.inj hq)) (congrArg (fun z => z.2) (Option.some.inj hq)) dX4_readMap_140
              · replace hq := i_f c30 hq
                refine lv_iconst (v := (3 : Int32)) hx hb dX4_readMap_132 (by decide) ?_
                refine lv_goto (tgt := 137) hx hb dX4_readMap_133 (by decide) ?_
                obtain ⟨v33, ev33, hq⟩ := b_s hq
                refine gw_i (g_runV (As := [.int (3 : Int32)]) (rest := []) (ci := 7) hC (c_X4_fail l V g D cT f n x0 (3 : Int32) v33 ev33) k_X4_fail m_700 rfl rfl ⟨Nat.le_of_ble_eq_true rfl, Nat.le_of_ble_eq_true rfl⟩ hI rfl rfl (h_me_eq ev33).1 rfl hl.1 rfl (Nat.le_of_ble_eq_true rfl) dX4_readMap_137 ⟨by decide, by decide⟩) hI (fun H locs hI => ?_)
                obtain ⟨_, ev34, hq⟩ := b_s hq
                exact ge_Wi hx hb hlocks hr (h_bz_eq ev34).2.1 hI (congrArg (fun z => z.1) (Option.some.inj hq)) (congrArg (fun z => z.2) (Option.some.inj hq)) dX4_readMap_140
          · replace hq := i_t c26 hq
            refine lv_iconst (v := (1 : Int32)) hx hb dX4_readMap_113 (by decide) ?_
            exact ge_Wi hx hb hlocks hr (by decide +kernel) hI (congrArg (fun z => z.1) (Option.some.inj hq)) (congrArg (fun z => z.2) (Option.some.inj hq)) dX4_readMap_114
      · replace hq := i_t c7 hq
        refine lv_iconst (v := (0 : Int32)) hx hb dX4_readMap_29 (by decide) ?_
        exact ge_Wi hx hb hlocks hr (by decide +kernel) hI (congrArg (fun z => z.1) (Option.some.inj hq)) (congrArg (fun z => z.2) (Option.some.inj hq)) dX4_readMap_30

def p_X4_readLoneCoast (V : Nat → Nat) (g f : GH) (a0 : Nat) (a1 : Int32) (a2 : Nat) : Option (Int32 × GH) :=
  h_me f a0 7 <|
  (p_X4_begin V g f a0 a1).bind fun v1 =>
  (p_X4_readCoast V g v1 a0 a2).bind fun v2 =>
  (if v2.1 = (0 : Int32) then
    some ((0 : Int32), v2.2)
  else
    (p_X4_take V g v2.2 a0 (0 : Int32)).bind fun v4 =>
    (if v4.1 = (0 : Int32) then
      some ((0 : Int32), v4.2)
    else
      some ((1 : Int32), v4.2)))
abbrev rm_X4_readLoneCoast : Room := { frames := 9, cells := 0, slots := 0, locals := 271 }
theorem k_X4_readLoneCoast : g_CV yX4_readLoneCoast cX4_readLoneCoast 3 (some .boolean) 2 := ⟨⟨m_1088, m_5, by decide +kernel⟩, m_1086, m_1087⟩
set_option maxHeartbeats 4000000 in
set_option maxRecDepth 100000 in
theorem c_X4_readLoneCoast (l : Launch) (V : Nat → Nat) (g : GH) (D : va_G) (cT : Nat → ClassId) (f : GH) (n : Nat) (a0 : Nat) (a1 : Int32) (a2 : Nat) (o : Int32 × GH) (hq : p_X4_readLoneCoast V g f a0 a1 a2 = some o) : Met l yX4_readLoneCoast (Cond.code yX4_readLoneCoast cX4_readLoneCoast 3 (some .boolean) :: g_B) rm_X4_readLoneCoast (va_Pc [.ref a0, .int a1, .ref a2] (g_I V g D cT f n)) (g_Wi V D cT o.1 o.2 n) 0 0 (g_A V) := by
  refine g_begin (own := RX4) [.ref a0, .int a1, .ref a2] [(0, .ref a0), (1, .int a1), (2, .ref a2)] (g_A V) (fun _ h => h) (by decide) rfl (Nat.le_of_ble_eq_true rfl) rfl ?_
  intro p e s m args below meth c hx hb hr hlocks hin hC hI ls hl
  obtain ⟨hx, hb, hml, hown, hB⟩ := id hC
  obtain ⟨H, hH⟩ : ∃ H, H = s.heap := ⟨_, rfl⟩
  obtain ⟨locs, hlocs⟩ : ∃ L : List Loc, L = [] := ⟨_, rfl⟩
  rw [← hH, ← hlocs] at hI ⊢
  clear hH hlocs
  unfold p_X4_readLoneCoast at hq
  replace hq := (h_me_eq hq).2
  refine lv_aload_n hx hb dX4_readLoneCoast_0 rfl (lv_at hl 0 rfl) ?_
  refine lv_iload_n hx hb dX4_readLoneCoast_1 rfl (lv_at hl 1 rfl) ?_
  obtain ⟨v1, ev1, hq⟩ := b_s hq
  refine gw_v (g_runV (As := [.int a1]) (rest := []) (ci := 7) hC (c_X4_begin l V g D cT f n a0 a1 v1 ev1) k_X4_begin m_625 rfl rfl ⟨Nat.le_of_ble_eq_true rfl, Nat.le_of_ble_eq_true rfl⟩ hI rfl rfl (h_me_eq ev1).1 rfl hl.1 rfl (Nat.le_of_ble_eq_true rfl) dX4_readLoneCoast_2 ⟨by decide, by decide⟩) hI (fun H locs hI => ?_)
  refine lv_aload_n hx hb dX4_readLoneCoast_5 rfl (lv_at hl 0 rfl) ?_
  refine lv_aload_n hx hb dX4_readLoneCoast_6 rfl (lv_at hl 2 rfl) ?_
  obtain ⟨v2, ev2, hq⟩ := b_s hq
  refine gw_i (g_runV (As := [.ref a2]) (rest := []) (ci := 7) hC (c_X4_readCoast l V g D cT v1 n a0 a2 v2 ev2) k_X4_readCoast m_715 rfl rfl ⟨Nat.le_of_ble_eq_true rfl, Nat.le_of_ble_eq_true rfl⟩ hI rfl rfl (h_me_eq ev2).1 rfl hl.1 rfl (Nat.le_of_ble_eq_true rfl) dX4_readLoneCoast_7 ⟨by decide, by decide⟩) hI (fun H locs hI => ?_)
  refine lv_if_eq (tgt := 25) hx hb dX4_readLoneCoast_10 (by decide) (fun c3 => ?_) (fun c3 => ?_)
  · replace hq := i_t c3 hq
    refine lv_iconst (v := (0 : Int32)) hx hb dX4_readLoneCoast_25 (by decide) ?_
    exact ge_Wi hx hb hlocks hr (by decide +kernel) hI (congrArg (fun z => z.1) (Option.some.inj hq)) (congrArg (fun z => z.2) (Option.some.inj hq)) dX4_readLoneCoast_26
  · replace hq := i_f c3 hq
    refine lv_aload_n hx hb dX4_readLoneCoast_13 rfl (lv_at hl 0 rfl) ?_
    refine lv_iconst (v := (0 : Int32)) hx hb dX4_readLoneCoast_14 (by decide) ?_
    obtain ⟨v4, ev4, hq⟩ := b_s hq
    refine gw_i (g_runV (As := [.int (0 : Int32)]) (rest := []) (ci := 7) hC (c_X4_take l V g D cT v2.2 n a0 (0 : Int32) v4 ev4) k_X4_take m_711 rfl rfl ⟨Nat.le_of_ble_eq_true rfl, Nat.le_of_ble_eq_true rfl⟩ hI rfl rfl (h_me_eq ev4).1 rfl hl.1 rfl (Nat.le_of_ble_eq_true rfl) dX4_readLoneCoast_15 ⟨by decide, by decide⟩) hI (fun H locs hI => ?_)
    refine lv_if_eq (tgt := 25) hx hb dX4_readLoneCoast_18 (by decide) (fun c5 => ?_) (fun c5 => ?_)
    · replace hq := i_t c5 hq
      refine lv_iconst (v := (0 : Int32)) hx hb dX4_readLoneCoast_25 (by decide) ?_
      exact ge_Wi hx hb hlocks hr (by decide +kernel) hI (congrArg (fun z => z.1) (Option.some.inj hq)) (congrArg (fun z => z.2) (Option.some.inj hq)) dX4_readLoneCoast_26
    · replace hq := i_f c5 hq
      refine lv_iconst (v := (1 : Int32)) hx hb dX4_readLoneCoast_21 (by decide) ?_
      refine lv_goto (tgt := 26) hx hb dX4_readLoneCoast_22 (by decide) ?_
      exact ge_Wi hx hb hlocks hr (by decide +kernel) hI (congrArg (fun z => z.1) (Option.some.inj hq)) (congrArg (fun z => z.2) (Option.some.inj hq)) dX4_readLoneCoast_26

def p_X4_readArguments_j85 (V : Nat → Nat) (g : GH) (x0 : Nat) (x1 : Nat) (x2 : Nat) (f : GH) : Option (Int32 × GH) :=
  (h_gi g x2 50 4).bind fun v8 =>
  (if v8 ≤ (1 : Int32) then
    some ((1 : Int32), f)
  else
    (h_gi g x2 50 5).bind fun v10 =>
    (h_gi g x2 50 5).bind fun v11 =>
    (p_X4_readInteger V g f x0 (-v10) v11).bind fun v12 =>
    (if v12.1 = (0 : Int32) then
      some ((0 : Int32), v12.2)
    else
      (h_gi v12.2 x0 7 3).bind fun v14 =>
      (h_pt v12.2 x1 6 4 (.int v14)).bind fun f15 =>
      some ((1 : Int32), f15)))
def p_X4_readArguments_j52 (V : Nat → Nat) (g : GH) (x0 : Nat) (x1 : Nat) (x2 : Nat) (f : GH) : Option (Int32 × GH) :=
  (h_gi g x2 50 4).bind fun v7 =>
  (if v7 ≤ (0 : Int32) then
    p_X4_readArguments_j85 V g x0 x1 x2 f
  else
    (h_gi g x2 50 5).bind fun v17 =>
    (h_gi g x2 50 5).bind fun v18 =>
    (p_X4_readInteger V g f x0 (-v17) v18).bind fun v19 =>
    (if v19.1 = (0 : Int32) then
      some ((0 : Int32), v19.2)
    else
      (h_gi v19.2 x0 7 3).bind fun v21 =>
      (h_pt v19.2 x1 6 3 (.int v21)).bind fun f22 =>
      p_X4_readArguments_j85 V g x0 x1 x2 f22))
def p_X4_readArguments (V : Nat → Nat) (g f : GH) (a0 : Nat) (a1 : Nat) : Option (Int32 × GH) :=
  h_me f a0 7 <|
  (h_gr f a1 6 0).bind fun v1 =>
  (p_X4_readInteger V g f a0 (0 : Int32) (5 : Int32)).bind fun v2 =>
  (if v2.1 = (0 : Int32) then
    some ((0 : Int32), v2.2)
  else
    (h_gi v2.2 a0 7 3).bind fun v4 =>
    (h_pt v2.2 a1 6 1 (.int v4)).bind fun f5 =>
    (h_gi g v1 50 3).bind fun v6 =>
    (if v6 = (0 : Int32) then
      p_X4_readArguments_j52 V g a0 a1 v1 f5
    else
      (p_X4_readInteger V g f5 a0 (0 : Int32) (128 : Int32)).bind fun v24 =>
      (if v24.1 = (0 : Int32) then
        some ((0 : Int32), v24.2)
      else
        (h_gi v24.2 a0 7 3).bind fun v26 =>
        (h_pt v24.2 a1 6 2 (.int v26)).bind fun f27 =>
        p_X4_readArguments_j52 V g a0 a1 v1 f27)))
abbrev rm_X4_readArguments : Room := { frames := 5, cells := 0, slots := 0, locals := 186 }
theorem k_X4_readArguments : g_CV yX4_readArguments cX4_readArguments 3 (some .boolean) 1 := ⟨⟨m_1180, m_5, by decide +kernel⟩, m_1179, ms_17⟩
set_option maxHeartbeats 4000000 in
set_option maxRecDepth 100000 in
theorem c_X4_readArguments (l : Launch) (V : Nat → Nat) (g : GH) (D : va_G) (cT : Nat → ClassId) (f : GH) (n : Nat) (a0 : Nat) (a1 : Nat) (o : Int32 × GH) (hq : p_X4_readArguments V g f a0 a1 = some o) : Met l yX4_readArguments (Cond.code yX4_readArguments cX4_readArguments 3 (some .boolean) :: g_B) rm_X4_readArguments (va_Pc [.ref a0, .ref a1] (g_I V g D cT f n)) (g_Wi V D cT o.1 o.2 n) 0 0 (g_A V) := by
  refine g_begin (own := RX4) [.ref a0, .ref a1] [(0, .ref a0), (1, .ref a1)] (g_A V) (fun _ h => h) (by decide) rfl (Nat.le_of_ble_eq_true rfl) rfl ?_
  intro p e s m args below meth c hx hb hr hlocks hin hC hI ls hl
  obtain ⟨hx, hb, hml, hown, hB⟩ := id hC
  obtain ⟨H, hH⟩ : ∃ H, H = s.heap := ⟨_, rfl⟩
  obtain ⟨locs, hlocs⟩ : ∃ L : List Loc, L = [] := ⟨_, rfl⟩
  rw [← hH, ← hlocs] at hI ⊢
  clear hH hlocs
  unfold p_X4_readArguments at hq
  replace hq := (h_me_eq hq).2
  refine lv_aload_n hx hb dX4_readArguments_0 rfl (lv_at hl 1 rfl) ?_
  obtain ⟨v1, ev1, hq⟩ := b_s hq
  refine fa_gr (own := RX4) (ref := "CoastlineRuler$Command") (k := 0) hx hb hB inB_RX3 hown hI rfl (by decide) m_170 (fun _ h9 => h9) ev1 dX4_readArguments_1 ?_
  refine lv_astore_n (lv' := [(2, .ref v1), (0, .ref a0), (1, .ref a1)]) hx hb dX4_readArguments_4 rfl hl (by decide) rfl (fun ls hl => ?_)
  refine lv_aload_n hx hb dX4_readArguments_5 rfl (lv_at hl 1 rfl) ?_
  refine lv_iconst (v := (0 : Int32)) hx hb dX4_readArguments_6 (by decide) ?_
  refine lv_iconst (v := (5 : Int32)) hx hb dX4_readArguments_7 (by decide) ?_
  obtain ⟨v2, ev2, hq⟩ := b_s hq
  refine gw_i (g_runV (As := [.int (0 : Int32), .int (5 : Int32)]) (rest := []) (ci := 7) hC (c_X4_readInteger l V g D cT f n a0 (0 : Int32) (5 : Int32) v2 ev2) k_X4_readInteger m_721 rfl rfl ⟨Nat.le_of_ble_eq_true rfl, Nat.le_of_ble_eq_true rfl⟩ hI rfl rfl (h_me_eq ev2).1 rfl hl.1 rfl (Nat.le_of_ble_eq_true rfl) dX4_readArguments_8 ⟨by decide, by decide⟩) hI (fun H locs hI => ?_)
  refine lv_if_ne (tgt := 16) hx hb dX4_readArguments_11 (by decide) (fun c3 => ?_) (fun c3 => ?_)
  · replace hq := i_f c3 hq
    refine lv_aload_n hx hb dX4_readArguments_16 rfl (lv_at hl 2 rfl) ?_
    refine lv_aload_n hx hb dX4_readArguments_17 rfl (lv_at hl 1 rfl) ?_
    obtain ⟨v4, ev4, hq⟩ := b_s hq
    refine fa_gi (own := RX4) (ref := "CoastlineRuler$Grammar") (k := 3) hx hb hB inB_RX4 hown hI rfl (by decide) m_144 (fun _ h9 => h9) ev4 dX4_readArguments_18 ?_
    obtain ⟨f5, ef5, hq⟩ := b_s hq
    refine fa_pt (own := RX4) (ref := "CoastlineRuler$Command") (k := 1) hx hb hB inB_RX3 tyX3_ok nmX3 hown hI rfl (by decide) m_174 (fun _ h9 => h9) (by decide) rfl rfl ef5 dX4_readArguments_21 (fun H locs hI => ?_)
    refine lv_aload_n hx hb dX4_readArguments_24 rfl (lv_at hl 0 rfl) ?_
    obtain ⟨v6, ev6, hq⟩ := b_s hq
    refine fs_gi (own := RX4) (ref := "CoastlineRuler$Verb") (k := 3) hx hb hB hown hI m_2227 (fun _ h9 => h9) ev6 dX4_readArguments_25 ?_
    have hj52 : ∀ (x0 : Nat) (x1 : Nat) (x2 : Nat) (f : GH) (H : Heap) (locs : List Loc) (ls : Array Slot), g_at (g_A V) V g D cT f n s H locs → lv_has ls 3 [(0, .ref x0), (1, .ref x1), (2, .ref x2)] → p_X4_readArguments_j52 V g x0 x1 x2 f = some o → W p l e rm_X4_readArguments s m args below meth c H locs 0 0 (MQ below (g_Wi V D cT o.1 o.2 n) args s 0 0 (g_A V)) (F0 m 52 ls []) := by
      intro x0 x1 x2 f H locs ls hI hl hq
      unfold p_X4_readArguments_j52 at hq
      refine lv_aload_n hx hb dX4_readArguments_52 rfl (lv_at hl 2 rfl) ?_
      obtain ⟨v7, ev7, hq⟩ := b_s hq
      refine fs_gi (own := RX4) (ref := "CoastlineRuler$Verb") (k := 4) hx hb hB hown hI m_2228 (fun _ h9 => h9) ev7 dX4_readArguments_53 ?_
      have hj85 : ∀ (x0 : Nat) (x1 : Nat) (x2 : Nat) (f : GH) (H : Heap) (locs : List Loc) (ls : Array Slot), g_at (g_A V) V g D cT f n s H locs → lv_has ls 3 [(0, .ref x0), (1, .ref x1), (2, .ref x2)] → p_X4_readArguments_j85 V g x0 x1 x2 f = some o → W p l e rm_X4_readArguments s m args below meth c H locs 0 0 (MQ below (g_Wi V D cT o.1 o.2 n) args s 0 0 (g_A V)) (F0 m 85 ls []) := by
        intro x0 x1 x2 f H locs ls hI hl hq
        unfold p_X4_readArguments_j85 at hq
        refine lv_aload_n hx hb dX4_readArguments_85 rfl (lv_at hl 2 rfl) ?_
        obtain ⟨v8, ev8, hq⟩ := b_s hq
        refine fs_gi (own := RX4) (ref := "CoastlineRuler$Verb") (k := 4) hx hb hB hown hI m_2228 (fun _ h9 => h9) ev8 dX4_readArguments_86 ?_
        refine lv_iconst (v := (1 : Int32)) hx hb dX4_readArguments_89 (by decide) ?_
        refine lv_icmp_le (tgt := 119) hx hb dX4_readArguments_90 (by decide) (fun c9 => ?_) (fun c9 => ?_)
        · replace hq := i_t c9 hq
          refine lv_iconst (v := (1 : Int32)) hx hb dX4_readArguments_119 (by decide) ?_
          exact ge_Wi hx hb hlocks hr (by decide +kernel) hI (congrArg (fun z => z.1) (Option.some.inj hq)) (congrArg (fun z => z.2) (Option.some.inj hq)) dX4_readArguments_120
        · replace hq := i_f c9 hq
          refine lv_aload_n hx hb dX4_readArguments_93 rfl (lv_at hl 0 rfl) ?_
          refine lv_aload_n hx hb dX4_readArguments_94 rfl (lv_at hl 2 rfl) ?_
          obtain ⟨v10, ev10, hq⟩ := b_s hq
          refine fs_gi (own := RX4) (ref := "CoastlineRuler$Verb") (k := 5) hx hb hB hown hI m_2229 (fun _ h9 => h9) ev10 dX4_readArguments_95 ?_
          refine lv_ineg hx hb dX4_readArguments_98 ?_
          refine lv_aload_n hx hb dX4_readArguments_99 rfl (lv_at hl 2 rfl) ?_
          obtain ⟨v11, ev11, hq⟩ := b_s hq
          refine fs_gi (own := RX4) (ref := "CoastlineRuler$Verb") (k := 5) hx hb hB hown hI m_2229 (fun _ h9 => h9) ev11 dX4_readArguments_100 ?_
          obtain ⟨v12, ev12, hq⟩ := b_s hq
          refine gw_i (g_runV (As := [.int (-v10), .int v11]) (rest := []) (ci := 7) hC (c_X4_readInteger l V g D cT f n x0 (-v10) v11 v12 ev12) k_X4_readInteger m_721 rfl rfl ⟨Nat.le_of_ble_eq_true rfl, Nat.le_of_ble_eq_true rfl⟩ hI rfl rfl (h_me_eq ev12).1 rfl hl.1 rfl (Nat.le_of_ble_eq_true rfl) dX4_readArguments_103 ⟨by decide, by decide⟩) hI (fun H locs hI => ?_)
          refine lv_if_ne (tgt := 111) hx hb dX4_readArguments_106 (by decide) (fun c13 => ?_) (fun c13 => ?_)
          · replace hq := i_f c13 hq
            refine lv_aload_n hx hb dX4_readArguments_111 rfl (lv_at hl 1 rfl) ?_
            refine lv_aload_n hx hb dX4_readArguments_112 rfl (lv_at hl 0 rfl) ?_
            obtain ⟨v14, ev14, hq⟩ := b_s hq
            refine fa_gi (own := RX4) (ref := "CoastlineRuler$Grammar") (k := 3) hx hb hB inB_RX4 hown hI rfl (by decide) m_144 (fun _ h9 => h9) ev14 dX4_readArguments_113 ?_
            obtain ⟨f15, ef15, hq⟩ := b_s hq
            refine fa_pt (own := RX4) (ref := "CoastlineRuler$Command") (k := 4) hx hb hB inB_RX3 tyX3_ok nmX3 hown hI rfl (by decide) m_183 (fun _ h9 => h9) (by decide) rfl rfl ef15 dX4_readArguments_116 (fun H locs hI => ?_)
            refine lv_iconst (v := (1 : Int32)) hx hb dX4_readArguments_119 (by decide) ?_
            exact ge_Wi hx hb hlocks hr (by decide +kernel) hI (congrArg (fun z => z.1) (Option.some.inj hq)) (congrArg (fun z => z.2) (Option.some.inj hq)) dX4_readArguments_120
          · replace hq := i_t c13 hq
            refine lv_iconst (v := (0 : Int32)) hx hb dX4_readArguments_109 (by decide) ?_
            exact ge_Wi hx hb hlocks hr (by decide +kernel) hI (congrArg (fun z => z.1) (Option.some.inj hq)) (congrArg (fun z => z.2) (Option.some.inj hq)) dX4_readArguments_110
      refine lv_if_le (tgt := 85) hx hb dX4_readArguments_56 (by decide) (fun c16 => ?_) (fun c16 => ?_)
      · replace hq := i_t c16 hq
        exact hj85 x0 x1 x2 f H locs ls hI (lv_sub hl [0, 1, 2] rfl) hq
      · replace hq := i_f c16 hq
        refine lv_aload_n hx hb dX4_readArguments_59 rfl (lv_at hl 0 rfl) ?_
        refine lv_aload_n hx hb dX4_readArguments_60 rfl (lv_at hl 2 rfl) ?_
        obtain ⟨v17, ev17, hq⟩ := b_s hq
        refine fs_gi (own := RX4) (ref := "CoastlineRuler$Verb") (k := 5) hx hb hB hown hI m_2229 (fun _ h9 => h9) ev17 dX4_readArguments_61 ?_
        refine lv_ineg hx hb dX4_readArguments_64 ?_
        refine lv_aload_n hx hb dX4_readArguments_65 rfl (lv_at hl 2 rfl) ?_
        obtain ⟨v18, ev18, hq⟩ := b_s hq
        refine fs_gi (own := RX4) (ref := "CoastlineRuler$Verb") (k := 5) hx hb hB hown hI m_2229 (fun _ h9 => h9) ev18 dX4_readArguments_66 ?_
        obtain ⟨v19, ev19, hq⟩ := b_s hq
        refine gw_i (g_runV (As := [.int (-v17), .int v18]) (rest := []) (ci := 7) hC (c_X4_readInteger l V g D cT f n x0 (-v17) v18 v19 ev19) k_X4_readInteger m_721 rfl rfl ⟨Nat.le_of_ble_eq_true rfl, Nat.le_of_ble_eq_true rfl⟩ hI rfl rfl (h_me_eq ev19).1 rfl hl.1 rfl (Nat.le_of_ble_eq_true rfl) dX4_readArguments_69 ⟨by decide, by decide⟩) hI (fun H locs hI => ?_)
        refine lv_if_ne (tgt := 77) hx hb dX4_readArguments_72 (by decide) (fun c20 => ?_) (fun c20 => ?_)
        · replace hq := i_f c20 hq
          refine lv_aload_n hx hb dX4_readArguments_77 rfl (lv_at hl 1 rfl) ?_
          refine lv_aload_n hx hb dX4_readArguments_78 rfl (lv_at hl 0 rfl) ?_
          obtain ⟨v21, ev21, hq⟩ := b_s hq
          refine fa_gi (own := RX4) (ref := "CoastlineRuler$Grammar") (k := 3) hx hb hB inB_RX4 hown hI rfl (by decide) m_144 (fun _ h9 => h9) ev21 dX4_readArguments_79 ?_
          obtain ⟨f22, ef22, hq⟩ := b_s hq
          refine fa_pt (own := RX4) (ref := "CoastlineRuler$Command") (k := 3) hx hb hB inB_RX3 tyX3_ok nmX3 hown hI rfl (by decide) m_180 (fun _ h9 => h9) (by decide) rfl rfl ef22 dX4_readArguments_82 (fun H locs hI => ?_)
          exact hj85 x0 x1 x2 f22 H locs ls hI (lv_sub hl [0, 1, 2] rfl) hq
        · replace hq := i_t c20 hq
          refine lv_iconst (v := (0 : Int32)) hx hb dX4_readArguments_75 (by decide) ?_
          exact ge_Wi hx hb hlocks hr (by decide +kernel) hI (congrArg (fun z => z.1) (Option.some.inj hq)) (congrArg (fun z => z.2) (Option.some.inj hq)) dX4_readArguments_76
    refine lv_if_eq (tgt := 52) hx hb dX4_readArguments_28 (by decide) (fun c23 => ?_) (fun c23 => ?_)
    · replace hq := i_t c23 hq
      exact hj52 a0 a1 v1 f5 H locs ls hI (lv_sub hl [1, 2, 0] rfl) hq
    · replace hq := i_f c23 hq
      refine lv_aload_n hx hb dX4_readArguments_31 rfl (lv_at hl 1 rfl) ?_
      refine lv_iconst (v := (0 : Int32)) hx hb dX4_readArguments_32 (by decide) ?_
      refine lv_sipush (v := (128 : Int32)) hx hb dX4_readArguments_33 (by decide) ?_
      obtain ⟨v24, ev24, hq⟩ := b_s hq
      refine gw_i (g_runV (As := [.int (0 : Int32), .int (128 : Int32)]) (rest := []) (ci := 7) hC (c_X4_readInteger l V g D cT f5 n a0 (0 : Int32) (128 : Int32) v24 ev24) k_X4_readInteger m_721 rfl rfl ⟨Nat.le_of_ble_eq_true rfl, Nat.le_of_ble_eq_true rfl⟩ hI rfl rfl (h_me_eq ev24).1 rfl hl.1 rfl (Nat.le_of_ble_eq_true rfl) dX4_readArguments_36 ⟨by decide, by decide⟩) hI (fun H locs hI => ?_)
      refine lv_if_ne (tgt := 44) hx hb dX4_readArguments_39 (by decide) (fun c25 => ?_) (fun c25 => ?_)
      · replace hq := i_f c25 hq
        refine lv_aload_n hx hb dX4_readArguments_44 rfl (lv_at hl 2 rfl) ?_
        refine lv_aload_n hx hb dX4_readArguments_45 rfl (lv_at hl 1 rfl) ?_
        obtain ⟨v26, ev26, hq⟩ := b_s hq
        refine fa_gi (own := RX4) (ref := "CoastlineRuler$Grammar") (k := 3) hx hb hB inB_RX4 hown hI rfl (by decide) m_144 (fun _ h9 => h9) ev26 dX4_readArguments_46 ?_
        obtain ⟨f27, ef27, hq⟩ := b_s hq
        refine fa_pt (own := RX4) (ref := "CoastlineRuler$Command") (k := 2) hx hb hB inB_RX3 tyX3_ok nmX3 hown hI rfl (by decide) m_177 (fun _ h9 => h9) (by decide) rfl rfl ef27 dX4_readArguments_49 (fun H locs hI => ?_)
        exact hj52 a0 a1 v1 f27 H locs ls hI (lv_sub hl [1, 2, 0] rfl) hq
      · replace hq := i_t c25 hq
        refine lv_iconst (v := (0 : Int32)) hx hb dX4_readArguments_42 (by decide) ?_
        exact ge_Wi hx hb hlocks hr (by decide +kernel) hI (congrArg (fun z => z.1) (Option.some.inj hq)) (congrArg (fun z => z.2) (Option.some.inj hq)) dX4_readArguments_43
  · replace hq := i_t c3 hq
    refine lv_iconst (v := (0 : Int32)) hx hb dX4_readArguments_14 (by decide) ?_
    exact ge_Wi hx hb hlocks hr (by decide +kernel) hI (congrArg (fun z => z.1) (Option.some.inj hq)) (congrArg (fun z => z.2) (Option.some.inj hq)) dX4_readArguments_15

def p_X4_readCommand (V : Nat → Nat) (g f : GH) (a0 : Nat) (a1 : Nat) : Option (Int32 × GH) :=
  h_me f a0 7 <|
  (p_X4_verbHere V g f a0).bind fun v1 =>
  (match v1 with
  | none =>
    (p_X4_fail V g f a0 (1 : Int32)).bind fun v19 =>
    (h_bz v19.1).bind fun _ =>
    some (v19.1, v19.2)
  | some v2 =>
    (p_X3_set V g f a1 v2 (0 : Int32) (0 : Int32) (0 : Int32) (0 : Int32)).bind fun v3 =>
    (h_gi g v2 50 2).bind fun v4 =>
    (if v4 = (0 : Int32) then
      (h_gr v3 a0 7 0).bind fun v6 =>
      (p_X5_advance V g v3 v6).bind fun v7 =>
      (if (some v2) = (some (V 11)) then
        (p_X4_readMetric V g v7 a0).bind fun v11 =>
        (h_gi v11.2 a0 7 4).bind fun v12 =>
        (h_bz v12).bind fun _ =>
        (h_pt v11.2 a1 6 5 (.int v12)).bind fun f14 =>
        (h_bz v11.1).bind fun _ =>
        some (v11.1, f14)
      else
        (p_X4_readArguments V g v7 a0 a1).bind fun v9 =>
        (h_bz v9.1).bind fun _ =>
        some (v9.1, v9.2))
    else
      (h_gr v3 a1 6 6).bind fun v16 =>
      (p_X4_readCoast V g v3 a0 v16).bind fun v17 =>
      (h_bz v17.1).bind fun _ =>
      some (v17.1, v17.2)))
abbrev rm_X4_readCommand : Room := { frames := 9, cells := 0, slots := 0, locals := 271 }
theorem k_X4_readCommand : g_CV yX4_readCommand cX4_readCommand 4 (some .boolean) 1 := ⟨⟨m_1174, m_5, by decide +kernel⟩, m_1173, ms_16⟩
set_option maxHeartbeats 4000000 in
set_option maxRecDepth 100000 in
theorem c_X4_readCommand (l : Launch) (V : Nat → Nat) (g : GH) (D : va_G) (cT : Nat → ClassId) (f : GH) (n : Nat) (a0 : Nat) (a1 : Nat) (o : Int32 × GH) (hq : p_X4_readCommand V g f a0 a1 = some o) : Met l yX4_readCommand (Cond.code yX4_readCommand cX4_readCommand 4 (some .boolean) :: g_B) rm_X4_readCommand (va_Pc [.ref a0, .ref a1] (g_I V g D cT f n)) (g_Wi V D cT o.1 o.2 n) 0 0 (g_A V) := by
  refine g_begin (own := RX4) [.ref a0, .ref a1] [(0, .ref a0), (1, .ref a1)] (g_A V) (fun _ h => h) (by decide) rfl (Nat.le_of_ble_eq_true rfl) rfl ?_
  intro p e s m args below meth c hx hb hr hlocks hin hC hI ls hl
  obtain ⟨hx, hb, hml, hown, hB⟩ := id hC
  obtain ⟨H, hH⟩ : ∃ H, H = s.heap := ⟨_, rfl⟩
  obtain ⟨locs, hlocs⟩ : ∃ L : List Loc, L = [] := ⟨_, rfl⟩
  rw [← hH, ← hlocs] at hI ⊢
  clear hH hlocs
  unfold p_X4_readCommand at hq
  replace hq := (h_me_eq hq).2
  refine lv_aload_n hx hb dX4_readCommand_0 rfl (lv_at hl 0 rfl) ?_
  obtain ⟨v1, ev1, hq⟩ := b_s hq
  refine gr_q (g_runV (As := []) (rest := []) (ci := 7) hC (c_X4_verbHere l V g D cT f n a0 v1 ev1) k_X4_verbHere m_736 rfl rfl ⟨Nat.le_of_ble_eq_true rfl, Nat.le_of_ble_eq_true rfl⟩ hI rfl rfl (h_me_eq ev1).1 rfl hl.1 rfl (Nat.le_of_ble_eq_true rfl) dX4_readCommand_1 ⟨by decide, by decide⟩) hI (fun H locs hI => ?_)
  refine lv_astore_nN2 (lv' := [(2, va_rf v1), (0, .ref a0), (1, .ref a1)]) hx hb dX4_readCommand_4 rfl hl (by decide) rfl (fun ls hl => ?_)
  refine lv_aload_nN2 hx hb dX4_readCommand_5 rfl (lv_at hl 0 rfl) ?_
  rcases v1 with _ | v2
  · refine lv_ifnonnullN hx hb dX4_readCommand_6 ?_
    refine lv_aload_n hx hb dX4_readCommand_9 rfl (lv_at hl 1 rfl) ?_
    refine lv_iconst (v := (1 : Int32)) hx hb dX4_readCommand_10 (by decide) ?_
    obtain ⟨v19, ev19, hq⟩ := b_s hq
    refine gw_i (g_runV (As := [.int (1 : Int32)]) (rest := []) (ci := 7) hC (c_X4_fail l V g D cT f n a0 (1 : Int32) v19 ev19) k_X4_fail m_700 rfl rfl ⟨Nat.le_of_ble_eq_true rfl, Nat.le_of_ble_eq_true rfl⟩ hI rfl rfl (h_me_eq ev19).1 rfl hl.1 rfl (Nat.le_of_ble_eq_true rfl) dX4_readCommand_11 ⟨by decide, by decide⟩) hI (fun H locs hI => ?_)
    obtain ⟨_, ev20, hq⟩ := b_s hq
    exact ge_Wi hx hb hlocks hr (h_bz_eq ev20).2.1 hI (congrArg (fun z => z.1) (Option.some.inj hq)) (congrArg (fun z => z.2) (Option.some.inj hq)) dX4_readCommand_14
  · refine lv_ifnonnull (tgt := 15) hx hb dX4_readCommand_6 (by decide) ?_
    refine lv_aload_n hx hb dX4_readCommand_15 rfl (lv_at hl 2 rfl) ?_
    refine lv_aload_n hx hb dX4_readCommand_16 rfl (lv_at hl 0 rfl) ?_
    refine lv_iconst (v := (0 : Int32)) hx hb dX4_readCommand_17 (by decide) ?_
    refine lv_iconst (v := (0 : Int32)) hx hb dX4_readCommand_18 (by decide) ?_
    refine lv_iconst (v := (0 : Int32)) hx hb dX4_readCommand_19 (by decide) ?_
    refine lv_iconst (v := (0 : Int32)) hx hb dX4_readCommand_20 (by decide) ?_
    obtain ⟨v3, ev3, hq⟩ := b_s hq
    refine gw_v (g_runV (As := [.ref v2, .int (0 : Int32), .int (0 : Int32), .int (0 : Int32), .int (0 : Int32)]) (rest := []) (ci := 6) hC (c_X3_set l V g D cT f n a1 v2 (0 : Int32) (0 : Int32) (0 : Int32) (0 : Int32) v3 ev3) k_X3_set m_1175 rfl rfl ⟨Nat.le_of_ble_eq_true rfl, Nat.le_of_ble_eq_true rfl⟩ hI rfl rfl (h_me_eq ev3).1 rfl hl.1 rfl (Nat.le_of_ble_eq_true rfl) dX4_readCommand_21 ⟨by decide, by decide⟩) hI (fun H locs hI => ?_)
    refine lv_aload_n hx hb dX4_readCommand_24 rfl (lv_at hl 0 rfl) ?_
    obtain ⟨v4, ev4, hq⟩ := b_s hq
    refine fs_gi (own := RX4) (ref := "CoastlineRuler$Verb") (k := 2) hx hb hB hown hI m_2222 (fun _ h9 => h9) ev4 dX4_readCommand_25 ?_
    refine lv_if_eq (tgt := 40) hx hb dX4_readCommand_28 (by decide) (fun c5 => ?_) (fun c5 => ?_)
    · replace hq := i_t c5 hq
      refine lv_aload_n hx hb dX4_readCommand_40 rfl (lv_at hl 1 rfl) ?_
      obtain ⟨v6, ev6, hq⟩ := b_s hq
      refine fa_gr (own := RX4) (ref := "CoastlineRuler$Grammar") (k := 0) hx hb hB inB_RX4 hown hI rfl (by decide) m_139 (fun _ h9 => h9) ev6 dX4_readCommand_41 ?_
      obtain ⟨v7, ev7, hq⟩ := b_s hq
      refine gw_v (g_runV (As := []) (rest := []) (ci := 8) hC (c_X5_advance l V g D cT v3 n v6 v7 ev7) k_X5_advance m_704 rfl rfl ⟨Nat.le_of_ble_eq_true rfl, Nat.le_of_ble_eq_true rfl⟩ hI rfl rfl (h_me_eq ev7).1 rfl hl.1 rfl (Nat.le_of_ble_eq_true rfl) dX4_readCommand_44 ⟨by decide, by decide⟩) hI (fun H locs hI => ?_)
      refine lv_aload_n hx hb dX4_readCommand_47 rfl (lv_at hl 0 rfl) ?_
      refine fs_gs (i := 10) hx hb hown hI rfl (hB _ m_1176) (fun _ h9 => h9) dX4_readCommand_48 ?_
      refine lv_acmp_ne (rx := (some v2)) (ry := (some (V 11))) (tgt := 69) hx hb dX4_readCommand_51 (by decide) (fun c8 => ?_) (fun c8 => ?_)
      · replace hq := i_f c8 hq
        refine lv_aload_n hx hb dX4_readCommand_69 rfl (lv_at hl 1 rfl) ?_
        refine lv_aload_n hx hb dX4_readCommand_70 rfl (lv_at hl 2 rfl) ?_
        obtain ⟨v9, ev9, hq⟩ := b_s hq
        refine gw_i (g_runV (As := [.ref a1]) (rest := []) (ci := 7) hC (c_X4_readArguments l V g D cT v7 n a0 a1 v9 ev9) k_X4_readArguments m_1177 rfl rfl ⟨Nat.le_of_ble_eq_true rfl, Nat.le_of_ble_eq_true rfl⟩ hI rfl rfl (h_me_eq ev9).1 rfl hl.1 rfl (Nat.le_of_ble_eq_true rfl) dX4_readCommand_71 ⟨by decide, by decide⟩) hI (fun H locs hI => ?_)
        obtain ⟨_, ev10, hq⟩ := b_s hq
        exact ge_Wi hx hb hlocks hr (h_bz_eq ev10).2.1 hI (congrArg (fun z => z.1) (Option.some.inj hq)) (congrArg (fun z => z.2) (Option.some.inj hq)) dX4_readCommand_74
      · replace hq := i_t c8 hq
        refine lv_aload_n hx hb dX4_readCommand_54 rfl (lv_at hl 1 rfl) ?_
        obtain ⟨v11, ev11, hq⟩ := b_s hq
        refine gw_i (g_runV (As := []) (rest := []) (ci := 7) hC (c_X4_readMetric l V g D cT v7 n a0 v11 ev11) k_X4_readMetric m_705 rfl rfl ⟨Nat.le_of_ble_eq_true rfl, Nat.le_of_ble_eq_true rfl⟩ hI rfl rfl (h_me_eq ev11).1 rfl hl.1 rfl (Nat.le_of_ble_eq_true rfl) dX4_readCommand_55 ⟨by decide, by decide⟩) hI (fun H locs hI => ?_)
        refine lv_istore_n (lv' := [(3, .int v11.1), (2, .ref v2), (0, .ref a0), (1, .ref a1)]) hx hb dX4_readCommand_58 rfl hl (by decide) rfl (fun ls hl => ?_)
        refine lv_aload_n hx hb dX4_readCommand_59 rfl (lv_at hl 3 rfl) ?_
        refine lv_aload_n hx hb dX4_readCommand_60 rfl (lv_at hl 2 rfl) ?_
        obtain ⟨v12, ev12, hq⟩ := b_s hq
        refine fa_gi (own := RX4) (ref := "CoastlineRuler$Grammar") (k := 4) hx hb hB inB_RX4 hown hI rfl (by decide) m_145 (fun _ h9 => h9) ev12 dX4_readCommand_61 ?_
        obtain ⟨_, ev13, hq⟩ := b_s hq
        obtain ⟨f14, ef14, hq⟩ := b_s hq
        refine fa_pt (own := RX4) (ref := "CoastlineRuler$Command") (k := 5) hx hb hB inB_RX3 tyX3_ok nmX3 hown hI rfl (by decide) m_185 (fun _ h9 => h9) (by decide) (h_bz_eq ev13).2.1 (h_bz_eq ev13).2.2 ef14 dX4_readCommand_64 (fun H locs hI => ?_)
        refine lv_iload_n hx hb dX4_readCommand_67 rfl (lv_at hl 0 rfl) ?_
        obtain ⟨_, ev15, hq⟩ := b_s hq
        exact ge_Wi hx hb hlocks hr (h_bz_eq ev15).2.1 hI (congrArg (fun z => z.1) (Option.some.inj hq)) (congrArg (fun z => z.2) (Option.some.inj hq)) dX4_readCommand_68
    · replace hq := i_f c5 hq
      refine lv_aload_n hx hb dX4_readCommand_31 rfl (lv_at hl 1 rfl) ?_
      refine lv_aload_n hx hb dX4_readCommand_32 rfl (lv_at hl 2 rfl) ?_
      obtain ⟨v16, ev16, hq⟩ := b_s hq
      refine fa_gr (own := RX4) (ref := "CoastlineRuler$Command") (k := 6) hx hb hB inB_RX3 hown hI rfl (by decide) m_189 (fun _ h9 => h9) ev16 dX4_readCommand_33 ?_
      obtain ⟨v17, ev17, hq⟩ := b_s hq
      refine gw_i (g_runV (As := [.ref v16]) (rest := []) (ci := 7) hC (c_X4_readCoast l V g D cT v3 n a0 v16 v17 ev17) k_X4_readCoast m_715 rfl rfl ⟨Nat.le_of_ble_eq_true rfl, Nat.le_of_ble_eq_true rfl⟩ hI rfl rfl (h_me_eq ev17).1 rfl hl.1 rfl (Nat.le_of_ble_eq_true rfl) dX4_readCommand_36 ⟨by decide, by decide⟩) hI (fun H locs hI => ?_)
      obtain ⟨_, ev18, hq⟩ := b_s hq
      exact ge_Wi hx hb hlocks hr (h_bz_eq ev18).2.1 hI (congrArg (fun z => z.1) (Option.some.inj hq)) (congrArg (fun z => z.2) (Option.some.inj hq)) dX4_readCommand_39

def p_X4_readScript_l7 (V : Nat → Nat) (g : GH) (K23 : Int32 → GH → Option (Int32 × GH)) (K43 : GH → Option (Int32 × GH)) (K51 : Nat → Nat → GH → Option (Int32 × GH)) : Nat → Nat → Nat → Int32 → GH → Option (Int32 × GH)
  | 0, _, _, _, _ => none
  | N + 1, x0, x2, x3, f =>
    (h_al f x2 6).bind fun v2 =>
    (if v2 ≤ x3 then
      K51 x0 x2 f
    else
      (h_gr f x0 7 0).bind fun v4 =>
      (h_gi f v4 8 3).bind fun v5 =>
      (if v5 = (0 : Int32) then
        K23 x3 f
      else
        (h_lq f x2 6 x3).bind fun v7 =>
        (p_X4_readCommand V g f x0 v7).bind fun v8 =>
        (if v8.1 = (0 : Int32) then
          K43 v8.2
        else
          (p_X4_take V g v8.2 x0 (3 : Int32)).bind fun v10 =>
          (if v10.1 = (0 : Int32) then
            K43 v10.2
          else
            p_X4_readScript_l7 V g K23 K43 K51 N x0 x2 (x3 + (1 : Int32)) v10.2))))
def p_X4_readScript (V : Nat → Nat) (g f : GH) (a0 : Nat) (a1 : Int32) (a2 : Nat) : Option (Int32 × GH) :=
  h_me f a0 7 <|
  (p_X4_begin V g f a0 a1).bind fun v1 =>
  p_X4_readScript_l7 V g (fun x3 f =>
    some (x3, f)) (fun f =>
    some ((-1 : Int32), f)) (fun x0 x2 f =>
    (h_gr f x0 7 0).bind fun v12 =>
    (h_gi f v12 8 3).bind fun v13 =>
    (if v13 = (0 : Int32) then
      (h_al f x2 6).bind fun v19 =>
      some (v19, f)
    else
      (p_X4_verbHere V g f x0).bind fun v15 =>
      (match v15 with
      | none =>
        (p_X4_fail V g f x0 (1 : Int32)).bind fun v18 =>
        some ((-1 : Int32), v18.2)
      | some v16 =>
        (p_X4_fail V g f x0 (3 : Int32)).bind fun v17 =>
        some ((-1 : Int32), v17.2)))) FU a0 a2 (0 : Int32) v1
abbrev rm_X4_readScript : Room := { frames := 10, cells := 0, slots := 0, locals := 294 }
theorem k_X4_readScript : g_CV yX4_readScript cX4_readScript 4 (some .int) 2 := ⟨⟨m_1170, m_5, by decide +kernel⟩, m_1168, m_1169⟩
set_option maxHeartbeats 4000000 in
set_option maxRecDepth 100000 in
theorem c_X4_readScript (l : Launch) (V : Nat → Nat) (g : GH) (D : va_G) (cT : Nat → ClassId) (f : GH) (n : Nat) (a0 : Nat) (a1 : Int32) (a2 : Nat) (o : Int32 × GH) (hq : p_X4_readScript V g f a0 a1 a2 = some o) : Met l yX4_readScript (Cond.code yX4_readScript cX4_readScript 4 (some .int) :: g_B) rm_X4_readScript (va_Pc [.ref a0, .int a1, .ref a2] (g_I V g D cT f n)) (g_Wi V D cT o.1 o.2 n) 0 0 (g_A V) := by
  refine g_begin (own := RX4) [.ref a0, .int a1, .ref a2] [(0, .ref a0), (1, .int a1), (2, .ref a2)] (g_A V) (fun _ h => h) (by decide) rfl (Nat.le_of_ble_eq_true rfl) rfl ?_
  intro p e s m args below meth c hx hb hr hlocks hin hC hI ls hl
  obtain ⟨hx, hb, hml, hown, hB⟩ := id hC
  obtain ⟨H, hH⟩ : ∃ H, H = s.heap := ⟨_, rfl⟩
  obtain ⟨locs, hlocs⟩ : ∃ L : List Loc, L = [] := ⟨_, rfl⟩
  rw [← hH, ← hlocs] at hI ⊢
  clear hH hlocs
  unfold p_X4_readScript at hq
  replace hq := (h_me_eq hq).2
  refine lv_aload_n hx hb dX4_readScript_0 rfl (lv_at hl 0 rfl) ?_
  refine lv_iload_n hx hb dX4_readScript_1 rfl (lv_at hl 1 rfl) ?_
  obtain ⟨v1, ev1, hq⟩ := b_s hq
  refine gw_v (g_runV (As := [.int a1]) (rest := []) (ci := 7) hC (c_X4_begin l V g D cT f n a0 a1 v1 ev1) k_X4_begin m_625 rfl rfl ⟨Nat.le_of_ble_eq_true rfl, Nat.le_of_ble_eq_true rfl⟩ hI rfl rfl (h_me_eq ev1).1 rfl hl.1 rfl (Nat.le_of_ble_eq_true rfl) dX4_readScript_2 ⟨by decide, by decide⟩) hI (fun H locs hI => ?_)
  refine lv_iconst (v := (0 : Int32)) hx hb dX4_readScript_5 (by decide) ?_
  refine lv_istore_n (lv' := [(3, .int (0 : Int32)), (0, .ref a0), (1, .int a1), (2, .ref a2)]) hx hb dX4_readScript_6 rfl hl (by decide) rfl (fun ls hl => ?_)
  have hl7 : ∀ (K23 : Int32 → GH → Option (Int32 × GH)) (hK23 : ∀ (x3 : Int32) (f : GH) (H : Heap) (locs : List Loc) (ls : Array Slot), g_at (g_A V) V g D cT f n s H locs → lv_has ls 4 [(3, .int x3)] → K23 x3 f = some o → W p l e rm_X4_readScript s m args below meth c H locs 0 0 (MQ below (g_Wi V D cT o.1 o.2 n) args s 0 0 (g_A V)) (F0 m 23 ls [])) (K43 : GH → Option (Int32 × GH)) (hK43 : ∀ (f : GH) (H : Heap) (locs : List Loc) (ls : Array Slot), g_at (g_A V) V g D cT f n s H locs → lv_has ls 4 [] → K43 f = some o → W p l e rm_X4_readScript s m args below meth c H locs 0 0 (MQ below (g_Wi V D cT o.1 o.2 n) args s 0 0 (g_A V)) (F0 m 43 ls [])) (K51 : Nat → Nat → GH → Option (Int32 × GH)) (hK51 : ∀ (x0 : Nat) (x2 : Nat) (f : GH) (H : Heap) (locs : List Loc) (ls : Array Slot), g_at (g_A V) V g D cT f n s H locs → lv_has ls 4 [(0, .ref x0), (2, .ref x2)] → K51 x0 x2 f = some o → W p l e rm_X4_readScript s m args below meth c H locs 0 0 (MQ below (g_Wi V D cT o.1 o.2 n) args s 0 0 (g_A V)) (F0 m 51 ls [])) (N : Nat) (x0 : Nat) (x2 : Nat) (x3 : Int32) (f : GH) (H : Heap) (locs : List Loc) (ls : Array Slot), g_at (g_A V) V g D cT f n s H locs → lv_has ls 4 [(0, .ref x0), (2, .ref x2), (3, .int x3)] → p_X4_readScript_l7 V g K23 K43 K51 N x0 x2 x3 f = some o → W p l e rm_X4_readScript s m args below meth c H locs 0 0 (MQ below (g_Wi V D cT o.1 o.2 n) args s 0 0 (g_A V)) (F0 m 7 ls []) := by
    intro K23 hK23 K43 hK43 K51 hK51 N
    induction N with
    | zero =>
      intro x0 x2 x3 f H locs ls hI hl hq
      rw [p_X4_readScript_l7] at hq
      cases hq
    | succ N ih =>
      intro x0 x2 x3 f H locs ls hI hl hq
      rw [p_X4_readScript_l7] at hq
      refine lv_iload_n hx hb dX4_readScript_7 rfl (lv_at hl 2 rfl) ?_
      refine lv_aload_n hx hb dX4_readScript_8 rfl (lv_at hl 1 rfl) ?_
      obtain ⟨v2, ev2, hq⟩ := b_s hq
      refine fa_al hx hb hI (by decide) ev2 dX4_readScript_9 ?_
      refine lv_icmp_ge (tgt := 51) hx hb dX4_readScript_10 (by decide) (fun c3 => ?_) (fun c3 => ?_)
      · replace hq := i_t c3 hq
        exact hK51 x0 x2 f H locs ls hI (lv_sub hl [0, 1] rfl) hq
      · replace hq := i_f c3 hq
        refine lv_aload_n hx hb dX4_readScript_13 rfl (lv_at hl 0 rfl) ?_
        obtain ⟨v4, ev4, hq⟩ := b_s hq
        refine fa_gr (own := RX4) (ref := "CoastlineRuler$Grammar") (k := 0) hx hb hB inB_RX4 hown hI rfl (by decide) m_139 (fun _ h9 => h9) ev4 dX4_readScript_14 ?_
        obtain ⟨v5, ev5, hq⟩ := b_s hq
        refine fa_gi (own := RX4) (ref := "CoastlineRuler$Tokens") (k := 3) hx hb hB inB_RX5 hown hI rfl (by decide) m_114 (fun _ h9 => h9) ev5 dX4_readScript_17 ?_
        refine lv_if_ne (tgt := 25) hx hb dX4_readScript_20 (by decide) (fun c6 => ?_) (fun c6 => ?_)
        · replace hq := i_f c6 hq
          refine lv_aload_n hx hb dX4_readScript_25 rfl (lv_at hl 0 rfl) ?_
          refine lv_aload_n hx hb dX4_readScript_26 rfl (lv_at hl 1 rfl) ?_
          refine lv_iload_n hx hb dX4_readScript_27 rfl (lv_at hl 2 rfl) ?_
          obtain ⟨v7, ev7, hq⟩ := b_s hq
          refine fa_lq hx hb hI (by decide) rfl ev7 dX4_readScript_28 ?_
          obtain ⟨v8, ev8, hq⟩ := b_s hq
          refine gw_i (g_runV (As := [.ref v7]) (rest := []) (ci := 7) hC (c_X4_readCommand l V g D cT f n x0 v7 v8 ev8) k_X4_readCommand m_1171 rfl rfl ⟨Nat.le_of_ble_eq_true rfl, Nat.le_of_ble_eq_true rfl⟩ hI rfl rfl (h_me_eq ev8).1 rfl hl.1 rfl (Nat.le_of_ble_eq_true rfl) dX4_readScript_29 ⟨by decide, by decide⟩) hI (fun H locs hI => ?_)
          refine lv_if_eq (tgt := 43) hx hb dX4_readScript_32 (by decide) (fun c9 => ?_) (fun c9 => ?_)
          · replace hq := i_t c9 hq
            exact hK43 v8.2 H locs ls hI (lv_sub hl [] rfl) hq
          · replace hq := i_f c9 hq
            refine lv_aload_n hx hb dX4_readScript_35 rfl (lv_at hl 0 rfl) ?_
            refine lv_iconst (v := (3 : Int32)) hx hb dX4_readScript_36 (by decide) ?_
            obtain ⟨v10, ev10, hq⟩ := b_s hq
            refine gw_i (g_runV (As := [.int (3 : Int32)]) (rest := []) (ci := 7) hC (c_X4_take l V g D cT v8.2 n x0 (3 : Int32) v10 ev10) k_X4_take m_711 rfl rfl ⟨Nat.le_of_ble_eq_true rfl, Nat.le_of_ble_eq_true rfl⟩ hI rfl rfl (h_me_eq ev10).1 rfl hl.1 rfl (Nat.le_of_ble_eq_true rfl) dX4_readScript_37 ⟨by decide, by decide⟩) hI (fun H locs hI => ?_)
            refine lv_if_ne (tgt := 45) hx hb dX4_readScript_40 (by decide) (fun c11 => ?_) (fun c11 => ?_)
            · replace hq := i_f c11 hq
              refine lv_iinc (v := x3 + (1 : Int32)) (lv' := [(3, .int (x3 + (1 : Int32))), (0, .ref x0), (2, .ref x2)]) hx hb dX4_readScript_45 hl (k := 2) rfl rfl (by decide) rfl (fun ls hl => ?_)
              refine lv_goto (tgt := 7) hx hb dX4_readScript_48 (by decide) ?_
              exact ih x0 x2 (x3 + (1 : Int32)) v10.2 H locs ls hI (lv_sub hl [1, 2, 0] rfl) hq
            · replace hq := i_t c11 hq
              exact hK43 v10.2 H locs ls hI (lv_sub hl [] rfl) hq
        · replace hq := i_t c6 hq
          exact hK23 x3 f H locs ls hI (lv_sub hl [2] rfl) hq
  refine hl7 _ ?_ _ ?_ _ ?_ FU a0 a2 (0 : Int32) v1 H locs ls hI (lv_sub hl [1, 3, 0] rfl) hq
  · intro x3 f H locs ls hI hl hq
    refine lv_iload_n hx hb dX4_readScript_23 rfl (lv_at hl 0 rfl) ?_
    exact ge_Wi hx hb hlocks hr rfl hI (congrArg (fun z => z.1) (Option.some.inj hq)) (congrArg (fun z => z.2) (Option.some.inj hq)) dX4_readScript_24
  · intro f H locs ls hI hl hq
    refine lv_iconst (v := (-1 : Int32)) hx hb dX4_readScript_43 (by decide) ?_
    exact ge_Wi hx hb hlocks hr rfl hI (congrArg (fun z => z.1) (Option.some.inj hq)) (congrArg (fun z => z.2) (Option.some.inj hq)) dX4_readScript_44
  · intro x0 x2 f H locs ls hI hl hq
    refine lv_aload_n hx hb dX4_readScript_51 rfl (lv_at hl 0 rfl) ?_
    obtain ⟨v12, ev12, hq⟩ := b_s hq
    refine fa_gr (own := RX4) (ref := "CoastlineRuler$Grammar") (k := 0) hx hb hB inB_RX4 hown hI rfl (by decide) m_139 (fun _ h9 => h9) ev12 dX4_readScript_52 ?_
    obtain ⟨v13, ev13, hq⟩ := b_s hq
    refine fa_gi (own := RX4) (ref := "CoastlineRuler$Tokens") (k := 3) hx hb hB inB_RX5 hown hI rfl (by decide) m_114 (fun _ h9 => h9) ev13 dX4_readScript_55 ?_
    refine lv_if_ne (tgt := 64) hx hb dX4_readScript_58 (by decide) (fun c14 => ?_) (fun c14 => ?_)
    · replace hq := i_f c14 hq
      refine lv_aload_n hx hb dX4_readScript_64 rfl (lv_at hl 0 rfl) ?_
      refine lv_aload_n hx hb dX4_readScript_65 rfl (lv_at hl 0 rfl) ?_
      obtain ⟨v15, ev15, hq⟩ := b_s hq
      refine gr_q (g_runV (As := []) (rest := [.ref x0]) (ci := 7) hC (c_X4_verbHere l V g D cT f n x0 v15 ev15) k_X4_verbHere m_736 rfl rfl ⟨Nat.le_of_ble_eq_true rfl, Nat.le_of_ble_eq_true rfl⟩ hI rfl rfl (h_me_eq ev15).1 rfl hl.1 rfl (Nat.le_of_ble_eq_true rfl) dX4_readScript_66 ⟨by decide, by decide⟩) hI (fun H locs hI => ?_)
      rcases v15 with _ | v16
      · refine lv_ifnonnullN hx hb dX4_readScript_69 ?_
        refine lv_iconst (v := (1 : Int32)) hx hb dX4_readScript_72 (by decide) ?_
        refine lv_goto (tgt := 77) hx hb dX4_readScript_73 (by decide) ?_
        obtain ⟨v18, ev18, hq⟩ := b_s hq
        refine gw_i (g_runV (As := [.int (1 : Int32)]) (rest := []) (ci := 7) hC (c_X4_fail l V g D cT f n x0 (1 : Int32) v18 ev18) k_X4_fail m_700 rfl rfl ⟨Nat.le_of_ble_eq_true rfl, Nat.le_of_ble_eq_true rfl⟩ hI rfl rfl (h_me_eq ev18).1 rfl hl.1 rfl (Nat.le_of_ble_eq_true rfl) dX4_readScript_77 ⟨by decide, by decide⟩) hI (fun H locs hI => ?_)
        refine lv_pop hx hb dX4_readScript_80 rfl ?_
        refine lv_iconst (v := (-1 : Int32)) hx hb dX4_readScript_81 (by decide) ?_
        exact ge_Wi hx hb hlocks hr rfl hI (congrArg (fun z => z.1) (Option.some.inj hq)) (congrArg (fun z => z.2) (Option.some.inj hq)) dX4_readScript_82
      · refine lv_ifnonnull (tgt := 76) hx hb dX4_readScript_69 (by decide) ?_
        refine lv_iconst (v := (3 : Int32)) hx hb dX4_readScript_76 (by decide) ?_
        obtain ⟨v17, ev17, hq⟩ := b_s hq
        refine gw_i (g_runV (As := [.int (3 : Int32)]) (rest := []) (ci := 7) hC (c_X4_fail l V g D cT f n x0 (3 : Int32) v17 ev17) k_X4_fail m_700 rfl rfl ⟨Nat.le_of_ble_eq_true rfl, Nat.le_of_ble_eq_true rfl⟩ hI rfl rfl (h_me_eq ev17).1 rfl hl.1 rfl (Nat.le_of_ble_eq_true rfl) dX4_readScript_77 ⟨by decide, by decide⟩) hI (fun H locs hI => ?_)
        refine lv_pop hx hb dX4_readScript_80 rfl ?_
        refine lv_iconst (v := (-1 : Int32)) hx hb dX4_readScript_81 (by decide) ?_
        exact ge_Wi hx hb hlocks hr rfl hI (congrArg (fun z => z.1) (Option.some.inj hq)) (congrArg (fun z => z.2) (Option.some.inj hq)) dX4_readScript_82
    · replace hq := i_t c14 hq
      refine lv_aload_n hx hb dX4_readScript_61 rfl (lv_at hl 1 rfl) ?_
      obtain ⟨v19, ev19, hq⟩ := b_s hq
      refine fa_al hx hb hI (by decide) ev19 dX4_readScript_62 ?_
      exact ge_Wi hx hb hlocks hr rfl hI (congrArg (fun z => z.1) (Option.some.inj hq)) (congrArg (fun z => z.2) (Option.some.inj hq)) dX4_readScript_63

def p_X5_init (V : Nat → Nat) (g f : GH) (n : Nat) (a0 : Nat) : Option (GH × Nat) :=
  h_me f a0 8 <|
  (some (h_up f n (.inl (1, 700, .inl (fun _ => 0))))).bind fun f1 =>
  (h_pt f1 a0 8 0 (.ref n)).bind fun f2 =>
  some (f2, n + 1)
abbrev rm_X5_init : Room := { frames := 2, cells := 1, slots := 700, locals := 120 }
theorem k_X5_init : g_CI yX5_init cX5_init 1 0 := ⟨⟨m_108, m_4, by decide +kernel⟩, rfl, m_107⟩
set_option maxHeartbeats 4000000 in
set_option maxRecDepth 100000 in
theorem c_X5_init (l : Launch) (V : Nat → Nat) (g : GH) (D : va_G) (cT : Nat → ClassId) (f : GH) (n : Nat) (a0 : Nat) (o : GH × Nat) (hq : p_X5_init V g f n a0 = some o) : Met l yX5_init (Cond.code yX5_init cX5_init 1 none :: g_B) rm_X5_init (va_Pc [.ref a0] (g_I V g D cT f n)) (g_Wv V D cT o.1 o.2) 1 700 (g_A V) := by
  refine g_begin (own := RX5) [.ref a0] [(0, .ref a0)] (g_A V) (fun _ h => h) (by decide) rfl (Nat.le_of_ble_eq_true rfl) rfl ?_
  intro p e s m args below meth c hx hb hr hlocks hin hC hI ls hl
  obtain ⟨hx, hb, hml, hown, hB⟩ := id hC
  obtain ⟨H, hH⟩ : ∃ H, H = s.heap := ⟨_, rfl⟩
  obtain ⟨locs, hlocs⟩ : ∃ L : List Loc, L = [] := ⟨_, rfl⟩
  rw [← hH, ← hlocs] at hI ⊢
  clear hH hlocs
  unfold p_X5_init at hq
  replace hq := (h_me_eq hq).2
  refine lv_aload_n hx hb dX5_init_0 rfl (lv_at hl 0 rfl) ?_
  refine W.objInit hx hb hown (hB _ m_109) (hB _ m_36) (hB _ m_37) rfl (by rw [hml]; exact hl.1) rfl dX5_init_1 (Nat.le_of_ble_eq_true rfl) (Nat.le_of_ble_eq_true rfl) ?_
  refine W.eq (g2 := F0 m 4 ls []) rfl ?_
  refine lv_aload_n hx hb dX5_init_4 rfl (lv_at hl 0 rfl) ?_
  refine lv_sipush (v := (700 : Int32)) hx hb dX5_init_5 (by decide) ?_
  obtain ⟨f1, ef1, hq⟩ := b_s hq
  refine fa_newa (atype := .byte) (N := 700) (t := 1) hx hb hB m_132 rfl (by decide) hI (fun _ => rfl) (by decide) (by decide +kernel) (by decide +kernel) (by decide) (by decide) ef1 dX5_init_8 (fun H locs hI => ?_)
  obtain ⟨f2, ef2, hq⟩ := b_s hq
  refine fa_ptF (own := RX5) (ref := "CoastlineRuler$Tokens") (k := 0) hx hb hB inB_RX5 tyX5_ok nmX5 hown hI rfl (by decide) m_110 (fun _ h9 => h9) (by decide) hin (by decide) rfl rfl ef2 dX5_init_10 (fun H locs hI => ?_)
  obtain rfl := Option.some.inj hq
  exact ge_Wv hx hb hlocks hr hI rfl dX5_init_13

def p_X5_append_l3 (V : Nat → Nat) (g : GH) (K46 : GH → Option GH) : Nat → Nat → Int32 → Int32 → GH → Option GH
  | 0, _, _, _, _ => none
  | N + 1, x0, x1, x2, f =>
    (if x2 < (0 : Int32) then
      K46 f
    else
      (h_gi f x0 8 1).bind fun v2 =>
      (if (700 : Int32) ≤ v2 then
        K46 f
      else
        (h_gr f x0 8 0).bind fun v4 =>
        (h_gi f x0 8 1).bind fun v5 =>
        (h_sb f v4 1 v5 ((x1 >>> (x2 &&& 31)).toInt8.toInt32)).bind fun f6 =>
        (h_gi f6 x0 8 1).bind fun v7 =>
        (h_pt f6 x0 8 1 (.int (v7 + (1 : Int32)))).bind fun f8 =>
        p_X5_append_l3 V g K46 N x0 x1 (x2 + (-8 : Int32)) f8))
def p_X5_append (V : Nat → Nat) (g f : GH) (a0 : Nat) (a1 : Int32) : Option GH :=
  h_me f a0 8 <|
  p_X5_append_l3 V g (fun f =>
    some f) FU a0 a1 (24 : Int32) f
abbrev rm_X5_append : Room := { frames := 2, cells := 0, slots := 0, locals := 120 }
theorem k_X5_append : g_CV yX5_append cX5_append 3 none 1 := ⟨⟨m_312, m_4, by decide +kernel⟩, m_310, m_311⟩
set_option maxHeartbeats 4000000 in
set_option maxRecDepth 100000 in
theorem c_X5_append (l : Launch) (V : Nat → Nat) (g : GH) (D : va_G) (cT : Nat → ClassId) (f : GH) (n : Nat) (a0 : Nat) (a1 : Int32) (o : GH) (hq : p_X5_append V g f a0 a1 = some o) : Met l yX5_append (Cond.code yX5_append cX5_append 3 none :: g_B) rm_X5_append (va_Pc [.ref a0, .int a1] (g_I V g D cT f n)) (g_Wv V D cT o n) 0 0 (g_A V) := by
  refine g_begin (own := RX5) [.ref a0, .int a1] [(0, .ref a0), (1, .int a1)] (g_A V) (fun _ h => h) (by decide) rfl (Nat.le_of_ble_eq_true rfl) rfl ?_
  intro p e s m args below meth c hx hb hr hlocks hin hC hI ls hl
  obtain ⟨hx, hb, hml, hown, hB⟩ := id hC
  obtain ⟨H, hH⟩ : ∃ H, H = s.heap := ⟨_, rfl⟩
  obtain ⟨locs, hlocs⟩ : ∃ L : List Loc, L = [] := ⟨_, rfl⟩
  rw [← hH, ← hlocs] at hI ⊢
  clear hH hlocs
  unfold p_X5_append at hq
  replace hq := (h_me_eq hq).2
  refine lv_bipush (v := (24 : Int32)) hx hb dX5_append_0 (by decide) ?_
  refine lv_istore_n (lv' := [(2, .int (24 : Int32)), (0, .ref a0), (1, .int a1)]) hx hb dX5_append_2 rfl hl (by decide) rfl (fun ls hl => ?_)
  have hl3 : ∀ (K46 : GH → Option GH) (hK46 : ∀ (f : GH) (H : Heap) (locs : List Loc) (ls : Array Slot), g_at (g_A V) V g D cT f n s H locs → lv_has ls 3 [] → K46 f = some o → W p l e rm_X5_append s m args below meth c H locs 0 0 (MQ below (g_Wv V D cT o n) args s 0 0 (g_A V)) (F0 m 46 ls [])) (N : Nat) (x0 : Nat) (x1 : Int32) (x2 : Int32) (f : GH) (H : Heap) (locs : List Loc) (ls : Array Slot), g_at (g_A V) V g D cT f n s H locs → lv_has ls 3 [(0, .ref x0), (1, .int x1), (2, .int x2)] → p_X5_append_l3 V g K46 N x0 x1 x2 f = some o → W p l e rm_X5_append s m args below meth c H locs 0 0 (MQ below (g_Wv V D cT o n) args s 0 0 (g_A V)) (F0 m 3 ls []) := by
    intro K46 hK46 N
    induction N with
    | zero =>
      intro x0 x1 x2 f H locs ls hI hl hq
      rw [p_X5_append_l3] at hq
      cases hq
    | succ N ih =>
      intro x0 x1 x2 f H locs ls hI hl hq
      rw [p_X5_append_l3] at hq
      refine lv_iload_n hx hb dX5_append_3 rfl (lv_at hl 2 rfl) ?_
      refine lv_if_lt (tgt := 46) hx hb dX5_append_4 (by decide) (fun c1 => ?_) (fun c1 => ?_)
      · replace hq := i_t c1 hq
        exact hK46 f H locs ls hI (lv_sub hl [] rfl) hq
      · replace hq := i_f c1 hq
        refine lv_aload_n hx hb dX5_append_7 rfl (lv_at hl 0 rfl) ?_
        obtain ⟨v2, ev2, hq⟩ := b_s hq
        refine fa_gi (own := RX5) (ref := "CoastlineRuler$Tokens") (k := 1) hx hb hB inB_RX5 hown hI rfl (by decide) m_112 (fun _ h9 => h9) ev2 dX5_append_8 ?_
        refine lv_sipush (v := (700 : Int32)) hx hb dX5_append_11 (by decide) ?_
        refine lv_icmp_ge (tgt := 46) hx hb dX5_append_14 (by decide) (fun c3 => ?_) (fun c3 => ?_)
        · replace hq := i_t c3 hq
          exact hK46 f H locs ls hI (lv_sub hl [] rfl) hq
        · replace hq := i_f c3 hq
          refine lv_aload_n hx hb dX5_append_17 rfl (lv_at hl 0 rfl) ?_
          obtain ⟨v4, ev4, hq⟩ := b_s hq
          refine fa_gr (own := RX5) (ref := "CoastlineRuler$Tokens") (k := 0) hx hb hB inB_RX5 hown hI rfl (by decide) m_110 (fun _ h9 => h9) ev4 dX5_append_18 ?_
          refine lv_aload_n hx hb dX5_append_21 rfl (lv_at hl 0 rfl) ?_
          obtain ⟨v5, ev5, hq⟩ := b_s hq
          refine fa_gi (own := RX5) (ref := "CoastlineRuler$Tokens") (k := 1) hx hb hB inB_RX5 hown hI rfl (by decide) m_112 (fun _ h9 => h9) ev5 dX5_append_22 ?_
          refine lv_iload_n hx hb dX5_append_25 rfl (lv_at hl 1 rfl) ?_
          refine lv_iload_n hx hb dX5_append_26 rfl (lv_at hl 2 rfl) ?_
          refine lv_ishr hx hb dX5_append_27 ?_
          refine lv_i2b (v := (x1 >>> (x2 &&& 31)).toInt8.toInt32) hx hb dX5_append_28 rfl ?_
          obtain ⟨f6, ef6, hq⟩ := b_s hq
          refine fa_sb hx hb hI ef6 dX5_append_29 (fun H locs hI => ?_)
          refine lv_aload_n hx hb dX5_append_30 rfl (lv_at hl 0 rfl) ?_
          refine lv_dup hx hb dX5_append_31 rfl ?_
          obtain ⟨v7, ev7, hq⟩ := b_s hq
          refine fa_gi (own := RX5) (ref := "CoastlineRuler$Tokens") (k := 1) hx hb hB inB_RX5 hown hI rfl (by decide) m_112 (fun _ h9 => h9) ev7 dX5_append_32 ?_
          refine lv_iconst (v := (1 : Int32)) hx hb dX5_append_35 (by decide) ?_
          refine lv_iadd hx hb dX5_append_36 ?_
          obtain ⟨f8, ef8, hq⟩ := b_s hq
          refine fa_pt (own := RX5) (ref := "CoastlineRuler$Tokens") (k := 1) hx hb hB inB_RX5 tyX5_ok nmX5 hown hI rfl (by decide) m_112 (fun _ h9 => h9) (by decide) rfl rfl ef8 dX5_append_37 (fun H locs hI => ?_)
          refine lv_iinc (v := x2 + (-8 : Int32)) (lv' := [(2, .int (x2 + (-8 : Int32))), (0, .ref x0), (1, .int x1)]) hx hb dX5_append_40 hl (k := 2) rfl rfl (by decide) rfl (fun ls hl => ?_)
          refine lv_goto (tgt := 3) hx hb dX5_append_43 (by decide) ?_
          exact ih x0 x1 (x2 + (-8 : Int32)) f8 H locs ls hI (lv_sub hl [1, 2, 0] rfl) hq
  refine hl3 _ ?_ FU a0 a1 (24 : Int32) f H locs ls hI (lv_sub hl [1, 2, 0] rfl) hq
  · intro f H locs ls hI hl hq
    exact ge_Wv hx hb hlocks hr hI (Option.some.inj hq) dX5_append_46

def p_J5_init_d00df (V : Nat → Nat) (g f : GH) (n : Nat) (a0 : Nat) (a1 : Int32) : Option (GH × Nat) :=
  h_me f a0 1 <|
  (h_nv f n 1 a1 200).bind fun f1 =>
  (h_pt f1 a0 1 0 (.ref n)).bind fun f2 =>
  (h_pt f2 a0 1 1 (.int (0 : Int32))).bind fun f3 =>
  some (f3, n + 1)
abbrev rm_J5_init_d00df : Room := { frames := 2, cells := 1, slots := 200, locals := 120 }
theorem k_J5_init_d00df : g_CI yJ5_init_d00df cJ5_init_d00df 2 1 := ⟨⟨m_215, m_9, by decide +kernel⟩, rfl, m_214⟩
set_option maxHeartbeats 4000000 in
set_option maxRecDepth 100000 in
theorem c_J5_init_d00df (l : Launch) (V : Nat → Nat) (g : GH) (D : va_G) (cT : Nat → ClassId) (f : GH) (n : Nat) (a0 : Nat) (a1 : Int32) (o : GH × Nat) (hq : p_J5_init_d00df V g f n a0 a1 = some o) : Met l yJ5_init_d00df (Cond.code yJ5_init_d00df cJ5_init_d00df 2 none :: g_B) rm_J5_init_d00df (va_Pc [.ref a0, .int a1] (g_I V g D cT f n)) (g_Wv V D cT o.1 o.2) 1 200 (g_A V) := by
  refine g_begin (own := RJ5) [.ref a0, .int a1] [(0, .ref a0), (1, .int a1)] (g_A V) (fun _ h => h) (by decide) rfl (Nat.le_of_ble_eq_true rfl) rfl ?_
  intro p e s m args below meth c hx hb hr hlocks hin hC hI ls hl
  obtain ⟨hx, hb, hml, hown, hB⟩ := id hC
  obtain ⟨H, hH⟩ : ∃ H, H = s.heap := ⟨_, rfl⟩
  obtain ⟨locs, hlocs⟩ : ∃ L : List Loc, L = [] := ⟨_, rfl⟩
  rw [← hH, ← hlocs] at hI ⊢
  clear hH hlocs
  unfold p_J5_init_d00df at hq
  replace hq := (h_me_eq hq).2
  refine lv_aload_n hx hb dJ5_init_d00df_0 rfl (lv_at hl 0 rfl) ?_
  refine W.objInit hx hb hown (hB _ m_216) (hB _ m_36) (hB _ m_37) rfl (by rw [hml]; exact hl.1) rfl dJ5_init_d00df_1 (Nat.le_of_ble_eq_true rfl) (Nat.le_of_ble_eq_true rfl) ?_
  refine W.eq (g2 := F0 m 4 ls []) rfl ?_
  refine fs_gs (i := 18) hx hb hown hI rfl (hB _ m_217) (fun _ h9 => h9) dJ5_init_d00df_4 ?_
  refine lv_if_eq (tgt := 25) hx hb dJ5_init_d00df_7 (by decide) (fun c => absurd c (by decide)) (fun _ => ?_)
  refine lv_aload_n hx hb dJ5_init_d00df_10 rfl (lv_at hl 0 rfl) ?_
  refine lv_iload_n hx hb dJ5_init_d00df_11 rfl (lv_at hl 1 rfl) ?_
  obtain ⟨f1, ef1, hq⟩ := b_s hq
  refine fa_newv (atype := .byte) (M := 200) (t := 1) hx hb hB m_132 rfl (by decide) (by decide) hI (by decide) (by decide) (by decide) ef1 dJ5_init_d00df_12 (fun H locs hI => ?_)
  obtain ⟨f2, ef2, hq⟩ := b_s hq
  refine fa_pt (own := RJ5) (ref := "java/lang/AbstractStringBuilder") (k := 0) hx hb hB inB_RJ4 tyJ4_ok nmJ4 hown hI rfl (by decide) m_226 (fun _ h9 => h9) (by decide) rfl rfl ef2 dJ5_init_d00df_14 (fun H locs hI => ?_)
  refine lv_aload_n hx hb dJ5_init_d00df_17 rfl (lv_at hl 0 rfl) ?_
  refine lv_iconst (v := (0 : Int32)) hx hb dJ5_init_d00df_18 (by decide) ?_
  obtain ⟨f3, ef3, hq⟩ := b_s hq
  refine fa_pt (own := RJ5) (ref := "java/lang/AbstractStringBuilder") (k := 1) hx hb hB inB_RJ4 tyJ4_ok nmJ4 hown hI rfl (by decide) m_227 (fun _ h9 => h9) (by decide) (by decide +kernel) (by decide +kernel) ef3 dJ5_init_d00df_19 (fun H locs hI => ?_)
  refine lv_goto (tgt := 38) hx hb dJ5_init_d00df_22 (by decide) ?_
  obtain rfl := Option.some.inj hq
  exact ge_Wv hx hb hlocks hr hI rfl dJ5_init_d00df_38

def p_J4_init_da8c8 (V : Nat → Nat) (g f : GH) (n : Nat) (a0 : Nat) : Option (GH × Nat) :=
  h_me f a0 1 <|
  (p_J5_init_d00df V g f n a0 (16 : Int32)).bind fun v1 =>
  some (v1.1, v1.2)
abbrev rm_J4_init_da8c8 : Room := { frames := 3, cells := 1, slots := 200, locals := 141 }
theorem k_J4_init_da8c8 : g_CI yJ4_init_da8c8 cJ4_init_da8c8 1 0 := ⟨⟨m_212, m_10, by decide +kernel⟩, rfl, m_211⟩
set_option maxHeartbeats 4000000 in
set_option maxRecDepth 100000 in
theorem c_J4_init_da8c8 (l : Launch) (V : Nat → Nat) (g : GH) (D : va_G) (cT : Nat → ClassId) (f : GH) (n : Nat) (a0 : Nat) (o : GH × Nat) (hq : p_J4_init_da8c8 V g f n a0 = some o) : Met l yJ4_init_da8c8 (Cond.code yJ4_init_da8c8 cJ4_init_da8c8 1 none :: g_B) rm_J4_init_da8c8 (va_Pc [.ref a0] (g_I V g D cT f n)) (g_Wv V D cT o.1 o.2) 1 200 (g_A V) := by
  refine g_begin (own := RJ4) [.ref a0] [(0, .ref a0)] (g_A V) (fun _ h => h) (by decide) rfl (Nat.le_of_ble_eq_true rfl) rfl ?_
  intro p e s m args below meth c hx hb hr hlocks hin hC hI ls hl
  obtain ⟨hx, hb, hml, hown, hB⟩ := id hC
  obtain ⟨H, hH⟩ : ∃ H, H = s.heap := ⟨_, rfl⟩
  obtain ⟨locs, hlocs⟩ : ∃ L : List Loc, L = [] := ⟨_, rfl⟩
  rw [← hH, ← hlocs] at hI ⊢
  clear hH hlocs
  unfold p_J4_init_da8c8 at hq
  replace hq := (h_me_eq hq).2
  refine lv_aload_n hx hb dJ4_init_da8c8_0 rfl (lv_at hl 0 rfl) ?_
  refine lv_bipush (v := (16 : Int32)) hx hb dJ4_init_da8c8_1 (by decide) ?_
  obtain ⟨v1, ev1, hq⟩ := b_s hq
  refine gw_v (g_runI (As := [.int (16 : Int32)]) (rest := []) hC (c_J5_init_d00df l V g D cT f n a0 (16 : Int32) v1 ev1) k_J5_init_d00df m_213 rfl rfl ⟨Nat.le_of_ble_eq_true rfl, Nat.le_of_ble_eq_true rfl⟩ hI rfl hl.1 rfl (Nat.le_of_ble_eq_true rfl) dJ4_init_da8c8_3 ⟨by decide, by decide⟩) hI (fun H locs hI => ?_)
  obtain rfl := Option.some.inj hq
  exact ge_Wv hx hb hlocks hr hI rfl dJ4_init_da8c8_6

def p_X7_init (V : Nat → Nat) (g f : GH) (n : Nat) (a0 : Nat) : Option (GH × Nat) :=
  h_me f a0 9 <|
  (some (h_up f n (.inr (4, [.null, .int 0, .int 0, .int 0, .int 0, .int 0])))).bind fun f1 =>
  (p_X1_init V g f1 (n + 1) n).bind fun v2 =>
  (h_pt v2.1 a0 9 0 (.ref n)).bind fun f3 =>
  (some (h_up f3 v2.2 (.inr (4, [.null, .int 0, .int 0, .int 0, .int 0, .int 0])))).bind fun f4 =>
  (p_X1_init V g f4 (v2.2 + 1) v2.2).bind fun v5 =>
  (h_pt v5.1 a0 9 1 (.ref v2.2)).bind fun f6 =>
  (some (h_up f6 v5.2 (.inr (4, [.null, .int 0, .int 0, .int 0, .int 0, .int 0])))).bind fun f7 =>
  (p_X1_init V g f7 (v5.2 + 1) v5.2).bind fun v8 =>
  (h_pt v8.1 a0 9 2 (.ref v5.2)).bind fun f9 =>
  (some (h_up f9 v8.2 (.inl (4, 8, .inr (.inr (.inr (.inr (fun _ => none)))))))).bind fun f10 =>
  (h_pt f10 a0 9 4 (.ref v8.2)).bind fun f11 =>
  (some (h_up f11 (v8.2 + 1) (.inr (8, [.null, .int 0, .int 0, .int 0, .int 0, .int 0])))).bind fun f12 =>
  (p_X5_init V g f12 (v8.2 + 2) (v8.2 + 1)).bind fun v13 =>
  (h_pt v13.1 a0 9 7 (.ref (v8.2 + 1))).bind fun f14 =>
  (some (h_up f14 v13.2 (.inr (7, [.null, .int 0, .int 0, .int 0, .int 0])))).bind fun f15 =>
  (h_gr f15 a0 9 7).bind fun v16 =>
  (p_X4_init V g f15 v13.2 v16).bind fun v17 =>
  (h_pt v17 a0 9 8 (.ref v13.2)).bind fun f18 =>
  (some (h_up f18 (v13.2 + 1) (.inl (6, 20, .inr (.inr (.inr (.inr (fun _ => none)))))))).bind fun f19 =>
  (h_pt f19 a0 9 9 (.ref (v13.2 + 1))).bind fun f20 =>
  (some (h_up f20 (v13.2 + 2) (.inr (6, [.null, .int 0, .int 0, .int 0, .int 0, .int 0, .null])))).bind fun f21 =>
  (p_X3_init V g f21 (v13.2 + 3) (v13.2 + 2)).bind fun v22 =>
  (h_pt v22.1 a0 9 10 (.ref (v13.2 + 2))).bind fun f23 =>
  (some (h_up f23 v22.2 (.inr (5, [.null, .null, .int 0, .int 0])))).bind fun f24 =>
  (p_X2_init V g f24 (v22.2 + 1) v22.2 (129 : Int32)).bind fun v25 =>
  (h_pt v25.1 a0 9 11 (.ref v22.2)).bind fun f26 =>
  (some (h_up f26 v25.2 (.inr (1, [.null, .int 0, .int 0, .int 0])))).bind fun f27 =>
  (p_J4_init_da8c8 V g f27 (v25.2 + 1) v25.2).bind fun v28 =>
  (h_pt v28.1 a0 9 12 (.ref v25.2)).bind fun f29 =>
  (h_gr f29 a0 9 4).bind fun v30 =>
  (some (h_up f29 v28.2 (.inr (4, [.null, .int 0, .int 0, .int 0, .int 0, .int 0])))).bind fun f31 =>
  (p_X1_init V g f31 (v28.2 + 1) v28.2).bind fun v32 =>
  (h_sq v32.1 v30 4 4 (0 : Int32) v28.2).bind fun f33 =>
  (h_gr f33 a0 9 4).bind fun v34 =>
  (some (h_up f33 v32.2 (.inr (4, [.null, .int 0, .int 0, .int 0, .int 0, .int 0])))).bind fun f35 =>
  (p_X1_init V g f35 (v32.2 + 1) v32.2).bind fun v36 =>
  (h_sq v36.1 v34 4 4 (1 : Int32) v32.2).bind fun f37 =>
  (h_gr f37 a0 9 4).bind fun v38 =>
  (some (h_up f37 v36.2 (.inr (4, [.null, .int 0, .int 0, .int 0, .int 0, .int 0])))).bind fun f39 =>
  (p_X1_init V g f39 (v36.2 + 1) v36.2).bind fun v40 =>
  (h_sq v40.1 v38 4 4 (2 : Int32) v36.2).bind fun f41 =>
  (h_gr f41 a0 9 4).bind fun v42 =>
  (some (h_up f41 v40.2 (.inr (4, [.null, .int 0, .int 0, .int 0, .int 0, .int 0])))).bind fun f43 =>
  (p_X1_init V g f43 (v40.2 + 1) v40.2).bind fun v44 =>
  (h_sq v44.1 v42 4 4 (3 : Int32) v40.2).bind fun f45 =>
  (h_gr f45 a0 9 4).bind fun v46 =>
  (some (h_up f45 v44.2 (.inr (4, [.null, .int 0, .int 0, .int 0, .int 0, .int 0])))).bind fun f47 =>
  (p_X1_init V g f47 (v44.2 + 1) v44.2).bind fun v48 =>
  (h_sq v48.1 v46 4 4 (4 : Int32) v44.2).bind fun f49 =>
  (h_gr f49 a0 9 4).bind fun v50 =>
  (some (h_up f49 v48.2 (.inr (4, [.null, .int 0, .int 0, .int 0, .int 0, .int 0])))).bind fun f51 =>
  (p_X1_init V g f51 (v48.2 + 1) v48.2).bind fun v52 =>
  (h_sq v52.1 v50 4 4 (5 : Int32) v48.2).bind fun f53 =>
  (h_gr f53 a0 9 4).bind fun v54 =>
  (some (h_up f53 v52.2 (.inr (4, [.null, .int 0, .int 0, .int 0, .int 0, .int 0])))).bind fun f55 =>
  (p_X1_init V g f55 (v52.2 + 1) v52.2).bind fun v56 =>
  (h_sq v56.1 v54 4 4 (6 : Int32) v52.2).bind fun f57 =>
  (h_gr f57 a0 9 4).bind fun v58 =>
  (some (h_up f57 v56.2 (.inr (4, [.null, .int 0, .int 0, .int 0, .int 0, .int 0])))).bind fun f59 =>
  (p_X1_init V g f59 (v56.2 + 1) v56.2).bind fun v60 =>
  (h_sq v60.1 v58 4 4 (7 : Int32) v56.2).bind fun f61 =>
  (h_gr f61 a0 9 9).bind fun v62 =>
  (some (h_up f61 v60.2 (.inr (6, [.null, .int 0, .int 0, .int 0, .int 0, .int 0, .null])))).bind fun f63 =>
  (p_X3_init V g f63 (v60.2 + 1) v60.2).bind fun v64 =>
  (h_sq v64.1 v62 6 6 (0 : Int32) v60.2).bind fun f65 =>
  (h_gr f65 a0 9 9).bind fun v66 =>
  (some (h_up f65 v64.2 (.inr (6, [.null, .int 0, .int 0, .int 0, .int 0, .int 0, .null])))).bind fun f67 =>
  (p_X3_init V g f67 (v64.2 + 1) v64.2).bind fun v68 =>
  (h_sq v68.1 v66 6 6 (1 : Int32) v64.2).bind fun f69 =>
  (h_gr f69 a0 9 9).bind fun v70 =>
  (some (h_up f69 v68.2 (.inr (6, [.null, .int 0, .int 0, .int 0, .int 0, .int 0, .null])))).bind fun f71 =>
  (p_X3_init V g f71 (v68.2 + 1) v68.2).bind fun v72 =>
  (h_sq v72.1 v70 6 6 (2 : Int32) v68.2).bind fun f73 =>
  (h_gr f73 a0 9 9).bind fun v74 =>
  (some (h_up f73 v72.2 (.inr (6, [.null, .int 0, .int 0, .int 0, .int 0, .int 0, .null])))).bind fun f75 =>
  (p_X3_init V g f75 (v72.2 + 1) v72.2).bind fun v76 =>
  (h_sq v76.1 v74 6 6 (3 : Int32) v72.2).bind fun f77 =>
  (h_gr f77 a0 9 9).bind fun v78 =>
  (some (h_up f77 v76.2 (.inr (6, [.null, .int 0, .int 0, .int 0, .int 0, .int 0, .null])))).bind fun f79 =>
  (p_X3_init V g f79 (v76.2 + 1) v76.2).bind fun v80 =>
  (h_sq v80.1 v78 6 6 (4 : Int32) v76.2).bind fun f81 =>
  (h_gr f81 a0 9 9).bind fun v82 =>
  (some (h_up f81 v80.2 (.inr (6, [.null, .int 0, .int 0, .int 0, .int 0, .int 0, .null])))).bind fun f83 =>
  (p_X3_init V g f83 (v80.2 + 1) v80.2).bind fun v84 =>
  (h_sq v84.1 v82 6 6 (5 : Int32) v80.2).bind fun f85 =>
  (h_gr f85 a0 9 9).bind fun v86 =>
  (some (h_up f85 v84.2 (.inr (6, [.null, .int 0, .int 0, .int 0, .int 0, .int 0, .null])))).bind fun f87 =>
  (p_X3_init V g f87 (v84.2 + 1) v84.2).bind fun v88 =>
  (h_sq v88.1 v86 6 6 (6 : Int32) v84.2).bind fun f89 =>
  (h_gr f89 a0 9 9).bind fun v90 =>
  (some (h_up f89 v88.2 (.inr (6, [.null, .int 0, .int 0, .int 0, .int 0, .int 0, .null])))).bind fun f91 =>
  (p_X3_init V g f91 (v88.2 + 1) v88.2).bind fun v92 =>
  (h_sq v92.1 v90 6 6 (7 : Int32) v88.2).bind fun f93 =>
  (h_gr f93 a0 9 9).bind fun v94 =>
  (some (h_up f93 v92.2 (.inr (6, [.null, .int 0, .int 0, .int 0, .int 0, .int 0, .null])))).bind fun f95 =>
  (p_X3_init V g f95 (v92.2 + 1) v92.2).bind fun v96 =>
  (h_sq v96.1 v94 6 6 (8 : Int32) v92.2).bind fun f97 =>
  (h_gr f97 a0 9 9).bind fun v98 =>
  (some (h_up f97 v96.2 (.inr (6, [.null, .int 0, .int 0, .int 0, .int 0, .int 0, .null])))).bind fun f99 =>
  (p_X3_init V g f99 (v96.2 + 1) v96.2).bind fun v100 =>
  (h_sq v100.1 v98 6 6 (9 : Int32) v96.2).bind fun f101 =>
  (h_gr f101 a0 9 9).bind fun v102 =>
  (some (h_up f101 v100.2 (.inr (6, [.null, .int 0, .int 0, .int 0, .int 0, .int 0, .null])))).bind fun f103 =>
  (p_X3_init V g f103 (v100.2 + 1) v100.2).bind fun v104 =>
  (h_sq v104.1 v102 6 6 (10 : Int32) v100.2).bind fun f105 =>
  (h_gr f105 a0 9 9).bind fun v106 =>
  (some (h_up f105 v104.2 (.inr (6, [.null, .int 0, .int 0, .int 0, .int 0, .int 0, .null])))).bind fun f107 =>
  (p_X3_init V g f107 (v104.2 + 1) v104.2).bind fun v108 =>
  (h_sq v108.1 v106 6 6 (11 : Int32) v104.2).bind fun f109 =>
  (h_gr f109 a0 9 9).bind fun v110 =>
  (some (h_up f109 v108.2 (.inr (6, [.null, .int 0, .int 0, .int 0, .int 0, .int 0, .null])))).bind fun f111 =>
  (p_X3_init V g f111 (v108.2 + 1) v108.2).bind fun v112 =>
  (h_sq v112.1 v110 6 6 (12 : Int32) v108.2).bind fun f113 =>
  (h_gr f113 a0 9 9).bind fun v114 =>
  (some (h_up f113 v112.2 (.inr (6, [.null, .int 0, .int 0, .int 0, .int 0, .int 0, .null])))).bind fun f115 =>
  (p_X3_init V g f115 (v112.2 + 1) v112.2).bind fun v116 =>
  (h_sq v116.1 v114 6 6 (13 : Int32) v112.2).bind fun f117 =>
  (h_gr f117 a0 9 9).bind fun v118 =>
  (some (h_up f117 v116.2 (.inr (6, [.null, .int 0, .int 0, .int 0, .int 0, .int 0, .null])))).bind fun f119 =>
  (p_X3_init V g f119 (v116.2 + 1) v116.2).bind fun v120 =>
  (h_sq v120.1 v118 6 6 (14 : Int32) v116.2).bind fun f121 =>
  (h_gr f121 a0 9 9).bind fun v122 =>
  (some (h_up f121 v120.2 (.inr (6, [.null, .int 0, .int 0, .int 0, .int 0, .int 0, .null])))).bind fun f123 =>
  (p_X3_init V g f123 (v120.2 + 1) v120.2).bind fun v124 =>
  (h_sq v124.1 v122 6 6 (15 : Int32) v120.2).bind fun f125 =>
  (h_gr f125 a0 9 9).bind fun v126 =>
  (some (h_up f125 v124.2 (.inr (6, [.null, .int 0, .int 0, .int 0, .int 0, .int 0, .null])))).bind fun f127 =>
  (p_X3_init V g f127 (v124.2 + 1) v124.2).bind fun v128 =>
  (h_sq v128.1 v126 6 6 (16 : Int32) v124.2).bind fun f129 =>
  (h_gr f129 a0 9 9).bind fun v130 =>
  (some (h_up f129 v128.2 (.inr (6, [.null, .int 0, .int 0, .int 0, .int 0, .int 0, .null])))).bind fun f131 =>
  (p_X3_init V g f131 (v128.2 + 1) v128.2).bind fun v132 =>
  (h_sq v132.1 v130 6 6 (17 : Int32) v128.2).bind fun f133 =>
  (h_gr f133 a0 9 9).bind fun v134 =>
  (some (h_up f133 v132.2 (.inr (6, [.null, .int 0, .int 0, .int 0, .int 0, .int 0, .null])))).bind fun f135 =>
  (p_X3_init V g f135 (v132.2 + 1) v132.2).bind fun v136 =>
  (h_sq v136.1 v134 6 6 (18 : Int32) v132.2).bind fun f137 =>
  (h_gr f137 a0 9 9).bind fun v138 =>
  (some (h_up f137 v136.2 (.inr (6, [.null, .int 0, .int 0, .int 0, .int 0, .int 0, .null])))).bind fun f139 =>
  (p_X3_init V g f139 (v136.2 + 1) v136.2).bind fun v140 =>
  (h_sq v140.1 v138 6 6 (19 : Int32) v136.2).bind fun f141 =>
  (h_gr f141 a0 9 0).bind fun v142 =>
  (p_X1_place V g f141 v142 (V 14) (0 : Int32)).bind fun v143 =>
  (h_gr v143 a0 9 0).bind fun v144 =>
  (p_X1_place V g v143 v144 (V 15) (1 : Int32)).bind fun v145 =>
  (h_gr v145 a0 9 0).bind fun v146 =>
  (p_X1_place V g v145 v146 (V 16) (1 : Int32)).bind fun v147 =>
  (h_gr v147 a0 9 0).bind fun v148 =>
  (p_X1_startLedgers V g v147 v148).bind fun v149 =>
  some (v149, v140.2)
abbrev rm_X7_init : Room := { frames := 4, cells := 314, slots := 36774, locals := 167 }
theorem k_X7_init : g_CI yX7_init cX7_init 2 0 := ⟨⟨m_34, m_1, by decide +kernel⟩, rfl, m_33⟩
set_option maxHeartbeats 4000000 in
set_option maxRecDepth 100000 in
theorem c_X7_init (l : Launch) (V : Nat → Nat) (g : GH) (D : va_G) (cT : Nat → ClassId) (f : GH) (n : Nat) (a0 : Nat) (o : GH × Nat) (hq : p_X7_init V g f n a0 = some o) : Met l yX7_init (Cond.code yX7_init cX7_init 2 none :: g_B) rm_X7_init (va_Pc [.ref a0] (g_I V g D cT f n)) (g_Wv V D cT o.1 o.2) 314 36774 (g_A V) := by
  refine g_begin (own := RX7) [.ref a0] [(0, .ref a0)] (g_A V) (fun _ h => h) (by decide) rfl (Nat.le_of_ble_eq_true rfl) rfl ?_
  intro p e s m args below meth c hx hb hr hlocks hin hC hI ls hl
  obtain ⟨hx, hb, hml, hown, hB⟩ := id hC
  obtain ⟨H, hH⟩ : ∃ H, H = s.heap := ⟨_, rfl⟩
  obtain ⟨locs, hlocs⟩ : ∃ L : List Loc, L = [] := ⟨_, rfl⟩
  rw [← hH, ← hlocs] at hI ⊢
  clear hH hlocs
  unfold p_X7_init at hq
  replace hq := (h_me_eq hq).2
  refine lv_aload_n hx hb dX7_init_0 rfl (lv_at hl 0 rfl) ?_
  refine W.objInit hx hb hown (hB _ m_35) (hB _ m_36) (hB _ m_37) rfl (by rw [hml]; exact hl.1) rfl dX7_init_1 (Nat.le_of_ble_eq_true rfl) (Nat.le_of_ble_eq_true rfl) ?_
  refine W.eq (g2 := F0 m 4 ls []) rfl ?_
  refine lv_aload_n hx hb dX7_init_4 rfl (lv_at hl 0 rfl) ?_
  obtain ⟨f1, ef1, hq⟩ := b_s hq
  refine fa_new (own := RX7) (ci := 4) hx hb hB inB_RX1 tyX1_ok hown m_38 m_39 m_2 hI rfl (by decide +kernel) (by decide) (by decide) ef1 dX7_init_5 (fun H locs hI => ?_)
  refine lv_dup hx hb dX7_init_8 rfl ?_
  obtain ⟨v2, ev2, hq⟩ := b_s hq
  refine gw_v (g_runI (As := []) (rest := [.ref n, .ref a0]) hC (c_X1_init l V g D cT f1 (n + 1) n v2 ev2) k_X1_init m_40 rfl rfl ⟨Nat.le_of_ble_eq_true rfl, Nat.le_of_ble_eq_true rfl⟩ hI rfl hl.1 rfl (Nat.le_of_ble_eq_true rfl) dX7_init_9 ⟨by decide, by decide⟩) hI (fun H locs hI => ?_)
  obtain ⟨f3, ef3, hq⟩ := b_s hq
  refine fa_ptF (own := RX7) (ref := "CoastlineRuler") (k := 0) hx hb hB inB_RX7 tyX7_ok nmX7 hown hI rfl (by decide) m_265 (fun _ h9 => h9) (by decide) hin (by decide) rfl rfl ef3 dX7_init_12 (fun H locs hI => ?_)
  refine lv_aload_n hx hb dX7_init_15 rfl (lv_at hl 0 rfl) ?_
  obtain ⟨f4, ef4, hq⟩ := b_s hq
  refine fa_new (own := RX7) (ci := 4) hx hb hB inB_RX1 tyX1_ok hown m_38 m_39 m_2 hI rfl (by decide +kernel) (by decide) (by decide) ef4 dX7_init_16 (fun H locs hI => ?_)
  refine lv_dup hx hb dX7_init_19 rfl ?_
  obtain ⟨v5, ev5, hq⟩ := b_s hq
  refine gw_v (g_runI (As := []) (rest := [.ref v2.2, .ref a0]) hC (c_X1_init l V g D cT f4 (v2.2 + 1) v2.2 v5 ev5) k_X1_init m_40 rfl rfl ⟨Nat.le_of_ble_eq_true rfl, Nat.le_of_ble_eq_true rfl⟩ hI rfl hl.1 rfl (Nat.le_of_ble_eq_true rfl) dX7_init_20 ⟨by decide, by decide⟩) hI (fun H locs hI => ?_)
  obtain ⟨f6, ef6, hq⟩ := b_s hq
  refine fa_ptF (own := RX7) (ref := "CoastlineRuler") (k := 1) hx hb hB inB_RX7 tyX7_ok nmX7 hown hI rfl (by decide) m_266 (fun _ h9 => h9) (by decide) hin (by decide) rfl rfl ef6 dX7_init_23 (fun H locs hI => ?_)
  refine lv_aload_n hx hb dX7_init_26 rfl (lv_at hl 0 rfl) ?_
  obtain ⟨f7, ef7, hq⟩ := b_s hq
  refine fa_new (own := RX7) (ci := 4) hx hb hB inB_RX1 tyX1_ok hown m_38 m_39 m_2 hI rfl (by decide +kernel) (by decide) (by decide) ef7 dX7_init_27 (fun H locs hI => ?_)
  refine lv_dup hx hb dX7_init_30 rfl ?_
  obtain ⟨v8, ev8, hq⟩ := b_s hq
  refine gw_v (g_runI (As := []) (rest := [.ref v5.2, .ref a0]) hC (c_X1_init l V g D cT f7 (v5.2 + 1) v5.2 v8 ev8) k_X1_init m_40 rfl rfl ⟨Nat.le_of_ble_eq_true rfl, Nat.le_of_ble_eq_true rfl⟩ hI rfl hl.1 rfl (Nat.le_of_ble_eq_true rfl) dX7_init_31 ⟨by decide, by decide⟩) hI (fun H locs hI => ?_)
  obtain ⟨f9, ef9, hq⟩ := b_s hq
  refine fa_ptF (own := RX7) (ref := "CoastlineRuler") (k := 2) hx hb hB inB_RX7 tyX7_ok nmX7 hown hI rfl (by decide) m_267 (fun _ h9 => h9) (by decide) hin (by decide) rfl rfl ef9 dX7_init_34 (fun H locs hI => ?_)
  refine lv_aload_n hx hb dX7_init_37 rfl (lv_at hl 0 rfl) ?_
  refine lv_bipush (v := (8 : Int32)) hx hb dX7_init_38 (by decide) ?_
  obtain ⟨f10, ef10, hq⟩ := b_s hq
  refine fa_newq (N := 8) (t := 4) (own := RX7) hx hb hown (hB _ m_38) (g_aox hI (i := 0) rfl) (by decide) rfl hI (by decide) (by decide +kernel) (by decide +kernel) (by decide) (by decide) ef10 dX7_init_40 (fun H locs hI => ?_)
  obtain ⟨f11, ef11, hq⟩ := b_s hq
  refine fa_ptF (own := RX7) (ref := "CoastlineRuler") (k := 4) hx hb hB inB_RX7 tyX7_ok nmX7 hown hI rfl (by decide) m_269 (fun _ h9 => h9) (by decide) hin (by decide) rfl rfl ef11 dX7_init_43 (fun H locs hI => ?_)
  refine lv_aload_n hx hb dX7_init_46 rfl (lv_at hl 0 rfl) ?_
  obtain ⟨f12, ef12, hq⟩ := b_s hq
  refine fa_new (own := RX7) (ci := 8) hx hb hB inB_RX5 tyX5_ok hown m_104 m_105 m_4 hI rfl (by decide +kernel) (by decide) (by decide) ef12 dX7_init_47 (fun H locs hI => ?_)
  refine lv_dup hx hb dX7_init_50 rfl ?_
  obtain ⟨v13, ev13, hq⟩ := b_s hq
  refine gw_v (g_runIN (As := []) (rest := [.ref (v8.2 + 1), .ref a0]) (j0 := 0) hC (c_X5_init l V g D cT f12 (v8.2 + 2) (v8.2 + 1) v13 ev13) k_X5_init rfl rfl rfl ⟨Nat.le_of_ble_eq_true rfl, Nat.le_of_ble_eq_true rfl⟩ hI rfl hl.1 rfl (Nat.le_of_ble_eq_true rfl) dX7_init_51 ⟨by decide, by decide⟩) hI (fun H locs hI => ?_)
  obtain ⟨f14, ef14, hq⟩ := b_s hq
  refine fa_ptF (own := RX7) (ref := "CoastlineRuler") (k := 7) hx hb hB inB_RX7 tyX7_ok nmX7 hown hI rfl (by decide) m_272 (fun _ h9 => h9) (by decide) hin (by decide) rfl rfl ef14 dX7_init_54 (fun H locs hI => ?_)
  refine lv_aload_n hx hb dX7_init_57 rfl (lv_at hl 0 rfl) ?_
  obtain ⟨f15, ef15, hq⟩ := b_s hq
  refine fa_new (own := RX7) (ci := 7) hx hb hB inB_RX4 tyX4_ok hown m_133 m_134 m_5 hI rfl (by decide +kernel) (by decide) (by decide) ef15 dX7_init_58 (fun H locs hI => ?_)
  refine lv_dup hx hb dX7_init_61 rfl ?_
  refine lv_aload_n hx hb dX7_init_62 rfl (lv_at hl 0 rfl) ?_
  obtain ⟨v16, ev16, hq⟩ := b_s hq
  refine fa_gr (own := RX7) (ref := "CoastlineRuler") (k := 7) hx hb hB inB_RX7 hown hI rfl (by decide) m_272 (fun _ h9 => h9) ev16 dX7_init_63 ?_
  obtain ⟨v17, ev17, hq⟩ := b_s hq
  refine gw_v (g_runI (As := [.ref v16]) (rest := [.ref v13.2, .ref a0]) hC (c_X4_init l V g D cT f15 (v13.2 + 1) v13.2 v16 v17 ev17) k_X4_init m_135 rfl rfl ⟨Nat.le_of_ble_eq_true rfl, Nat.le_of_ble_eq_true rfl⟩ hI rfl hl.1 rfl (Nat.le_of_ble_eq_true rfl) dX7_init_66 ⟨by decide, by decide⟩) hI (fun H locs hI => ?_)
  obtain ⟨f18, ef18, hq⟩ := b_s hq
  refine fa_ptF (own := RX7) (ref := "CoastlineRuler") (k := 8) hx hb hB inB_RX7 tyX7_ok nmX7 hown hI rfl (by decide) m_273 (fun _ h9 => h9) (by decide) hin (by decide) rfl rfl ef18 dX7_init_69 (fun H locs hI => ?_)
  refine lv_aload_n hx hb dX7_init_72 rfl (lv_at hl 0 rfl) ?_
  refine lv_bipush (v := (20 : Int32)) hx hb dX7_init_73 (by decide) ?_
  obtain ⟨f19, ef19, hq⟩ := b_s hq
  refine fa_newq (N := 20) (t := 6) (own := RX7) hx hb hown (hB _ m_157) (g_aox hI (i := 2) rfl) (by decide) rfl hI (by decide) (by decide +kernel) (by decide +kernel) (by decide) (by decide) ef19 dX7_init_75 (fun H locs hI => ?_)
  obtain ⟨f20, ef20, hq⟩ := b_s hq
  refine fa_ptF (own := RX7) (ref := "CoastlineRuler") (k := 9) hx hb hB inB_RX7 tyX7_ok nmX7 hown hI rfl (by decide) m_274 (fun _ h9 => h9) (by decide) hin (by decide) rfl rfl ef20 dX7_init_78 (fun H locs hI => ?_)
  refine lv_aload_n hx hb dX7_init_81 rfl (lv_at hl 0 rfl) ?_
  obtain ⟨f21, ef21, hq⟩ := b_s hq
  refine fa_new (own := RX7) (ci := 6) hx hb hB inB_RX3 tyX3_ok hown m_157 m_159 m_6 hI rfl (by decide +kernel) (by decide) (by decide) ef21 dX7_init_82 (fun H locs hI => ?_)
  refine lv_dup hx hb dX7_init_85 rfl ?_
  obtain ⟨v22, ev22, hq⟩ := b_s hq
  refine gw_v (g_runIN (As := []) (rest := [.ref (v13.2 + 2), .ref a0]) (j0 := 1) hC (c_X3_init l V g D cT f21 (v13.2 + 3) (v13.2 + 2) v22 ev22) k_X3_init rfl rfl rfl ⟨Nat.le_of_ble_eq_true rfl, Nat.le_of_ble_eq_true rfl⟩ hI rfl hl.1 rfl (Nat.le_of_ble_eq_true rfl) dX7_init_86 ⟨by decide, by decide⟩) hI (fun H locs hI => ?_)
  obtain ⟨f23, ef23, hq⟩ := b_s hq
  refine fa_ptF (own := RX7) (ref := "CoastlineRuler") (k := 10) hx hb hB inB_RX7 tyX7_ok nmX7 hown hI rfl (by decide) m_275 (fun _ h9 => h9) (by decide) hin (by decide) rfl rfl ef23 dX7_init_89 (fun H locs hI => ?_)
  refine lv_aload_n hx hb dX7_init_92 rfl (lv_at hl 0 rfl) ?_
  obtain ⟨f24, ef24, hq⟩ := b_s hq
  refine fa_new (own := RX7) (ci := 5) hx hb hB inB_RX2 tyX2_ok hown m_206 m_46 m_3 hI rfl (by decide +kernel) (by decide) (by decide) ef24 dX7_init_93 (fun H locs hI => ?_)
  refine lv_dup hx hb dX7_init_96 rfl ?_
  refine lv_sipush (v := (129 : Int32)) hx hb dX7_init_97 (by decide) ?_
  obtain ⟨v25, ev25, hq⟩ := b_s hq
  refine gw_v (g_runI (As := [.int (129 : Int32)]) (rest := [.ref v22.2, .ref a0]) hC (c_X2_init l V g D cT f24 (v22.2 + 1) v22.2 (129 : Int32) v25 ev25) k_X2_init m_207 rfl rfl ⟨Nat.le_of_ble_eq_true rfl, Nat.le_of_ble_eq_true rfl⟩ hI rfl hl.1 rfl (Nat.le_of_ble_eq_true rfl) dX7_init_100 ⟨by decide, by decide⟩) hI (fun H locs hI => ?_)
  obtain ⟨f26, ef26, hq⟩ := b_s hq
  refine fa_ptF (own := RX7) (ref := "CoastlineRuler") (k := 11) hx hb hB inB_RX7 tyX7_ok nmX7 hown hI rfl (by decide) m_276 (fun _ h9 => h9) (by decide) hin (by decide) rfl rfl ef26 dX7_init_103 (fun H locs hI => ?_)
  refine lv_aload_n hx hb dX7_init_106 rfl (lv_at hl 0 rfl) ?_
  obtain ⟨f27, ef27, hq⟩ := b_s hq
  refine fa_new (own := RX7) (ci := 1) hx hb hB inB_RJ4 tyJ4_ok hown m_208 m_209 m_10 hI rfl (by decide +kernel) (by decide) (by decide) ef27 dX7_init_107 (fun H locs hI => ?_)
  refine lv_dup hx hb dX7_init_110 rfl ?_
  obtain ⟨v28, ev28, hq⟩ := b_s hq
  refine gw_v (g_runI (As := []) (rest := [.ref v25.2, .ref a0]) hC (c_J4_init_da8c8 l V g D cT f27 (v25.2 + 1) v25.2 v28 ev28) k_J4_init_da8c8 m_210 rfl rfl ⟨Nat.le_of_ble_eq_true rfl, Nat.le_of_ble_eq_true rfl⟩ hI rfl hl.1 rfl (Nat.le_of_ble_eq_true rfl) dX7_init_111 ⟨by decide, by decide⟩) hI (fun H locs hI => ?_)
  obtain ⟨f29, ef29, hq⟩ := b_s hq
  refine fa_ptF (own := RX7) (ref := "CoastlineRuler") (k := 12) hx hb hB inB_RX7 tyX7_ok nmX7 hown hI rfl (by decide) m_277 (fun _ h9 => h9) (by decide) hin (by decide) rfl rfl ef29 dX7_init_114 (fun H locs hI => ?_)
  refine lv_iconst (v := (0 : Int32)) hx hb dX7_init_117 (by decide) ?_
  refine lv_istore_n (lv' := [(1, .int (0 : Int32)), (0, .ref a0)]) hx hb dX7_init_118 rfl hl (by decide) rfl (fun ls hl => ?_)
  refine lv_iload_n hx hb dX7_init_119 rfl (lv_at hl 0 rfl) ?_
  refine lv_bipush (v := (8 : Int32)) hx hb dX7_init_120 (by decide) ?_
  refine lv_icmp_ge (tgt := 144) hx hb dX7_init_122 (by decide) (fun c => absurd c (by decide)) (fun _ => ?_)
  refine lv_aload_n hx hb dX7_init_125 rfl (lv_at hl 1 rfl) ?_
  obtain ⟨v30, ev30, hq⟩ := b_s hq
  refine fa_gr (own := RX7) (ref := "CoastlineRuler") (k := 4) hx hb hB inB_RX7 hown hI rfl (by decide) m_269 (fun _ h9 => h9) ev30 dX7_init_126 ?_
  refine lv_iload_n hx hb dX7_init_129 rfl (lv_at hl 0 rfl) ?_
  obtain ⟨f31, ef31, hq⟩ := b_s hq
  refine fa_new (own := RX7) (ci := 4) hx hb hB inB_RX1 tyX1_ok hown m_38 m_39 m_2 hI rfl (by decide +kernel) (by decide) (by decide) ef31 dX7_init_130 (fun H locs hI => ?_)
  refine lv_dup hx hb dX7_init_133 rfl ?_
  obtain ⟨v32, ev32, hq⟩ := b_s hq
  refine gw_v (g_runI (As := []) (rest := [.ref v28.2, .int (0 : Int32), .ref v30]) hC (c_X1_init l V g D cT f31 (v28.2 + 1) v28.2 v32 ev32) k_X1_init m_40 rfl rfl ⟨Nat.le_of_ble_eq_true rfl, Nat.le_of_ble_eq_true rfl⟩ hI rfl hl.1 rfl (Nat.le_of_ble_eq_true rfl) dX7_init_134 ⟨by decide, by decide⟩) hI (fun H locs hI => ?_)
  obtain ⟨f33, ef33, hq⟩ := b_s hq
  refine fa_sq hx hb hI (by decide) (ci := 4) rfl rfl ef33 dX7_init_137 (fun H locs hI => ?_)
  refine lv_iinc (v := (1 : Int32)) (lv' := [(1, .int (1 : Int32)), (0, .ref a0)]) hx hb dX7_init_138 hl (k := 0) rfl (by decide) (by decide) rfl (fun ls hl => ?_)
  refine lv_goto (tgt := 119) hx hb dX7_init_141 (by decide) ?_
  refine lv_iload_n hx hb dX7_init_119 rfl (lv_at hl 0 rfl) ?_
  refine lv_bipush (v := (8 : Int32)) hx hb dX7_init_120 (by decide) ?_
  refine lv_icmp_ge (tgt := 144) hx hb dX7_init_122 (by decide) (fun c => absurd c (by decide)) (fun _ => ?_)
  refine lv_aload_n hx hb dX7_init_125 rfl (lv_at hl 1 rfl) ?_
  obtain ⟨v34, ev34, hq⟩ := b_s hq
  refine fa_gr (own := RX7) (ref := "CoastlineRuler") (k := 4) hx hb hB inB_RX7 hown hI rfl (by decide) m_269 (fun _ h9 => h9) ev34 dX7_init_126 ?_
  refine lv_iload_n hx hb dX7_init_129 rfl (lv_at hl 0 rfl) ?_
  obtain ⟨f35, ef35, hq⟩ := b_s hq
  refine fa_new (own := RX7) (ci := 4) hx hb hB inB_RX1 tyX1_ok hown m_38 m_39 m_2 hI rfl (by decide +kernel) (by decide) (by decide) ef35 dX7_init_130 (fun H locs hI => ?_)
  refine lv_dup hx hb dX7_init_133 rfl ?_
  obtain ⟨v36, ev36, hq⟩ := b_s hq
  refine gw_v (g_runI (As := []) (rest := [.ref v32.2, .int (1 : Int32), .ref v34]) hC (c_X1_init l V g D cT f35 (v32.2 + 1) v32.2 v36 ev36) k_X1_init m_40 rfl rfl ⟨Nat.le_of_ble_eq_true rfl, Nat.le_of_ble_eq_true rfl⟩ hI rfl hl.1 rfl (Nat.le_of_ble_eq_true rfl) dX7_init_134 ⟨by decide, by decide⟩) hI (fun H locs hI => ?_)
  obtain ⟨f37, ef37, hq⟩ := b_s hq
  refine fa_sq hx hb hI (by decide) (ci := 4) rfl rfl ef37 dX7_init_137 (fun H locs hI => ?_)
  refine lv_iinc (v := (2 : Int32)) (lv' := [(1, .int (2 : Int32)), (0, .ref a0)]) hx hb dX7_init_138 hl (k := 0) rfl (by decide) (by decide) rfl (fun ls hl => ?_)
  refine lv_goto (tgt := 119) hx hb dX7_init_141 (by decide) ?_
  refine lv_iload_n hx hb dX7_init_119 rfl (lv_at hl 0 rfl) ?_
  refine lv_bipush (v := (8 : Int32)) hx hb dX7_init_120 (by decide) ?_
  refine lv_icmp_ge (tgt := 144) hx hb dX7_init_122 (by decide) (fun c => absurd c (by decide)) (fun _ => ?_)
  refine lv_aload_n hx hb dX7_init_125 rfl (lv_at hl 1 rfl) ?_
  obtain ⟨v38, ev38, hq⟩ := b_s hq
  refine fa_gr (own := RX7) (ref := "CoastlineRuler") (k := 4) hx hb hB inB_RX7 hown hI rfl (by decide) m_269 (fun _ h9 => h9) ev38 dX7_init_126 ?_
  refine lv_iload_n hx hb dX7_init_129 rfl (lv_at hl 0 rfl) ?_
  obtain ⟨f39, ef39, hq⟩ := b_s hq
  refine fa_new (own := RX7) (ci := 4) hx hb hB inB_RX1 tyX1_ok hown m_38 m_39 m_2 hI rfl (by decide +kernel) (by decide) (by decide) ef39 dX7_init_130 (fun H locs hI => ?_)
  refine lv_dup hx hb dX7_init_133 rfl ?_
  obtain ⟨v40, ev40, hq⟩ := b_s hq
  refine gw_v (g_runI (As := []) (rest := [.ref v36.2, .int (2 : Int32), .ref v38]) hC (c_X1_init l V g D cT f39 (v36.2 + 1) v36.2 v40 ev40) k_X1_init m_40 rfl rfl ⟨Nat.le_of_ble_eq_true rfl, Nat.le_of_ble_eq_true rfl⟩ hI rfl hl.1 rfl (Nat.le_of_ble_eq_true rfl) dX7_init_134 ⟨by decide, by decide⟩) hI (fun H locs hI => ?_)
  obtain ⟨f41, ef41, hq⟩ := b_s hq
  refine fa_sq hx hb hI (by decide) (ci := 4) rfl rfl ef41 dX7_init_137 (fun H locs hI => ?_)
  refine lv_iinc (v := (3 : Int32)) (lv' := [(1, .int (3 : Int32)), (0, .ref a0)]) hx hb dX7_init_138 hl (k := 0) rfl (by decide) (by decide) rfl (fun ls hl => ?_)
  refine lv_goto (tgt := 119) hx hb dX7_init_141 (by decide) ?_
  refine lv_iload_n hx hb dX7_init_119 rfl (lv_at hl 0 rfl) ?_
  refine lv_bipush (v := (8 : Int32)) hx hb dX7_init_120 (by decide) ?_
  refine lv_icmp_ge (tgt := 144) hx hb dX7_init_122 (by decide) (fun c => absurd c (by decide)) (fun _ => ?_)
  refine lv_aload_n hx hb dX7_init_125 rfl (lv_at hl 1 rfl) ?_
  obtain ⟨v42, ev42, hq⟩ := b_s hq
  refine fa_gr (own := RX7) (ref := "CoastlineRuler") (k := 4) hx hb hB inB_RX7 hown hI rfl (by decide) m_269 (fun _ h9 => h9) ev42 dX7_init_126 ?_
  refine lv_iload_n hx hb dX7_init_129 rfl (lv_at hl 0 rfl) ?_
  obtain ⟨f43, ef43, hq⟩ := b_s hq
  refine fa_new (own := RX7) (ci := 4) hx hb hB inB_RX1 tyX1_ok hown m_38 m_39 m_2 hI rfl (by decide +kernel) (by decide) (by decide) ef43 dX7_init_130 (fun H locs hI => ?_)
  refine lv_dup hx hb dX7_init_133 rfl ?_
  obtain ⟨v44, ev44, hq⟩ := b_s hq
  refine gw_v (g_runI (As := []) (rest := [.ref v40.2, .int (3 : Int32), .ref v42]) hC (c_X1_init l V g D cT f43 (v40.2 + 1) v40.2 v44 ev44) k_X1_init m_40 rfl rfl ⟨Nat.le_of_ble_eq_true rfl, Nat.le_of_ble_eq_true rfl⟩ hI rfl hl.1 rfl (Nat.le_of_ble_eq_true rfl) dX7_init_134 ⟨by decide, by decide⟩) hI (fun H locs hI => ?_)
  obtain ⟨f45, ef45, hq⟩ := b_s hq
  refine fa_sq hx hb hI (by decide) (ci := 4) rfl rfl ef45 dX7_init_137 (fun H locs hI => ?_)
  refine lv_iinc (v := (4 : Int32)) (lv' := [(1, .int (4 : Int32)), (0, .ref a0)]) hx hb dX7_init_138 hl (k := 0) rfl (by decide) (by decide) rfl (fun ls hl => ?_)
  refine lv_goto (tgt := 119) hx hb dX7_init_141 (by decide) ?_
  refine lv_iload_n hx hb dX7_init_119 rfl (lv_at hl 0 rfl) ?_
  refine lv_bipush (v := (8 : Int32)) hx hb dX7_init_120 (by decide) ?_
  refine lv_icmp_ge (tgt := 144) hx hb dX7_init_122 (by decide) (fun c => absurd c (by decide)) (fun _ => ?_)
  refine lv_aload_n hx hb dX7_init_125 rfl (lv_at hl 1 rfl) ?_
  obtain ⟨v46, ev46, hq⟩ := b_s hq
  refine fa_gr (own := RX7) (ref := "CoastlineRuler") (k := 4) hx hb hB inB_RX7 hown hI rfl (by decide) m_269 (fun _ h9 => h9) ev46 dX7_init_126 ?_
  refine lv_iload_n hx hb dX7_init_129 rfl (lv_at hl 0 rfl) ?_
  obtain ⟨f47, ef47, hq⟩ := b_s hq
  refine fa_new (own := RX7) (ci := 4) hx hb hB inB_RX1 tyX1_ok hown m_38 m_39 m_2 hI rfl (by decide +kernel) (by decide) (by decide) ef47 dX7_init_130 (fun H locs hI => ?_)
  refine lv_dup hx hb dX7_init_133 rfl ?_
  obtain ⟨v48, ev48, hq⟩ := b_s hq
  refine gw_v (g_runI (As := []) (rest := [.ref v44.2, .int (4 : Int32), .ref v46]) hC (c_X1_init l V g D cT f47 (v44.2 + 1) v44.2 v48 ev48) k_X1_init m_40 rfl rfl ⟨Nat.le_of_ble_eq_true rfl, Nat.le_of_ble_eq_true rfl⟩ hI rfl hl.1 rfl (Nat.le_of_ble_eq_true rfl) dX7_init_134 ⟨by decide, by decide⟩) hI (fun H locs hI => ?_)
  obtain ⟨f49, ef49, hq⟩ := b_s hq
  refine fa_sq hx hb hI (by decide) (ci := 4) rfl rfl ef49 dX7_init_137 (fun H locs hI => ?_)
  refine lv_iinc (v := (5 : Int32)) (lv' := [(1, .int (5 : Int32)), (0, .ref a0)]) hx hb dX7_init_138 hl (k := 0) rfl (by decide) (by decide) rfl (fun ls hl => ?_)
  refine lv_goto (tgt := 119) hx hb dX7_init_141 (by decide) ?_
  refine lv_iload_n hx hb dX7_init_119 rfl (lv_at hl 0 rfl) ?_
  refine lv_bipush (v := (8 : Int32)) hx hb dX7_init_120 (by decide) ?_
  refine lv_icmp_ge (tgt := 144) hx hb dX7_init_122 (by decide) (fun c => absurd c (by decide)) (fun _ => ?_)
  refine lv_aload_n hx hb dX7_init_125 rfl (lv_at hl 1 rfl) ?_
  obtain ⟨v50, ev50, hq⟩ := b_s hq
  refine fa_gr (own := RX7) (ref := "CoastlineRuler") (k := 4) hx hb hB inB_RX7 hown hI rfl (by decide) m_269 (fun _ h9 => h9) ev50 dX7_init_126 ?_
  refine lv_iload_n hx hb dX7_init_129 rfl (lv_at hl 0 rfl) ?_
  obtain ⟨f51, ef51, hq⟩ := b_s hq
  refine fa_new (own := RX7) (ci := 4) hx hb hB inB_RX1 tyX1_ok hown m_38 m_39 m_2 hI rfl (by decide +kernel) (by decide) (by decide) ef51 dX7_init_130 (fun H locs hI => ?_)
  refine lv_dup hx hb dX7_init_133 rfl ?_
  obtain ⟨v52, ev52, hq⟩ := b_s hq
  refine gw_v (g_runI (As := []) (rest := [.ref v48.2, .int (5 : Int32), .ref v50]) hC (c_X1_init l V g D cT f51 (v48.2 + 1) v48.2 v52 ev52) k_X1_init m_40 rfl rfl ⟨Nat.le_of_ble_eq_true rfl, Nat.le_of_ble_eq_true rfl⟩ hI rfl hl.1 rfl (Nat.le_of_ble_eq_true rfl) dX7_init_134 ⟨by decide, by decide⟩) hI (fun H locs hI => ?_)
  obtain ⟨f53, ef53, hq⟩ := b_s hq
  refine fa_sq hx hb hI (by decide) (ci := 4) rfl rfl ef53 dX7_init_137 (fun H locs hI => ?_)
  refine lv_iinc (v := (6 : Int32)) (lv' := [(1, .int (6 : Int32)), (0, .ref a0)]) hx hb dX7_init_138 hl (k := 0) rfl (by decide) (by decide) rfl (fun ls hl => ?_)
  refine lv_goto (tgt := 119) hx hb dX7_init_141 (by decide) ?_
  refine lv_iload_n hx hb dX7_init_119 rfl (lv_at hl 0 rfl) ?_
  refine lv_bipush (v := (8 : Int32)) hx hb dX7_init_120 (by decide) ?_
  refine lv_icmp_ge (tgt := 144) hx hb dX7_init_122 (by decide) (fun c => absurd c (by decide)) (fun _ => ?_)
  refine lv_aload_n hx hb dX7_init_125 rfl (lv_at hl 1 rfl) ?_
  obtain ⟨v54, ev54, hq⟩ := b_s hq
  refine fa_gr (own := RX7) (ref := "CoastlineRuler") (k := 4) hx hb hB inB_RX7 hown hI rfl (by decide) m_269 (fun _ h9 => h9) ev54 dX7_init_126 ?_
  refine lv_iload_n hx hb dX7_init_129 rfl (lv_at hl 0 rfl) ?_
  obtain ⟨f55, ef55, hq⟩ := b_s hq
  refine fa_new (own := RX7) (ci := 4) hx hb hB inB_RX1 tyX1_ok hown m_38 m_39 m_2 hI rfl (by decide +kernel) (by decide) (by decide) ef55 dX7_init_130 (fun H locs hI => ?_)
  refine lv_dup hx hb dX7_init_133 rfl ?_
  obtain ⟨v56, ev56, hq⟩ := b_s hq
  refine gw_v (g_runI (As := []) (rest := [.ref v52.2, .int (6 : Int32), .ref v54]) hC (c_X1_init l V g D cT f55 (v52.2 + 1) v52.2 v56 ev56) k_X1_init m_40 rfl rfl ⟨Nat.le_of_ble_eq_true rfl, Nat.le_of_ble_eq_true rfl⟩ hI rfl hl.1 rfl (Nat.le_of_ble_eq_true rfl) dX7_init_134 ⟨by decide, by decide⟩) hI (fun H locs hI => ?_)
  obtain ⟨f57, ef57, hq⟩ := b_s hq
  refine fa_sq hx hb hI (by decide) (ci := 4) rfl rfl ef57 dX7_init_137 (fun H locs hI => ?_)
  refine lv_iinc (v := (7 : Int32)) (lv' := [(1, .int (7 : Int32)), (0, .ref a0)]) hx hb dX7_init_138 hl (k := 0) rfl (by decide) (by decide) rfl (fun ls hl => ?_)
  refine lv_goto (tgt := 119) hx hb dX7_init_141 (by decide) ?_
  refine lv_iload_n hx hb dX7_init_119 rfl (lv_at hl 0 rfl) ?_
  refine lv_bipush (v := (8 : Int32)) hx hb dX7_init_120 (by decide) ?_
  refine lv_icmp_ge (tgt := 144) hx hb dX7_init_122 (by decide) (fun c => absurd c (by decide)) (fun _ => ?_)
  refine lv_aload_n hx hb dX7_init_125 rfl (lv_at hl 1 rfl) ?_
  obtain ⟨v58, ev58, hq⟩ := b_s hq
  refine fa_gr (own := RX7) (ref := "CoastlineRuler") (k := 4) hx hb hB inB_RX7 hown hI rfl (by decide) m_269 (fun _ h9 => h9) ev58 dX7_init_126 ?_
  refine lv_iload_n hx hb dX7_init_129 rfl (lv_at hl 0 rfl) ?_
  obtain ⟨f59, ef59, hq⟩ := b_s hq
  refine fa_new (own := RX7) (ci := 4) hx hb hB inB_RX1 tyX1_ok hown m_38 m_39 m_2 hI rfl (by decide +kernel) (by decide) (by decide) ef59 dX7_init_130 (fun H locs hI => ?_)
  refine lv_dup hx hb dX7_init_133 rfl ?_
  obtain ⟨v60, ev60, hq⟩ := b_s hq
  refine gw_v (g_runI (As := []) (rest := [.ref v56.2, .int (7 : Int32), .ref v58]) hC (c_X1_init l V g D cT f59 (v56.2 + 1) v56.2 v60 ev60) k_X1_init m_40 rfl rfl ⟨Nat.le_of_ble_eq_true rfl, Nat.le_of_ble_eq_true rfl⟩ hI rfl hl.1 rfl (Nat.le_of_ble_eq_true rfl) dX7_init_134 ⟨by decide, by decide⟩) hI (fun H locs hI => ?_)
  obtain ⟨f61, ef61, hq⟩ := b_s hq
  refine fa_sq hx hb hI (by decide) (ci := 4) rfl rfl ef61 dX7_init_137 (fun H locs hI => ?_)
  refine lv_iinc (v := (8 : Int32)) (lv' := [(1, .int (8 : Int32)), (0, .ref a0)]) hx hb dX7_init_138 hl (k := 0) rfl (by decide) (by decide) rfl (fun ls hl => ?_)
  refine lv_goto (tgt := 119) hx hb dX7_init_141 (by decide) ?_
  refine lv_iload_n hx hb dX7_init_119 rfl (lv_at hl 0 rfl) ?_
  refine lv_bipush (v := (8 : Int32)) hx hb dX7_init_120 (by decide) ?_
  refine lv_icmp_ge (tgt := 144) hx hb dX7_init_122 (by decide) (fun _ => ?_) (fun c => absurd (by decide) c)
  refine lv_iconst (v := (0 : Int32)) hx hb dX7_init_144 (by decide) ?_
  refine lv_istore_n (lv' := [(1, .int (0 : Int32)), (0, .ref a0)]) hx hb dX7_init_145 rfl hl (by decide) rfl (fun ls hl => ?_)
  refine lv_iload_n hx hb dX7_init_146 rfl (lv_at hl 0 rfl) ?_
  refine lv_bipush (v := (20 : Int32)) hx hb dX7_init_147 (by decide) ?_
  refine lv_icmp_ge (tgt := 171) hx hb dX7_init_149 (by decide) (fun c => absurd c (by decide)) (fun _ => ?_)
  refine lv_aload_n hx hb dX7_init_152 rfl (lv_at hl 1 rfl) ?_
  obtain ⟨v62, ev62, hq⟩ := b_s hq
  refine fa_gr (own := RX7) (ref := "CoastlineRuler") (k := 9) hx hb hB inB_RX7 hown hI rfl (by decide) m_274 (fun _ h9 => h9) ev62 dX7_init_153 ?_
  refine lv_iload_n hx hb dX7_init_156 rfl (lv_at hl 0 rfl) ?_
  obtain ⟨f63, ef63, hq⟩ := b_s hq
  refine fa_new (own := RX7) (ci := 6) hx hb hB inB_RX3 tyX3_ok hown m_157 m_159 m_6 hI rfl (by decide +kernel) (by decide) (by decide) ef63 dX7_init_157 (fun H locs hI => ?_)
  refine lv_dup hx hb dX7_init_160 rfl ?_
  obtain ⟨v64, ev64, hq⟩ := b_s hq
  refine gw_v (g_runIN (As := []) (rest := [.ref v60.2, .int (0 : Int32), .ref v62]) (j0 := 1) hC (c_X3_init l V g D cT f63 (v60.2 + 1) v60.2 v64 ev64) k_X3_init rfl rfl rfl ⟨Nat.le_of_ble_eq_true rfl, Nat.le_of_ble_eq_true rfl⟩ hI rfl hl.1 rfl (Nat.le_of_ble_eq_true rfl) dX7_init_161 ⟨by decide, by decide⟩) hI (fun H locs hI => ?_)
  obtain ⟨f65, ef65, hq⟩ := b_s hq
  refine fa_sq hx hb hI (by decide) (ci := 6) rfl rfl ef65 dX7_init_164 (fun H locs hI => ?_)
  refine lv_iinc (v := (1 : Int32)) (lv' := [(1, .int (1 : Int32)), (0, .ref a0)]) hx hb dX7_init_165 hl (k := 0) rfl (by decide) (by decide) rfl (fun ls hl => ?_)
  refine lv_goto (tgt := 146) hx hb dX7_init_168 (by decide) ?_
  refine lv_iload_n hx hb dX7_init_146 rfl (lv_at hl 0 rfl) ?_
  refine lv_bipush (v := (20 : Int32)) hx hb dX7_init_147 (by decide) ?_
  refine lv_icmp_ge (tgt := 171) hx hb dX7_init_149 (by decide) (fun c => absurd c (by decide)) (fun _ => ?_)
  refine lv_aload_n hx hb dX7_init_152 rfl (lv_at hl 1 rfl) ?_
  obtain ⟨v66, ev66, hq⟩ := b_s hq
  refine fa_gr (own := RX7) (ref := "CoastlineRuler") (k := 9) hx hb hB inB_RX7 hown hI rfl (by decide) m_274 (fun _ h9 => h9) ev66 dX7_init_153 ?_
  refine lv_iload_n hx hb dX7_init_156 rfl (lv_at hl 0 rfl) ?_
  obtain ⟨f67, ef67, hq⟩ := b_s hq
  refine fa_new (own := RX7) (ci := 6) hx hb hB inB_RX3 tyX3_ok hown m_157 m_159 m_6 hI rfl (by decide +kernel) (by decide) (by decide) ef67 dX7_init_157 (fun H locs hI => ?_)
  refine lv_dup hx hb dX7_init_160 rfl ?_
  obtain ⟨v68, ev68, hq⟩ := b_s hq
  refine gw_v (g_runIN (As := []) (rest := [.ref v64.2, .int (1 : Int32), .ref v66]) (j0 := 1) hC (c_X3_init l V g D cT f67 (v64.2 + 1) v64.2 v68 ev68) k_X3_init rfl rfl rfl ⟨Nat.le_of_ble_eq_true rfl, Nat.le_of_ble_eq_true rfl⟩ hI rfl hl.1 rfl (Nat.le_of_ble_eq_true rfl) dX7_init_161 ⟨by decide, by decide⟩) hI (fun H locs hI => ?_)
  obtain ⟨f69, ef69, hq⟩ := b_s hq
  refine fa_sq hx hb hI (by decide) (ci := 6) rfl rfl ef69 dX7_init_164 (fun H locs hI => ?_)
  refine lv_iinc (v := (2 : Int32)) (lv' := [(1, .int (2 : Int32)), (0, .ref a0)]) hx hb dX7_init_165 hl (k := 0) rfl (by decide) (by decide) rfl (fun ls hl => ?_)
  refine lv_goto (tgt := 146) hx hb dX7_init_168 (by decide) ?_
  refine lv_iload_n hx hb dX7_init_146 rfl (lv_at hl 0 rfl) ?_
  refine lv_bipush (v := (20 : Int32)) hx hb dX7_init_147 (by decide) ?_
  refine lv_icmp_ge (tgt := 171) hx hb dX7_init_149 (by decide) (fun c => absurd c (by decide)) (fun _ => ?_)
  refine lv_aload_n hx hb dX7_init_152 rfl (lv_at hl 1 rfl) ?_
  obtain ⟨v70, ev70, hq⟩ := b_s hq
  refine fa_gr (own := RX7) (ref := "CoastlineRuler") (k := 9) hx hb hB inB_RX7 hown hI rfl (by decide) m_274 (fun _ h9 => h9) ev70 dX7_init_153 ?_
  refine lv_iload_n hx hb dX7_init_156 rfl (lv_at hl 0 rfl) ?_
  obtain ⟨f71, ef71, hq⟩ := b_s hq
  refine fa_new (own := RX7) (ci := 6) hx hb hB inB_RX3 tyX3_ok hown m_157 m_159 m_6 hI rfl (by decide +kernel) (by decide) (by decide) ef71 dX7_init_157 (fun H locs hI => ?_)
  refine lv_dup hx hb dX7_init_160 rfl ?_
  obtain ⟨v72, ev72, hq⟩ := b_s hq
  refine gw_v (g_runIN (As := []) (rest := [.ref v68.2, .int (2 : Int32), .ref v70]) (j0 := 1) hC (c_X3_init l V g D cT f71 (v68.2 + 1) v68.2 v72 ev72) k_X3_init rfl rfl rfl ⟨Nat.le_of_ble_eq_true rfl, Nat.le_of_ble_eq_true rfl⟩ hI rfl hl.1 rfl (Nat.le_of_ble_eq_true rfl) dX7_init_161 ⟨by decide, by decide⟩) hI (fun H locs hI => ?_)
  obtain ⟨f73, ef73, hq⟩ := b_s hq
  refine fa_sq hx hb hI (by decide) (ci := 6) rfl rfl ef73 dX7_init_164 (fun H locs hI => ?_)
  refine lv_iinc (v := (3 : Int32)) (lv' := [(1, .int (3 : Int32)), (0, .ref a0)]) hx hb dX7_init_165 hl (k := 0) rfl (by decide) (by decide) rfl (fun ls hl => ?_)
  refine lv_goto (tgt := 146) hx hb dX7_init_168 (by decide) ?_
  refine lv_iload_n hx hb dX7_init_146 rfl (lv_at hl 0 rfl) ?_
  refine lv_bipush (v := (20 : Int32)) hx hb dX7_init_147 (by decide) ?_
  refine lv_icmp_ge (tgt := 171) hx hb dX7_init_149 (by decide) (fun c => absurd c (by decide)) (fun _ => ?_)
  refine lv_aload_n hx hb dX7_init_152 rfl (lv_at hl 1 rfl) ?_
  obtain ⟨v74, ev74, hq⟩ := b_s hq
  refine fa_gr (own := RX7) (ref := "CoastlineRuler") (k := 9) hx hb hB inB_RX7 hown hI rfl (by decide) m_274 (fun _ h9 => h9) ev74 dX7_init_153 ?_
  refine lv_iload_n hx hb dX7_init_156 rfl (lv_at hl 0 rfl) ?_
  obtain ⟨f75, ef75, hq⟩ := b_s hq
  refine fa_new (own := RX7) (ci := 6) hx hb hB inB_RX3 tyX3_ok hown m_157 m_159 m_6 hI rfl (by decide +kernel) (by decide) (by decide) ef75 dX7_init_157 (fun H locs hI => ?_)
  refine lv_dup hx hb dX7_init_160 rfl ?_
  obtain ⟨v76, ev76, hq⟩ := b_s hq
  refine gw_v (g_runIN (As := []) (rest := [.ref v72.2, .int (3 : Int32), .ref v74]) (j0 := 1) hC (c_X3_init l V g D cT f75 (v72.2 + 1) v72.2 v76 ev76) k_X3_init rfl rfl rfl ⟨Nat.le_of_ble_eq_true rfl, Nat.le_of_ble_eq_true rfl⟩ hI rfl hl.1 rfl (Nat.le_of_ble_eq_true rfl) dX7_init_161 ⟨by decide, by decide⟩) hI (fun H locs hI => ?_)
  obtain ⟨f77, ef77, hq⟩ := b_s hq
  refine fa_sq hx hb hI (by decide) (ci := 6) rfl rfl ef77 dX7_init_164 (fun H locs hI => ?_)
  refine lv_iinc (v := (4 : Int32)) (lv' := [(1, .int (4 : Int32)), (0, .ref a0)]) hx hb dX7_init_165 hl (k := 0) rfl (by decide) (by decide) rfl (fun ls hl => ?_)
  refine lv_goto (tgt := 146) hx hb dX7_init_168 (by decide) ?_
  refine lv_iload_n hx hb dX7_init_146 rfl (lv_at hl 0 rfl) ?_
  refine lv_bipush (v := (20 : Int32)) hx hb dX7_init_147 (by decide) ?_
  refine lv_icmp_ge (tgt := 171) hx hb dX7_init_149 (by decide) (fun c => absurd c (by decide)) (fun _ => ?_)
  refine lv_aload_n hx hb dX7_init_152 rfl (lv_at hl 1 rfl) ?_
  obtain ⟨v78, ev78, hq⟩ := b_s hq
  refine fa_gr (own := RX7) (ref := "CoastlineRuler") (k := 9) hx hb hB inB_RX7 hown hI rfl (by decide) m_274 (fun _ h9 => h9) ev78 dX7_init_153 ?_
  refine lv_iload_n hx hb dX7_init_156 rfl (lv_at hl 0 rfl) ?_
  obtain ⟨f79, ef79, hq⟩ := b_s hq
  refine fa_new (own := RX7) (ci := 6) hx hb hB inB_RX3 tyX3_ok hown m_157 m_159 m_6 hI rfl (by decide +kernel) (by decide) (by decide) ef79 dX7_init_157 (fun H locs hI => ?_)
  refine lv_dup hx hb dX7_init_160 rfl ?_
  obtain ⟨v80, ev80, hq⟩ := b_s hq
  refine gw_v (g_runIN (As := []) (rest := [.ref v76.2, .int (4 : Int32), .ref v78]) (j0 := 1) hC (c_X3_init l V g D cT f79 (v76.2 + 1) v76.2 v80 ev80) k_X3_init rfl rfl rfl ⟨Nat.le_of_ble_eq_true rfl, Nat.le_of_ble_eq_true rfl⟩ hI rfl hl.1 rfl (Nat.le_of_ble_eq_true rfl) dX7_init_161 ⟨by decide, by decide⟩) hI (fun H locs hI => ?_)
  obtain ⟨f81, ef81, hq⟩ := b_s hq
  refine fa_sq hx hb hI (by decide) (ci := 6) rfl rfl ef81 dX7_init_164 (fun H locs hI => ?_)
  refine lv_iinc (v := (5 : Int32)) (lv' := [(1, .int (5 : Int32)), (0, .ref a0)]) hx hb dX7_init_165 hl (k := 0) rfl (by decide) (by decide) rfl (fun ls hl => ?_)
  refine lv_goto (tgt := 146) hx hb dX7_init_168 (by decide) ?_
  refine lv_iload_n hx hb dX7_init_146 rfl (lv_at hl 0 rfl) ?_
  refine lv_bipush (v := (20 : Int32)) hx hb dX7_init_147 (by decide) ?_
  refine lv_icmp_ge (tgt := 171) hx hb dX7_init_149 (by decide) (fun c => absurd c (by decide)) (fun _ => ?_)
  refine lv_aload_n hx hb dX7_init_152 rfl (lv_at hl 1 rfl) ?_
  obtain ⟨v82, ev82, hq⟩ := b_s hq
  refine fa_gr (own := RX7) (ref := "CoastlineRuler") (k := 9) hx hb hB inB_RX7 hown hI rfl (by decide) m_274 (fun _ h9 => h9) ev82 dX7_init_153 ?_
  refine lv_iload_n hx hb dX7_init_156 rfl (lv_at hl 0 rfl) ?_
  obtain ⟨f83, ef83, hq⟩ := b_s hq
  refine fa_new (own := RX7) (ci := 6) hx hb hB inB_RX3 tyX3_ok hown m_157 m_159 m_6 hI rfl (by decide +kernel) (by decide) (by decide) ef83 dX7_init_157 (fun H locs hI => ?_)
  refine lv_dup hx hb dX7_init_160 rfl ?_
  obtain ⟨v84, ev84, hq⟩ := b_s hq
  refine gw_v (g_runIN (As := []) (rest := [.ref v80.2, .int (5 : Int32), .ref v82]) (j0 := 1) hC (c_X3_init l V g D cT f83 (v80.2 + 1) v80.2 v84 ev84) k_X3_init rfl rfl rfl ⟨Nat.le_of_ble_eq_true rfl, Nat.le_of_ble_eq_true rfl⟩ hI rfl hl.1 rfl (Nat.le_of_ble_eq_true rfl) dX7_init_161 ⟨by decide, by decide⟩) hI (fun H locs hI => ?_)
  obtain ⟨f85, ef85, hq⟩ := b_s hq
  refine fa_sq hx hb hI (by decide) (ci := 6) rfl rfl ef85 dX7_init_164 (fun H locs hI => ?_)
  refine lv_iinc (v := (6 : Int32)) (lv' := [(1, .int (6 : Int32)), (0, .ref a0)]) hx hb dX7_init_165 hl (k := 0) rfl (by decide) (by decide) rfl (fun ls hl => ?_)
  refine lv_goto (tgt := 146) hx hb dX7_init_168 (by decide) ?_
  refine lv_iload_n hx hb dX7_init_146 rfl (lv_at hl 0 rfl) ?_
  refine lv_bipush (v := (20 : Int32)) hx hb dX7_init_147 (by decide) ?_
  refine lv_icmp_ge (tgt := 171) hx hb dX7_init_149 (by decide) (fun c => absurd c (by decide)) (fun _ => ?_)
  refine lv_aload_n hx hb dX7_init_152 rfl (lv_at hl 1 rfl) ?_
  obtain ⟨v86, ev86, hq⟩ := b_s hq
  refine fa_gr (own := RX7) (ref := "CoastlineRuler") (k := 9) hx hb hB inB_RX7 hown hI rfl (by decide) m_274 (fun _ h9 => h9) ev86 dX7_init_153 ?_
  refine lv_iload_n hx hb dX7_init_156 rfl (lv_at hl 0 rfl) ?_
  obtain ⟨f87, ef87, hq⟩ := b_s hq
  refine fa_new (own := RX7) (ci := 6) hx hb hB inB_RX3 tyX3_ok hown m_157 m_159 m_6 hI rfl (by decide +kernel) (by decide) (by decide) ef87 dX7_init_157 (fun H locs hI => ?_)
  refine lv_dup hx hb dX7_init_160 rfl ?_
  obtain ⟨v88, ev88, hq⟩ := b_s hq
  refine gw_v (g_runIN (As := []) (rest := [.ref v84.2, .int (6 : Int32), .ref v86]) (j0 := 1) hC (c_X3_init l V g D cT f87 (v84.2 + 1) v84.2 v88 ev88) k_X3_init rfl rfl rfl ⟨Nat.le_of_ble_eq_true rfl, Nat.le_of_ble_eq_true rfl⟩ hI rfl hl.1 rfl (Nat.le_of_ble_eq_true rfl) dX7_init_161 ⟨by decide, by decide⟩) hI (fun H locs hI => ?_)
  obtain ⟨f89, ef89, hq⟩ := b_s hq
  refine fa_sq hx hb hI (by decide) (ci := 6) rfl rfl ef89 dX7_init_164 (fun H locs hI => ?_)
  refine lv_iinc (v := (7 : Int32)) (lv' := [(1, .int (7 : Int32)), (0, .ref a0)]) hx hb dX7_init_165 hl (k := 0) rfl (by decide) (by decide) rfl (fun ls hl => ?_)
  refine lv_goto (tgt := 146) hx hb dX7_init_168 (by decide) ?_
  refine lv_iload_n hx hb dX7_init_146 rfl (lv_at hl 0 rfl) ?_
  refine lv_bipush (v := (20 : Int32)) hx hb dX7_init_147 (by decide) ?_
  refine lv_icmp_ge (tgt := 171) hx hb dX7_init_149 (by decide) (fun c => absurd c (by decide)) (fun _ => ?_)
  refine lv_aload_n hx hb dX7_init_152 rfl (lv_at hl 1 rfl) ?_
  obtain ⟨v90, ev90, hq⟩ := b_s hq
  refine fa_gr (own := RX7) (ref := "CoastlineRuler") (k := 9) hx hb hB inB_RX7 hown hI rfl (by decide) m_274 (fun _ h9 => h9) ev90 dX7_init_153 ?_
  refine lv_iload_n hx hb dX7_init_156 rfl (lv_at hl 0 rfl) ?_
  obtain ⟨f91, ef91, hq⟩ := b_s hq
  refine fa_new (own := RX7) (ci := 6) hx hb hB inB_RX3 tyX3_ok hown m_157 m_159 m_6 hI rfl (by decide +kernel) (by decide) (by decide) ef91 dX7_init_157 (fun H locs hI => ?_)
  refine lv_dup hx hb dX7_init_160 rfl ?_
  obtain ⟨v92, ev92, hq⟩ := b_s hq
  refine gw_v (g_runIN (As := []) (rest := [.ref v88.2, .int (7 : Int32), .ref v90]) (j0 := 1) hC (c_X3_init l V g D cT f91 (v88.2 + 1) v88.2 v92 ev92) k_X3_init rfl rfl rfl ⟨Nat.le_of_ble_eq_true rfl, Nat.le_of_ble_eq_true rfl⟩ hI rfl hl.1 rfl (Nat.le_of_ble_eq_true rfl) dX7_init_161 ⟨by decide, by decide⟩) hI (fun H locs hI => ?_)
  obtain ⟨f93, ef93, hq⟩ := b_s hq
  refine fa_sq hx hb hI (by decide) (ci := 6) rfl rfl ef93 dX7_init_164 (fun H locs hI => ?_)
  refine lv_iinc (v := (8 : Int32)) (lv' := [(1, .int (8 : Int32)), (0, .ref a0)]) hx hb dX7_init_165 hl (k := 0) rfl (by decide) (by decide) rfl (fun ls hl => ?_)
  refine lv_goto (tgt := 146) hx hb dX7_init_168 (by decide) ?_
  refine lv_iload_n hx hb dX7_init_146 rfl (lv_at hl 0 rfl) ?_
  refine lv_bipush (v := (20 : Int32)) hx hb dX7_init_147 (by decide) ?_
  refine lv_icmp_ge (tgt := 171) hx hb dX7_init_149 (by decide) (fun c => absurd c (by decide)) (fun _ => ?_)
  refine lv_aload_n hx hb dX7_init_152 rfl (lv_at hl 1 rfl) ?_
  obtain ⟨v94, ev94, hq⟩ := b_s hq
  refine fa_gr (own := RX7) (ref := "CoastlineRuler") (k := 9) hx hb hB inB_RX7 hown hI rfl (by decide) m_274 (fun _ h9 => h9) ev94 dX7_init_153 ?_
  refine lv_iload_n hx hb dX7_init_156 rfl (lv_at hl 0 rfl) ?_
  obtain ⟨f95, ef95, hq⟩ := b_s hq
  refine fa_new (own := RX7) (ci := 6) hx hb hB inB_RX3 tyX3_ok hown m_157 m_159 m_6 hI rfl (by decide +kernel) (by decide) (by decide) ef95 dX7_init_157 (fun H locs hI => ?_)
  refine lv_dup hx hb dX7_init_160 rfl ?_
  obtain ⟨v96, ev96, hq⟩ := b_s hq
  refine gw_v (g_runIN (As := []) (rest := [.ref v92.2, .int (8 : Int32), .ref v94]) (j0 := 1) hC (c_X3_init l V g D cT f95 (v92.2 + 1) v92.2 v96 ev96) k_X3_init rfl rfl rfl ⟨Nat.le_of_ble_eq_true rfl, Nat.le_of_ble_eq_true rfl⟩ hI rfl hl.1 rfl (Nat.le_of_ble_eq_true rfl) dX7_init_161 ⟨by decide, by decide⟩) hI (fun H locs hI => ?_)
  obtain ⟨f97, ef97, hq⟩ := b_s hq
  refine fa_sq hx hb hI (by decide) (ci := 6) rfl rfl ef97 dX7_init_164 (fun H locs hI => ?_)
  refine lv_iinc (v := (9 : Int32)) (lv' := [(1, .int (9 : Int32)), (0, .ref a0)]) hx hb dX7_init_165 hl (k := 0) rfl (by decide) (by decide) rfl (fun ls hl => ?_)
  refine lv_goto (tgt := 146) hx hb dX7_init_168 (by decide) ?_
  refine lv_iload_n hx hb dX7_init_146 rfl (lv_at hl 0 rfl) ?_
  refine lv_bipush (v := (20 : Int32)) hx hb dX7_init_147 (by decide) ?_
  refine lv_icmp_ge (tgt := 171) hx hb dX7_init_149 (by decide) (fun c => absurd c (by decide)) (fun _ => ?_)
  refine lv_aload_n hx hb dX7_init_152 rfl (lv_at hl 1 rfl) ?_
  obtain ⟨v98, ev98, hq⟩ := b_s hq
  refine fa_gr (own := RX7) (ref := "CoastlineRuler") (k := 9) hx hb hB inB_RX7 hown hI rfl (by decide) m_274 (fun _ h9 => h9) ev98 dX7_init_153 ?_
  refine lv_iload_n hx hb dX7_init_156 rfl (lv_at hl 0 rfl) ?_
  obtain ⟨f99, ef99, hq⟩ := b_s hq
  refine fa_new (own := RX7) (ci := 6) hx hb hB inB_RX3 tyX3_ok hown m_157 m_159 m_6 hI rfl (by decide +kernel) (by decide) (by decide) ef99 dX7_init_157 (fun H locs hI => ?_)
  refine lv_dup hx hb dX7_init_160 rfl ?_
  obtain ⟨v100, ev100, hq⟩ := b_s hq
  refine gw_v (g_runIN (As := []) (rest := [.ref v96.2, .int (9 : Int32), .ref v98]) (j0 := 1) hC (c_X3_init l V g D cT f99 (v96.2 + 1) v96.2 v100 ev100) k_X3_init rfl rfl rfl ⟨Nat.le_of_ble_eq_true rfl, Nat.le_of_ble_eq_true rfl⟩ hI rfl hl.1 rfl (Nat.le_of_ble_eq_true rfl) dX7_init_161 ⟨by decide, by decide⟩) hI (fun H locs hI => ?_)
  obtain ⟨f101, ef101, hq⟩ := b_s hq
  refine fa_sq hx hb hI (by decide) (ci := 6) rfl rfl ef101 dX7_init_164 (fun H locs hI => ?_)
  refine lv_iinc (v := (10 : Int32)) (lv' := [(1, .int (10 : Int32)), (0, .ref a0)]) hx hb dX7_init_165 hl (k := 0) rfl (by decide) (by decide) rfl (fun ls hl => ?_)
  refine lv_goto (tgt := 146) hx hb dX7_init_168 (by decide) ?_
  refine lv_iload_n hx hb dX7_init_146 rfl (lv_at hl 0 rfl) ?_
  refine lv_bipush (v := (20 : Int32)) hx hb dX7_init_147 (by decide) ?_
  refine lv_icmp_ge (tgt := 171) hx hb dX7_init_149 (by decide) (fun c => absurd c (by decide)) (fun _ => ?_)
  refine lv_aload_n hx hb dX7_init_152 rfl (lv_at hl 1 rfl) ?_
  obtain ⟨v102, ev102, hq⟩ := b_s hq
  refine fa_gr (own := RX7) (ref := "CoastlineRuler") (k := 9) hx hb hB inB_RX7 hown hI rfl (by decide) m_274 (fun _ h9 => h9) ev102 dX7_init_153 ?_
  refine lv_iload_n hx hb dX7_init_156 rfl (lv_at hl 0 rfl) ?_
  obtain ⟨f103, ef103, hq⟩ := b_s hq
  refine fa_new (own := RX7) (ci := 6) hx hb hB inB_RX3 tyX3_ok hown m_157 m_159 m_6 hI rfl (by decide +kernel) (by decide) (by decide) ef103 dX7_init_157 (fun H locs hI => ?_)
  refine lv_dup hx hb dX7_init_160 rfl ?_
  obtain ⟨v104, ev104, hq⟩ := b_s hq
  refine gw_v (g_runIN (As := []) (rest := [.ref v100.2, .int (10 : Int32), .ref v102]) (j0 := 1) hC (c_X3_init l V g D cT f103 (v100.2 + 1) v100.2 v104 ev104) k_X3_init rfl rfl rfl ⟨Nat.le_of_ble_eq_true rfl, Nat.le_of_ble_eq_true rfl⟩ hI rfl hl.1 rfl (Nat.le_of_ble_eq_true rfl) dX7_init_161 ⟨by decide, by decide⟩) hI (fun H locs hI => ?_)
  obtain ⟨f105, ef105, hq⟩ := b_s hq
  refine fa_sq hx hb hI (by decide) (ci := 6) rfl rfl ef105 dX7_init_164 (fun H locs hI => ?_)
  refine lv_iinc (v := (11 : Int32)) (lv' := [(1, .int (11 : Int32)), (0, .ref a0)]) hx hb dX7_init_165 hl (k := 0) rfl (by decide) (by decide) rfl (fun ls hl => ?_)
  refine lv_goto (tgt := 146) hx hb dX7_init_168 (by decide) ?_
  refine lv_iload_n hx hb dX7_init_146 rfl (lv_at hl 0 rfl) ?_
  refine lv_bipush (v := (20 : Int32)) hx hb dX7_init_147 (by decide) ?_
  refine lv_icmp_ge (tgt := 171) hx hb dX7_init_149 (by decide) (fun c => absurd c (by decide)) (fun _ => ?_)
  refine lv_aload_n hx hb dX7_init_152 rfl (lv_at hl 1 rfl) ?_
  obtain ⟨v106, ev106, hq⟩ := b_s hq
  refine fa_gr (own := RX7) (ref := "CoastlineRuler") (k := 9) hx hb hB inB_RX7 hown hI rfl (by decide) m_274 (fun _ h9 => h9) ev106 dX7_init_153 ?_
  refine lv_iload_n hx hb dX7_init_156 rfl (lv_at hl 0 rfl) ?_
  obtain ⟨f107, ef107, hq⟩ := b_s hq
  refine fa_new (own := RX7) (ci := 6) hx hb hB inB_RX3 tyX3_ok hown m_157 m_159 m_6 hI rfl (by decide +kernel) (by decide) (by decide) ef107 dX7_init_157 (fun H locs hI => ?_)
  refine lv_dup hx hb dX7_init_160 rfl ?_
  obtain ⟨v108, ev108, hq⟩ := b_s hq
  refine gw_v (g_runIN (As := []) (rest := [.ref v104.2, .int (11 : Int32), .ref v106]) (j0 := 1) hC (c_X3_init l V g D cT f107 (v104.2 + 1) v104.2 v108 ev108) k_X3_init rfl rfl rfl ⟨Nat.le_of_ble_eq_true rfl, Nat.le_of_ble_eq_true rfl⟩ hI rfl hl.1 rfl (Nat.le_of_ble_eq_true rfl) dX7_init_161 ⟨by decide, by decide⟩) hI (fun H locs hI => ?_)
  obtain ⟨f109, ef109, hq⟩ := b_s hq
  refine fa_sq hx hb hI (by decide) (ci := 6) rfl rfl ef109 dX7_init_164 (fun H locs hI => ?_)
  refine lv_iinc (v := (12 : Int32)) (lv' := [(1, .int (12 : Int32)), (0, .ref a0)]) hx hb dX7_init_165 hl (k := 0) rfl (by decide) (by decide) rfl (fun ls hl => ?_)
  refine lv_goto (tgt := 146) hx hb dX7_init_168 (by decide) ?_
  refine lv_iload_n hx hb dX7_init_146 rfl (lv_at hl 0 rfl) ?_
  refine lv_bipush (v := (20 : Int32)) hx hb dX7_init_147 (by decide) ?_
  refine lv_icmp_ge (tgt := 171) hx hb dX7_init_149 (by decide) (fun c => absurd c (by decide)) (fun _ => ?_)
  refine lv_aload_n hx hb dX7_init_152 rfl (lv_at hl 1 rfl) ?_
  obtain ⟨v110, ev110, hq⟩ := b_s hq
  refine fa_gr (own := RX7) (ref := "CoastlineRuler") (k := 9) hx hb hB inB_RX7 hown hI rfl (by decide) m_274 (fun _ h9 => h9) ev110 dX7_init_153 ?_
  refine lv_iload_n hx hb dX7_init_156 rfl (lv_at hl 0 rfl) ?_
  obtain ⟨f111, ef111, hq⟩ := b_s hq
  refine fa_new (own := RX7) (ci := 6) hx hb hB inB_RX3 tyX3_ok hown m_157 m_159 m_6 hI rfl (by decide +kernel) (by decide) (by decide) ef111 dX7_init_157 (fun H locs hI => ?_)
  refine lv_dup hx hb dX7_init_160 rfl ?_
  obtain ⟨v112, ev112, hq⟩ := b_s hq
  refine gw_v (g_runIN (As := []) (rest := [.ref v108.2, .int (12 : Int32), .ref v110]) (j0 := 1) hC (c_X3_init l V g D cT f111 (v108.2 + 1) v108.2 v112 ev112) k_X3_init rfl rfl rfl ⟨Nat.le_of_ble_eq_true rfl, Nat.le_of_ble_eq_true rfl⟩ hI rfl hl.1 rfl (Nat.le_of_ble_eq_true rfl) dX7_init_161 ⟨by decide, by decide⟩) hI (fun H locs hI => ?_)
  obtain ⟨f113, ef113, hq⟩ := b_s hq
  refine fa_sq hx hb hI (by decide) (ci := 6) rfl rfl ef113 dX7_init_164 (fun H locs hI => ?_)
  refine lv_iinc (v := (13 : Int32)) (lv' := [(1, .int (13 : Int32)), (0, .ref a0)]) hx hb dX7_init_165 hl (k := 0) rfl (by decide) (by decide) rfl (fun ls hl => ?_)
  refine lv_goto (tgt := 146) hx hb dX7_init_168 (by decide) ?_
  refine lv_iload_n hx hb dX7_init_146 rfl (lv_at hl 0 rfl) ?_
  refine lv_bipush (v := (20 : Int32)) hx hb dX7_init_147 (by decide) ?_
  refine lv_icmp_ge (tgt := 171) hx hb dX7_init_149 (by decide) (fun c => absurd c (by decide)) (fun _ => ?_)
  refine lv_aload_n hx hb dX7_init_152 rfl (lv_at hl 1 rfl) ?_
  obtain ⟨v114, ev114, hq⟩ := b_s hq
  refine fa_gr (own := RX7) (ref := "CoastlineRuler") (k := 9) hx hb hB inB_RX7 hown hI rfl (by decide) m_274 (fun _ h9 => h9) ev114 dX7_init_153 ?_
  refine lv_iload_n hx hb dX7_init_156 rfl (lv_at hl 0 rfl) ?_
  obtain ⟨f115, ef115, hq⟩ := b_s hq
  refine fa_new (own := RX7) (ci := 6) hx hb hB inB_RX3 tyX3_ok hown m_157 m_159 m_6 hI rfl (by decide +kernel) (by decide) (by decide) ef115 dX7_init_157 (fun H locs hI => ?_)
  refine lv_dup hx hb dX7_init_160 rfl ?_
  obtain ⟨v116, ev116, hq⟩ := b_s hq
  refine gw_v (g_runIN (As := []) (rest := [.ref v112.2, .int (13 : Int32), .ref v114]) (j0 := 1) hC (c_X3_init l V g D cT f115 (v112.2 + 1) v112.2 v116 ev116) k_X3_init rfl rfl rfl ⟨Nat.le_of_ble_eq_true rfl, Nat.le_of_ble_eq_true rfl⟩ hI rfl hl.1 rfl (Nat.le_of_ble_eq_true rfl) dX7_init_161 ⟨by decide, by decide⟩) hI (fun H locs hI => ?_)
  obtain ⟨f117, ef117, hq⟩ := b_s hq
  refine fa_sq hx hb hI (by decide) (ci := 6) rfl rfl ef117 dX7_init_164 (fun H locs hI => ?_)
  refine lv_iinc (v := (14 : Int32)) (lv' := [(1, .int (14 : Int32)), (0, .ref a0)]) hx hb dX7_init_165 hl (k := 0) rfl (by decide) (by decide) rfl (fun ls hl => ?_)
  refine lv_goto (tgt := 146) hx hb dX7_init_168 (by decide) ?_
  refine lv_iload_n hx hb dX7_init_146 rfl (lv_at hl 0 rfl) ?_
  refine lv_bipush (v := (20 : Int32)) hx hb dX7_init_147 (by decide) ?_
  refine lv_icmp_ge (tgt := 171) hx hb dX7_init_149 (by decide) (fun c => absurd c (by decide)) (fun _ => ?_)
  refine lv_aload_n hx hb dX7_init_152 rfl (lv_at hl 1 rfl) ?_
  obtain ⟨v118, ev118, hq⟩ := b_s hq
  refine fa_gr (own := RX7) (ref := "CoastlineRuler") (k := 9) hx hb hB inB_RX7 hown hI rfl (by decide) m_274 (fun _ h9 => h9) ev118 dX7_init_153 ?_
  refine lv_iload_n hx hb dX7_init_156 rfl (lv_at hl 0 rfl) ?_
  obtain ⟨f119, ef119, hq⟩ := b_s hq
  refine fa_new (own := RX7) (ci := 6) hx hb hB inB_RX3 tyX3_ok hown m_157 m_159 m_6 hI rfl (by decide +kernel) (by decide) (by decide) ef119 dX7_init_157 (fun H locs hI => ?_)
  refine lv_dup hx hb dX7_init_160 rfl ?_
  obtain ⟨v120, ev120, hq⟩ := b_s hq
  refine gw_v (g_runIN (As := []) (rest := [.ref v116.2, .int (14 : Int32), .ref v118]) (j0 := 1) hC (c_X3_init l V g D cT f119 (v116.2 + 1) v116.2 v120 ev120) k_X3_init rfl rfl rfl ⟨Nat.le_of_ble_eq_true rfl, Nat.le_of_ble_eq_true rfl⟩ hI rfl hl.1 rfl (Nat.le_of_ble_eq_true rfl) dX7_init_161 ⟨by decide, by decide⟩) hI (fun H locs hI => ?_)
  obtain ⟨f121, ef121, hq⟩ := b_s hq
  refine fa_sq hx hb hI (by decide) (ci := 6) rfl rfl ef121 dX7_init_164 (fun H locs hI => ?_)
  refine lv_iinc (v := (15 : Int32)) (lv' := [(1, .int (15 : Int32)), (0, .ref a0)]) hx hb dX7_init_165 hl (k := 0) rfl (by decide) (by decide) rfl (fun ls hl => ?_)
  refine lv_goto (tgt := 146) hx hb dX7_init_168 (by decide) ?_
  refine lv_iload_n hx hb dX7_init_146 rfl (lv_at hl 0 rfl) ?_
  refine lv_bipush (v := (20 : Int32)) hx hb dX7_init_147 (by decide) ?_
  refine lv_icmp_ge (tgt := 171) hx hb dX7_init_149 (by decide) (fun c => absurd c (by decide)) (fun _ => ?_)
  refine lv_aload_n hx hb dX7_init_152 rfl (lv_at hl 1 rfl) ?_
  obtain ⟨v122, ev122, hq⟩ := b_s hq
  refine fa_gr (own := RX7) (ref := "CoastlineRuler") (k := 9) hx hb hB inB_RX7 hown hI rfl (by decide) m_274 (fun _ h9 => h9) ev122 dX7_init_153 ?_
  refine lv_iload_n hx hb dX7_init_156 rfl (lv_at hl 0 rfl) ?_
  obtain ⟨f123, ef123, hq⟩ := b_s hq
  refine fa_new (own := RX7) (ci := 6) hx hb hB inB_RX3 tyX3_ok hown m_157 m_159 m_6 hI rfl (by decide +kernel) (by decide) (by decide) ef123 dX7_init_157 (fun H locs hI => ?_)
  refine lv_dup hx hb dX7_init_160 rfl ?_
  obtain ⟨v124, ev124, hq⟩ := b_s hq
  refine gw_v (g_runIN (As := []) (rest := [.ref v120.2, .int (15 : Int32), .ref v122]) (j0 := 1) hC (c_X3_init l V g D cT f123 (v120.2 + 1) v120.2 v124 ev124) k_X3_init rfl rfl rfl ⟨Nat.le_of_ble_eq_true rfl, Nat.le_of_ble_eq_true rfl⟩ hI rfl hl.1 rfl (Nat.le_of_ble_eq_true rfl) dX7_init_161 ⟨by decide, by decide⟩) hI (fun H locs hI => ?_)
  obtain ⟨f125, ef125, hq⟩ := b_s hq
  refine fa_sq hx hb hI (by decide) (ci := 6) rfl rfl ef125 dX7_init_164 (fun H locs hI => ?_)
  refine lv_iinc (v := (16 : Int32)) (lv' := [(1, .int (16 : Int32)), (0, .ref a0)]) hx hb dX7_init_165 hl (k := 0) rfl (by decide) (by decide) rfl (fun ls hl => ?_)
  refine lv_goto (tgt := 146) hx hb dX7_init_168 (by decide) ?_
  refine lv_iload_n hx hb dX7_init_146 rfl (lv_at hl 0 rfl) ?_
  refine lv_bipush (v := (20 : Int32)) hx hb dX7_init_147 (by decide) ?_
  refine lv_icmp_ge (tgt := 171) hx hb dX7_init_149 (by decide) (fun c => absurd c (by decide)) (fun _ => ?_)
  refine lv_aload_n hx hb dX7_init_152 rfl (lv_at hl 1 rfl) ?_
  obtain ⟨v126, ev126, hq⟩ := b_s hq
  refine fa_gr (own := RX7) (ref := "CoastlineRuler") (k := 9) hx hb hB inB_RX7 hown hI rfl (by decide) m_274 (fun _ h9 => h9) ev126 dX7_init_153 ?_
  refine lv_iload_n hx hb dX7_init_156 rfl (lv_at hl 0 rfl) ?_
  obtain ⟨f127, ef127, hq⟩ := b_s hq
  refine fa_new (own := RX7) (ci := 6) hx hb hB inB_RX3 tyX3_ok hown m_157 m_159 m_6 hI rfl (by decide +kernel) (by decide) (by decide) ef127 dX7_init_157 (fun H locs hI => ?_)
  refine lv_dup hx hb dX7_init_160 rfl ?_
  obtain ⟨v128, ev128, hq⟩ := b_s hq
  refine gw_v (g_runIN (As := []) (rest := [.ref v124.2, .int (16 : Int32), .ref v126]) (j0 := 1) hC (c_X3_init l V g D cT f127 (v124.2 + 1) v124.2 v128 ev128) k_X3_init rfl rfl rfl ⟨Nat.le_of_ble_eq_true rfl, Nat.le_of_ble_eq_true rfl⟩ hI rfl hl.1 rfl (Nat.le_of_ble_eq_true rfl) dX7_init_161 ⟨by decide, by decide⟩) hI (fun H locs hI => ?_)
  obtain ⟨f129, ef129, hq⟩ := b_s hq
  refine fa_sq hx hb hI (by decide) (ci := 6) rfl rfl ef129 dX7_init_164 (fun H locs hI => ?_)
  refine lv_iinc (v := (17 : Int32)) (lv' := [(1, .int (17 : Int32)), (0, .ref a0)]) hx hb dX7_init_165 hl (k := 0) rfl (by decide) (by decide) rfl (fun ls hl => ?_)
  refine lv_goto (tgt := 146) hx hb dX7_init_168 (by decide) ?_
  refine lv_iload_n hx hb dX7_init_146 rfl (lv_at hl 0 rfl) ?_
  refine lv_bipush (v := (20 : Int32)) hx hb dX7_init_147 (by decide) ?_
  refine lv_icmp_ge (tgt := 171) hx hb dX7_init_149 (by decide) (fun c => absurd c (by decide)) (fun _ => ?_)
  refine lv_aload_n hx hb dX7_init_152 rfl (lv_at hl 1 rfl) ?_
  obtain ⟨v130, ev130, hq⟩ := b_s hq
  refine fa_gr (own := RX7) (ref := "CoastlineRuler") (k := 9) hx hb hB inB_RX7 hown hI rfl (by decide) m_274 (fun _ h9 => h9) ev130 dX7_init_153 ?_
  refine lv_iload_n hx hb dX7_init_156 rfl (lv_at hl 0 rfl) ?_
  obtain ⟨f131, ef131, hq⟩ := b_s hq
  refine fa_new (own := RX7) (ci := 6) hx hb hB inB_RX3 tyX3_ok hown m_157 m_159 m_6 hI rfl (by decide +kernel) (by decide) (by decide) ef131 dX7_init_157 (fun H locs hI => ?_)
  refine lv_dup hx hb dX7_init_160 rfl ?_
  obtain ⟨v132, ev132, hq⟩ := b_s hq
  refine gw_v (g_runIN (As := []) (rest := [.ref v128.2, .int (17 : Int32), .ref v130]) (j0 := 1) hC (c_X3_init l V g D cT f131 (v128.2 + 1) v128.2 v132 ev132) k_X3_init rfl rfl rfl ⟨Nat.le_of_ble_eq_true rfl, Nat.le_of_ble_eq_true rfl⟩ hI rfl hl.1 rfl (Nat.le_of_ble_eq_true rfl) dX7_init_161 ⟨by decide, by decide⟩) hI (fun H locs hI => ?_)
  obtain ⟨f133, ef133, hq⟩ := b_s hq
  refine fa_sq hx hb hI (by decide) (ci := 6) rfl rfl ef133 dX7_init_164 (fun H locs hI => ?_)
  refine lv_iinc (v := (18 : Int32)) (lv' := [(1, .int (18 : Int32)), (0, .ref a0)]) hx hb dX7_init_165 hl (k := 0) rfl (by decide) (by decide) rfl (fun ls hl => ?_)
  refine lv_goto (tgt := 146) hx hb dX7_init_168 (by decide) ?_
  refine lv_iload_n hx hb dX7_init_146 rfl (lv_at hl 0 rfl) ?_
  refine lv_bipush (v := (20 : Int32)) hx hb dX7_init_147 (by decide) ?_
  refine lv_icmp_ge (tgt := 171) hx hb dX7_init_149 (by decide) (fun c => absurd c (by decide)) (fun _ => ?_)
  refine lv_aload_n hx hb dX7_init_152 rfl (lv_at hl 1 rfl) ?_
  obtain ⟨v134, ev134, hq⟩ := b_s hq
  refine fa_gr (own := RX7) (ref := "CoastlineRuler") (k := 9) hx hb hB inB_RX7 hown hI rfl (by decide) m_274 (fun _ h9 => h9) ev134 dX7_init_153 ?_
  refine lv_iload_n hx hb dX7_init_156 rfl (lv_at hl 0 rfl) ?_
  obtain ⟨f135, ef135, hq⟩ := b_s hq
  refine fa_new (own := RX7) (ci := 6) hx hb hB inB_RX3 tyX3_ok hown m_157 m_159 m_6 hI rfl (by decide +kernel) (by decide) (by decide) ef135 dX7_init_157 (fun H locs hI => ?_)
  refine lv_dup hx hb dX7_init_160 rfl ?_
  obtain ⟨v136, ev136, hq⟩ := b_s hq
  refine gw_v (g_runIN (As := []) (rest := [.ref v132.2, .int (18 : Int32), .ref v134]) (j0 := 1) hC (c_X3_init l V g D cT f135 (v132.2 + 1) v132.2 v136 ev136) k_X3_init rfl rfl rfl ⟨Nat.le_of_ble_eq_true rfl, Nat.le_of_ble_eq_true rfl⟩ hI rfl hl.1 rfl (Nat.le_of_ble_eq_true rfl) dX7_init_161 ⟨by decide, by decide⟩) hI (fun H locs hI => ?_)
  obtain ⟨f137, ef137, hq⟩ := b_s hq
  refine fa_sq hx hb hI (by decide) (ci := 6) rfl rfl ef137 dX7_init_164 (fun H locs hI => ?_)
  refine lv_iinc (v := (19 : Int32)) (lv' := [(1, .int (19 : Int32)), (0, .ref a0)]) hx hb dX7_init_165 hl (k := 0) rfl (by decide) (by decide) rfl (fun ls hl => ?_)
  refine lv_goto (tgt := 146) hx hb dX7_init_168 (by decide) ?_
  refine lv_iload_n hx hb dX7_init_146 rfl (lv_at hl 0 rfl) ?_
  refine lv_bipush (v := (20 : Int32)) hx hb dX7_init_147 (by decide) ?_
  refine lv_icmp_ge (tgt := 171) hx hb dX7_init_149 (by decide) (fun c => absurd c (by decide)) (fun _ => ?_)
  refine lv_aload_n hx hb dX7_init_152 rfl (lv_at hl 1 rfl) ?_
  obtain ⟨v138, ev138, hq⟩ := b_s hq
  refine fa_gr (own := RX7) (ref := "CoastlineRuler") (k := 9) hx hb hB inB_RX7 hown hI rfl (by decide) m_274 (fun _ h9 => h9) ev138 dX7_init_153 ?_
  refine lv_iload_n hx hb dX7_init_156 rfl (lv_at hl 0 rfl) ?_
  obtain ⟨f139, ef139, hq⟩ := b_s hq
  refine fa_new (own := RX7) (ci := 6) hx hb hB inB_RX3 tyX3_ok hown m_157 m_159 m_6 hI rfl (by decide +kernel) (by decide) (by decide) ef139 dX7_init_157 (fun H locs hI => ?_)
  refine lv_dup hx hb dX7_init_160 rfl ?_
  obtain ⟨v140, ev140, hq⟩ := b_s hq
  refine gw_v (g_runIN (As := []) (rest := [.ref v136.2, .int (19 : Int32), .ref v138]) (j0 := 1) hC (c_X3_init l V g D cT f139 (v136.2 + 1) v136.2 v140 ev140) k_X3_init rfl rfl rfl ⟨Nat.le_of_ble_eq_true rfl, Nat.le_of_ble_eq_true rfl⟩ hI rfl hl.1 rfl (Nat.le_of_ble_eq_true rfl) dX7_init_161 ⟨by decide, by decide⟩) hI (fun H locs hI => ?_)
  obtain ⟨f141, ef141, hq⟩ := b_s hq
  refine fa_sq hx hb hI (by decide) (ci := 6) rfl rfl ef141 dX7_init_164 (fun H locs hI => ?_)
  refine lv_iinc (v := (20 : Int32)) (lv' := [(1, .int (20 : Int32)), (0, .ref a0)]) hx hb dX7_init_165 hl (k := 0) rfl (by decide) (by decide) rfl (fun ls hl => ?_)
  refine lv_goto (tgt := 146) hx hb dX7_init_168 (by decide) ?_
  refine lv_iload_n hx hb dX7_init_146 rfl (lv_at hl 0 rfl) ?_
  refine lv_bipush (v := (20 : Int32)) hx hb dX7_init_147 (by decide) ?_
  refine lv_icmp_ge (tgt := 171) hx hb dX7_init_149 (by decide) (fun _ => ?_) (fun c => absurd (by decide) c)
  refine lv_aload_n hx hb dX7_init_171 rfl (lv_at hl 1 rfl) ?_
  obtain ⟨v142, ev142, hq⟩ := b_s hq
  refine fa_gr (own := RX7) (ref := "CoastlineRuler") (k := 0) hx hb hB inB_RX7 hown hI rfl (by decide) m_265 (fun _ h9 => h9) ev142 dX7_init_172 ?_
  refine fs_gs (i := 13) hx hb hown hI rfl (hB _ m_240) (fun _ h9 => h9) dX7_init_175 ?_
  refine lv_iconst (v := (0 : Int32)) hx hb dX7_init_178 (by decide) ?_
  obtain ⟨v143, ev143, hq⟩ := b_s hq
  refine gw_v (g_runV (As := [.ref (V 14), .int (0 : Int32)]) (rest := []) (ci := 4) hC (c_X1_place l V g D cT f141 v140.2 v142 (V 14) (0 : Int32) v143 ev143) k_X1_place m_242 rfl rfl ⟨Nat.le_of_ble_eq_true rfl, Nat.le_of_ble_eq_true rfl⟩ hI rfl rfl (h_me_eq ev143).1 rfl hl.1 rfl (Nat.le_of_ble_eq_true rfl) dX7_init_179 ⟨by decide, by decide⟩) hI (fun H locs hI => ?_)
  refine lv_aload_n hx hb dX7_init_182 rfl (lv_at hl 1 rfl) ?_
  obtain ⟨v144, ev144, hq⟩ := b_s hq
  refine fa_gr (own := RX7) (ref := "CoastlineRuler") (k := 0) hx hb hB inB_RX7 hown hI rfl (by decide) m_265 (fun _ h9 => h9) ev144 dX7_init_183 ?_
  refine fs_gs (i := 14) hx hb hown hI rfl (hB _ m_253) (fun _ h9 => h9) dX7_init_186 ?_
  refine lv_iconst (v := (1 : Int32)) hx hb dX7_init_189 (by decide) ?_
  obtain ⟨v145, ev145, hq⟩ := b_s hq
  refine gw_v (g_runV (As := [.ref (V 15), .int (1 : Int32)]) (rest := []) (ci := 4) hC (c_X1_place l V g D cT v143 v140.2 v144 (V 15) (1 : Int32) v145 ev145) k_X1_place m_242 rfl rfl ⟨Nat.le_of_ble_eq_true rfl, Nat.le_of_ble_eq_true rfl⟩ hI rfl rfl (h_me_eq ev145).1 rfl hl.1 rfl (Nat.le_of_ble_eq_true rfl) dX7_init_190 ⟨by decide, by decide⟩) hI (fun H locs hI => ?_)
  refine lv_aload_n hx hb dX7_init_193 rfl (lv_at hl 1 rfl) ?_
  obtain ⟨v146, ev146, hq⟩ := b_s hq
  refine fa_gr (own := RX7) (ref := "CoastlineRuler") (k := 0) hx hb hB inB_RX7 hown hI rfl (by decide) m_265 (fun _ h9 => h9) ev146 dX7_init_194 ?_
  refine fs_gs (i := 15) hx hb hown hI rfl (hB _ m_255) (fun _ h9 => h9) dX7_init_197 ?_
  refine lv_iconst (v := (1 : Int32)) hx hb dX7_init_200 (by decide) ?_
  obtain ⟨v147, ev147, hq⟩ := b_s hq
  refine gw_v (g_runV (As := [.ref (V 16), .int (1 : Int32)]) (rest := []) (ci := 4) hC (c_X1_place l V g D cT v145 v140.2 v146 (V 16) (1 : Int32) v147 ev147) k_X1_place m_242 rfl rfl ⟨Nat.le_of_ble_eq_true rfl, Nat.le_of_ble_eq_true rfl⟩ hI rfl rfl (h_me_eq ev147).1 rfl hl.1 rfl (Nat.le_of_ble_eq_true rfl) dX7_init_201 ⟨by decide, by decide⟩) hI (fun H locs hI => ?_)
  refine lv_aload_n hx hb dX7_init_204 rfl (lv_at hl 1 rfl) ?_
  obtain ⟨v148, ev148, hq⟩ := b_s hq
  refine fa_gr (own := RX7) (ref := "CoastlineRuler") (k := 0) hx hb hB inB_RX7 hown hI rfl (by decide) m_265 (fun _ h9 => h9) ev148 dX7_init_205 ?_
  obtain ⟨v149, ev149, hq⟩ := b_s hq
  refine gw_v (g_runV (As := []) (rest := []) (ci := 4) hC (c_X1_startLedgers l V g D cT v147 v140.2 v148 v149 ev149) k_X1_startLedgers m_257 rfl rfl ⟨Nat.le_of_ble_eq_true rfl, Nat.le_of_ble_eq_true rfl⟩ hI rfl rfl (h_me_eq ev149).1 rfl hl.1 rfl (Nat.le_of_ble_eq_true rfl) dX7_init_208 ⟨by decide, by decide⟩) hI (fun H locs hI => ?_)
  obtain rfl := Option.some.inj hq
  exact ge_Wv hx hb hlocks hr hI rfl dX7_init_211

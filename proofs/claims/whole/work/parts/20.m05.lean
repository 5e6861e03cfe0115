def p_X8_keep (V : Nat → Nat) (g f : GH) (a0 : Nat) : Option GH :=
  h_me f a0 10 <|
  (h_gr f a0 10 0).bind fun v1 =>
  (h_gr f a0 10 2).bind fun v2 =>
  (p_X8_copy V g f v1 (0 : Int32) v2 (0 : Int32)).bind fun v3 =>
  some v3
abbrev rm_X8_keep : Room := { frames := 3, cells := 0, slots := 0, locals := 143 }
theorem k_X8_keep : g_CV yX8_keep cX8_keep 1 none 0 := ⟨⟨m_1943, m_14, by decide +kernel⟩, m_1942, ms_59⟩
set_option maxHeartbeats 4000000 in
set_option maxRecDepth 100000 in
theorem c_X8_keep (l : Launch) (V : Nat → Nat) (g : GH) (D : va_G) (cT : Nat → ClassId) (f : GH) (n : Nat) (a0 : Nat) (o : GH) (hq : p_X8_keep V g f a0 = some o) : Met l yX8_keep (Cond.code yX8_keep cX8_keep 1 none :: g_B) rm_X8_keep (va_Pc [.ref a0] (g_I V g D cT f n)) (g_Wv V D cT o n) 0 0 (g_A V) := by
  refine g_begin (own := RX8) [.ref a0] [(0, .ref a0)] (g_A V) (fun _ h => h) (by decide) rfl (Nat.le_of_ble_eq_true rfl) rfl ?_
  intro p e s m args below meth c hx hb hr hlocks hin hC hI ls hl
  obtain ⟨hx, hb, hml, hown, hB⟩ := id hC
  obtain ⟨H, hH⟩ : ∃ H, H = s.heap := ⟨_, rfl⟩
  obtain ⟨locs, hlocs⟩ : ∃ L : List Loc, L = [] := ⟨_, rfl⟩
  rw [← hH, ← hlocs] at hI ⊢
  clear hH hlocs
  unfold p_X8_keep at hq
  replace hq := (h_me_eq hq).2
  refine lv_aload_n hx hb dX8_keep_0 rfl (lv_at hl 0 rfl) ?_
  obtain ⟨v1, ev1, hq⟩ := b_s hq
  refine fa_gr (own := RX8) (ref := "CoastlineRulerModel") (k := 0) hx hb hB inB_RX8 hown hI rfl (by decide) m_1531 (fun _ h9 => h9) ev1 dX8_keep_1 ?_
  refine lv_iconst (v := (0 : Int32)) hx hb dX8_keep_4 (by decide) ?_
  refine lv_aload_n hx hb dX8_keep_5 rfl (lv_at hl 0 rfl) ?_
  obtain ⟨v2, ev2, hq⟩ := b_s hq
  refine fa_gr (own := RX8) (ref := "CoastlineRulerModel") (k := 2) hx hb hB inB_RX8 hown hI rfl (by decide) m_1533 (fun _ h9 => h9) ev2 dX8_keep_6 ?_
  refine lv_iconst (v := (0 : Int32)) hx hb dX8_keep_9 (by decide) ?_
  obtain ⟨v3, ev3, hq⟩ := b_s hq
  refine gw_v (g_runS (As := [.ref v1, .int (0 : Int32), .ref v2, .int (0 : Int32)]) (rest := []) hC (c_X8_copy l V g D cT f n v1 (0 : Int32) v2 (0 : Int32) v3 ev3) k_X8_copy m_1944 rfl rfl ⟨Nat.le_of_ble_eq_true rfl, Nat.le_of_ble_eq_true rfl⟩ hI rfl hl.1 rfl (Nat.le_of_ble_eq_true rfl) dX8_keep_10 ⟨by decide, by decide⟩) hI (fun H locs hI => ?_)
  exact ge_Wv hx hb hlocks hr hI (Option.some.inj hq) dX8_keep_13

def p_X8_record_j48 (V : Nat → Nat) (g : GH) (x0 : Nat) (f : GH) : Option GH :=
  (h_gr f x0 10 2).bind fun v2 =>
  (h_gr f x0 10 4).bind fun v3 =>
  (h_gi f x0 10 6).bind fun v4 =>
  (p_X8_copy V g f v2 (0 : Int32) v3 v4).bind fun v5 =>
  (h_gi v5 x0 10 6).bind fun v6 =>
  (h_pt v5 x0 10 6 (.int (v6 + (1 : Int32)))).bind fun f7 =>
  some f7
def p_X8_record_l11 (V : Nat → Nat) (g : GH) (K38 : Nat → GH → Option GH) : Nat → Nat → Int32 → GH → Option GH
  | 0, _, _, _ => none
  | N + 1, x0, x1, f =>
    (if (8 : Int32) ≤ x1 then
      K38 x0 f
    else
      (h_gr f x0 10 4).bind fun v10 =>
      (h_gr f x0 10 4).bind fun v11 =>
      (p_X8_copy V g f v10 x1 v11 (x1 - (1 : Int32))).bind fun v12 =>
      p_X8_record_l11 V g K38 N x0 (x1 + (1 : Int32)) v12)
def p_X8_record (V : Nat → Nat) (g f : GH) (a0 : Nat) : Option GH :=
  h_me f a0 10 <|
  (h_gi f a0 10 6).bind fun v1 =>
  (if v1 = (8 : Int32) then
    p_X8_record_l11 V g (fun x0 f =>
      (h_gi f x0 10 6).bind fun v13 =>
      (h_pt f x0 10 6 (.int (v13 - (1 : Int32)))).bind fun f14 =>
      p_X8_record_j48 V g x0 f14) FU a0 (1 : Int32) f
  else
    p_X8_record_j48 V g a0 f)
abbrev rm_X8_record : Room := { frames := 3, cells := 0, slots := 0, locals := 143 }
theorem k_X8_record : g_CV yX8_record cX8_record 2 none 0 := ⟨⟨m_1958, m_14, by decide +kernel⟩, m_1957, ms_62⟩
set_option maxHeartbeats 4000000 in
set_option maxRecDepth 100000 in
theorem c_X8_record (l : Launch) (V : Nat → Nat) (g : GH) (D : va_G) (cT : Nat → ClassId) (f : GH) (n : Nat) (a0 : Nat) (o : GH) (hq : p_X8_record V g f a0 = some o) : Met l yX8_record (Cond.code yX8_record cX8_record 2 none :: g_B) rm_X8_record (va_Pc [.ref a0] (g_I V g D cT f n)) (g_Wv V D cT o n) 0 0 (g_A V) := by
  refine g_begin (own := RX8) [.ref a0] [(0, .ref a0)] (g_A V) (fun _ h => h) (by decide) rfl (Nat.le_of_ble_eq_true rfl) rfl ?_
  intro p e s m args below meth c hx hb hr hlocks hin hC hI ls hl
  obtain ⟨hx, hb, hml, hown, hB⟩ := id hC
  obtain ⟨H, hH⟩ : ∃ H, H = s.heap := ⟨_, rfl⟩
  obtain ⟨locs, hlocs⟩ : ∃ L : List Loc, L = [] := ⟨_, rfl⟩
  rw [← hH, ← hlocs] at hI ⊢
  clear hH hlocs
  unfold p_X8_record at hq
  replace hq := (h_me_eq hq).2
  refine lv_aload_n hx hb dX8_record_0 rfl (lv_at hl 0 rfl) ?_
  obtain ⟨v1, ev1, hq⟩ := b_s hq
  refine fa_gi (own := RX8) (ref := "CoastlineRulerModel") (k := 6) hx hb hB inB_RX8 hown hI rfl (by decide) m_1537 (fun _ h9 => h9) ev1 dX8_record_1 ?_
  refine lv_bipush (v := (8 : Int32)) hx hb dX8_record_4 (by decide) ?_
  have hj48 : ∀ (x0 : Nat) (f : GH) (H : Heap) (locs : List Loc) (ls : Array Slot), g_at (g_A V) V g D cT f n s H locs → lv_has ls 2 [(0, .ref x0)] → p_X8_record_j48 V g x0 f = some o → W p l e rm_X8_record s m args below meth c H locs 0 0 (MQ below (g_Wv V D cT o n) args s 0 0 (g_A V)) (F0 m 48 ls []) := by
    intro x0 f H locs ls hI hl hq
    unfold p_X8_record_j48 at hq
    refine lv_aload_n hx hb dX8_record_48 rfl (lv_at hl 0 rfl) ?_
    obtain ⟨v2, ev2, hq⟩ := b_s hq
    refine fa_gr (own := RX8) (ref := "CoastlineRulerModel") (k := 2) hx hb hB inB_RX8 hown hI rfl (by decide) m_1533 (fun _ h9 => h9) ev2 dX8_record_49 ?_
    refine lv_iconst (v := (0 : Int32)) hx hb dX8_record_52 (by decide) ?_
    refine lv_aload_n hx hb dX8_record_53 rfl (lv_at hl 0 rfl) ?_
    obtain ⟨v3, ev3, hq⟩ := b_s hq
    refine fa_gr (own := RX8) (ref := "CoastlineRulerModel") (k := 4) hx hb hB inB_RX8 hown hI rfl (by decide) m_1535 (fun _ h9 => h9) ev3 dX8_record_54 ?_
    refine lv_aload_n hx hb dX8_record_57 rfl (lv_at hl 0 rfl) ?_
    obtain ⟨v4, ev4, hq⟩ := b_s hq
    refine fa_gi (own := RX8) (ref := "CoastlineRulerModel") (k := 6) hx hb hB inB_RX8 hown hI rfl (by decide) m_1537 (fun _ h9 => h9) ev4 dX8_record_58 ?_
    obtain ⟨v5, ev5, hq⟩ := b_s hq
    refine gw_v (g_runS (As := [.ref v2, .int (0 : Int32), .ref v3, .int v4]) (rest := []) hC (c_X8_copy l V g D cT f n v2 (0 : Int32) v3 v4 v5 ev5) k_X8_copy m_1944 rfl rfl ⟨Nat.le_of_ble_eq_true rfl, Nat.le_of_ble_eq_true rfl⟩ hI rfl hl.1 rfl (Nat.le_of_ble_eq_true rfl) dX8_record_61 ⟨by decide, by decide⟩) hI (fun H locs hI => ?_)
    refine lv_aload_n hx hb dX8_record_64 rfl (lv_at hl 0 rfl) ?_
    refine lv_dup hx hb dX8_record_65 rfl ?_
    obtain ⟨v6, ev6, hq⟩ := b_s hq
    refine fa_gi (own := RX8) (ref := "CoastlineRulerModel") (k := 6) hx hb hB inB_RX8 hown hI rfl (by decide) m_1537 (fun _ h9 => h9) ev6 dX8_record_66 ?_
    refine lv_iconst (v := (1 : Int32)) hx hb dX8_record_69 (by decide) ?_
    refine lv_iadd hx hb dX8_record_70 ?_
    obtain ⟨f7, ef7, hq⟩ := b_s hq
    refine fa_pt (own := RX8) (ref := "CoastlineRulerModel") (k := 6) hx hb hB inB_RX8 tyX8_ok nmX8 hown hI rfl (by decide) m_1537 (fun _ h9 => h9) (by decide) rfl rfl ef7 dX8_record_71 (fun H locs hI => ?_)
    exact ge_Wv hx hb hlocks hr hI (Option.some.inj hq) dX8_record_74
  refine lv_icmp_ne (tgt := 48) hx hb dX8_record_6 (by decide) (fun c8 => ?_) (fun c8 => ?_)
  · replace hq := i_f c8 hq
    exact hj48 a0 f H locs ls hI (lv_sub hl [0] rfl) hq
  · replace hq := i_t c8 hq
    refine lv_iconst (v := (1 : Int32)) hx hb dX8_record_9 (by decide) ?_
    refine lv_istore_n (lv' := [(1, .int (1 : Int32)), (0, .ref a0)]) hx hb dX8_record_10 rfl hl (by decide) rfl (fun ls hl => ?_)
    have hl11 : ∀ (K38 : Nat → GH → Option GH) (hK38 : ∀ (x0 : Nat) (f : GH) (H : Heap) (locs : List Loc) (ls : Array Slot), g_at (g_A V) V g D cT f n s H locs → lv_has ls 2 [(0, .ref x0)] → K38 x0 f = some o → W p l e rm_X8_record s m args below meth c H locs 0 0 (MQ below (g_Wv V D cT o n) args s 0 0 (g_A V)) (F0 m 38 ls [])) (N : Nat) (x0 : Nat) (x1 : Int32) (f : GH) (H : Heap) (locs : List Loc) (ls : Array Slot), g_at (g_A V) V g D cT f n s H locs → lv_has ls 2 [(0, .ref x0), (1, .int x1)] → p_X8_record_l11 V g K38 N x0 x1 f = some o → W p l e rm_X8_record s m args below meth c H locs 0 0 (MQ below (g_Wv V D cT o n) args s 0 0 (g_A V)) (F0 m 11 ls []) := by
      intro K38 hK38 N
      induction N with
      | zero =>
        intro x0 x1 f H locs ls hI hl hq
        rw [p_X8_record_l11] at hq
        cases hq
      | succ N ih =>
        intro x0 x1 f H locs ls hI hl hq
        rw [p_X8_record_l11] at hq
        refine lv_iload_n hx hb dX8_record_11 rfl (lv_at hl 1 rfl) ?_
        refine lv_bipush (v := (8 : Int32)) hx hb dX8_record_12 (by decide) ?_
        refine lv_icmp_ge (tgt := 38) hx hb dX8_record_14 (by decide) (fun c9 => ?_) (fun c9 => ?_)
        · replace hq := i_t c9 hq
          exact hK38 x0 f H locs ls hI (lv_sub hl [0] rfl) hq
        · replace hq := i_f c9 hq
          refine lv_aload_n hx hb dX8_record_17 rfl (lv_at hl 0 rfl) ?_
          obtain ⟨v10, ev10, hq⟩ := b_s hq
          refine fa_gr (own := RX8) (ref := "CoastlineRulerModel") (k := 4) hx hb hB inB_RX8 hown hI rfl (by decide) m_1535 (fun _ h9 => h9) ev10 dX8_record_18 ?_
          refine lv_iload_n hx hb dX8_record_21 rfl (lv_at hl 1 rfl) ?_
          refine lv_aload_n hx hb dX8_record_22 rfl (lv_at hl 0 rfl) ?_
          obtain ⟨v11, ev11, hq⟩ := b_s hq
          refine fa_gr (own := RX8) (ref := "CoastlineRulerModel") (k := 4) hx hb hB inB_RX8 hown hI rfl (by decide) m_1535 (fun _ h9 => h9) ev11 dX8_record_23 ?_
          refine lv_iload_n hx hb dX8_record_26 rfl (lv_at hl 1 rfl) ?_
          refine lv_iconst (v := (1 : Int32)) hx hb dX8_record_27 (by decide) ?_
          refine lv_isub hx hb dX8_record_28 ?_
          obtain ⟨v12, ev12, hq⟩ := b_s hq
          refine gw_v (g_runS (As := [.ref v10, .int x1, .ref v11, .int (x1 - (1 : Int32))]) (rest := []) hC (c_X8_copy l V g D cT f n v10 x1 v11 (x1 - (1 : Int32)) v12 ev12) k_X8_copy m_1944 rfl rfl ⟨Nat.le_of_ble_eq_true rfl, Nat.le_of_ble_eq_true rfl⟩ hI rfl hl.1 rfl (Nat.le_of_ble_eq_true rfl) dX8_record_29 ⟨by decide, by decide⟩) hI (fun H locs hI => ?_)
          refine lv_iinc (v := x1 + (1 : Int32)) (lv' := [(1, .int (x1 + (1 : Int32))), (0, .ref x0)]) hx hb dX8_record_32 hl (k := 1) rfl rfl (by decide) rfl (fun ls hl => ?_)
          refine lv_goto (tgt := 11) hx hb dX8_record_35 (by decide) ?_
          exact ih x0 (x1 + (1 : Int32)) v12 H locs ls hI (lv_sub hl [1, 0] rfl) hq
    refine hl11 _ ?_ FU a0 (1 : Int32) f H locs ls hI (lv_sub hl [1, 0] rfl) hq
    · intro x0 f H locs ls hI hl hq
      refine lv_aload_n hx hb dX8_record_38 rfl (lv_at hl 0 rfl) ?_
      refine lv_dup hx hb dX8_record_39 rfl ?_
      obtain ⟨v13, ev13, hq⟩ := b_s hq
      refine fa_gi (own := RX8) (ref := "CoastlineRulerModel") (k := 6) hx hb hB inB_RX8 hown hI rfl (by decide) m_1537 (fun _ h9 => h9) ev13 dX8_record_40 ?_
      refine lv_iconst (v := (1 : Int32)) hx hb dX8_record_43 (by decide) ?_
      refine lv_isub hx hb dX8_record_44 ?_
      obtain ⟨f14, ef14, hq⟩ := b_s hq
      refine fa_pt (own := RX8) (ref := "CoastlineRulerModel") (k := 6) hx hb hB inB_RX8 tyX8_ok nmX8 hown hI rfl (by decide) m_1537 (fun _ h9 => h9) (by decide) rfl rfl ef14 dX8_record_45 (fun H locs hI => ?_)
      exact hj48 x0 f14 H locs ls hI (lv_sub hl [0] rfl) hq

def p_X8_fails (V : Nat → Nat) (g f : GH) (a0 : Nat) (a1 : Int32) : Option (Int32 × GH) :=
  h_me f a0 10 <|
  (h_pt f a0 10 7 (.int a1)).bind fun f1 =>
  (if a1 = (0 : Int32) then
    (p_X8_record V g f1 a0).bind fun v4 =>
    (if a1 = (0 : Int32) then
      some ((0 : Int32), v4)
    else
      some ((1 : Int32), v4))
  else
    (if a1 = (0 : Int32) then
      some ((0 : Int32), f1)
    else
      some ((1 : Int32), f1)))
abbrev rm_X8_fails : Room := { frames := 4, cells := 0, slots := 0, locals := 164 }
theorem k_X8_fails : g_CV yX8_fails cX8_fails 2 (some .boolean) 1 := ⟨⟨m_1954, m_14, by decide +kernel⟩, m_1953, ms_61⟩
set_option maxHeartbeats 4000000 in
set_option maxRecDepth 100000 in
theorem c_X8_fails (l : Launch) (V : Nat → Nat) (g : GH) (D : va_G) (cT : Nat → ClassId) (f : GH) (n : Nat) (a0 : Nat) (a1 : Int32) (o : Int32 × GH) (hq : p_X8_fails V g f a0 a1 = some o) : Met l yX8_fails (Cond.code yX8_fails cX8_fails 2 (some .boolean) :: g_B) rm_X8_fails (va_Pc [.ref a0, .int a1] (g_I V g D cT f n)) (g_Wi V D cT o.1 o.2 n) 0 0 (g_A V) := by
  refine g_begin (own := RX8) [.ref a0, .int a1] [(0, .ref a0), (1, .int a1)] (g_A V) (fun _ h => h) (by decide) rfl (Nat.le_of_ble_eq_true rfl) rfl ?_
  intro p e s m args below meth c hx hb hr hlocks hin hC hI ls hl
  obtain ⟨hx, hb, hml, hown, hB⟩ := id hC
  obtain ⟨H, hH⟩ : ∃ H, H = s.heap := ⟨_, rfl⟩
  obtain ⟨locs, hlocs⟩ : ∃ L : List Loc, L = [] := ⟨_, rfl⟩
  rw [← hH, ← hlocs] at hI ⊢
  clear hH hlocs
  unfold p_X8_fails at hq
  replace hq := (h_me_eq hq).2
  refine lv_aload_n hx hb dX8_fails_0 rfl (lv_at hl 0 rfl) ?_
  refine lv_iload_n hx hb dX8_fails_1 rfl (lv_at hl 1 rfl) ?_
  obtain ⟨f1, ef1, hq⟩ := b_s hq
  refine fa_pt (own := RX8) (ref := "CoastlineRulerModel") (k := 7) hx hb hB inB_RX8 tyX8_ok nmX8 hown hI rfl (by decide) m_1538 (fun _ h9 => h9) (by decide) rfl rfl ef1 dX8_fails_2 (fun H locs hI => ?_)
  refine lv_iload_n hx hb dX8_fails_5 rfl (lv_at hl 1 rfl) ?_
  refine lv_if_ne (tgt := 13) hx hb dX8_fails_6 (by decide) (fun c2 => ?_) (fun c2 => ?_)
  · replace hq := i_f c2 hq
    refine lv_iload_n hx hb dX8_fails_13 rfl (lv_at hl 1 rfl) ?_
    refine lv_if_eq (tgt := 21) hx hb dX8_fails_14 (by decide) (fun c3 => ?_) (fun c3 => ?_)
    · replace hq := i_t c3 hq
      refine lv_iconst (v := (0 : Int32)) hx hb dX8_fails_21 (by decide) ?_
      exact ge_Wi hx hb hlocks hr (by decide +kernel) hI (congrArg (fun z => z.1) (Option.some.inj hq)) (congrArg (fun z => z.2) (Option.some.inj hq)) dX8_fails_22
    · replace hq := i_f c3 hq
      refine lv_iconst (v := (1 : Int32)) hx hb dX8_fails_17 (by decide) ?_
      refine lv_goto (tgt := 22) hx hb dX8_fails_18 (by decide) ?_
      exact ge_Wi hx hb hlocks hr (by decide +kernel) hI (congrArg (fun z => z.1) (Option.some.inj hq)) (congrArg (fun z => z.2) (Option.some.inj hq)) dX8_fails_22
  · replace hq := i_t c2 hq
    refine lv_aload_n hx hb dX8_fails_9 rfl (lv_at hl 0 rfl) ?_
    obtain ⟨v4, ev4, hq⟩ := b_s hq
    refine gw_v (g_runV (As := []) (rest := []) (ci := 10) hC (c_X8_record l V g D cT f1 n a0 v4 ev4) k_X8_record m_1955 rfl rfl ⟨Nat.le_of_ble_eq_true rfl, Nat.le_of_ble_eq_true rfl⟩ hI rfl rfl (h_me_eq ev4).1 rfl hl.1 rfl (Nat.le_of_ble_eq_true rfl) dX8_fails_10 ⟨by decide, by decide⟩) hI (fun H locs hI => ?_)
    refine lv_iload_n hx hb dX8_fails_13 rfl (lv_at hl 1 rfl) ?_
    refine lv_if_eq (tgt := 21) hx hb dX8_fails_14 (by decide) (fun c5 => ?_) (fun c5 => ?_)
    · replace hq := i_t c5 hq
      refine lv_iconst (v := (0 : Int32)) hx hb dX8_fails_21 (by decide) ?_
      exact ge_Wi hx hb hlocks hr (by decide +kernel) hI (congrArg (fun z => z.1) (Option.some.inj hq)) (congrArg (fun z => z.2) (Option.some.inj hq)) dX8_fails_22
    · replace hq := i_f c5 hq
      refine lv_iconst (v := (1 : Int32)) hx hb dX8_fails_17 (by decide) ?_
      refine lv_goto (tgt := 22) hx hb dX8_fails_18 (by decide) ?_
      exact ge_Wi hx hb hlocks hr (by decide +kernel) hI (congrArg (fun z => z.1) (Option.some.inj hq)) (congrArg (fun z => z.2) (Option.some.inj hq)) dX8_fails_22

def p_X8_removeCoast_j21 (V : Nat → Nat) (g : GH) (x0 : Nat) (x1 : Int32) (t0 : Int32) (f : GH) : Option (Int32 × GH) :=
  (p_X8_doRemove V g f x0 x1).bind fun v3 =>
  (p_X8_fails V g v3.2 x0 v3.1).bind fun v4 =>
  (if v4.1 = (0 : Int32) then
    some (t0, v4.2)
  else
    some ((0 : Int32), v4.2))
def p_X8_removeCoast (V : Nat → Nat) (g f : GH) (a0 : Nat) (a1 : Int32) : Option (Int32 × GH) :=
  h_me f a0 10 <|
  (p_X8_keep V g f a0).bind fun v1 =>
  (p_X8_isCoast V g v1 a0 a1).bind fun v2 =>
  (if v2 = (0 : Int32) then
    p_X8_removeCoast_j21 V g a0 a1 (0 : Int32) v1
  else
    (p_X8_count V g v1 a0 a1).bind fun v7 =>
    p_X8_removeCoast_j21 V g a0 a1 v7 v1)
abbrev rm_X8_removeCoast : Room := { frames := 5, cells := 0, slots := 0, locals := 185 }
theorem k_X8_removeCoast : g_CV yX8_removeCoast cX8_removeCoast 3 (some .int) 1 := ⟨⟨m_1939, m_14, by decide +kernel⟩, m_1937, m_1938⟩
set_option maxHeartbeats 4000000 in
set_option maxRecDepth 100000 in
theorem c_X8_removeCoast (l : Launch) (V : Nat → Nat) (g : GH) (D : va_G) (cT : Nat → ClassId) (f : GH) (n : Nat) (a0 : Nat) (a1 : Int32) (o : Int32 × GH) (hq : p_X8_removeCoast V g f a0 a1 = some o) : Met l yX8_removeCoast (Cond.code yX8_removeCoast cX8_removeCoast 3 (some .int) :: g_B) rm_X8_removeCoast (va_Pc [.ref a0, .int a1] (g_I V g D cT f n)) (g_Wi V D cT o.1 o.2 n) 0 0 (g_A V) := by
  refine g_begin (own := RX8) [.ref a0, .int a1] [(0, .ref a0), (1, .int a1)] (g_A V) (fun _ h => h) (by decide) rfl (Nat.le_of_ble_eq_true rfl) rfl ?_
  intro p e s m args below meth c hx hb hr hlocks hin hC hI ls hl
  obtain ⟨hx, hb, hml, hown, hB⟩ := id hC
  obtain ⟨H, hH⟩ : ∃ H, H = s.heap := ⟨_, rfl⟩
  obtain ⟨locs, hlocs⟩ : ∃ L : List Loc, L = [] := ⟨_, rfl⟩
  rw [← hH, ← hlocs] at hI ⊢
  clear hH hlocs
  unfold p_X8_removeCoast at hq
  replace hq := (h_me_eq hq).2
  refine lv_aload_n hx hb dX8_removeCoast_0 rfl (lv_at hl 0 rfl) ?_
  obtain ⟨v1, ev1, hq⟩ := b_s hq
  refine gw_v (g_runV (As := []) (rest := []) (ci := 10) hC (c_X8_keep l V g D cT f n a0 v1 ev1) k_X8_keep m_1940 rfl rfl ⟨Nat.le_of_ble_eq_true rfl, Nat.le_of_ble_eq_true rfl⟩ hI rfl rfl (h_me_eq ev1).1 rfl hl.1 rfl (Nat.le_of_ble_eq_true rfl) dX8_removeCoast_1 ⟨by decide, by decide⟩) hI (fun H locs hI => ?_)
  refine lv_aload_n hx hb dX8_removeCoast_4 rfl (lv_at hl 0 rfl) ?_
  refine lv_iload_n hx hb dX8_removeCoast_5 rfl (lv_at hl 1 rfl) ?_
  obtain ⟨v2, ev2, hq⟩ := b_s hq
  refine gr_i (g_runV (As := [.int a1]) (rest := []) (ci := 10) hC (c_X8_isCoast l V g D cT v1 n a0 a1 v2 ev2) k_X8_isCoast m_1630 rfl rfl ⟨Nat.le_of_ble_eq_true rfl, Nat.le_of_ble_eq_true rfl⟩ hI rfl rfl (h_me_eq ev2).1 rfl hl.1 rfl (Nat.le_of_ble_eq_true rfl) dX8_removeCoast_6 ⟨by decide, by decide⟩) hI (fun H locs hI => ?_)
  have hj21 : ∀ (x0 : Nat) (x1 : Int32) (t0 : Int32) (f : GH) (H : Heap) (locs : List Loc) (ls : Array Slot), g_at (g_A V) V g D cT f n s H locs → lv_has ls 3 [(0, .ref x0), (1, .int x1)] → p_X8_removeCoast_j21 V g x0 x1 t0 f = some o → W p l e rm_X8_removeCoast s m args below meth c H locs 0 0 (MQ below (g_Wi V D cT o.1 o.2 n) args s 0 0 (g_A V)) (F0 m 21 ls [.int t0]) := by
    intro x0 x1 t0 f H locs ls hI hl hq
    unfold p_X8_removeCoast_j21 at hq
    refine lv_istore_n (lv' := [(2, .int t0), (0, .ref x0), (1, .int x1)]) hx hb dX8_removeCoast_21 rfl hl (by decide) rfl (fun ls hl => ?_)
    refine lv_aload_n hx hb dX8_removeCoast_22 rfl (lv_at hl 1 rfl) ?_
    refine lv_aload_n hx hb dX8_removeCoast_23 rfl (lv_at hl 1 rfl) ?_
    refine lv_iload_n hx hb dX8_removeCoast_24 rfl (lv_at hl 2 rfl) ?_
    obtain ⟨v3, ev3, hq⟩ := b_s hq
    refine gw_i (g_runV (As := [.int x1]) (rest := [.ref x0]) (ci := 10) hC (c_X8_doRemove l V g D cT f n x0 x1 v3 ev3) k_X8_doRemove m_1947 rfl rfl ⟨Nat.le_of_ble_eq_true rfl, Nat.le_of_ble_eq_true rfl⟩ hI rfl rfl (h_me_eq ev3).1 rfl hl.1 rfl (Nat.le_of_ble_eq_true rfl) dX8_removeCoast_25 ⟨by decide, by decide⟩) hI (fun H locs hI => ?_)
    obtain ⟨v4, ev4, hq⟩ := b_s hq
    refine gw_i (g_runV (As := [.int v3.1]) (rest := []) (ci := 10) hC (c_X8_fails l V g D cT v3.2 n x0 v3.1 v4 ev4) k_X8_fails m_1951 rfl rfl ⟨Nat.le_of_ble_eq_true rfl, Nat.le_of_ble_eq_true rfl⟩ hI rfl rfl (h_me_eq ev4).1 rfl hl.1 rfl (Nat.le_of_ble_eq_true rfl) dX8_removeCoast_28 ⟨by decide, by decide⟩) hI (fun H locs hI => ?_)
    refine lv_if_eq (tgt := 38) hx hb dX8_removeCoast_31 (by decide) (fun c5 => ?_) (fun c5 => ?_)
    · replace hq := i_t c5 hq
      refine lv_iload_n hx hb dX8_removeCoast_38 rfl (lv_at hl 0 rfl) ?_
      exact ge_Wi hx hb hlocks hr rfl hI (congrArg (fun z => z.1) (Option.some.inj hq)) (congrArg (fun z => z.2) (Option.some.inj hq)) dX8_removeCoast_39
    · replace hq := i_f c5 hq
      refine lv_iconst (v := (0 : Int32)) hx hb dX8_removeCoast_34 (by decide) ?_
      refine lv_goto (tgt := 39) hx hb dX8_removeCoast_35 (by decide) ?_
      exact ge_Wi hx hb hlocks hr rfl hI (congrArg (fun z => z.1) (Option.some.inj hq)) (congrArg (fun z => z.2) (Option.some.inj hq)) dX8_removeCoast_39
  refine lv_if_eq (tgt := 20) hx hb dX8_removeCoast_9 (by decide) (fun c6 => ?_) (fun c6 => ?_)
  · replace hq := i_t c6 hq
    refine lv_iconst (v := (0 : Int32)) hx hb dX8_removeCoast_20 (by decide) ?_
    exact hj21 a0 a1 (0 : Int32) v1 H locs ls hI (lv_sub hl [0, 1] rfl) hq
  · replace hq := i_f c6 hq
    refine lv_aload_n hx hb dX8_removeCoast_12 rfl (lv_at hl 0 rfl) ?_
    refine lv_iload_n hx hb dX8_removeCoast_13 rfl (lv_at hl 1 rfl) ?_
    obtain ⟨v7, ev7, hq⟩ := b_s hq
    refine gr_i (g_runV (As := [.int a1]) (rest := []) (ci := 10) hC (c_X8_count l V g D cT v1 n a0 a1 v7 ev7) k_X8_count m_1527 rfl rfl ⟨Nat.le_of_ble_eq_true rfl, Nat.le_of_ble_eq_true rfl⟩ hI rfl rfl (h_me_eq ev7).1 rfl hl.1 rfl (Nat.le_of_ble_eq_true rfl) dX8_removeCoast_14 ⟨by decide, by decide⟩) hI (fun H locs hI => ?_)
    refine lv_goto (tgt := 21) hx hb dX8_removeCoast_17 (by decide) ?_
    exact hj21 a0 a1 v7 v1 H locs ls hI (lv_sub hl [0, 1] rfl) hq

def p_X8_fold (V : Nat → Nat) (g f : GH) (a0 : Nat) (a1 : Int32) (a2 : Int32) : Option (Int32 × GH) :=
  h_me f a0 10 <|
  (p_X8_isCoast V g f a0 a1).bind fun v1 =>
  (p_X8_isHeight V g f a2).bind fun v2 =>
  (p_X8_lacksBoth V g f a0 v1 v2).bind fun v3 =>
  (if v3.1 = (0 : Int32) then
    (p_X8_keep V g v3.2 a0).bind fun v5 =>
    (p_X8_doFold V g v5 a0 a1 a2).bind fun v6 =>
    (p_X8_fails V g v6.2 a0 v6.1).bind fun v7 =>
    (if v7.1 = (0 : Int32) then
      (p_X8_count V g v7.2 a0 a1).bind fun v9 =>
      some (v9, v7.2)
    else
      some ((0 : Int32), v7.2))
  else
    some ((0 : Int32), v3.2))
abbrev rm_X8_fold : Room := { frames := 8, cells := 0, slots := 0, locals := 260 }
theorem k_X8_fold : g_CV yX8_fold cX8_fold 3 (some .int) 2 := ⟨⟨m_1962, m_14, by decide +kernel⟩, m_1960, m_1961⟩
set_option maxHeartbeats 4000000 in
set_option maxRecDepth 100000 in
theorem c_X8_fold (l : Launch) (V : Nat → Nat) (g : GH) (D : va_G) (cT : Nat → ClassId) (f : GH) (n : Nat) (a0 : Nat) (a1 : Int32) (a2 : Int32) (o : Int32 × GH) (hq : p_X8_fold V g f a0 a1 a2 = some o) : Met l yX8_fold (Cond.code yX8_fold cX8_fold 3 (some .int) :: g_B) rm_X8_fold (va_Pc [.ref a0, .int a1, .int a2] (g_I V g D cT f n)) (g_Wi V D cT o.1 o.2 n) 0 0 (g_A V) := by
  refine g_begin (own := RX8) [.ref a0, .int a1, .int a2] [(0, .ref a0), (1, .int a1), (2, .int a2)] (g_A V) (fun _ h => h) (by decide) rfl (Nat.le_of_ble_eq_true rfl) rfl ?_
  intro p e s m args below meth c hx hb hr hlocks hin hC hI ls hl
  obtain ⟨hx, hb, hml, hown, hB⟩ := id hC
  obtain ⟨H, hH⟩ : ∃ H, H = s.heap := ⟨_, rfl⟩
  obtain ⟨locs, hlocs⟩ : ∃ L : List Loc, L = [] := ⟨_, rfl⟩
  rw [← hH, ← hlocs] at hI ⊢
  clear hH hlocs
  unfold p_X8_fold at hq
  replace hq := (h_me_eq hq).2
  refine lv_aload_n hx hb dX8_fold_0 rfl (lv_at hl 0 rfl) ?_
  refine lv_aload_n hx hb dX8_fold_1 rfl (lv_at hl 0 rfl) ?_
  refine lv_iload_n hx hb dX8_fold_2 rfl (lv_at hl 1 rfl) ?_
  obtain ⟨v1, ev1, hq⟩ := b_s hq
  refine gr_i (g_runV (As := [.int a1]) (rest := [.ref a0]) (ci := 10) hC (c_X8_isCoast l V g D cT f n a0 a1 v1 ev1) k_X8_isCoast m_1630 rfl rfl ⟨Nat.le_of_ble_eq_true rfl, Nat.le_of_ble_eq_true rfl⟩ hI rfl rfl (h_me_eq ev1).1 rfl hl.1 rfl (Nat.le_of_ble_eq_true rfl) dX8_fold_3 ⟨by decide, by decide⟩) hI (fun H locs hI => ?_)
  refine lv_iload_n hx hb dX8_fold_6 rfl (lv_at hl 2 rfl) ?_
  obtain ⟨v2, ev2, hq⟩ := b_s hq
  refine gr_i (g_runS (As := [.int a2]) (rest := [.int v1, .ref a0]) hC (c_X8_isHeight l V g D cT f n a2 v2 ev2) k_X8_isHeight m_1869 rfl rfl ⟨Nat.le_of_ble_eq_true rfl, Nat.le_of_ble_eq_true rfl⟩ hI rfl hl.1 rfl (Nat.le_of_ble_eq_true rfl) dX8_fold_7 ⟨by decide, by decide⟩) hI (fun H locs hI => ?_)
  obtain ⟨v3, ev3, hq⟩ := b_s hq
  refine gw_i (g_runV (As := [.int v1, .int v2]) (rest := []) (ci := 10) hC (c_X8_lacksBoth l V g D cT f n a0 v1 v2 v3 ev3) k_X8_lacksBoth m_1693 rfl rfl ⟨Nat.le_of_ble_eq_true rfl, Nat.le_of_ble_eq_true rfl⟩ hI rfl rfl (h_me_eq ev3).1 rfl hl.1 rfl (Nat.le_of_ble_eq_true rfl) dX8_fold_10 ⟨by decide, by decide⟩) hI (fun H locs hI => ?_)
  refine lv_if_eq (tgt := 18) hx hb dX8_fold_13 (by decide) (fun c4 => ?_) (fun c4 => ?_)
  · replace hq := i_t c4 hq
    refine lv_aload_n hx hb dX8_fold_18 rfl (lv_at hl 0 rfl) ?_
    obtain ⟨v5, ev5, hq⟩ := b_s hq
    refine gw_v (g_runV (As := []) (rest := []) (ci := 10) hC (c_X8_keep l V g D cT v3.2 n a0 v5 ev5) k_X8_keep m_1940 rfl rfl ⟨Nat.le_of_ble_eq_true rfl, Nat.le_of_ble_eq_true rfl⟩ hI rfl rfl (h_me_eq ev5).1 rfl hl.1 rfl (Nat.le_of_ble_eq_true rfl) dX8_fold_19 ⟨by decide, by decide⟩) hI (fun H locs hI => ?_)
    refine lv_aload_n hx hb dX8_fold_22 rfl (lv_at hl 0 rfl) ?_
    refine lv_aload_n hx hb dX8_fold_23 rfl (lv_at hl 0 rfl) ?_
    refine lv_iload_n hx hb dX8_fold_24 rfl (lv_at hl 1 rfl) ?_
    refine lv_iload_n hx hb dX8_fold_25 rfl (lv_at hl 2 rfl) ?_
    obtain ⟨v6, ev6, hq⟩ := b_s hq
    refine gw_i (g_runV (As := [.int a1, .int a2]) (rest := [.ref a0]) (ci := 10) hC (c_X8_doFold l V g D cT v5 n a0 a1 a2 v6 ev6) k_X8_doFold m_1963 rfl rfl ⟨Nat.le_of_ble_eq_true rfl, Nat.le_of_ble_eq_true rfl⟩ hI rfl rfl (h_me_eq ev6).1 rfl hl.1 rfl (Nat.le_of_ble_eq_true rfl) dX8_fold_26 ⟨by decide, by decide⟩) hI (fun H locs hI => ?_)
    obtain ⟨v7, ev7, hq⟩ := b_s hq
    refine gw_i (g_runV (As := [.int v6.1]) (rest := []) (ci := 10) hC (c_X8_fails l V g D cT v6.2 n a0 v6.1 v7 ev7) k_X8_fails m_1951 rfl rfl ⟨Nat.le_of_ble_eq_true rfl, Nat.le_of_ble_eq_true rfl⟩ hI rfl rfl (h_me_eq ev7).1 rfl hl.1 rfl (Nat.le_of_ble_eq_true rfl) dX8_fold_29 ⟨by decide, by decide⟩) hI (fun H locs hI => ?_)
    refine lv_if_eq (tgt := 39) hx hb dX8_fold_32 (by decide) (fun c8 => ?_) (fun c8 => ?_)
    · replace hq := i_t c8 hq
      refine lv_aload_n hx hb dX8_fold_39 rfl (lv_at hl 0 rfl) ?_
      refine lv_iload_n hx hb dX8_fold_40 rfl (lv_at hl 1 rfl) ?_
      obtain ⟨v9, ev9, hq⟩ := b_s hq
      refine gr_i (g_runV (As := [.int a1]) (rest := []) (ci := 10) hC (c_X8_count l V g D cT v7.2 n a0 a1 v9 ev9) k_X8_count m_1527 rfl rfl ⟨Nat.le_of_ble_eq_true rfl, Nat.le_of_ble_eq_true rfl⟩ hI rfl rfl (h_me_eq ev9).1 rfl hl.1 rfl (Nat.le_of_ble_eq_true rfl) dX8_fold_41 ⟨by decide, by decide⟩) hI (fun H locs hI => ?_)
      exact ge_Wi hx hb hlocks hr rfl hI (congrArg (fun z => z.1) (Option.some.inj hq)) (congrArg (fun z => z.2) (Option.some.inj hq)) dX8_fold_44
    · replace hq := i_f c8 hq
      refine lv_iconst (v := (0 : Int32)) hx hb dX8_fold_35 (by decide) ?_
      refine lv_goto (tgt := 44) hx hb dX8_fold_36 (by decide) ?_
      exact ge_Wi hx hb hlocks hr rfl hI (congrArg (fun z => z.1) (Option.some.inj hq)) (congrArg (fun z => z.2) (Option.some.inj hq)) dX8_fold_44
  · replace hq := i_f c4 hq
    refine lv_iconst (v := (0 : Int32)) hx hb dX8_fold_16 (by decide) ?_
    exact ge_Wi hx hb hlocks hr rfl hI (congrArg (fun z => z.1) (Option.some.inj hq)) (congrArg (fun z => z.2) (Option.some.inj hq)) dX8_fold_17

def p_X8_unfold (V : Nat → Nat) (g f : GH) (a0 : Nat) (a1 : Int32) : Option (Int32 × GH) :=
  h_me f a0 10 <|
  (p_X8_keep V g f a0).bind fun v1 =>
  (p_X8_doUnfold V g v1 a0 a1).bind fun v2 =>
  (p_X8_fails V g v2.2 a0 v2.1).bind fun v3 =>
  (if v3.1 = (0 : Int32) then
    (p_X8_count V g v3.2 a0 a1).bind fun v5 =>
    some (v5, v3.2)
  else
    some ((0 : Int32), v3.2))
abbrev rm_X8_unfold : Room := { frames := 6, cells := 0, slots := 0, locals := 205 }
theorem k_X8_unfold : g_CV yX8_unfold cX8_unfold 2 (some .int) 1 := ⟨⟨m_1970, m_14, by decide +kernel⟩, m_1968, m_1969⟩
set_option maxHeartbeats 4000000 in
set_option maxRecDepth 100000 in
theorem c_X8_unfold (l : Launch) (V : Nat → Nat) (g : GH) (D : va_G) (cT : Nat → ClassId) (f : GH) (n : Nat) (a0 : Nat) (a1 : Int32) (o : Int32 × GH) (hq : p_X8_unfold V g f a0 a1 = some o) : Met l yX8_unfold (Cond.code yX8_unfold cX8_unfold 2 (some .int) :: g_B) rm_X8_unfold (va_Pc [.ref a0, .int a1] (g_I V g D cT f n)) (g_Wi V D cT o.1 o.2 n) 0 0 (g_A V) := by
  refine g_begin (own := RX8) [.ref a0, .int a1] [(0, .ref a0), (1, .int a1)] (g_A V) (fun _ h => h) (by decide) rfl (Nat.le_of_ble_eq_true rfl) rfl ?_
  intro p e s m args below meth c hx hb hr hlocks hin hC hI ls hl
  obtain ⟨hx, hb, hml, hown, hB⟩ := id hC
  obtain ⟨H, hH⟩ : ∃ H, H = s.heap := ⟨_, rfl⟩
  obtain ⟨locs, hlocs⟩ : ∃ L : List Loc, L = [] := ⟨_, rfl⟩
  rw [← hH, ← hlocs] at hI ⊢
  clear hH hlocs
  unfold p_X8_unfold at hq
  replace hq := (h_me_eq hq).2
  refine lv_aload_n hx hb dX8_unfold_0 rfl (lv_at hl 0 rfl) ?_
  obtain ⟨v1, ev1, hq⟩ := b_s hq
  refine gw_v (g_runV (As := []) (rest := []) (ci := 10) hC (c_X8_keep l V g D cT f n a0 v1 ev1) k_X8_keep m_1940 rfl rfl ⟨Nat.le_of_ble_eq_true rfl, Nat.le_of_ble_eq_true rfl⟩ hI rfl rfl (h_me_eq ev1).1 rfl hl.1 rfl (Nat.le_of_ble_eq_true rfl) dX8_unfold_1 ⟨by decide, by decide⟩) hI (fun H locs hI => ?_)
  refine lv_aload_n hx hb dX8_unfold_4 rfl (lv_at hl 0 rfl) ?_
  refine lv_aload_n hx hb dX8_unfold_5 rfl (lv_at hl 0 rfl) ?_
  refine lv_iload_n hx hb dX8_unfold_6 rfl (lv_at hl 1 rfl) ?_
  obtain ⟨v2, ev2, hq⟩ := b_s hq
  refine gw_i (g_runV (As := [.int a1]) (rest := [.ref a0]) (ci := 10) hC (c_X8_doUnfold l V g D cT v1 n a0 a1 v2 ev2) k_X8_doUnfold m_1971 rfl rfl ⟨Nat.le_of_ble_eq_true rfl, Nat.le_of_ble_eq_true rfl⟩ hI rfl rfl (h_me_eq ev2).1 rfl hl.1 rfl (Nat.le_of_ble_eq_true rfl) dX8_unfold_7 ⟨by decide, by decide⟩) hI (fun H locs hI => ?_)
  obtain ⟨v3, ev3, hq⟩ := b_s hq
  refine gw_i (g_runV (As := [.int v2.1]) (rest := []) (ci := 10) hC (c_X8_fails l V g D cT v2.2 n a0 v2.1 v3 ev3) k_X8_fails m_1951 rfl rfl ⟨Nat.le_of_ble_eq_true rfl, Nat.le_of_ble_eq_true rfl⟩ hI rfl rfl (h_me_eq ev3).1 rfl hl.1 rfl (Nat.le_of_ble_eq_true rfl) dX8_unfold_10 ⟨by decide, by decide⟩) hI (fun H locs hI => ?_)
  refine lv_if_eq (tgt := 20) hx hb dX8_unfold_13 (by decide) (fun c4 => ?_) (fun c4 => ?_)
  · replace hq := i_t c4 hq
    refine lv_aload_n hx hb dX8_unfold_20 rfl (lv_at hl 0 rfl) ?_
    refine lv_iload_n hx hb dX8_unfold_21 rfl (lv_at hl 1 rfl) ?_
    obtain ⟨v5, ev5, hq⟩ := b_s hq
    refine gr_i (g_runV (As := [.int a1]) (rest := []) (ci := 10) hC (c_X8_count l V g D cT v3.2 n a0 a1 v5 ev5) k_X8_count m_1527 rfl rfl ⟨Nat.le_of_ble_eq_true rfl, Nat.le_of_ble_eq_true rfl⟩ hI rfl rfl (h_me_eq ev5).1 rfl hl.1 rfl (Nat.le_of_ble_eq_true rfl) dX8_unfold_22 ⟨by decide, by decide⟩) hI (fun H locs hI => ?_)
    exact ge_Wi hx hb hlocks hr rfl hI (congrArg (fun z => z.1) (Option.some.inj hq)) (congrArg (fun z => z.2) (Option.some.inj hq)) dX8_unfold_25
  · replace hq := i_f c4 hq
    refine lv_iconst (v := (0 : Int32)) hx hb dX8_unfold_16 (by decide) ?_
    refine lv_goto (tgt := 25) hx hb dX8_unfold_17 (by decide) ?_
    exact ge_Wi hx hb hlocks hr rfl hI (congrArg (fun z => z.1) (Option.some.inj hq)) (congrArg (fun z => z.2) (Option.some.inj hq)) dX8_unfold_25

def p_X8_movePoint (V : Nat → Nat) (g f : GH) (a0 : Nat) (a1 : Int32) (a2 : Int32) (a3 : Int32) (a4 : Int32) : Option (Int32 × GH) :=
  h_me f a0 10 <|
  (p_X8_isPoint V g f a0 a1 a2).bind fun v1 =>
  (p_X8_isPosition V g f a3 a4).bind fun v2 =>
  (p_X8_lacksBoth V g f a0 v1 v2).bind fun v3 =>
  (if v3.1 = (0 : Int32) then
    (p_X8_keep V g v3.2 a0).bind fun v5 =>
    (p_X8_x V g v5 a0 a1 a2).bind fun v6 =>
    (p_X8_y V g v5 a0 a1 a2).bind fun v7 =>
    (p_X8_isKing V g v5 a0).bind fun v8 =>
    (p_X8_measure V g v5 (v6 - a3) (v7 - a4) v8).bind fun v9 =>
    (p_X8_doMove V g v5 a0 a1 a2 a3 a4).bind fun v10 =>
    (p_X8_fails V g v10.2 a0 v10.1).bind fun v11 =>
    (if v11.1 = (0 : Int32) then
      some (v9, v11.2)
    else
      some ((0 : Int32), v11.2))
  else
    some ((0 : Int32), v3.2))
abbrev rm_X8_movePoint : Room := { frames := 6, cells := 0, slots := 0, locals := 209 }
theorem k_X8_movePoint : g_CV yX8_movePoint cX8_movePoint 6 (some .int) 4 := ⟨⟨m_1978, m_14, by decide +kernel⟩, m_1976, m_1977⟩
set_option maxHeartbeats 4000000 in
set_option maxRecDepth 100000 in
theorem c_X8_movePoint (l : Launch) (V : Nat → Nat) (g : GH) (D : va_G) (cT : Nat → ClassId) (f : GH) (n : Nat) (a0 : Nat) (a1 : Int32) (a2 : Int32) (a3 : Int32) (a4 : Int32) (o : Int32 × GH) (hq : p_X8_movePoint V g f a0 a1 a2 a3 a4 = some o) : Met l yX8_movePoint (Cond.code yX8_movePoint cX8_movePoint 6 (some .int) :: g_B) rm_X8_movePoint (va_Pc [.ref a0, .int a1, .int a2, .int a3, .int a4] (g_I V g D cT f n)) (g_Wi V D cT o.1 o.2 n) 0 0 (g_A V) := by
  refine g_begin (own := RX8) [.ref a0, .int a1, .int a2, .int a3, .int a4] [(0, .ref a0), (1, .int a1), (2, .int a2), (3, .int a3), (4, .int a4)] (g_A V) (fun _ h => h) (by decide) rfl (Nat.le_of_ble_eq_true rfl) rfl ?_
  intro p e s m args below meth c hx hb hr hlocks hin hC hI ls hl
  obtain ⟨hx, hb, hml, hown, hB⟩ := id hC
  obtain ⟨H, hH⟩ : ∃ H, H = s.heap := ⟨_, rfl⟩
  obtain ⟨locs, hlocs⟩ : ∃ L : List Loc, L = [] := ⟨_, rfl⟩
  rw [← hH, ← hlocs] at hI ⊢
  clear hH hlocs
  unfold p_X8_movePoint at hq
  replace hq := (h_me_eq hq).2
  refine lv_aload_n hx hb dX8_movePoint_0 rfl (lv_at hl 0 rfl) ?_
  refine lv_aload_n hx hb dX8_movePoint_1 rfl (lv_at hl 0 rfl) ?_
  refine lv_iload_n hx hb dX8_movePoint_2 rfl (lv_at hl 1 rfl) ?_
  refine lv_iload_n hx hb dX8_movePoint_3 rfl (lv_at hl 2 rfl) ?_
  obtain ⟨v1, ev1, hq⟩ := b_s hq
  refine gr_i (g_runV (As := [.int a1, .int a2]) (rest := [.ref a0]) (ci := 10) hC (c_X8_isPoint l V g D cT f n a0 a1 a2 v1 ev1) k_X8_isPoint m_1653 rfl rfl ⟨Nat.le_of_ble_eq_true rfl, Nat.le_of_ble_eq_true rfl⟩ hI rfl rfl (h_me_eq ev1).1 rfl hl.1 rfl (Nat.le_of_ble_eq_true rfl) dX8_movePoint_4 ⟨by decide, by decide⟩) hI (fun H locs hI => ?_)
  refine lv_iload_n hx hb dX8_movePoint_7 rfl (lv_at hl 3 rfl) ?_
  refine lv_iload hx hb dX8_movePoint_8 (lv_at hl 4 rfl) ?_
  obtain ⟨v2, ev2, hq⟩ := b_s hq
  refine gr_i (g_runS (As := [.int a3, .int a4]) (rest := [.int v1, .ref a0]) hC (c_X8_isPosition l V g D cT f n a3 a4 v2 ev2) k_X8_isPosition m_1687 rfl rfl ⟨Nat.le_of_ble_eq_true rfl, Nat.le_of_ble_eq_true rfl⟩ hI rfl hl.1 rfl (Nat.le_of_ble_eq_true rfl) dX8_movePoint_10 ⟨by decide, by decide⟩) hI (fun H locs hI => ?_)
  obtain ⟨v3, ev3, hq⟩ := b_s hq
  refine gw_i (g_runV (As := [.int v1, .int v2]) (rest := []) (ci := 10) hC (c_X8_lacksBoth l V g D cT f n a0 v1 v2 v3 ev3) k_X8_lacksBoth m_1693 rfl rfl ⟨Nat.le_of_ble_eq_true rfl, Nat.le_of_ble_eq_true rfl⟩ hI rfl rfl (h_me_eq ev3).1 rfl hl.1 rfl (Nat.le_of_ble_eq_true rfl) dX8_movePoint_13 ⟨by decide, by decide⟩) hI (fun H locs hI => ?_)
  refine lv_if_eq (tgt := 21) hx hb dX8_movePoint_16 (by decide) (fun c4 => ?_) (fun c4 => ?_)
  · replace hq := i_t c4 hq
    refine lv_aload_n hx hb dX8_movePoint_21 rfl (lv_at hl 0 rfl) ?_
    obtain ⟨v5, ev5, hq⟩ := b_s hq
    refine gw_v (g_runV (As := []) (rest := []) (ci := 10) hC (c_X8_keep l V g D cT v3.2 n a0 v5 ev5) k_X8_keep m_1940 rfl rfl ⟨Nat.le_of_ble_eq_true rfl, Nat.le_of_ble_eq_true rfl⟩ hI rfl rfl (h_me_eq ev5).1 rfl hl.1 rfl (Nat.le_of_ble_eq_true rfl) dX8_movePoint_22 ⟨by decide, by decide⟩) hI (fun H locs hI => ?_)
    refine lv_aload_n hx hb dX8_movePoint_25 rfl (lv_at hl 0 rfl) ?_
    refine lv_iload_n hx hb dX8_movePoint_26 rfl (lv_at hl 1 rfl) ?_
    refine lv_iload_n hx hb dX8_movePoint_27 rfl (lv_at hl 2 rfl) ?_
    obtain ⟨v6, ev6, hq⟩ := b_s hq
    refine gr_i (g_runV (As := [.int a1, .int a2]) (rest := []) (ci := 10) hC (c_X8_x l V g D cT v5 n a0 a1 a2 v6 ev6) k_X8_x m_1657 rfl rfl ⟨Nat.le_of_ble_eq_true rfl, Nat.le_of_ble_eq_true rfl⟩ hI rfl rfl (h_me_eq ev6).1 rfl hl.1 rfl (Nat.le_of_ble_eq_true rfl) dX8_movePoint_28 ⟨by decide, by decide⟩) hI (fun H locs hI => ?_)
    refine lv_iload_n hx hb dX8_movePoint_31 rfl (lv_at hl 3 rfl) ?_
    refine lv_isub hx hb dX8_movePoint_32 ?_
    refine lv_aload_n hx hb dX8_movePoint_33 rfl (lv_at hl 0 rfl) ?_
    refine lv_iload_n hx hb dX8_movePoint_34 rfl (lv_at hl 1 rfl) ?_
    refine lv_iload_n hx hb dX8_movePoint_35 rfl (lv_at hl 2 rfl) ?_
    obtain ⟨v7, ev7, hq⟩ := b_s hq
    refine gr_i (g_runV (As := [.int a1, .int a2]) (rest := [.int (v6 - a3)]) (ci := 10) hC (c_X8_y l V g D cT v5 n a0 a1 a2 v7 ev7) k_X8_y m_1665 rfl rfl ⟨Nat.le_of_ble_eq_true rfl, Nat.le_of_ble_eq_true rfl⟩ hI rfl rfl (h_me_eq ev7).1 rfl hl.1 rfl (Nat.le_of_ble_eq_true rfl) dX8_movePoint_36 ⟨by decide, by decide⟩) hI (fun H locs hI => ?_)
    refine lv_iload hx hb dX8_movePoint_39 (lv_at hl 4 rfl) ?_
    refine lv_isub hx hb dX8_movePoint_41 ?_
    refine lv_aload_n hx hb dX8_movePoint_42 rfl (lv_at hl 0 rfl) ?_
    obtain ⟨v8, ev8, hq⟩ := b_s hq
    refine gr_i (g_runV (As := []) (rest := [.int (v7 - a4), .int (v6 - a3)]) (ci := 10) hC (c_X8_isKing l V g D cT v5 n a0 v8 ev8) k_X8_isKing m_1622 rfl rfl ⟨Nat.le_of_ble_eq_true rfl, Nat.le_of_ble_eq_true rfl⟩ hI rfl rfl (h_me_eq ev8).1 rfl hl.1 rfl (Nat.le_of_ble_eq_true rfl) dX8_movePoint_43 ⟨by decide, by decide⟩) hI (fun H locs hI => ?_)
    obtain ⟨v9, ev9, hq⟩ := b_s hq
    refine gr_i (g_runS (As := [.int (v6 - a3), .int (v7 - a4), .int v8]) (rest := []) hC (c_X8_measure l V g D cT v5 n (v6 - a3) (v7 - a4) v8 v9 ev9) k_X8_measure m_1677 rfl rfl ⟨Nat.le_of_ble_eq_true rfl, Nat.le_of_ble_eq_true rfl⟩ hI rfl hl.1 rfl (Nat.le_of_ble_eq_true rfl) dX8_movePoint_46 ⟨by decide, by decide⟩) hI (fun H locs hI => ?_)
    refine lv_istore (lv' := [(5, .int v9), (0, .ref a0), (1, .int a1), (2, .int a2), (3, .int a3), (4, .int a4)]) hx hb dX8_movePoint_49 hl (by decide) rfl (fun ls hl => ?_)
    refine lv_aload_n hx hb dX8_movePoint_51 rfl (lv_at hl 1 rfl) ?_
    refine lv_aload_n hx hb dX8_movePoint_52 rfl (lv_at hl 1 rfl) ?_
    refine lv_iload_n hx hb dX8_movePoint_53 rfl (lv_at hl 2 rfl) ?_
    refine lv_iload_n hx hb dX8_movePoint_54 rfl (lv_at hl 3 rfl) ?_
    refine lv_iload_n hx hb dX8_movePoint_55 rfl (lv_at hl 4 rfl) ?_
    refine lv_iload hx hb dX8_movePoint_56 (lv_at hl 5 rfl) ?_
    obtain ⟨v10, ev10, hq⟩ := b_s hq
    refine gw_i (g_runV (As := [.int a1, .int a2, .int a3, .int a4]) (rest := [.ref a0]) (ci := 10) hC (c_X8_doMove l V g D cT v5 n a0 a1 a2 a3 a4 v10 ev10) k_X8_doMove m_1979 rfl rfl ⟨Nat.le_of_ble_eq_true rfl, Nat.le_of_ble_eq_true rfl⟩ hI rfl rfl (h_me_eq ev10).1 rfl hl.1 rfl (Nat.le_of_ble_eq_true rfl) dX8_movePoint_58 ⟨by decide, by decide⟩) hI (fun H locs hI => ?_)
    obtain ⟨v11, ev11, hq⟩ := b_s hq
    refine gw_i (g_runV (As := [.int v10.1]) (rest := []) (ci := 10) hC (c_X8_fails l V g D cT v10.2 n a0 v10.1 v11 ev11) k_X8_fails m_1951 rfl rfl ⟨Nat.le_of_ble_eq_true rfl, Nat.le_of_ble_eq_true rfl⟩ hI rfl rfl (h_me_eq ev11).1 rfl hl.1 rfl (Nat.le_of_ble_eq_true rfl) dX8_movePoint_61 ⟨by decide, by decide⟩) hI (fun H locs hI => ?_)
    refine lv_if_eq (tgt := 71) hx hb dX8_movePoint_64 (by decide) (fun c12 => ?_) (fun c12 => ?_)
    · replace hq := i_t c12 hq
      refine lv_iload hx hb dX8_movePoint_71 (lv_at hl 0 rfl) ?_
      exact ge_Wi hx hb hlocks hr rfl hI (congrArg (fun z => z.1) (Option.some.inj hq)) (congrArg (fun z => z.2) (Option.some.inj hq)) dX8_movePoint_73
    · replace hq := i_f c12 hq
      refine lv_iconst (v := (0 : Int32)) hx hb dX8_movePoint_67 (by decide) ?_
      refine lv_goto (tgt := 73) hx hb dX8_movePoint_68 (by decide) ?_
      exact ge_Wi hx hb hlocks hr rfl hI (congrArg (fun z => z.1) (Option.some.inj hq)) (congrArg (fun z => z.2) (Option.some.inj hq)) dX8_movePoint_73
  · replace hq := i_f c4 hq
    refine lv_iconst (v := (0 : Int32)) hx hb dX8_movePoint_19 (by decide) ?_
    exact ge_Wi hx hb hlocks hr rfl hI (congrArg (fun z => z.1) (Option.some.inj hq)) (congrArg (fun z => z.2) (Option.some.inj hq)) dX8_movePoint_20

def p_X8_insertPoint_j27 (V : Nat → Nat) (g : GH) (x0 : Nat) (x1 : Int32) (x2 : Int32) (x3 : Int32) (x4 : Int32) (t0 : Int32) (t1 : Nat) (f : GH) : Option (Int32 × GH) :=
  (p_X8_isPosition V g f x3 x4).bind fun v2 =>
  (p_X8_lacksBoth V g f t1 t0 v2).bind fun v3 =>
  (if v3.1 = (0 : Int32) then
    (p_X8_keep V g v3.2 x0).bind fun v5 =>
    (p_X8_doInsert V g v5 x0 x1 x2 x3 x4).bind fun v6 =>
    (p_X8_fails V g v6.2 x0 v6.1).bind fun v7 =>
    (if v7.1 = (0 : Int32) then
      (p_X8_count V g v7.2 x0 x1).bind fun v9 =>
      some (v9, v7.2)
    else
      some ((0 : Int32), v7.2))
  else
    some ((0 : Int32), v3.2))
def p_X8_insertPoint_j26 (V : Nat → Nat) (g : GH) (K27 : Nat → Int32 → Int32 → Int32 → Int32 → Int32 → Nat → GH → Option (Int32 × GH)) (x0 : Nat) (x1 : Int32) (x2 : Int32) (x3 : Int32) (x4 : Int32) (t0 : Nat) (f : GH) : Option (Int32 × GH) :=
  K27 x0 x1 x2 x3 x4 (0 : Int32) t0 f
def p_X8_insertPoint (V : Nat → Nat) (g f : GH) (a0 : Nat) (a1 : Int32) (a2 : Int32) (a3 : Int32) (a4 : Int32) : Option (Int32 × GH) :=
  h_me f a0 10 <|
  (p_X8_isCoast V g f a0 a1).bind fun v1 =>
  (if v1 = (0 : Int32) then
    p_X8_insertPoint_j26 V g (p_X8_insertPoint_j27 V g) a0 a1 a2 a3 a4 a0 f
  else
    (p_X8_count V g f a0 a1).bind fun v11 =>
    (p_X8_inRange V g f a2 (0 : Int32) v11).bind fun v12 =>
    (if v12 = (0 : Int32) then
      p_X8_insertPoint_j26 V g (p_X8_insertPoint_j27 V g) a0 a1 a2 a3 a4 a0 f
    else
      p_X8_insertPoint_j27 V g a0 a1 a2 a3 a4 (1 : Int32) a0 f))
abbrev rm_X8_insertPoint : Room := { frames := 5, cells := 0, slots := 0, locals := 189 }
theorem k_X8_insertPoint : g_CV yX8_insertPoint cX8_insertPoint 5 (some .int) 4 := ⟨⟨m_1986, m_14, by decide +kernel⟩, m_1984, m_1985⟩
set_option maxHeartbeats 4000000 in
set_option maxRecDepth 100000 in
theorem c_X8_insertPoint (l : Launch) (V : Nat → Nat) (g : GH) (D : va_G) (cT : Nat → ClassId) (f : GH) (n : Nat) (a0 : Nat) (a1 : Int32) (a2 : Int32) (a3 : Int32) (a4 : Int32) (o : Int32 × GH) (hq : p_X8_insertPoint V g f a0 a1 a2 a3 a4 = some o) : Met l yX8_insertPoint (Cond.code yX8_insertPoint cX8_insertPoint 5 (some .int) :: g_B) rm_X8_insertPoint (va_Pc [.ref a0, .int a1, .int a2, .int a3, .int a4] (g_I V g D cT f n)) (g_Wi V D cT o.1 o.2 n) 0 0 (g_A V) := by
  refine g_begin (own := RX8) [.ref a0, .int a1, .int a2, .int a3, .int a4] [(0, .ref a0), (1, .int a1), (2, .int a2), (3, .int a3), (4, .int a4)] (g_A V) (fun _ h => h) (by decide) rfl (Nat.le_of_ble_eq_true rfl) rfl ?_
  intro p e s m args below meth c hx hb hr hlocks hin hC hI ls hl
  obtain ⟨hx, hb, hml, hown, hB⟩ := id hC
  obtain ⟨H, hH⟩ : ∃ H, H = s.heap := ⟨_, rfl⟩
  obtain ⟨locs, hlocs⟩ : ∃ L : List Loc, L = [] := ⟨_, rfl⟩
  rw [← hH, ← hlocs] at hI ⊢
  clear hH hlocs
  unfold p_X8_insertPoint at hq
  replace hq := (h_me_eq hq).2
  refine lv_aload_n hx hb dX8_insertPoint_0 rfl (lv_at hl 0 rfl) ?_
  refine lv_aload_n hx hb dX8_insertPoint_1 rfl (lv_at hl 0 rfl) ?_
  refine lv_iload_n hx hb dX8_insertPoint_2 rfl (lv_at hl 1 rfl) ?_
  obtain ⟨v1, ev1, hq⟩ := b_s hq
  refine gr_i (g_runV (As := [.int a1]) (rest := [.ref a0]) (ci := 10) hC (c_X8_isCoast l V g D cT f n a0 a1 v1 ev1) k_X8_isCoast m_1630 rfl rfl ⟨Nat.le_of_ble_eq_true rfl, Nat.le_of_ble_eq_true rfl⟩ hI rfl rfl (h_me_eq ev1).1 rfl hl.1 rfl (Nat.le_of_ble_eq_true rfl) dX8_insertPoint_3 ⟨by decide, by decide⟩) hI (fun H locs hI => ?_)
  have hj27 : ∀ (x0 : Nat) (x1 : Int32) (x2 : Int32) (x3 : Int32) (x4 : Int32) (t0 : Int32) (t1 : Nat) (f : GH) (H : Heap) (locs : List Loc) (ls : Array Slot), g_at (g_A V) V g D cT f n s H locs → lv_has ls 5 [(0, .ref x0), (1, .int x1), (2, .int x2), (3, .int x3), (4, .int x4)] → p_X8_insertPoint_j27 V g x0 x1 x2 x3 x4 t0 t1 f = some o → W p l e rm_X8_insertPoint s m args below meth c H locs 0 0 (MQ below (g_Wi V D cT o.1 o.2 n) args s 0 0 (g_A V)) (F0 m 27 ls [.int t0, .ref t1]) := by
    intro x0 x1 x2 x3 x4 t0 t1 f H locs ls hI hl hq
    unfold p_X8_insertPoint_j27 at hq
    refine lv_iload_n hx hb dX8_insertPoint_27 rfl (lv_at hl 3 rfl) ?_
    refine lv_iload hx hb dX8_insertPoint_28 (lv_at hl 4 rfl) ?_
    obtain ⟨v2, ev2, hq⟩ := b_s hq
    refine gr_i (g_runS (As := [.int x3, .int x4]) (rest := [.int t0, .ref t1]) hC (c_X8_isPosition l V g D cT f n x3 x4 v2 ev2) k_X8_isPosition m_1687 rfl rfl ⟨Nat.le_of_ble_eq_true rfl, Nat.le_of_ble_eq_true rfl⟩ hI rfl hl.1 rfl (Nat.le_of_ble_eq_true rfl) dX8_insertPoint_30 ⟨by decide, by decide⟩) hI (fun H locs hI => ?_)
    obtain ⟨v3, ev3, hq⟩ := b_s hq
    refine gw_i (g_runV (As := [.int t0, .int v2]) (rest := []) (ci := 10) hC (c_X8_lacksBoth l V g D cT f n t1 t0 v2 v3 ev3) k_X8_lacksBoth m_1693 rfl rfl ⟨Nat.le_of_ble_eq_true rfl, Nat.le_of_ble_eq_true rfl⟩ hI rfl rfl (h_me_eq ev3).1 rfl hl.1 rfl (Nat.le_of_ble_eq_true rfl) dX8_insertPoint_33 ⟨by decide, by decide⟩) hI (fun H locs hI => ?_)
    refine lv_if_eq (tgt := 41) hx hb dX8_insertPoint_36 (by decide) (fun c4 => ?_) (fun c4 => ?_)
    · replace hq := i_t c4 hq
      refine lv_aload_n hx hb dX8_insertPoint_41 rfl (lv_at hl 0 rfl) ?_
      obtain ⟨v5, ev5, hq⟩ := b_s hq
      refine gw_v (g_runV (As := []) (rest := []) (ci := 10) hC (c_X8_keep l V g D cT v3.2 n x0 v5 ev5) k_X8_keep m_1940 rfl rfl ⟨Nat.le_of_ble_eq_true rfl, Nat.le_of_ble_eq_true rfl⟩ hI rfl rfl (h_me_eq ev5).1 rfl hl.1 rfl (Nat.le_of_ble_eq_true rfl) dX8_insertPoint_42 ⟨by decide, by decide⟩) hI (fun H locs hI => ?_)
      refine lv_aload_n hx hb dX8_insertPoint_45 rfl (lv_at hl 0 rfl) ?_
      refine lv_aload_n hx hb dX8_insertPoint_46 rfl (lv_at hl 0 rfl) ?_
      refine lv_iload_n hx hb dX8_insertPoint_47 rfl (lv_at hl 1 rfl) ?_
      refine lv_iload_n hx hb dX8_insertPoint_48 rfl (lv_at hl 2 rfl) ?_
      refine lv_iload_n hx hb dX8_insertPoint_49 rfl (lv_at hl 3 rfl) ?_
      refine lv_iload hx hb dX8_insertPoint_50 (lv_at hl 4 rfl) ?_
      obtain ⟨v6, ev6, hq⟩ := b_s hq
      refine gw_i (g_runV (As := [.int x1, .int x2, .int x3, .int x4]) (rest := [.ref x0]) (ci := 10) hC (c_X8_doInsert l V g D cT v5 n x0 x1 x2 x3 x4 v6 ev6) k_X8_doInsert m_1987 rfl rfl ⟨Nat.le_of_ble_eq_true rfl, Nat.le_of_ble_eq_true rfl⟩ hI rfl rfl (h_me_eq ev6).1 rfl hl.1 rfl (Nat.le_of_ble_eq_true rfl) dX8_insertPoint_52 ⟨by decide, by decide⟩) hI (fun H locs hI => ?_)
      obtain ⟨v7, ev7, hq⟩ := b_s hq
      refine gw_i (g_runV (As := [.int v6.1]) (rest := []) (ci := 10) hC (c_X8_fails l V g D cT v6.2 n x0 v6.1 v7 ev7) k_X8_fails m_1951 rfl rfl ⟨Nat.le_of_ble_eq_true rfl, Nat.le_of_ble_eq_true rfl⟩ hI rfl rfl (h_me_eq ev7).1 rfl hl.1 rfl (Nat.le_of_ble_eq_true rfl) dX8_insertPoint_55 ⟨by decide, by decide⟩) hI (fun H locs hI => ?_)
      refine lv_if_eq (tgt := 65) hx hb dX8_insertPoint_58 (by decide) (fun c8 => ?_) (fun c8 => ?_)
      · replace hq := i_t c8 hq
        refine lv_aload_n hx hb dX8_insertPoint_65 rfl (lv_at hl 0 rfl) ?_
        refine lv_iload_n hx hb dX8_insertPoint_66 rfl (lv_at hl 1 rfl) ?_
        obtain ⟨v9, ev9, hq⟩ := b_s hq
        refine gr_i (g_runV (As := [.int x1]) (rest := []) (ci := 10) hC (c_X8_count l V g D cT v7.2 n x0 x1 v9 ev9) k_X8_count m_1527 rfl rfl ⟨Nat.le_of_ble_eq_true rfl, Nat.le_of_ble_eq_true rfl⟩ hI rfl rfl (h_me_eq ev9).1 rfl hl.1 rfl (Nat.le_of_ble_eq_true rfl) dX8_insertPoint_67 ⟨by decide, by decide⟩) hI (fun H locs hI => ?_)
        exact ge_Wi hx hb hlocks hr rfl hI (congrArg (fun z => z.1) (Option.some.inj hq)) (congrArg (fun z => z.2) (Option.some.inj hq)) dX8_insertPoint_70
      · replace hq := i_f c8 hq
        refine lv_iconst (v := (0 : Int32)) hx hb dX8_insertPoint_61 (by decide) ?_
        refine lv_goto (tgt := 70) hx hb dX8_insertPoint_62 (by decide) ?_
        exact ge_Wi hx hb hlocks hr rfl hI (congrArg (fun z => z.1) (Option.some.inj hq)) (congrArg (fun z => z.2) (Option.some.inj hq)) dX8_insertPoint_70
    · replace hq := i_f c4 hq
      refine lv_iconst (v := (0 : Int32)) hx hb dX8_insertPoint_39 (by decide) ?_
      exact ge_Wi hx hb hlocks hr rfl hI (congrArg (fun z => z.1) (Option.some.inj hq)) (congrArg (fun z => z.2) (Option.some.inj hq)) dX8_insertPoint_40
  have hj26 : ∀ (x0 : Nat) (x1 : Int32) (x2 : Int32) (x3 : Int32) (x4 : Int32) (t0 : Nat) (f : GH) (H : Heap) (locs : List Loc) (ls : Array Slot), g_at (g_A V) V g D cT f n s H locs → lv_has ls 5 [(0, .ref x0), (1, .int x1), (2, .int x2), (3, .int x3), (4, .int x4)] → p_X8_insertPoint_j26 V g (p_X8_insertPoint_j27 V g) x0 x1 x2 x3 x4 t0 f = some o → W p l e rm_X8_insertPoint s m args below meth c H locs 0 0 (MQ below (g_Wi V D cT o.1 o.2 n) args s 0 0 (g_A V)) (F0 m 26 ls [.ref t0]) := by
    intro x0 x1 x2 x3 x4 t0 f H locs ls hI hl hq
    unfold p_X8_insertPoint_j26 at hq
    refine lv_iconst (v := (0 : Int32)) hx hb dX8_insertPoint_26 (by decide) ?_
    exact hj27 x0 x1 x2 x3 x4 (0 : Int32) t0 f H locs ls hI (lv_sub hl [0, 1, 2, 3, 4] rfl) hq
  refine lv_if_eq (tgt := 26) hx hb dX8_insertPoint_6 (by decide) (fun c10 => ?_) (fun c10 => ?_)
  · replace hq := i_t c10 hq
    exact hj26 a0 a1 a2 a3 a4 a0 f H locs ls hI (lv_sub hl [0, 1, 2, 3, 4] rfl) hq
  · replace hq := i_f c10 hq
    refine lv_iload_n hx hb dX8_insertPoint_9 rfl (lv_at hl 2 rfl) ?_
    refine lv_iconst (v := (0 : Int32)) hx hb dX8_insertPoint_10 (by decide) ?_
    refine lv_aload_n hx hb dX8_insertPoint_11 rfl (lv_at hl 0 rfl) ?_
    refine lv_iload_n hx hb dX8_insertPoint_12 rfl (lv_at hl 1 rfl) ?_
    obtain ⟨v11, ev11, hq⟩ := b_s hq
    refine gr_i (g_runV (As := [.int a1]) (rest := [.int (0 : Int32), .int a2, .ref a0]) (ci := 10) hC (c_X8_count l V g D cT f n a0 a1 v11 ev11) k_X8_count m_1527 rfl rfl ⟨Nat.le_of_ble_eq_true rfl, Nat.le_of_ble_eq_true rfl⟩ hI rfl rfl (h_me_eq ev11).1 rfl hl.1 rfl (Nat.le_of_ble_eq_true rfl) dX8_insertPoint_13 ⟨by decide, by decide⟩) hI (fun H locs hI => ?_)
    obtain ⟨v12, ev12, hq⟩ := b_s hq
    refine gr_i (g_runS (As := [.int a2, .int (0 : Int32), .int v11]) (rest := [.ref a0]) hC (c_X8_inRange l V g D cT f n a2 (0 : Int32) v11 v12 ev12) k_X8_inRange m_1634 rfl rfl ⟨Nat.le_of_ble_eq_true rfl, Nat.le_of_ble_eq_true rfl⟩ hI rfl hl.1 rfl (Nat.le_of_ble_eq_true rfl) dX8_insertPoint_16 ⟨by decide, by decide⟩) hI (fun H locs hI => ?_)
    refine lv_if_eq (tgt := 26) hx hb dX8_insertPoint_19 (by decide) (fun c13 => ?_) (fun c13 => ?_)
    · replace hq := i_t c13 hq
      exact hj26 a0 a1 a2 a3 a4 a0 f H locs ls hI (lv_sub hl [0, 1, 2, 3, 4] rfl) hq
    · replace hq := i_f c13 hq
      refine lv_iconst (v := (1 : Int32)) hx hb dX8_insertPoint_22 (by decide) ?_
      refine lv_goto (tgt := 27) hx hb dX8_insertPoint_23 (by decide) ?_
      exact hj27 a0 a1 a2 a3 a4 (1 : Int32) a0 f H locs ls hI (lv_sub hl [0, 1, 2, 3, 4] rfl) hq

def p_X8_removePoint (V : Nat → Nat) (g f : GH) (a0 : Nat) (a1 : Int32) (a2 : Int32) : Option (Int32 × GH) :=
  h_me f a0 10 <|
  (p_X8_keep V g f a0).bind fun v1 =>
  (p_X8_doCut V g v1 a0 a1 a2).bind fun v2 =>
  (p_X8_fails V g v2.2 a0 v2.1).bind fun v3 =>
  (if v3.1 = (0 : Int32) then
    (p_X8_count V g v3.2 a0 a1).bind fun v5 =>
    some (v5, v3.2)
  else
    some ((0 : Int32), v3.2))
abbrev rm_X8_removePoint : Room := { frames := 6, cells := 0, slots := 0, locals := 207 }
theorem k_X8_removePoint : g_CV yX8_removePoint cX8_removePoint 3 (some .int) 2 := ⟨⟨m_1994, m_14, by decide +kernel⟩, m_1992, m_1993⟩
set_option maxHeartbeats 4000000 in
set_option maxRecDepth 100000 in
theorem c_X8_removePoint (l : Launch) (V : Nat → Nat) (g : GH) (D : va_G) (cT : Nat → ClassId) (f : GH) (n : Nat) (a0 : Nat) (a1 : Int32) (a2 : Int32) (o : Int32 × GH) (hq : p_X8_removePoint V g f a0 a1 a2 = some o) : Met l yX8_removePoint (Cond.code yX8_removePoint cX8_removePoint 3 (some .int) :: g_B) rm_X8_removePoint (va_Pc [.ref a0, .int a1, .int a2] (g_I V g D cT f n)) (g_Wi V D cT o.1 o.2 n) 0 0 (g_A V) := by
  refine g_begin (own := RX8) [.ref a0, .int a1, .int a2] [(0, .ref a0), (1, .int a1), (2, .int a2)] (g_A V) (fun _ h => h) (by decide) rfl (Nat.le_of_ble_eq_true rfl) rfl ?_
  intro p e s m args below meth c hx hb hr hlocks hin hC hI ls hl
  obtain ⟨hx, hb, hml, hown, hB⟩ := id hC
  obtain ⟨H, hH⟩ : ∃ H, H = s.heap := ⟨_, rfl⟩
  obtain ⟨locs, hlocs⟩ : ∃ L : List Loc, L = [] := ⟨_, rfl⟩
  rw [← hH, ← hlocs] at hI ⊢
  clear hH hlocs
  unfold p_X8_removePoint at hq
  replace hq := (h_me_eq hq).2
  refine lv_aload_n hx hb dX8_removePoint_0 rfl (lv_at hl 0 rfl) ?_
  obtain ⟨v1, ev1, hq⟩ := b_s hq
  refine gw_v (g_runV (As := []) (rest := []) (ci := 10) hC (c_X8_keep l V g D cT f n a0 v1 ev1) k_X8_keep m_1940 rfl rfl ⟨Nat.le_of_ble_eq_true rfl, Nat.le_of_ble_eq_true rfl⟩ hI rfl rfl (h_me_eq ev1).1 rfl hl.1 rfl (Nat.le_of_ble_eq_true rfl) dX8_removePoint_1 ⟨by decide, by decide⟩) hI (fun H locs hI => ?_)
  refine lv_aload_n hx hb dX8_removePoint_4 rfl (lv_at hl 0 rfl) ?_
  refine lv_aload_n hx hb dX8_removePoint_5 rfl (lv_at hl 0 rfl) ?_
  refine lv_iload_n hx hb dX8_removePoint_6 rfl (lv_at hl 1 rfl) ?_
  refine lv_iload_n hx hb dX8_removePoint_7 rfl (lv_at hl 2 rfl) ?_
  obtain ⟨v2, ev2, hq⟩ := b_s hq
  refine gw_i (g_runV (As := [.int a1, .int a2]) (rest := [.ref a0]) (ci := 10) hC (c_X8_doCut l V g D cT v1 n a0 a1 a2 v2 ev2) k_X8_doCut m_1995 rfl rfl ⟨Nat.le_of_ble_eq_true rfl, Nat.le_of_ble_eq_true rfl⟩ hI rfl rfl (h_me_eq ev2).1 rfl hl.1 rfl (Nat.le_of_ble_eq_true rfl) dX8_removePoint_8 ⟨by decide, by decide⟩) hI (fun H locs hI => ?_)
  obtain ⟨v3, ev3, hq⟩ := b_s hq
  refine gw_i (g_runV (As := [.int v2.1]) (rest := []) (ci := 10) hC (c_X8_fails l V g D cT v2.2 n a0 v2.1 v3 ev3) k_X8_fails m_1951 rfl rfl ⟨Nat.le_of_ble_eq_true rfl, Nat.le_of_ble_eq_true rfl⟩ hI rfl rfl (h_me_eq ev3).1 rfl hl.1 rfl (Nat.le_of_ble_eq_true rfl) dX8_removePoint_11 ⟨by decide, by decide⟩) hI (fun H locs hI => ?_)
  refine lv_if_eq (tgt := 21) hx hb dX8_removePoint_14 (by decide) (fun c4 => ?_) (fun c4 => ?_)
  · replace hq := i_t c4 hq
    refine lv_aload_n hx hb dX8_removePoint_21 rfl (lv_at hl 0 rfl) ?_
    refine lv_iload_n hx hb dX8_removePoint_22 rfl (lv_at hl 1 rfl) ?_
    obtain ⟨v5, ev5, hq⟩ := b_s hq
    refine gr_i (g_runV (As := [.int a1]) (rest := []) (ci := 10) hC (c_X8_count l V g D cT v3.2 n a0 a1 v5 ev5) k_X8_count m_1527 rfl rfl ⟨Nat.le_of_ble_eq_true rfl, Nat.le_of_ble_eq_true rfl⟩ hI rfl rfl (h_me_eq ev5).1 rfl hl.1 rfl (Nat.le_of_ble_eq_true rfl) dX8_removePoint_23 ⟨by decide, by decide⟩) hI (fun H locs hI => ?_)
    exact ge_Wi hx hb hlocks hr rfl hI (congrArg (fun z => z.1) (Option.some.inj hq)) (congrArg (fun z => z.2) (Option.some.inj hq)) dX8_removePoint_26
  · replace hq := i_f c4 hq
    refine lv_iconst (v := (0 : Int32)) hx hb dX8_removePoint_17 (by decide) ?_
    refine lv_goto (tgt := 26) hx hb dX8_removePoint_18 (by decide) ?_
    exact ge_Wi hx hb hlocks hr rfl hI (congrArg (fun z => z.1) (Option.some.inj hq)) (congrArg (fun z => z.2) (Option.some.inj hq)) dX8_removePoint_26

def p_X8_isShift (V : Nat → Nat) (g f : GH) (a0 : Int32) : Option Int32 :=
  (p_X8_inRange V g f a0 (-2000 : Int32) (2000 : Int32)).bind fun v1 =>
  (h_bz v1).bind fun _ =>
  some v1
abbrev rm_X8_isShift : Room := { frames := 3, cells := 0, slots := 0, locals := 142 }
theorem k_X8_isShift : g_CS yX8_isShift cX8_isShift 1 (some .boolean) 1 := ⟨⟨m_2005, m_14, by decide +kernel⟩, m_2004⟩
set_option maxHeartbeats 4000000 in
set_option maxRecDepth 100000 in
theorem c_X8_isShift (l : Launch) (V : Nat → Nat) (g : GH) (D : va_G) (cT : Nat → ClassId) (f : GH) (n : Nat) (a0 : Int32) (o : Int32) (hq : p_X8_isShift V g f a0 = some o) : Met l yX8_isShift (Cond.code yX8_isShift cX8_isShift 1 (some .boolean) :: g_B) rm_X8_isShift (va_Pc [.int a0] (g_I V g D cT f n)) (g_Ri o n) 0 0 g_no := by
  refine g_begin (own := RX8) [.int a0] [(0, .int a0)] g_no (fun _ h => h.elim) (by decide) rfl (Nat.le_of_ble_eq_true rfl) rfl ?_
  intro p e s m args below meth c hx hb hr hlocks hin hC hI ls hl
  obtain ⟨hx, hb, hml, hown, hB⟩ := id hC
  obtain ⟨H, hH⟩ : ∃ H, H = s.heap := ⟨_, rfl⟩
  obtain ⟨locs, hlocs⟩ : ∃ L : List Loc, L = [] := ⟨_, rfl⟩
  rw [← hH, ← hlocs] at hI ⊢
  clear hH hlocs
  unfold p_X8_isShift at hq
  refine lv_iload_n hx hb dX8_isShift_0 rfl (lv_at hl 0 rfl) ?_
  refine lv_sipush (v := (-2000 : Int32)) hx hb dX8_isShift_1 (by decide) ?_
  refine lv_sipush (v := (2000 : Int32)) hx hb dX8_isShift_4 (by decide) ?_
  obtain ⟨v1, ev1, hq⟩ := b_s hq
  refine gr_i (g_runS (As := [.int a0, .int (-2000 : Int32), .int (2000 : Int32)]) (rest := []) hC (c_X8_inRange l V g D cT f n a0 (-2000 : Int32) (2000 : Int32) v1 ev1) k_X8_inRange m_1634 rfl rfl ⟨Nat.le_of_ble_eq_true rfl, Nat.le_of_ble_eq_true rfl⟩ hI rfl hl.1 rfl (Nat.le_of_ble_eq_true rfl) dX8_isShift_7 ⟨by decide, by decide⟩) hI (fun H locs hI => ?_)
  obtain ⟨_, ev2, hq⟩ := b_s hq
  exact ge_Ri hx hb hlocks hr (h_bz_eq ev2).2.1 hI hq dX8_isShift_10

def p_X8_shift_j25 (V : Nat → Nat) (g : GH) (x0 : Nat) (x1 : Int32) (x2 : Int32) (x3 : Int32) (t0 : Int32) (t1 : Int32) (t2 : Nat) (f : GH) : Option (Int32 × GH) :=
  (p_X8_lacksBoth V g f t2 t1 t0).bind fun v3 =>
  (if v3.1 = (0 : Int32) then
    (p_X8_keep V g v3.2 x0).bind fun v5 =>
    (p_X8_doShift V g v5 x0 x1 x2 x3).bind fun v6 =>
    (p_X8_fails V g v6.2 x0 v6.1).bind fun v7 =>
    (if v7.1 = (0 : Int32) then
      (p_X8_count V g v7.2 x0 x1).bind fun v9 =>
      some (v9, v7.2)
    else
      some ((0 : Int32), v7.2))
  else
    some ((0 : Int32), v3.2))
def p_X8_shift_j24 (V : Nat → Nat) (g : GH) (K25 : Nat → Int32 → Int32 → Int32 → Int32 → Int32 → Nat → GH → Option (Int32 × GH)) (x0 : Nat) (x1 : Int32) (x2 : Int32) (x3 : Int32) (t0 : Int32) (t1 : Nat) (f : GH) : Option (Int32 × GH) :=
  K25 x0 x1 x2 x3 (0 : Int32) t0 t1 f
def p_X8_shift (V : Nat → Nat) (g f : GH) (a0 : Nat) (a1 : Int32) (a2 : Int32) (a3 : Int32) : Option (Int32 × GH) :=
  h_me f a0 10 <|
  (p_X8_isCoast V g f a0 a1).bind fun v1 =>
  (p_X8_isShift V g f a2).bind fun v2 =>
  (if v2 = (0 : Int32) then
    p_X8_shift_j24 V g (p_X8_shift_j25 V g) a0 a1 a2 a3 v1 a0 f
  else
    (p_X8_isShift V g f a3).bind fun v11 =>
    (if v11 = (0 : Int32) then
      p_X8_shift_j24 V g (p_X8_shift_j25 V g) a0 a1 a2 a3 v1 a0 f
    else
      p_X8_shift_j25 V g a0 a1 a2 a3 (1 : Int32) v1 a0 f))
abbrev rm_X8_shift : Room := { frames := 6, cells := 0, slots := 0, locals := 207 }
theorem k_X8_shift : g_CV yX8_shift cX8_shift 4 (some .int) 3 := ⟨⟨m_2002, m_14, by decide +kernel⟩, m_2000, m_2001⟩
set_option maxHeartbeats 4000000 in
set_option maxRecDepth 100000 in
theorem c_X8_shift (l : Launch) (V : Nat → Nat) (g : GH) (D : va_G) (cT : Nat → ClassId) (f : GH) (n : Nat) (a0 : Nat) (a1 : Int32) (a2 : Int32) (a3 : Int32) (o : Int32 × GH) (hq : p_X8_shift V g f a0 a1 a2 a3 = some o) : Met l yX8_shift (Cond.code yX8_shift cX8_shift 4 (some .int) :: g_B) rm_X8_shift (va_Pc [.ref a0, .int a1, .int a2, .int a3] (g_I V g D cT f n)) (g_Wi V D cT o.1 o.2 n) 0 0 (g_A V) := by
  refine g_begin (own := RX8) [.ref a0, .int a1, .int a2, .int a3] [(0, .ref a0), (1, .int a1), (2, .int a2), (3, .int a3)] (g_A V) (fun _ h => h) (by decide) rfl (Nat.le_of_ble_eq_true rfl) rfl ?_
  intro p e s m args below meth c hx hb hr hlocks hin hC hI ls hl
  obtain ⟨hx, hb, hml, hown, hB⟩ := id hC
  obtain ⟨H, hH⟩ : ∃ H, H = s.heap := ⟨_, rfl⟩
  obtain ⟨locs, hlocs⟩ : ∃ L : List Loc, L = [] := ⟨_, rfl⟩
  rw [← hH, ← hlocs] at hI ⊢
  clear hH hlocs
  unfold p_X8_shift at hq
  replace hq := (h_me_eq hq).2
  refine lv_aload_n hx hb dX8_shift_0 rfl (lv_at hl 0 rfl) ?_
  refine lv_aload_n hx hb dX8_shift_1 rfl (lv_at hl 0 rfl) ?_
  refine lv_iload_n hx hb dX8_shift_2 rfl (lv_at hl 1 rfl) ?_
  obtain ⟨v1, ev1, hq⟩ := b_s hq
  refine gr_i (g_runV (As := [.int a1]) (rest := [.ref a0]) (ci := 10) hC (c_X8_isCoast l V g D cT f n a0 a1 v1 ev1) k_X8_isCoast m_1630 rfl rfl ⟨Nat.le_of_ble_eq_true rfl, Nat.le_of_ble_eq_true rfl⟩ hI rfl rfl (h_me_eq ev1).1 rfl hl.1 rfl (Nat.le_of_ble_eq_true rfl) dX8_shift_3 ⟨by decide, by decide⟩) hI (fun H locs hI => ?_)
  refine lv_iload_n hx hb dX8_shift_6 rfl (lv_at hl 2 rfl) ?_
  obtain ⟨v2, ev2, hq⟩ := b_s hq
  refine gr_i (g_runS (As := [.int a2]) (rest := [.int v1, .ref a0]) hC (c_X8_isShift l V g D cT f n a2 v2 ev2) k_X8_isShift m_2003 rfl rfl ⟨Nat.le_of_ble_eq_true rfl, Nat.le_of_ble_eq_true rfl⟩ hI rfl hl.1 rfl (Nat.le_of_ble_eq_true rfl) dX8_shift_7 ⟨by decide, by decide⟩) hI (fun H locs hI => ?_)
  have hj25 : ∀ (x0 : Nat) (x1 : Int32) (x2 : Int32) (x3 : Int32) (t0 : Int32) (t1 : Int32) (t2 : Nat) (f : GH) (H : Heap) (locs : List Loc) (ls : Array Slot), g_at (g_A V) V g D cT f n s H locs → lv_has ls 4 [(0, .ref x0), (1, .int x1), (2, .int x2), (3, .int x3)] → p_X8_shift_j25 V g x0 x1 x2 x3 t0 t1 t2 f = some o → W p l e rm_X8_shift s m args below meth c H locs 0 0 (MQ below (g_Wi V D cT o.1 o.2 n) args s 0 0 (g_A V)) (F0 m 25 ls [.int t0, .int t1, .ref t2]) := by
    intro x0 x1 x2 x3 t0 t1 t2 f H locs ls hI hl hq
    unfold p_X8_shift_j25 at hq
    obtain ⟨v3, ev3, hq⟩ := b_s hq
    refine gw_i (g_runV (As := [.int t1, .int t0]) (rest := []) (ci := 10) hC (c_X8_lacksBoth l V g D cT f n t2 t1 t0 v3 ev3) k_X8_lacksBoth m_1693 rfl rfl ⟨Nat.le_of_ble_eq_true rfl, Nat.le_of_ble_eq_true rfl⟩ hI rfl rfl (h_me_eq ev3).1 rfl hl.1 rfl (Nat.le_of_ble_eq_true rfl) dX8_shift_25 ⟨by decide, by decide⟩) hI (fun H locs hI => ?_)
    refine lv_if_eq (tgt := 33) hx hb dX8_shift_28 (by decide) (fun c4 => ?_) (fun c4 => ?_)
    · replace hq := i_t c4 hq
      refine lv_aload_n hx hb dX8_shift_33 rfl (lv_at hl 0 rfl) ?_
      obtain ⟨v5, ev5, hq⟩ := b_s hq
      refine gw_v (g_runV (As := []) (rest := []) (ci := 10) hC (c_X8_keep l V g D cT v3.2 n x0 v5 ev5) k_X8_keep m_1940 rfl rfl ⟨Nat.le_of_ble_eq_true rfl, Nat.le_of_ble_eq_true rfl⟩ hI rfl rfl (h_me_eq ev5).1 rfl hl.1 rfl (Nat.le_of_ble_eq_true rfl) dX8_shift_34 ⟨by decide, by decide⟩) hI (fun H locs hI => ?_)
      refine lv_aload_n hx hb dX8_shift_37 rfl (lv_at hl 0 rfl) ?_
      refine lv_aload_n hx hb dX8_shift_38 rfl (lv_at hl 0 rfl) ?_
      refine lv_iload_n hx hb dX8_shift_39 rfl (lv_at hl 1 rfl) ?_
      refine lv_iload_n hx hb dX8_shift_40 rfl (lv_at hl 2 rfl) ?_
      refine lv_iload_n hx hb dX8_shift_41 rfl (lv_at hl 3 rfl) ?_
      obtain ⟨v6, ev6, hq⟩ := b_s hq
      refine gw_i (g_runV (As := [.int x1, .int x2, .int x3]) (rest := [.ref x0]) (ci := 10) hC (c_X8_doShift l V g D cT v5 n x0 x1 x2 x3 v6 ev6) k_X8_doShift m_2006 rfl rfl ⟨Nat.le_of_ble_eq_true rfl, Nat.le_of_ble_eq_true rfl⟩ hI rfl rfl (h_me_eq ev6).1 rfl hl.1 rfl (Nat.le_of_ble_eq_true rfl) dX8_shift_42 ⟨by decide, by decide⟩) hI (fun H locs hI => ?_)
      obtain ⟨v7, ev7, hq⟩ := b_s hq
      refine gw_i (g_runV (As := [.int v6.1]) (rest := []) (ci := 10) hC (c_X8_fails l V g D cT v6.2 n x0 v6.1 v7 ev7) k_X8_fails m_1951 rfl rfl ⟨Nat.le_of_ble_eq_true rfl, Nat.le_of_ble_eq_true rfl⟩ hI rfl rfl (h_me_eq ev7).1 rfl hl.1 rfl (Nat.le_of_ble_eq_true rfl) dX8_shift_45 ⟨by decide, by decide⟩) hI (fun H locs hI => ?_)
      refine lv_if_eq (tgt := 55) hx hb dX8_shift_48 (by decide) (fun c8 => ?_) (fun c8 => ?_)
      · replace hq := i_t c8 hq
        refine lv_aload_n hx hb dX8_shift_55 rfl (lv_at hl 0 rfl) ?_
        refine lv_iload_n hx hb dX8_shift_56 rfl (lv_at hl 1 rfl) ?_
        obtain ⟨v9, ev9, hq⟩ := b_s hq
        refine gr_i (g_runV (As := [.int x1]) (rest := []) (ci := 10) hC (c_X8_count l V g D cT v7.2 n x0 x1 v9 ev9) k_X8_count m_1527 rfl rfl ⟨Nat.le_of_ble_eq_true rfl, Nat.le_of_ble_eq_true rfl⟩ hI rfl rfl (h_me_eq ev9).1 rfl hl.1 rfl (Nat.le_of_ble_eq_true rfl) dX8_shift_57 ⟨by decide, by decide⟩) hI (fun H locs hI => ?_)
        exact ge_Wi hx hb hlocks hr rfl hI (congrArg (fun z => z.1) (Option.some.inj hq)) (congrArg (fun z => z.2) (Option.some.inj hq)) dX8_shift_60
      · replace hq := i_f c8 hq
        refine lv_iconst (v := (0 : Int32)) hx hb dX8_shift_51 (by decide) ?_
        refine lv_goto (tgt := 60) hx hb dX8_shift_52 (by decide) ?_
        exact ge_Wi hx hb hlocks hr rfl hI (congrArg (fun z => z.1) (Option.some.inj hq)) (congrArg (fun z => z.2) (Option.some.inj hq)) dX8_shift_60
    · replace hq := i_f c4 hq
      refine lv_iconst (v := (0 : Int32)) hx hb dX8_shift_31 (by decide) ?_
      exact ge_Wi hx hb hlocks hr rfl hI (congrArg (fun z => z.1) (Option.some.inj hq)) (congrArg (fun z => z.2) (Option.some.inj hq)) dX8_shift_32
  have hj24 : ∀ (x0 : Nat) (x1 : Int32) (x2 : Int32) (x3 : Int32) (t0 : Int32) (t1 : Nat) (f : GH) (H : Heap) (locs : List Loc) (ls : Array Slot), g_at (g_A V) V g D cT f n s H locs → lv_has ls 4 [(0, .ref x0), (1, .int x1), (2, .int x2), (3, .int x3)] → p_X8_shift_j24 V g (p_X8_shift_j25 V g) x0 x1 x2 x3 t0 t1 f = some o → W p l e rm_X8_shift s m args below meth c H locs 0 0 (MQ below (g_Wi V D cT o.1 o.2 n) args s 0 0 (g_A V)) (F0 m 24 ls [.int t0, .ref t1]) := by
    intro x0 x1 x2 x3 t0 t1 f H locs ls hI hl hq
    unfold p_X8_shift_j24 at hq
    refine lv_iconst (v := (0 : Int32)) hx hb dX8_shift_24 (by decide) ?_
    exact hj25 x0 x1 x2 x3 (0 : Int32) t0 t1 f H locs ls hI (lv_sub hl [0, 1, 2, 3] rfl) hq
  refine lv_if_eq (tgt := 24) hx hb dX8_shift_10 (by decide) (fun c10 => ?_) (fun c10 => ?_)
  · replace hq := i_t c10 hq
    exact hj24 a0 a1 a2 a3 v1 a0 f H locs ls hI (lv_sub hl [0, 1, 2, 3] rfl) hq
  · replace hq := i_f c10 hq
    refine lv_iload_n hx hb dX8_shift_13 rfl (lv_at hl 3 rfl) ?_
    obtain ⟨v11, ev11, hq⟩ := b_s hq
    refine gr_i (g_runS (As := [.int a3]) (rest := [.int v1, .ref a0]) hC (c_X8_isShift l V g D cT f n a3 v11 ev11) k_X8_isShift m_2003 rfl rfl ⟨Nat.le_of_ble_eq_true rfl, Nat.le_of_ble_eq_true rfl⟩ hI rfl hl.1 rfl (Nat.le_of_ble_eq_true rfl) dX8_shift_14 ⟨by decide, by decide⟩) hI (fun H locs hI => ?_)
    refine lv_if_eq (tgt := 24) hx hb dX8_shift_17 (by decide) (fun c12 => ?_) (fun c12 => ?_)
    · replace hq := i_t c12 hq
      exact hj24 a0 a1 a2 a3 v1 a0 f H locs ls hI (lv_sub hl [0, 1, 2, 3] rfl) hq
    · replace hq := i_f c12 hq
      refine lv_iconst (v := (1 : Int32)) hx hb dX8_shift_20 (by decide) ?_
      refine lv_goto (tgt := 25) hx hb dX8_shift_21 (by decide) ?_
      exact hj25 a0 a1 a2 a3 (1 : Int32) v1 a0 f H locs ls hI (lv_sub hl [0, 1, 2, 3] rfl) hq

def p_X8_reverse (V : Nat → Nat) (g f : GH) (a0 : Nat) (a1 : Int32) : Option (Int32 × GH) :=
  h_me f a0 10 <|
  (p_X8_keep V g f a0).bind fun v1 =>
  (p_X8_doReverse V g v1 a0 a1).bind fun v2 =>
  (p_X8_fails V g v2.2 a0 v2.1).bind fun v3 =>
  (if v3.1 = (0 : Int32) then
    (p_X8_count V g v3.2 a0 a1).bind fun v5 =>
    some (v5, v3.2)
  else
    some ((0 : Int32), v3.2))
abbrev rm_X8_reverse : Room := { frames := 5, cells := 0, slots := 0, locals := 187 }
theorem k_X8_reverse : g_CV yX8_reverse cX8_reverse 2 (some .int) 1 := ⟨⟨m_2013, m_14, by decide +kernel⟩, m_2011, m_2012⟩
set_option maxHeartbeats 4000000 in
set_option maxRecDepth 100000 in
theorem c_X8_reverse (l : Launch) (V : Nat → Nat) (g : GH) (D : va_G) (cT : Nat → ClassId) (f : GH) (n : Nat) (a0 : Nat) (a1 : Int32) (o : Int32 × GH) (hq : p_X8_reverse V g f a0 a1 = some o) : Met l yX8_reverse (Cond.code yX8_reverse cX8_reverse 2 (some .int) :: g_B) rm_X8_reverse (va_Pc [.ref a0, .int a1] (g_I V g D cT f n)) (g_Wi V D cT o.1 o.2 n) 0 0 (g_A V) := by
  refine g_begin (own := RX8) [.ref a0, .int a1] [(0, .ref a0), (1, .int a1)] (g_A V) (fun _ h => h) (by decide) rfl (Nat.le_of_ble_eq_true rfl) rfl ?_
  intro p e s m args below meth c hx hb hr hlocks hin hC hI ls hl
  obtain ⟨hx, hb, hml, hown, hB⟩ := id hC
  obtain ⟨H, hH⟩ : ∃ H, H = s.heap := ⟨_, rfl⟩
  obtain ⟨locs, hlocs⟩ : ∃ L : List Loc, L = [] := ⟨_, rfl⟩
  rw [← hH, ← hlocs] at hI ⊢
  clear hH hlocs
  unfold p_X8_reverse at hq
  replace hq := (h_me_eq hq).2
  refine lv_aload_n hx hb dX8_reverse_0 rfl (lv_at hl 0 rfl) ?_
  obtain ⟨v1, ev1, hq⟩ := b_s hq
  refine gw_v (g_runV (As := []) (rest := []) (ci := 10) hC (c_X8_keep l V g D cT f n a0 v1 ev1) k_X8_keep m_1940 rfl rfl ⟨Nat.le_of_ble_eq_true rfl, Nat.le_of_ble_eq_true rfl⟩ hI rfl rfl (h_me_eq ev1).1 rfl hl.1 rfl (Nat.le_of_ble_eq_true rfl) dX8_reverse_1 ⟨by decide, by decide⟩) hI (fun H locs hI => ?_)
  refine lv_aload_n hx hb dX8_reverse_4 rfl (lv_at hl 0 rfl) ?_
  refine lv_aload_n hx hb dX8_reverse_5 rfl (lv_at hl 0 rfl) ?_
  refine lv_iload_n hx hb dX8_reverse_6 rfl (lv_at hl 1 rfl) ?_
  obtain ⟨v2, ev2, hq⟩ := b_s hq
  refine gw_i (g_runV (As := [.int a1]) (rest := [.ref a0]) (ci := 10) hC (c_X8_doReverse l V g D cT v1 n a0 a1 v2 ev2) k_X8_doReverse m_2014 rfl rfl ⟨Nat.le_of_ble_eq_true rfl, Nat.le_of_ble_eq_true rfl⟩ hI rfl rfl (h_me_eq ev2).1 rfl hl.1 rfl (Nat.le_of_ble_eq_true rfl) dX8_reverse_7 ⟨by decide, by decide⟩) hI (fun H locs hI => ?_)
  obtain ⟨v3, ev3, hq⟩ := b_s hq
  refine gw_i (g_runV (As := [.int v2.1]) (rest := []) (ci := 10) hC (c_X8_fails l V g D cT v2.2 n a0 v2.1 v3 ev3) k_X8_fails m_1951 rfl rfl ⟨Nat.le_of_ble_eq_true rfl, Nat.le_of_ble_eq_true rfl⟩ hI rfl rfl (h_me_eq ev3).1 rfl hl.1 rfl (Nat.le_of_ble_eq_true rfl) dX8_reverse_10 ⟨by decide, by decide⟩) hI (fun H locs hI => ?_)
  refine lv_if_eq (tgt := 20) hx hb dX8_reverse_13 (by decide) (fun c4 => ?_) (fun c4 => ?_)
  · replace hq := i_t c4 hq
    refine lv_aload_n hx hb dX8_reverse_20 rfl (lv_at hl 0 rfl) ?_
    refine lv_iload_n hx hb dX8_reverse_21 rfl (lv_at hl 1 rfl) ?_
    obtain ⟨v5, ev5, hq⟩ := b_s hq
    refine gr_i (g_runV (As := [.int a1]) (rest := []) (ci := 10) hC (c_X8_count l V g D cT v3.2 n a0 a1 v5 ev5) k_X8_count m_1527 rfl rfl ⟨Nat.le_of_ble_eq_true rfl, Nat.le_of_ble_eq_true rfl⟩ hI rfl rfl (h_me_eq ev5).1 rfl hl.1 rfl (Nat.le_of_ble_eq_true rfl) dX8_reverse_22 ⟨by decide, by decide⟩) hI (fun H locs hI => ?_)
    exact ge_Wi hx hb hlocks hr rfl hI (congrArg (fun z => z.1) (Option.some.inj hq)) (congrArg (fun z => z.2) (Option.some.inj hq)) dX8_reverse_25
  · replace hq := i_f c4 hq
    refine lv_iconst (v := (0 : Int32)) hx hb dX8_reverse_16 (by decide) ?_
    refine lv_goto (tgt := 25) hx hb dX8_reverse_17 (by decide) ?_
    exact ge_Wi hx hb hlocks hr rfl hI (congrArg (fun z => z.1) (Option.some.inj hq)) (congrArg (fun z => z.2) (Option.some.inj hq)) dX8_reverse_25

def p_X8_setMetric (V : Nat → Nat) (g f : GH) (a0 : Nat) (a1 : Int32) : Option GH :=
  h_me f a0 10 <|
  (h_gr f a0 10 5).bind fun v1 =>
  (if a1 = (0 : Int32) then
    (h_si f v1 0 (0 : Int32) (0 : Int32)).bind fun f3 =>
    some f3
  else
    (h_si f v1 0 (0 : Int32) (1 : Int32)).bind fun f4 =>
    some f4)
abbrev rm_X8_setMetric : Room := { frames := 2, cells := 0, slots := 0, locals := 120 }
theorem k_X8_setMetric : g_CV yX8_setMetric cX8_setMetric 2 none 1 := ⟨⟨m_2025, m_14, by decide +kernel⟩, m_2024, ms_70⟩
set_option maxHeartbeats 4000000 in
set_option maxRecDepth 100000 in
theorem c_X8_setMetric (l : Launch) (V : Nat → Nat) (g : GH) (D : va_G) (cT : Nat → ClassId) (f : GH) (n : Nat) (a0 : Nat) (a1 : Int32) (o : GH) (hq : p_X8_setMetric V g f a0 a1 = some o) : Met l yX8_setMetric (Cond.code yX8_setMetric cX8_setMetric 2 none :: g_B) rm_X8_setMetric (va_Pc [.ref a0, .int a1] (g_I V g D cT f n)) (g_Wv V D cT o n) 0 0 (g_A V) := by
  refine g_begin (own := RX8) [.ref a0, .int a1] [(0, .ref a0), (1, .int a1)] (g_A V) (fun _ h => h) (by decide) rfl (Nat.le_of_ble_eq_true rfl) rfl ?_
  intro p e s m args below meth c hx hb hr hlocks hin hC hI ls hl
  obtain ⟨hx, hb, hml, hown, hB⟩ := id hC
  obtain ⟨H, hH⟩ : ∃ H, H = s.heap := ⟨_, rfl⟩
  obtain ⟨locs, hlocs⟩ : ∃ L : List Loc, L = [] := ⟨_, rfl⟩
  rw [← hH, ← hlocs] at hI ⊢
  clear hH hlocs
  unfold p_X8_setMetric at hq
  replace hq := (h_me_eq hq).2
  refine lv_aload_n hx hb dX8_setMetric_0 rfl (lv_at hl 0 rfl) ?_
  obtain ⟨v1, ev1, hq⟩ := b_s hq
  refine fa_gr (own := RX8) (ref := "CoastlineRulerModel") (k := 5) hx hb hB inB_RX8 hown hI rfl (by decide) m_1536 (fun _ h9 => h9) ev1 dX8_setMetric_1 ?_
  refine lv_iconst (v := (0 : Int32)) hx hb dX8_setMetric_4 (by decide) ?_
  refine lv_iload_n hx hb dX8_setMetric_5 rfl (lv_at hl 1 rfl) ?_
  refine lv_if_eq (tgt := 13) hx hb dX8_setMetric_6 (by decide) (fun c2 => ?_) (fun c2 => ?_)
  · replace hq := i_t c2 hq
    refine lv_iconst (v := (0 : Int32)) hx hb dX8_setMetric_13 (by decide) ?_
    obtain ⟨f3, ef3, hq⟩ := b_s hq
    refine fa_si hx hb hI ef3 dX8_setMetric_14 (fun H locs hI => ?_)
    exact ge_Wv hx hb hlocks hr hI (Option.some.inj hq) dX8_setMetric_15
  · replace hq := i_f c2 hq
    refine lv_iconst (v := (1 : Int32)) hx hb dX8_setMetric_9 (by decide) ?_
    refine lv_goto (tgt := 14) hx hb dX8_setMetric_10 (by decide) ?_
    obtain ⟨f4, ef4, hq⟩ := b_s hq
    refine fa_si hx hb hI ef4 dX8_setMetric_14 (fun H locs hI => ?_)
    exact ge_Wv hx hb hlocks hr hI (Option.some.inj hq) dX8_setMetric_15

def p_X8_setKingMetric (V : Nat → Nat) (g f : GH) (a0 : Nat) (a1 : Int32) : Option (Int32 × GH) :=
  h_me f a0 10 <|
  (h_pt f a0 10 7 (.int (0 : Int32))).bind fun f1 =>
  (p_X8_isKing V g f1 a0).bind fun v2 =>
  (p_X8_keep V g f1 a0).bind fun v3 =>
  (p_X8_setMetric V g v3 a0 a1).bind fun v4 =>
  (p_X8_record V g v4 a0).bind fun v5 =>
  (h_bz v2).bind fun _ =>
  some (v2, v5)
abbrev rm_X8_setKingMetric : Room := { frames := 4, cells := 0, slots := 0, locals := 164 }
theorem k_X8_setKingMetric : g_CV yX8_setKingMetric cX8_setKingMetric 3 (some .boolean) 1 := ⟨⟨m_2021, m_14, by decide +kernel⟩, m_2019, m_2020⟩
set_option maxHeartbeats 4000000 in
set_option maxRecDepth 100000 in
theorem c_X8_setKingMetric (l : Launch) (V : Nat → Nat) (g : GH) (D : va_G) (cT : Nat → ClassId) (f : GH) (n : Nat) (a0 : Nat) (a1 : Int32) (o : Int32 × GH) (hq : p_X8_setKingMetric V g f a0 a1 = some o) : Met l yX8_setKingMetric (Cond.code yX8_setKingMetric cX8_setKingMetric 3 (some .boolean) :: g_B) rm_X8_setKingMetric (va_Pc [.ref a0, .int a1] (g_I V g D cT f n)) (g_Wi V D cT o.1 o.2 n) 0 0 (g_A V) := by
  refine g_begin (own := RX8) [.ref a0, .int a1] [(0, .ref a0), (1, .int a1)] (g_A V) (fun _ h => h) (by decide) rfl (Nat.le_of_ble_eq_true rfl) rfl ?_
  intro p e s m args below meth c hx hb hr hlocks hin hC hI ls hl
  obtain ⟨hx, hb, hml, hown, hB⟩ := id hC
  obtain ⟨H, hH⟩ : ∃ H, H = s.heap := ⟨_, rfl⟩
  obtain ⟨locs, hlocs⟩ : ∃ L : List Loc, L = [] := ⟨_, rfl⟩
  rw [← hH, ← hlocs] at hI ⊢
  clear hH hlocs
  unfold p_X8_setKingMetric at hq
  replace hq := (h_me_eq hq).2
  refine lv_aload_n hx hb dX8_setKingMetric_0 rfl (lv_at hl 0 rfl) ?_
  refine lv_iconst (v := (0 : Int32)) hx hb dX8_setKingMetric_1 (by decide) ?_
  obtain ⟨f1, ef1, hq⟩ := b_s hq
  refine fa_pt (own := RX8) (ref := "CoastlineRulerModel") (k := 7) hx hb hB inB_RX8 tyX8_ok nmX8 hown hI rfl (by decide) m_1538 (fun _ h9 => h9) (by decide) rfl rfl ef1 dX8_setKingMetric_2 (fun H locs hI => ?_)
  refine lv_aload_n hx hb dX8_setKingMetric_5 rfl (lv_at hl 0 rfl) ?_
  obtain ⟨v2, ev2, hq⟩ := b_s hq
  refine gr_i (g_runV (As := []) (rest := []) (ci := 10) hC (c_X8_isKing l V g D cT f1 n a0 v2 ev2) k_X8_isKing m_1622 rfl rfl ⟨Nat.le_of_ble_eq_true rfl, Nat.le_of_ble_eq_true rfl⟩ hI rfl rfl (h_me_eq ev2).1 rfl hl.1 rfl (Nat.le_of_ble_eq_true rfl) dX8_setKingMetric_6 ⟨by decide, by decide⟩) hI (fun H locs hI => ?_)
  refine lv_istore_n (lv' := [(2, .int v2), (0, .ref a0), (1, .int a1)]) hx hb dX8_setKingMetric_9 rfl hl (by decide) rfl (fun ls hl => ?_)
  refine lv_aload_n hx hb dX8_setKingMetric_10 rfl (lv_at hl 1 rfl) ?_
  obtain ⟨v3, ev3, hq⟩ := b_s hq
  refine gw_v (g_runV (As := []) (rest := []) (ci := 10) hC (c_X8_keep l V g D cT f1 n a0 v3 ev3) k_X8_keep m_1940 rfl rfl ⟨Nat.le_of_ble_eq_true rfl, Nat.le_of_ble_eq_true rfl⟩ hI rfl rfl (h_me_eq ev3).1 rfl hl.1 rfl (Nat.le_of_ble_eq_true rfl) dX8_setKingMetric_11 ⟨by decide, by decide⟩) hI (fun H locs hI => ?_)
  refine lv_aload_n hx hb dX8_setKingMetric_14 rfl (lv_at hl 1 rfl) ?_
  refine lv_iload_n hx hb dX8_setKingMetric_15 rfl (lv_at hl 2 rfl) ?_
  obtain ⟨v4, ev4, hq⟩ := b_s hq
  refine gw_v (g_runV (As := [.int a1]) (rest := []) (ci := 10) hC (c_X8_setMetric l V g D cT v3 n a0 a1 v4 ev4) k_X8_setMetric m_2022 rfl rfl ⟨Nat.le_of_ble_eq_true rfl, Nat.le_of_ble_eq_true rfl⟩ hI rfl rfl (h_me_eq ev4).1 rfl hl.1 rfl (Nat.le_of_ble_eq_true rfl) dX8_setKingMetric_16 ⟨by decide, by decide⟩) hI (fun H locs hI => ?_)
  refine lv_aload_n hx hb dX8_setKingMetric_19 rfl (lv_at hl 1 rfl) ?_
  obtain ⟨v5, ev5, hq⟩ := b_s hq
  refine gw_v (g_runV (As := []) (rest := []) (ci := 10) hC (c_X8_record l V g D cT v4 n a0 v5 ev5) k_X8_record m_1955 rfl rfl ⟨Nat.le_of_ble_eq_true rfl, Nat.le_of_ble_eq_true rfl⟩ hI rfl rfl (h_me_eq ev5).1 rfl hl.1 rfl (Nat.le_of_ble_eq_true rfl) dX8_setKingMetric_20 ⟨by decide, by decide⟩) hI (fun H locs hI => ?_)
  refine lv_iload_n hx hb dX8_setKingMetric_23 rfl (lv_at hl 0 rfl) ?_
  obtain ⟨_, ev6, hq⟩ := b_s hq
  exact ge_Wi hx hb hlocks hr (h_bz_eq ev6).2.1 hI (congrArg (fun z => z.1) (Option.some.inj hq)) (congrArg (fun z => z.2) (Option.some.inj hq)) dX8_setKingMetric_24

def p_X8_write (V : Nat → Nat) (g f : GH) (a0 : Nat) (a1 : Int32) : Option GH :=
  h_me f a0 10 <|
  (h_gr f a0 10 10).bind fun v1 =>
  (h_gi f a0 10 11).bind fun v2 =>
  (h_si f v1 0 v2 a1).bind fun f3 =>
  (h_gi f3 a0 10 11).bind fun v4 =>
  (h_pt f3 a0 10 11 (.int (v4 + (1 : Int32)))).bind fun f5 =>
  some f5
abbrev rm_X8_write : Room := { frames := 2, cells := 0, slots := 0, locals := 120 }
theorem k_X8_write : g_CV yX8_write cX8_write 2 none 1 := ⟨⟨m_2037, m_14, by decide +kernel⟩, m_2036, ms_72⟩
set_option maxHeartbeats 4000000 in
set_option maxRecDepth 100000 in
theorem c_X8_write (l : Launch) (V : Nat → Nat) (g : GH) (D : va_G) (cT : Nat → ClassId) (f : GH) (n : Nat) (a0 : Nat) (a1 : Int32) (o : GH) (hq : p_X8_write V g f a0 a1 = some o) : Met l yX8_write (Cond.code yX8_write cX8_write 2 none :: g_B) rm_X8_write (va_Pc [.ref a0, .int a1] (g_I V g D cT f n)) (g_Wv V D cT o n) 0 0 (g_A V) := by
  refine g_begin (own := RX8) [.ref a0, .int a1] [(0, .ref a0), (1, .int a1)] (g_A V) (fun _ h => h) (by decide) rfl (Nat.le_of_ble_eq_true rfl) rfl ?_
  intro p e s m args below meth c hx hb hr hlocks hin hC hI ls hl
  obtain ⟨hx, hb, hml, hown, hB⟩ := id hC
  obtain ⟨H, hH⟩ : ∃ H, H = s.heap := ⟨_, rfl⟩
  obtain ⟨locs, hlocs⟩ : ∃ L : List Loc, L = [] := ⟨_, rfl⟩
  rw [← hH, ← hlocs] at hI ⊢
  clear hH hlocs
  unfold p_X8_write at hq
  replace hq := (h_me_eq hq).2
  refine lv_aload_n hx hb dX8_write_0 rfl (lv_at hl 0 rfl) ?_
  obtain ⟨v1, ev1, hq⟩ := b_s hq
  refine fa_gr (own := RX8) (ref := "CoastlineRulerModel") (k := 10) hx hb hB inB_RX8 hown hI rfl (by decide) m_1541 (fun _ h9 => h9) ev1 dX8_write_1 ?_
  refine lv_aload_n hx hb dX8_write_4 rfl (lv_at hl 0 rfl) ?_
  obtain ⟨v2, ev2, hq⟩ := b_s hq
  refine fa_gi (own := RX8) (ref := "CoastlineRulerModel") (k := 11) hx hb hB inB_RX8 hown hI rfl (by decide) m_1542 (fun _ h9 => h9) ev2 dX8_write_5 ?_
  refine lv_iload_n hx hb dX8_write_8 rfl (lv_at hl 1 rfl) ?_
  obtain ⟨f3, ef3, hq⟩ := b_s hq
  refine fa_si hx hb hI ef3 dX8_write_9 (fun H locs hI => ?_)
  refine lv_aload_n hx hb dX8_write_10 rfl (lv_at hl 0 rfl) ?_
  refine lv_dup hx hb dX8_write_11 rfl ?_
  obtain ⟨v4, ev4, hq⟩ := b_s hq
  refine fa_gi (own := RX8) (ref := "CoastlineRulerModel") (k := 11) hx hb hB inB_RX8 hown hI rfl (by decide) m_1542 (fun _ h9 => h9) ev4 dX8_write_12 ?_
  refine lv_iconst (v := (1 : Int32)) hx hb dX8_write_15 (by decide) ?_
  refine lv_iadd hx hb dX8_write_16 ?_
  obtain ⟨f5, ef5, hq⟩ := b_s hq
  refine fa_pt (own := RX8) (ref := "CoastlineRulerModel") (k := 11) hx hb hB inB_RX8 tyX8_ok nmX8 hown hI rfl (by decide) m_1542 (fun _ h9 => h9) (by decide) rfl rfl ef5 dX8_write_17 (fun H locs hI => ?_)
  exact ge_Wv hx hb hlocks hr hI (Option.some.inj hq) dX8_write_20

def p_X8_writeNumber_l2 (V : Nat → Nat) (g : GH) (K18 : Nat → Int32 → Int32 → GH → Option GH) : Nat → Nat → Int32 → Int32 → GH → Option GH
  | 0, _, _, _, _ => none
  | N + 1, x0, x1, x2, f =>
    (h_dv x2).bind fun _ =>
    (if (x1 / x2) ≤ (9 : Int32) then
      K18 x0 x1 x2 f
    else
      p_X8_writeNumber_l2 V g K18 N x0 x1 (x2 * (10 : Int32)) f)
def p_X8_writeNumber_l20 (V : Nat → Nat) (g : GH) (K45 : GH → Option GH) : Nat → Nat → Int32 → Int32 → GH → Option GH
  | 0, _, _, _, _ => none
  | N + 1, x0, x1, x3, f =>
    (if x3 ≤ (0 : Int32) then
      K45 f
    else
      (h_dv x3).bind fun _ =>
      (p_X8_write V g f x0 ((48 : Int32) + ((x1 / x3) - (x1 / x3) / (10 : Int32) * (10 : Int32)))).bind fun v5 =>
      p_X8_writeNumber_l20 V g K45 N x0 x1 (x3 / (10 : Int32)) v5)
def p_X8_writeNumber (V : Nat → Nat) (g f : GH) (a0 : Nat) (a1 : Int32) : Option GH :=
  h_me f a0 10 <|
  p_X8_writeNumber_l2 V g (fun x0 x1 x2 f =>
    p_X8_writeNumber_l20 V g (fun f =>
      some f) FU x0 x1 x2 f) FU a0 a1 (1 : Int32) f
abbrev rm_X8_writeNumber : Room := { frames := 3, cells := 0, slots := 0, locals := 141 }
theorem k_X8_writeNumber : g_CV yX8_writeNumber cX8_writeNumber 4 none 1 := ⟨⟨m_2033, m_14, by decide +kernel⟩, m_2032, ms_71⟩
set_option maxHeartbeats 4000000 in
set_option maxRecDepth 100000 in
theorem c_X8_writeNumber (l : Launch) (V : Nat → Nat) (g : GH) (D : va_G) (cT : Nat → ClassId) (f : GH) (n : Nat) (a0 : Nat) (a1 : Int32) (o : GH) (hq : p_X8_writeNumber V g f a0 a1 = some o) : Met l yX8_writeNumber (Cond.code yX8_writeNumber cX8_writeNumber 4 none :: g_B) rm_X8_writeNumber (va_Pc [.ref a0, .int a1] (g_I V g D cT f n)) (g_Wv V D cT o n) 0 0 (g_A V) := by
  refine g_begin (own := RX8) [.ref a0, .int a1] [(0, .ref a0), (1, .int a1)] (g_A V) (fun _ h => h) (by decide) rfl (Nat.le_of_ble_eq_true rfl) rfl ?_
  intro p e s m args below meth c hx hb hr hlocks hin hC hI ls hl
  obtain ⟨hx, hb, hml, hown, hB⟩ := id hC
  obtain ⟨H, hH⟩ : ∃ H, H = s.heap := ⟨_, rfl⟩
  obtain ⟨locs, hlocs⟩ : ∃ L : List Loc, L = [] := ⟨_, rfl⟩
  rw [← hH, ← hlocs] at hI ⊢
  clear hH hlocs
  unfold p_X8_writeNumber at hq
  replace hq := (h_me_eq hq).2
  refine lv_iconst (v := (1 : Int32)) hx hb dX8_writeNumber_0 (by decide) ?_
  refine lv_istore_n (lv' := [(2, .int (1 : Int32)), (0, .ref a0), (1, .int a1)]) hx hb dX8_writeNumber_1 rfl hl (by decide) rfl (fun ls hl => ?_)
  have hl2 : ∀ (K18 : Nat → Int32 → Int32 → GH → Option GH) (hK18 : ∀ (x0 : Nat) (x1 : Int32) (x2 : Int32) (f : GH) (H : Heap) (locs : List Loc) (ls : Array Slot), g_at (g_A V) V g D cT f n s H locs → lv_has ls 4 [(0, .ref x0), (1, .int x1), (2, .int x2)] → K18 x0 x1 x2 f = some o → W p l e rm_X8_writeNumber s m args below meth c H locs 0 0 (MQ below (g_Wv V D cT o n) args s 0 0 (g_A V)) (F0 m 18 ls [])) (N : Nat) (x0 : Nat) (x1 : Int32) (x2 : Int32) (f : GH) (H : Heap) (locs : List Loc) (ls : Array Slot), g_at (g_A V) V g D cT f n s H locs → lv_has ls 4 [(0, .ref x0), (1, .int x1), (2, .int x2)] → p_X8_writeNumber_l2 V g K18 N x0 x1 x2 f = some o → W p l e rm_X8_writeNumber s m args below meth c H locs 0 0 (MQ below (g_Wv V D cT o n) args s 0 0 (g_A V)) (F0 m 2 ls []) := by
    intro K18 hK18 N
    induction N with
    | zero =>
      intro x0 x1 x2 f H locs ls hI hl hq
      rw [p_X8_writeNumber_l2] at hq
      cases hq
    | succ N ih =>
      intro x0 x1 x2 f H locs ls hI hl hq
      rw [p_X8_writeNumber_l2] at hq
      refine lv_iload_n hx hb dX8_writeNumber_2 rfl (lv_at hl 1 rfl) ?_
      refine lv_iload_n hx hb dX8_writeNumber_3 rfl (lv_at hl 2 rfl) ?_
      obtain ⟨_, ev1, hq⟩ := b_s hq
      refine lv_idiv hx hb dX8_writeNumber_4 (h_dv_eq ev1).2 ?_
      refine lv_bipush (v := (9 : Int32)) hx hb dX8_writeNumber_5 (by decide) ?_
      refine lv_icmp_le (tgt := 18) hx hb dX8_writeNumber_7 (by decide) (fun c2 => ?_) (fun c2 => ?_)
      · replace hq := i_t c2 hq
        exact hK18 x0 x1 x2 f H locs ls hI (lv_sub hl [0, 1, 2] rfl) hq
      · replace hq := i_f c2 hq
        refine lv_iload_n hx hb dX8_writeNumber_10 rfl (lv_at hl 2 rfl) ?_
        refine lv_bipush (v := (10 : Int32)) hx hb dX8_writeNumber_11 (by decide) ?_
        refine lv_imul hx hb dX8_writeNumber_13 ?_
        refine lv_istore_n (lv' := [(2, .int (x2 * (10 : Int32))), (0, .ref x0), (1, .int x1)]) hx hb dX8_writeNumber_14 rfl hl (by decide) rfl (fun ls hl => ?_)
        refine lv_goto (tgt := 2) hx hb dX8_writeNumber_15 (by decide) ?_
        exact ih x0 x1 (x2 * (10 : Int32)) f H locs ls hI (lv_sub hl [1, 2, 0] rfl) hq
  refine hl2 _ ?_ FU a0 a1 (1 : Int32) f H locs ls hI (lv_sub hl [1, 2, 0] rfl) hq
  · intro x0 x1 x2 f H locs ls hI hl hq
    refine lv_iload_n hx hb dX8_writeNumber_18 rfl (lv_at hl 2 rfl) ?_
    refine lv_istore_n (lv' := [(3, .int x2), (0, .ref x0), (1, .int x1), (2, .int x2)]) hx hb dX8_writeNumber_19 rfl hl (by decide) rfl (fun ls hl => ?_)
    have hl20 : ∀ (K45 : GH → Option GH) (hK45 : ∀ (f : GH) (H : Heap) (locs : List Loc) (ls : Array Slot), g_at (g_A V) V g D cT f n s H locs → lv_has ls 4 [] → K45 f = some o → W p l e rm_X8_writeNumber s m args below meth c H locs 0 0 (MQ below (g_Wv V D cT o n) args s 0 0 (g_A V)) (F0 m 45 ls [])) (N : Nat) (x0 : Nat) (x1 : Int32) (x3 : Int32) (f : GH) (H : Heap) (locs : List Loc) (ls : Array Slot), g_at (g_A V) V g D cT f n s H locs → lv_has ls 4 [(0, .ref x0), (1, .int x1), (3, .int x3)] → p_X8_writeNumber_l20 V g K45 N x0 x1 x3 f = some o → W p l e rm_X8_writeNumber s m args below meth c H locs 0 0 (MQ below (g_Wv V D cT o n) args s 0 0 (g_A V)) (F0 m 20 ls []) := by
      intro K45 hK45 N
      induction N with
      | zero =>
        intro x0 x1 x3 f H locs ls hI hl hq
        rw [p_X8_writeNumber_l20] at hq
        cases hq
      | succ N ih =>
        intro x0 x1 x3 f H locs ls hI hl hq
        rw [p_X8_writeNumber_l20] at hq
        refine lv_iload_n hx hb dX8_writeNumber_20 rfl (lv_at hl 2 rfl) ?_
        refine lv_if_le (tgt := 45) hx hb dX8_writeNumber_21 (by decide) (fun c3 => ?_) (fun c3 => ?_)
        · replace hq := i_t c3 hq
          exact hK45 f H locs ls hI (lv_sub hl [] rfl) hq
        · replace hq := i_f c3 hq
          refine lv_aload_n hx hb dX8_writeNumber_24 rfl (lv_at hl 0 rfl) ?_
          refine lv_bipush (v := (48 : Int32)) hx hb dX8_writeNumber_25 (by decide) ?_
          refine lv_iload_n hx hb dX8_writeNumber_27 rfl (lv_at hl 1 rfl) ?_
          refine lv_iload_n hx hb dX8_writeNumber_28 rfl (lv_at hl 2 rfl) ?_
          obtain ⟨_, ev4, hq⟩ := b_s hq
          refine lv_idiv hx hb dX8_writeNumber_29 (h_dv_eq ev4).2 ?_
          refine lv_bipush (v := (10 : Int32)) hx hb dX8_writeNumber_30 (by decide) ?_
          refine lv_irem hx hb dX8_writeNumber_32 (by decide) ?_
          refine lv_iadd hx hb dX8_writeNumber_33 ?_
          obtain ⟨v5, ev5, hq⟩ := b_s hq
          refine gw_v (g_runV (As := [.int ((48 : Int32) + ((x1 / x3) - (x1 / x3) / (10 : Int32) * (10 : Int32)))]) (rest := []) (ci := 10) hC (c_X8_write l V g D cT f n x0 ((48 : Int32) + ((x1 / x3) - (x1 / x3) / (10 : Int32) * (10 : Int32))) v5 ev5) k_X8_write m_2034 rfl rfl ⟨Nat.le_of_ble_eq_true rfl, Nat.le_of_ble_eq_true rfl⟩ hI rfl rfl (h_me_eq ev5).1 rfl hl.1 rfl (Nat.le_of_ble_eq_true rfl) dX8_writeNumber_34 ⟨by decide, by decide⟩) hI (fun H locs hI => ?_)
          refine lv_iload_n hx hb dX8_writeNumber_37 rfl (lv_at hl 2 rfl) ?_
          refine lv_bipush (v := (10 : Int32)) hx hb dX8_writeNumber_38 (by decide) ?_
          refine lv_idiv hx hb dX8_writeNumber_40 (by decide) ?_
          refine lv_istore_n (lv' := [(3, .int (x3 / (10 : Int32))), (0, .ref x0), (1, .int x1)]) hx hb dX8_writeNumber_41 rfl hl (by decide) rfl (fun ls hl => ?_)
          refine lv_goto (tgt := 20) hx hb dX8_writeNumber_42 (by decide) ?_
          exact ih x0 x1 (x3 / (10 : Int32)) v5 H locs ls hI (lv_sub hl [1, 2, 0] rfl) hq
    refine hl20 _ ?_ FU x0 x1 x2 f H locs ls hI (lv_sub hl [1, 2, 0] rfl) hq
    · intro f H locs ls hI hl hq
      exact ge_Wv hx hb hlocks hr hI (Option.some.inj hq) dX8_writeNumber_45

def p_X8_isLastLevel (V : Nat → Nat) (g f : GH) (a0 : Nat) (a1 : Int32) (a2 : Int32) : Option Int32 :=
  h_me f a0 10 <|
  (if a2 = (7 : Int32) then
    some (1 : Int32)
  else
    (p_X8_sticks V g f a0 a1 a2).bind fun v2 =>
    (p_X8_island V g f a0 a1).bind fun v3 =>
    (if v3 = (0 : Int32) then
      (if (1 : Int32) < v2 then
        some (0 : Int32)
      else
        some (1 : Int32))
    else
      (if (2 : Int32) < v2 then
        some (0 : Int32)
      else
        some (1 : Int32))))
abbrev rm_X8_isLastLevel : Room := { frames := 5, cells := 0, slots := 0, locals := 185 }
theorem k_X8_isLastLevel : g_CV yX8_isLastLevel cX8_isLastLevel 3 (some .boolean) 2 := ⟨⟨m_2041, m_14, by decide +kernel⟩, m_2040, ms_73⟩
set_option maxHeartbeats 4000000 in
set_option maxRecDepth 100000 in
theorem c_X8_isLastLevel (l : Launch) (V : Nat → Nat) (g : GH) (D : va_G) (cT : Nat → ClassId) (f : GH) (n : Nat) (a0 : Nat) (a1 : Int32) (a2 : Int32) (o : Int32) (hq : p_X8_isLastLevel V g f a0 a1 a2 = some o) : Met l yX8_isLastLevel (Cond.code yX8_isLastLevel cX8_isLastLevel 3 (some .boolean) :: g_B) rm_X8_isLastLevel (va_Pc [.ref a0, .int a1, .int a2] (g_I V g D cT f n)) (g_Ri o n) 0 0 g_no := by
  refine g_begin (own := RX8) [.ref a0, .int a1, .int a2] [(0, .ref a0), (1, .int a1), (2, .int a2)] g_no (fun _ h => h.elim) (by decide) rfl (Nat.le_of_ble_eq_true rfl) rfl ?_
  intro p e s m args below meth c hx hb hr hlocks hin hC hI ls hl
  obtain ⟨hx, hb, hml, hown, hB⟩ := id hC
  obtain ⟨H, hH⟩ : ∃ H, H = s.heap := ⟨_, rfl⟩
  obtain ⟨locs, hlocs⟩ : ∃ L : List Loc, L = [] := ⟨_, rfl⟩
  rw [← hH, ← hlocs] at hI ⊢
  clear hH hlocs
  unfold p_X8_isLastLevel at hq
  replace hq := (h_me_eq hq).2
  refine lv_iload_n hx hb dX8_isLastLevel_0 rfl (lv_at hl 2 rfl) ?_
  refine lv_bipush (v := (7 : Int32)) hx hb dX8_isLastLevel_1 (by decide) ?_
  refine lv_icmp_eq (tgt := 28) hx hb dX8_isLastLevel_3 (by decide) (fun c1 => ?_) (fun c1 => ?_)
  · replace hq := i_t c1 hq
    refine lv_iconst (v := (1 : Int32)) hx hb dX8_isLastLevel_28 (by decide) ?_
    refine lv_goto (tgt := 33) hx hb dX8_isLastLevel_29 (by decide) ?_
    exact ge_Ri hx hb hlocks hr (by decide +kernel) hI hq dX8_isLastLevel_33
  · replace hq := i_f c1 hq
    refine lv_aload_n hx hb dX8_isLastLevel_6 rfl (lv_at hl 0 rfl) ?_
    refine lv_iload_n hx hb dX8_isLastLevel_7 rfl (lv_at hl 1 rfl) ?_
    refine lv_iload_n hx hb dX8_isLastLevel_8 rfl (lv_at hl 2 rfl) ?_
    obtain ⟨v2, ev2, hq⟩ := b_s hq
    refine gr_i (g_runV (As := [.int a1, .int a2]) (rest := []) (ci := 10) hC (c_X8_sticks l V g D cT f n a0 a1 a2 v2 ev2) k_X8_sticks m_1716 rfl rfl ⟨Nat.le_of_ble_eq_true rfl, Nat.le_of_ble_eq_true rfl⟩ hI rfl rfl (h_me_eq ev2).1 rfl hl.1 rfl (Nat.le_of_ble_eq_true rfl) dX8_isLastLevel_9 ⟨by decide, by decide⟩) hI (fun H locs hI => ?_)
    refine lv_aload_n hx hb dX8_isLastLevel_12 rfl (lv_at hl 0 rfl) ?_
    refine lv_iload_n hx hb dX8_isLastLevel_13 rfl (lv_at hl 1 rfl) ?_
    obtain ⟨v3, ev3, hq⟩ := b_s hq
    refine gr_i (g_runV (As := [.int a1]) (rest := [.int v2]) (ci := 10) hC (c_X8_island l V g D cT f n a0 a1 v3 ev3) k_X8_island m_1641 rfl rfl ⟨Nat.le_of_ble_eq_true rfl, Nat.le_of_ble_eq_true rfl⟩ hI rfl rfl (h_me_eq ev3).1 rfl hl.1 rfl (Nat.le_of_ble_eq_true rfl) dX8_isLastLevel_14 ⟨by decide, by decide⟩) hI (fun H locs hI => ?_)
    refine lv_if_eq (tgt := 24) hx hb dX8_isLastLevel_17 (by decide) (fun c4 => ?_) (fun c4 => ?_)
    · replace hq := i_t c4 hq
      refine lv_iconst (v := (1 : Int32)) hx hb dX8_isLastLevel_24 (by decide) ?_
      refine lv_icmp_gt (tgt := 32) hx hb dX8_isLastLevel_25 (by decide) (fun c5 => ?_) (fun c5 => ?_)
      · replace hq := i_t c5 hq
        refine lv_iconst (v := (0 : Int32)) hx hb dX8_isLastLevel_32 (by decide) ?_
        exact ge_Ri hx hb hlocks hr (by decide +kernel) hI hq dX8_isLastLevel_33
      · replace hq := i_f c5 hq
        refine lv_iconst (v := (1 : Int32)) hx hb dX8_isLastLevel_28 (by decide) ?_
        refine lv_goto (tgt := 33) hx hb dX8_isLastLevel_29 (by decide) ?_
        exact ge_Ri hx hb hlocks hr (by decide +kernel) hI hq dX8_isLastLevel_33
    · replace hq := i_f c4 hq
      refine lv_iconst (v := (2 : Int32)) hx hb dX8_isLastLevel_20 (by decide) ?_
      refine lv_goto (tgt := 25) hx hb dX8_isLastLevel_21 (by decide) ?_
      refine lv_icmp_gt (tgt := 32) hx hb dX8_isLastLevel_25 (by decide) (fun c6 => ?_) (fun c6 => ?_)
      · replace hq := i_t c6 hq
        refine lv_iconst (v := (0 : Int32)) hx hb dX8_isLastLevel_32 (by decide) ?_
        exact ge_Ri hx hb hlocks hr (by decide +kernel) hI hq dX8_isLastLevel_33
      · replace hq := i_f c6 hq
        refine lv_iconst (v := (1 : Int32)) hx hb dX8_isLastLevel_28 (by decide) ?_
        refine lv_goto (tgt := 33) hx hb dX8_isLastLevel_29 (by decide) ?_
        exact ge_Ri hx hb hlocks hr (by decide +kernel) hI hq dX8_isLastLevel_33

def p_X8_writeLengths_l31 (V : Nat → Nat) (g : GH) (K64 : Nat → GH → Option (Int32 × GH)) : Nat → Nat → Int32 → Int32 → GH → Option (Int32 × GH)
  | 0, _, _, _, _ => none
  | N + 1, x0, x1, x2, f =>
    (p_X8_isLastLevel V g f x0 x1 (x2 - (1 : Int32))).bind fun v7 =>
    (if v7 = (0 : Int32) then
      (p_X8_write V g f x0 (32 : Int32)).bind fun v9 =>
      (p_X8_lengthNow V g v9 x0 x1 x2).bind fun v10 =>
      (p_X8_writeNumber V g v9 x0 v10).bind fun v11 =>
      p_X8_writeLengths_l31 V g K64 N x0 x1 (x2 + (1 : Int32)) v11
    else
      K64 x0 f)
def p_X8_writeLengths (V : Nat → Nat) (g f : GH) (a0 : Nat) (a1 : Int32) : Option (Int32 × GH) :=
  h_me f a0 10 <|
  (p_X8_isCoast V g f a0 a1).bind fun v1 =>
  (p_X8_lacks V g f a0 v1).bind fun v2 =>
  (if v2.1 = (0 : Int32) then
    (h_pt v2.2 a0 10 11 (.int (0 : Int32))).bind fun f4 =>
    (p_X8_lengthNow V g f4 a0 a1 (0 : Int32)).bind fun v5 =>
    (p_X8_writeNumber V g f4 a0 v5).bind fun v6 =>
    p_X8_writeLengths_l31 V g (fun x0 f =>
      (h_gi f x0 10 11).bind fun v12 =>
      some (v12, f)) FU a0 a1 (1 : Int32) v6
  else
    some ((0 : Int32), v2.2))
abbrev rm_X8_writeLengths : Room := { frames := 8, cells := 0, slots := 0, locals := 259 }
theorem k_X8_writeLengths : g_CV yX8_writeLengths cX8_writeLengths 3 (some .int) 1 := ⟨⟨m_2029, m_14, by decide +kernel⟩, m_2027, m_2028⟩
set_option maxHeartbeats 4000000 in
set_option maxRecDepth 100000 in
theorem c_X8_writeLengths (l : Launch) (V : Nat → Nat) (g : GH) (D : va_G) (cT : Nat → ClassId) (f : GH) (n : Nat) (a0 : Nat) (a1 : Int32) (o : Int32 × GH) (hq : p_X8_writeLengths V g f a0 a1 = some o) : Met l yX8_writeLengths (Cond.code yX8_writeLengths cX8_writeLengths 3 (some .int) :: g_B) rm_X8_writeLengths (va_Pc [.ref a0, .int a1] (g_I V g D cT f n)) (g_Wi V D cT o.1 o.2 n) 0 0 (g_A V) := by
  refine g_begin (own := RX8) [.ref a0, .int a1] [(0, .ref a0), (1, .int a1)] (g_A V) (fun _ h => h) (by decide) rfl (Nat.le_of_ble_eq_true rfl) rfl ?_
  intro p e s m args below meth c hx hb hr hlocks hin hC hI ls hl
  obtain ⟨hx, hb, hml, hown, hB⟩ := id hC
  obtain ⟨H, hH⟩ : ∃ H, H = s.heap := ⟨_, rfl⟩
  obtain ⟨locs, hlocs⟩ : ∃ L : List Loc, L = [] := ⟨_, rfl⟩
  rw [← hH, ← hlocs] at hI ⊢
  clear hH hlocs
  unfold p_X8_writeLengths at hq
  replace hq := (h_me_eq hq).2
  refine lv_aload_n hx hb dX8_writeLengths_0 rfl (lv_at hl 0 rfl) ?_
  refine lv_aload_n hx hb dX8_writeLengths_1 rfl (lv_at hl 0 rfl) ?_
  refine lv_iload_n hx hb dX8_writeLengths_2 rfl (lv_at hl 1 rfl) ?_
  obtain ⟨v1, ev1, hq⟩ := b_s hq
  refine gr_i (g_runV (As := [.int a1]) (rest := [.ref a0]) (ci := 10) hC (c_X8_isCoast l V g D cT f n a0 a1 v1 ev1) k_X8_isCoast m_1630 rfl rfl ⟨Nat.le_of_ble_eq_true rfl, Nat.le_of_ble_eq_true rfl⟩ hI rfl rfl (h_me_eq ev1).1 rfl hl.1 rfl (Nat.le_of_ble_eq_true rfl) dX8_writeLengths_3 ⟨by decide, by decide⟩) hI (fun H locs hI => ?_)
  obtain ⟨v2, ev2, hq⟩ := b_s hq
  refine gw_i (g_runV (As := [.int v1]) (rest := []) (ci := 10) hC (c_X8_lacks l V g D cT f n a0 v1 v2 ev2) k_X8_lacks m_1637 rfl rfl ⟨Nat.le_of_ble_eq_true rfl, Nat.le_of_ble_eq_true rfl⟩ hI rfl rfl (h_me_eq ev2).1 rfl hl.1 rfl (Nat.le_of_ble_eq_true rfl) dX8_writeLengths_6 ⟨by decide, by decide⟩) hI (fun H locs hI => ?_)
  refine lv_if_eq (tgt := 14) hx hb dX8_writeLengths_9 (by decide) (fun c3 => ?_) (fun c3 => ?_)
  · replace hq := i_t c3 hq
    refine lv_aload_n hx hb dX8_writeLengths_14 rfl (lv_at hl 0 rfl) ?_
    refine lv_iconst (v := (0 : Int32)) hx hb dX8_writeLengths_15 (by decide) ?_
    obtain ⟨f4, ef4, hq⟩ := b_s hq
    refine fa_pt (own := RX8) (ref := "CoastlineRulerModel") (k := 11) hx hb hB inB_RX8 tyX8_ok nmX8 hown hI rfl (by decide) m_1542 (fun _ h9 => h9) (by decide) rfl rfl ef4 dX8_writeLengths_16 (fun H locs hI => ?_)
    refine lv_aload_n hx hb dX8_writeLengths_19 rfl (lv_at hl 0 rfl) ?_
    refine lv_aload_n hx hb dX8_writeLengths_20 rfl (lv_at hl 0 rfl) ?_
    refine lv_iload_n hx hb dX8_writeLengths_21 rfl (lv_at hl 1 rfl) ?_
    refine lv_iconst (v := (0 : Int32)) hx hb dX8_writeLengths_22 (by decide) ?_
    obtain ⟨v5, ev5, hq⟩ := b_s hq
    refine gr_i (g_runV (As := [.int a1, .int (0 : Int32)]) (rest := [.ref a0]) (ci := 10) hC (c_X8_lengthNow l V g D cT f4 n a0 a1 (0 : Int32) v5 ev5) k_X8_lengthNow m_1708 rfl rfl ⟨Nat.le_of_ble_eq_true rfl, Nat.le_of_ble_eq_true rfl⟩ hI rfl rfl (h_me_eq ev5).1 rfl hl.1 rfl (Nat.le_of_ble_eq_true rfl) dX8_writeLengths_23 ⟨by decide, by decide⟩) hI (fun H locs hI => ?_)
    obtain ⟨v6, ev6, hq⟩ := b_s hq
    refine gw_v (g_runV (As := [.int v5]) (rest := []) (ci := 10) hC (c_X8_writeNumber l V g D cT f4 n a0 v5 v6 ev6) k_X8_writeNumber m_2030 rfl rfl ⟨Nat.le_of_ble_eq_true rfl, Nat.le_of_ble_eq_true rfl⟩ hI rfl rfl (h_me_eq ev6).1 rfl hl.1 rfl (Nat.le_of_ble_eq_true rfl) dX8_writeLengths_26 ⟨by decide, by decide⟩) hI (fun H locs hI => ?_)
    refine lv_iconst (v := (1 : Int32)) hx hb dX8_writeLengths_29 (by decide) ?_
    refine lv_istore_n (lv' := [(2, .int (1 : Int32)), (0, .ref a0), (1, .int a1)]) hx hb dX8_writeLengths_30 rfl hl (by decide) rfl (fun ls hl => ?_)
    have hl31 : ∀ (K64 : Nat → GH → Option (Int32 × GH)) (hK64 : ∀ (x0 : Nat) (f : GH) (H : Heap) (locs : List Loc) (ls : Array Slot), g_at (g_A V) V g D cT f n s H locs → lv_has ls 3 [(0, .ref x0)] → K64 x0 f = some o → W p l e rm_X8_writeLengths s m args below meth c H locs 0 0 (MQ below (g_Wi V D cT o.1 o.2 n) args s 0 0 (g_A V)) (F0 m 64 ls [])) (N : Nat) (x0 : Nat) (x1 : Int32) (x2 : Int32) (f : GH) (H : Heap) (locs : List Loc) (ls : Array Slot), g_at (g_A V) V g D cT f n s H locs → lv_has ls 3 [(0, .ref x0), (1, .int x1), (2, .int x2)] → p_X8_writeLengths_l31 V g K64 N x0 x1 x2 f = some o → W p l e rm_X8_writeLengths s m args below meth c H locs 0 0 (MQ below (g_Wi V D cT o.1 o.2 n) args s 0 0 (g_A V)) (F0 m 31 ls []) := by
      intro K64 hK64 N
      induction N with
      | zero =>
        intro x0 x1 x2 f H locs ls hI hl hq
        rw [p_X8_writeLengths_l31] at hq
        cases hq
      | succ N ih =>
        intro x0 x1 x2 f H locs ls hI hl hq
        rw [p_X8_writeLengths_l31] at hq
        refine lv_aload_n hx hb dX8_writeLengths_31 rfl (lv_at hl 0 rfl) ?_
        refine lv_iload_n hx hb dX8_writeLengths_32 rfl (lv_at hl 1 rfl) ?_
        refine lv_iload_n hx hb dX8_writeLengths_33 rfl (lv_at hl 2 rfl) ?_
        refine lv_iconst (v := (1 : Int32)) hx hb dX8_writeLengths_34 (by decide) ?_
        refine lv_isub hx hb dX8_writeLengths_35 ?_
        obtain ⟨v7, ev7, hq⟩ := b_s hq
        refine gr_i (g_runV (As := [.int x1, .int (x2 - (1 : Int32))]) (rest := []) (ci := 10) hC (c_X8_isLastLevel l V g D cT f n x0 x1 (x2 - (1 : Int32)) v7 ev7) k_X8_isLastLevel m_2038 rfl rfl ⟨Nat.le_of_ble_eq_true rfl, Nat.le_of_ble_eq_true rfl⟩ hI rfl rfl (h_me_eq ev7).1 rfl hl.1 rfl (Nat.le_of_ble_eq_true rfl) dX8_writeLengths_36 ⟨by decide, by decide⟩) hI (fun H locs hI => ?_)
        refine lv_if_ne (tgt := 64) hx hb dX8_writeLengths_39 (by decide) (fun c8 => ?_) (fun c8 => ?_)
        · replace hq := i_f c8 hq
          exact hK64 x0 f H locs ls hI (lv_sub hl [0] rfl) hq
        · replace hq := i_t c8 hq
          refine lv_aload_n hx hb dX8_writeLengths_42 rfl (lv_at hl 0 rfl) ?_
          refine lv_bipush (v := (32 : Int32)) hx hb dX8_writeLengths_43 (by decide) ?_
          obtain ⟨v9, ev9, hq⟩ := b_s hq
          refine gw_v (g_runV (As := [.int (32 : Int32)]) (rest := []) (ci := 10) hC (c_X8_write l V g D cT f n x0 (32 : Int32) v9 ev9) k_X8_write m_2034 rfl rfl ⟨Nat.le_of_ble_eq_true rfl, Nat.le_of_ble_eq_true rfl⟩ hI rfl rfl (h_me_eq ev9).1 rfl hl.1 rfl (Nat.le_of_ble_eq_true rfl) dX8_writeLengths_45 ⟨by decide, by decide⟩) hI (fun H locs hI => ?_)
          refine lv_aload_n hx hb dX8_writeLengths_48 rfl (lv_at hl 0 rfl) ?_
          refine lv_aload_n hx hb dX8_writeLengths_49 rfl (lv_at hl 0 rfl) ?_
          refine lv_iload_n hx hb dX8_writeLengths_50 rfl (lv_at hl 1 rfl) ?_
          refine lv_iload_n hx hb dX8_writeLengths_51 rfl (lv_at hl 2 rfl) ?_
          obtain ⟨v10, ev10, hq⟩ := b_s hq
          refine gr_i (g_runV (As := [.int x1, .int x2]) (rest := [.ref x0]) (ci := 10) hC (c_X8_lengthNow l V g D cT v9 n x0 x1 x2 v10 ev10) k_X8_lengthNow m_1708 rfl rfl ⟨Nat.le_of_ble_eq_true rfl, Nat.le_of_ble_eq_true rfl⟩ hI rfl rfl (h_me_eq ev10).1 rfl hl.1 rfl (Nat.le_of_ble_eq_true rfl) dX8_writeLengths_52 ⟨by decide, by decide⟩) hI (fun H locs hI => ?_)
          obtain ⟨v11, ev11, hq⟩ := b_s hq
          refine gw_v (g_runV (As := [.int v10]) (rest := []) (ci := 10) hC (c_X8_writeNumber l V g D cT v9 n x0 v10 v11 ev11) k_X8_writeNumber m_2030 rfl rfl ⟨Nat.le_of_ble_eq_true rfl, Nat.le_of_ble_eq_true rfl⟩ hI rfl rfl (h_me_eq ev11).1 rfl hl.1 rfl (Nat.le_of_ble_eq_true rfl) dX8_writeLengths_55 ⟨by decide, by decide⟩) hI (fun H locs hI => ?_)
          refine lv_iinc (v := x2 + (1 : Int32)) (lv' := [(2, .int (x2 + (1 : Int32))), (0, .ref x0), (1, .int x1)]) hx hb dX8_writeLengths_58 hl (k := 2) rfl rfl (by decide) rfl (fun ls hl => ?_)
          refine lv_goto (tgt := 31) hx hb dX8_writeLengths_61 (by decide) ?_
          exact ih x0 x1 (x2 + (1 : Int32)) v11 H locs ls hI (lv_sub hl [1, 2, 0] rfl) hq
    refine hl31 _ ?_ FU a0 a1 (1 : Int32) v6 H locs ls hI (lv_sub hl [1, 2, 0] rfl) hq
    · intro x0 f H locs ls hI hl hq
      refine lv_aload_n hx hb dX8_writeLengths_64 rfl (lv_at hl 0 rfl) ?_
      obtain ⟨v12, ev12, hq⟩ := b_s hq
      refine fa_gi (own := RX8) (ref := "CoastlineRulerModel") (k := 11) hx hb hB inB_RX8 hown hI rfl (by decide) m_1542 (fun _ h9 => h9) ev12 dX8_writeLengths_65 ?_
      exact ge_Wi hx hb hlocks hr rfl hI (congrArg (fun z => z.1) (Option.some.inj hq)) (congrArg (fun z => z.2) (Option.some.inj hq)) dX8_writeLengths_68
  · replace hq := i_f c3 hq
    refine lv_iconst (v := (0 : Int32)) hx hb dX8_writeLengths_12 (by decide) ?_
    exact ge_Wi hx hb hlocks hr rfl hI (congrArg (fun z => z.1) (Option.some.inj hq)) (congrArg (fun z => z.2) (Option.some.inj hq)) dX8_writeLengths_13

def p_X8_outputByte (V : Nat → Nat) (g f : GH) (a0 : Nat) (a1 : Int32) : Option (Int32 × GH) :=
  h_me f a0 10 <|
  (h_gi f a0 10 11).bind fun v1 =>
  (p_X8_inRange V g f a1 (0 : Int32) (v1 - (1 : Int32))).bind fun v2 =>
  (p_X8_lacks V g f a0 v2).bind fun v3 =>
  (if v3.1 = (0 : Int32) then
    (h_gr v3.2 a0 10 10).bind fun v5 =>
    (h_li v3.2 v5 0 a1).bind fun v6 =>
    some (v6, v3.2)
  else
    some ((0 : Int32), v3.2))
abbrev rm_X8_outputByte : Room := { frames := 3, cells := 0, slots := 0, locals := 142 }
theorem k_X8_outputByte : g_CV yX8_outputByte cX8_outputByte 2 (some .int) 1 := ⟨⟨m_2045, m_14, by decide +kernel⟩, m_2043, m_2044⟩
set_option maxHeartbeats 4000000 in
set_option maxRecDepth 100000 in
theorem c_X8_outputByte (l : Launch) (V : Nat → Nat) (g : GH) (D : va_G) (cT : Nat → ClassId) (f : GH) (n : Nat) (a0 : Nat) (a1 : Int32) (o : Int32 × GH) (hq : p_X8_outputByte V g f a0 a1 = some o) : Met l yX8_outputByte (Cond.code yX8_outputByte cX8_outputByte 2 (some .int) :: g_B) rm_X8_outputByte (va_Pc [.ref a0, .int a1] (g_I V g D cT f n)) (g_Wi V D cT o.1 o.2 n) 0 0 (g_A V) := by
  refine g_begin (own := RX8) [.ref a0, .int a1] [(0, .ref a0), (1, .int a1)] (g_A V) (fun _ h => h) (by decide) rfl (Nat.le_of_ble_eq_true rfl) rfl ?_
  intro p e s m args below meth c hx hb hr hlocks hin hC hI ls hl
  obtain ⟨hx, hb, hml, hown, hB⟩ := id hC
  obtain ⟨H, hH⟩ : ∃ H, H = s.heap := ⟨_, rfl⟩
  obtain ⟨locs, hlocs⟩ : ∃ L : List Loc, L = [] := ⟨_, rfl⟩
  rw [← hH, ← hlocs] at hI ⊢
  clear hH hlocs
  unfold p_X8_outputByte at hq
  replace hq := (h_me_eq hq).2
  refine lv_aload_n hx hb dX8_outputByte_0 rfl (lv_at hl 0 rfl) ?_
  refine lv_iload_n hx hb dX8_outputByte_1 rfl (lv_at hl 1 rfl) ?_
  refine lv_iconst (v := (0 : Int32)) hx hb dX8_outputByte_2 (by decide) ?_
  refine lv_aload_n hx hb dX8_outputByte_3 rfl (lv_at hl 0 rfl) ?_
  obtain ⟨v1, ev1, hq⟩ := b_s hq
  refine fa_gi (own := RX8) (ref := "CoastlineRulerModel") (k := 11) hx hb hB inB_RX8 hown hI rfl (by decide) m_1542 (fun _ h9 => h9) ev1 dX8_outputByte_4 ?_
  refine lv_iconst (v := (1 : Int32)) hx hb dX8_outputByte_7 (by decide) ?_
  refine lv_isub hx hb dX8_outputByte_8 ?_
  obtain ⟨v2, ev2, hq⟩ := b_s hq
  refine gr_i (g_runS (As := [.int a1, .int (0 : Int32), .int (v1 - (1 : Int32))]) (rest := [.ref a0]) hC (c_X8_inRange l V g D cT f n a1 (0 : Int32) (v1 - (1 : Int32)) v2 ev2) k_X8_inRange m_1634 rfl rfl ⟨Nat.le_of_ble_eq_true rfl, Nat.le_of_ble_eq_true rfl⟩ hI rfl hl.1 rfl (Nat.le_of_ble_eq_true rfl) dX8_outputByte_9 ⟨by decide, by decide⟩) hI (fun H locs hI => ?_)
  obtain ⟨v3, ev3, hq⟩ := b_s hq
  refine gw_i (g_runV (As := [.int v2]) (rest := []) (ci := 10) hC (c_X8_lacks l V g D cT f n a0 v2 v3 ev3) k_X8_lacks m_1637 rfl rfl ⟨Nat.le_of_ble_eq_true rfl, Nat.le_of_ble_eq_true rfl⟩ hI rfl rfl (h_me_eq ev3).1 rfl hl.1 rfl (Nat.le_of_ble_eq_true rfl) dX8_outputByte_12 ⟨by decide, by decide⟩) hI (fun H locs hI => ?_)
  refine lv_if_eq (tgt := 22) hx hb dX8_outputByte_15 (by decide) (fun c4 => ?_) (fun c4 => ?_)
  · replace hq := i_t c4 hq
    refine lv_aload_n hx hb dX8_outputByte_22 rfl (lv_at hl 0 rfl) ?_
    obtain ⟨v5, ev5, hq⟩ := b_s hq
    refine fa_gr (own := RX8) (ref := "CoastlineRulerModel") (k := 10) hx hb hB inB_RX8 hown hI rfl (by decide) m_1541 (fun _ h9 => h9) ev5 dX8_outputByte_23 ?_
    refine lv_iload_n hx hb dX8_outputByte_26 rfl (lv_at hl 1 rfl) ?_
    obtain ⟨v6, ev6, hq⟩ := b_s hq
    refine fa_li hx hb hI ev6 dX8_outputByte_27 ?_
    exact ge_Wi hx hb hlocks hr rfl hI (congrArg (fun z => z.1) (Option.some.inj hq)) (congrArg (fun z => z.2) (Option.some.inj hq)) dX8_outputByte_28
  · replace hq := i_f c4 hq
    refine lv_iconst (v := (0 : Int32)) hx hb dX8_outputByte_18 (by decide) ?_
    refine lv_goto (tgt := 28) hx hb dX8_outputByte_19 (by decide) ?_
    exact ge_Wi hx hb hlocks hr rfl hI (congrArg (fun z => z.1) (Option.some.inj hq)) (congrArg (fun z => z.2) (Option.some.inj hq)) dX8_outputByte_28

def p_X8_undoableCount (V : Nat → Nat) (g f : GH) (a0 : Nat) : Option (Int32 × GH) :=
  h_me f a0 10 <|
  (h_pt f a0 10 7 (.int (0 : Int32))).bind fun f1 =>
  (h_gi f1 a0 10 6).bind fun v2 =>
  some (v2, f1)
abbrev rm_X8_undoableCount : Room := { frames := 2, cells := 0, slots := 0, locals := 120 }
theorem k_X8_undoableCount : g_CV yX8_undoableCount cX8_undoableCount 1 (some .int) 0 := ⟨⟨m_2049, m_14, by decide +kernel⟩, m_2047, m_2048⟩
set_option maxHeartbeats 4000000 in
set_option maxRecDepth 100000 in
theorem c_X8_undoableCount (l : Launch) (V : Nat → Nat) (g : GH) (D : va_G) (cT : Nat → ClassId) (f : GH) (n : Nat) (a0 : Nat) (o : Int32 × GH) (hq : p_X8_undoableCount V g f a0 = some o) : Met l yX8_undoableCount (Cond.code yX8_undoableCount cX8_undoableCount 1 (some .int) :: g_B) rm_X8_undoableCount (va_Pc [.ref a0] (g_I V g D cT f n)) (g_Wi V D cT o.1 o.2 n) 0 0 (g_A V) := by
  refine g_begin (own := RX8) [.ref a0] [(0, .ref a0)] (g_A V) (fun _ h => h) (by decide) rfl (Nat.le_of_ble_eq_true rfl) rfl ?_
  intro p e s m args below meth c hx hb hr hlocks hin hC hI ls hl
  obtain ⟨hx, hb, hml, hown, hB⟩ := id hC
  obtain ⟨H, hH⟩ : ∃ H, H = s.heap := ⟨_, rfl⟩
  obtain ⟨locs, hlocs⟩ : ∃ L : List Loc, L = [] := ⟨_, rfl⟩
  rw [← hH, ← hlocs] at hI ⊢
  clear hH hlocs
  unfold p_X8_undoableCount at hq
  replace hq := (h_me_eq hq).2
  refine lv_aload_n hx hb dX8_undoableCount_0 rfl (lv_at hl 0 rfl) ?_
  refine lv_iconst (v := (0 : Int32)) hx hb dX8_undoableCount_1 (by decide) ?_
  obtain ⟨f1, ef1, hq⟩ := b_s hq
  refine fa_pt (own := RX8) (ref := "CoastlineRulerModel") (k := 7) hx hb hB inB_RX8 tyX8_ok nmX8 hown hI rfl (by decide) m_1538 (fun _ h9 => h9) (by decide) rfl rfl ef1 dX8_undoableCount_2 (fun H locs hI => ?_)
  refine lv_aload_n hx hb dX8_undoableCount_5 rfl (lv_at hl 0 rfl) ?_
  obtain ⟨v2, ev2, hq⟩ := b_s hq
  refine fa_gi (own := RX8) (ref := "CoastlineRulerModel") (k := 6) hx hb hB inB_RX8 hown hI rfl (by decide) m_1537 (fun _ h9 => h9) ev2 dX8_undoableCount_6 ?_
  exact ge_Wi hx hb hlocks hr rfl hI (congrArg (fun z => z.1) (Option.some.inj hq)) (congrArg (fun z => z.2) (Option.some.inj hq)) dX8_undoableCount_9

def p_X8_undo_j13 (V : Nat → Nat) (g : GH) (x0 : Nat) (t0 : Int32) (t1 : Nat) (f : GH) : Option (Int32 × GH) :=
  (p_X8_lacks V g f t1 t0).bind fun v2 =>
  (if v2.1 = (0 : Int32) then
    (h_gi v2.2 x0 10 6).bind fun v4 =>
    (h_pt v2.2 x0 10 6 (.int (v4 - (1 : Int32)))).bind fun f5 =>
    (h_gr f5 x0 10 4).bind fun v6 =>
    (h_gi f5 x0 10 6).bind fun v7 =>
    (h_gr f5 x0 10 0).bind fun v8 =>
    (p_X8_copy V g f5 v6 v7 v8 (0 : Int32)).bind fun v9 =>
    (h_gi v9 x0 10 6).bind fun v10 =>
    some (v10, v9)
  else
    some ((0 : Int32), v2.2))
def p_X8_undo (V : Nat → Nat) (g f : GH) (a0 : Nat) : Option (Int32 × GH) :=
  h_me f a0 10 <|
  (h_gi f a0 10 6).bind fun v1 =>
  (if v1 ≤ (0 : Int32) then
    p_X8_undo_j13 V g a0 (0 : Int32) a0 f
  else
    p_X8_undo_j13 V g a0 (1 : Int32) a0 f)
abbrev rm_X8_undo : Room := { frames := 3, cells := 0, slots := 0, locals := 143 }
theorem k_X8_undo : g_CV yX8_undo cX8_undo 1 (some .int) 0 := ⟨⟨m_2053, m_14, by decide +kernel⟩, m_2051, m_2052⟩
set_option maxHeartbeats 4000000 in
set_option maxRecDepth 100000 in
theorem c_X8_undo (l : Launch) (V : Nat → Nat) (g : GH) (D : va_G) (cT : Nat → ClassId) (f : GH) (n : Nat) (a0 : Nat) (o : Int32 × GH) (hq : p_X8_undo V g f a0 = some o) : Met l yX8_undo (Cond.code yX8_undo cX8_undo 1 (some .int) :: g_B) rm_X8_undo (va_Pc [.ref a0] (g_I V g D cT f n)) (g_Wi V D cT o.1 o.2 n) 0 0 (g_A V) := by
  refine g_begin (own := RX8) [.ref a0] [(0, .ref a0)] (g_A V) (fun _ h => h) (by decide) rfl (Nat.le_of_ble_eq_true rfl) rfl ?_
  intro p e s m args below meth c hx hb hr hlocks hin hC hI ls hl
  obtain ⟨hx, hb, hml, hown, hB⟩ := id hC
  obtain ⟨H, hH⟩ : ∃ H, H = s.heap := ⟨_, rfl⟩
  obtain ⟨locs, hlocs⟩ : ∃ L : List Loc, L = [] := ⟨_, rfl⟩
  rw [← hH, ← hlocs] at hI ⊢
  clear hH hlocs
  unfold p_X8_undo at hq
  replace hq := (h_me_eq hq).2
  refine lv_aload_n hx hb dX8_undo_0 rfl (lv_at hl 0 rfl) ?_
  refine lv_aload_n hx hb dX8_undo_1 rfl (lv_at hl 0 rfl) ?_
  obtain ⟨v1, ev1, hq⟩ := b_s hq
  refine fa_gi (own := RX8) (ref := "CoastlineRulerModel") (k := 6) hx hb hB inB_RX8 hown hI rfl (by decide) m_1537 (fun _ h9 => h9) ev1 dX8_undo_2 ?_
  have hj13 : ∀ (x0 : Nat) (t0 : Int32) (t1 : Nat) (f : GH) (H : Heap) (locs : List Loc) (ls : Array Slot), g_at (g_A V) V g D cT f n s H locs → lv_has ls 1 [(0, .ref x0)] → p_X8_undo_j13 V g x0 t0 t1 f = some o → W p l e rm_X8_undo s m args below meth c H locs 0 0 (MQ below (g_Wi V D cT o.1 o.2 n) args s 0 0 (g_A V)) (F0 m 13 ls [.int t0, .ref t1]) := by
    intro x0 t0 t1 f H locs ls hI hl hq
    unfold p_X8_undo_j13 at hq
    obtain ⟨v2, ev2, hq⟩ := b_s hq
    refine gw_i (g_runV (As := [.int t0]) (rest := []) (ci := 10) hC (c_X8_lacks l V g D cT f n t1 t0 v2 ev2) k_X8_lacks m_1637 rfl rfl ⟨Nat.le_of_ble_eq_true rfl, Nat.le_of_ble_eq_true rfl⟩ hI rfl rfl (h_me_eq ev2).1 rfl hl.1 rfl (Nat.le_of_ble_eq_true rfl) dX8_undo_13 ⟨by decide, by decide⟩) hI (fun H locs hI => ?_)
    refine lv_if_eq (tgt := 21) hx hb dX8_undo_16 (by decide) (fun c3 => ?_) (fun c3 => ?_)
    · replace hq := i_t c3 hq
      refine lv_aload_n hx hb dX8_undo_21 rfl (lv_at hl 0 rfl) ?_
      refine lv_dup hx hb dX8_undo_22 rfl ?_
      obtain ⟨v4, ev4, hq⟩ := b_s hq
      refine fa_gi (own := RX8) (ref := "CoastlineRulerModel") (k := 6) hx hb hB inB_RX8 hown hI rfl (by decide) m_1537 (fun _ h9 => h9) ev4 dX8_undo_23 ?_
      refine lv_iconst (v := (1 : Int32)) hx hb dX8_undo_26 (by decide) ?_
      refine lv_isub hx hb dX8_undo_27 ?_
      obtain ⟨f5, ef5, hq⟩ := b_s hq
      refine fa_pt (own := RX8) (ref := "CoastlineRulerModel") (k := 6) hx hb hB inB_RX8 tyX8_ok nmX8 hown hI rfl (by decide) m_1537 (fun _ h9 => h9) (by decide) rfl rfl ef5 dX8_undo_28 (fun H locs hI => ?_)
      refine lv_aload_n hx hb dX8_undo_31 rfl (lv_at hl 0 rfl) ?_
      obtain ⟨v6, ev6, hq⟩ := b_s hq
      refine fa_gr (own := RX8) (ref := "CoastlineRulerModel") (k := 4) hx hb hB inB_RX8 hown hI rfl (by decide) m_1535 (fun _ h9 => h9) ev6 dX8_undo_32 ?_
      refine lv_aload_n hx hb dX8_undo_35 rfl (lv_at hl 0 rfl) ?_
      obtain ⟨v7, ev7, hq⟩ := b_s hq
      refine fa_gi (own := RX8) (ref := "CoastlineRulerModel") (k := 6) hx hb hB inB_RX8 hown hI rfl (by decide) m_1537 (fun _ h9 => h9) ev7 dX8_undo_36 ?_
      refine lv_aload_n hx hb dX8_undo_39 rfl (lv_at hl 0 rfl) ?_
      obtain ⟨v8, ev8, hq⟩ := b_s hq
      refine fa_gr (own := RX8) (ref := "CoastlineRulerModel") (k := 0) hx hb hB inB_RX8 hown hI rfl (by decide) m_1531 (fun _ h9 => h9) ev8 dX8_undo_40 ?_
      refine lv_iconst (v := (0 : Int32)) hx hb dX8_undo_43 (by decide) ?_
      obtain ⟨v9, ev9, hq⟩ := b_s hq
      refine gw_v (g_runS (As := [.ref v6, .int v7, .ref v8, .int (0 : Int32)]) (rest := []) hC (c_X8_copy l V g D cT f5 n v6 v7 v8 (0 : Int32) v9 ev9) k_X8_copy m_1944 rfl rfl ⟨Nat.le_of_ble_eq_true rfl, Nat.le_of_ble_eq_true rfl⟩ hI rfl hl.1 rfl (Nat.le_of_ble_eq_true rfl) dX8_undo_44 ⟨by decide, by decide⟩) hI (fun H locs hI => ?_)
      refine lv_aload_n hx hb dX8_undo_47 rfl (lv_at hl 0 rfl) ?_
      obtain ⟨v10, ev10, hq⟩ := b_s hq
      refine fa_gi (own := RX8) (ref := "CoastlineRulerModel") (k := 6) hx hb hB inB_RX8 hown hI rfl (by decide) m_1537 (fun _ h9 => h9) ev10 dX8_undo_48 ?_
      exact ge_Wi hx hb hlocks hr rfl hI (congrArg (fun z => z.1) (Option.some.inj hq)) (congrArg (fun z => z.2) (Option.some.inj hq)) dX8_undo_51
    · replace hq := i_f c3 hq
      refine lv_iconst (v := (0 : Int32)) hx hb dX8_undo_19 (by decide) ?_
      exact ge_Wi hx hb hlocks hr rfl hI (congrArg (fun z => z.1) (Option.some.inj hq)) (congrArg (fun z => z.2) (Option.some.inj hq)) dX8_undo_20
  refine lv_if_le (tgt := 12) hx hb dX8_undo_5 (by decide) (fun c11 => ?_) (fun c11 => ?_)
  · replace hq := i_t c11 hq
    refine lv_iconst (v := (0 : Int32)) hx hb dX8_undo_12 (by decide) ?_
    exact hj13 a0 (0 : Int32) a0 f H locs ls hI (lv_sub hl [0] rfl) hq
  · replace hq := i_f c11 hq
    refine lv_iconst (v := (1 : Int32)) hx hb dX8_undo_8 (by decide) ?_
    refine lv_goto (tgt := 13) hx hb dX8_undo_9 (by decide) ?_
    exact hj13 a0 (1 : Int32) a0 f H locs ls hI (lv_sub hl [0] rfl) hq

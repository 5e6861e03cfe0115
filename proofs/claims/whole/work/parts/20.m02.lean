def p_X8_coarsest_l3 (V : Nat → Nat) (g f : GH) (K23 : Int32 → Option Int32) : Nat → Nat → Int32 → Int32 → Int32 → Option Int32
  | 0, _, _, _, _ => none
  | N + 1, x0, x1, x2, x3 =>
    (if x3 < (0 : Int32) then
      K23 x3
    else
      (p_X8_lengthNow V g f x0 x1 x3).bind fun v2 =>
      (if x2 ≤ v2 then
        K23 x3
      else
        p_X8_coarsest_l3 V g f K23 N x0 x1 x2 (x3 + (-1 : Int32))))
def p_X8_coarsest (V : Nat → Nat) (g f : GH) (a0 : Nat) (a1 : Int32) (a2 : Int32) : Option Int32 :=
  h_me f a0 10 <|
  p_X8_coarsest_l3 V g f (fun x3 =>
    some x3) FU a0 a1 a2 (7 : Int32)
abbrev rm_X8_coarsest : Room := { frames := 8, cells := 0, slots := 0, locals := 259 }
theorem k_X8_coarsest : g_CV yX8_coarsest cX8_coarsest 4 (some .int) 2 := ⟨⟨m_1770, m_14, by decide +kernel⟩, m_1769, ms_41⟩
set_option maxHeartbeats 4000000 in
set_option maxRecDepth 100000 in
theorem c_X8_coarsest (l : Launch) (V : Nat → Nat) (g : GH) (D : va_G) (cT : Nat → ClassId) (f : GH) (n : Nat) (a0 : Nat) (a1 : Int32) (a2 : Int32) (o : Int32) (hq : p_X8_coarsest V g f a0 a1 a2 = some o) : Met l yX8_coarsest (Cond.code yX8_coarsest cX8_coarsest 4 (some .int) :: g_B) rm_X8_coarsest (va_Pc [.ref a0, .int a1, .int a2] (g_I V g D cT f n)) (g_Ri o n) 0 0 g_no := by
  refine g_begin (own := RX8) [.ref a0, .int a1, .int a2] [(0, .ref a0), (1, .int a1), (2, .int a2)] g_no (fun _ h => h.elim) (by decide) rfl (Nat.le_of_ble_eq_true rfl) rfl ?_
  intro p e s m args below meth c hx hb hr hlocks hin hC hI ls hl
  obtain ⟨hx, hb, hml, hown, hB⟩ := id hC
  obtain ⟨H, hH⟩ : ∃ H, H = s.heap := ⟨_, rfl⟩
  obtain ⟨locs, hlocs⟩ : ∃ L : List Loc, L = [] := ⟨_, rfl⟩
  rw [← hH, ← hlocs] at hI ⊢
  clear hH hlocs
  unfold p_X8_coarsest at hq
  replace hq := (h_me_eq hq).2
  refine lv_bipush (v := (7 : Int32)) hx hb dX8_coarsest_0 (by decide) ?_
  refine lv_istore_n (lv' := [(3, .int (7 : Int32)), (0, .ref a0), (1, .int a1), (2, .int a2)]) hx hb dX8_coarsest_2 rfl hl (by decide) rfl (fun ls hl => ?_)
  have hl3 : ∀ (K23 : Int32 → Option Int32) (hK23 : ∀ (x3 : Int32) (H : Heap) (locs : List Loc) (ls : Array Slot), g_at g_no V g D cT f n s H locs → lv_has ls 4 [(3, .int x3)] → K23 x3 = some o → W p l e rm_X8_coarsest s m args below meth c H locs 0 0 (MQ below (g_Ri o n) args s 0 0 g_no) (F0 m 23 ls [])) (N : Nat) (x0 : Nat) (x1 : Int32) (x2 : Int32) (x3 : Int32) (H : Heap) (locs : List Loc) (ls : Array Slot), g_at g_no V g D cT f n s H locs → lv_has ls 4 [(0, .ref x0), (1, .int x1), (2, .int x2), (3, .int x3)] → p_X8_coarsest_l3 V g f K23 N x0 x1 x2 x3 = some o → W p l e rm_X8_coarsest s m args below meth c H locs 0 0 (MQ below (g_Ri o n) args s 0 0 g_no) (F0 m 3 ls []) := by
    intro K23 hK23 N
    induction N with
    | zero =>
      intro x0 x1 x2 x3 H locs ls hI hl hq
      rw [p_X8_coarsest_l3] at hq
      cases hq
    | succ N ih =>
      intro x0 x1 x2 x3 H locs ls hI hl hq
      rw [p_X8_coarsest_l3] at hq
      refine lv_iload_n hx hb dX8_coarsest_3 rfl (lv_at hl 3 rfl) ?_
      refine lv_if_lt (tgt := 23) hx hb dX8_coarsest_4 (by decide) (fun c1 => ?_) (fun c1 => ?_)
      · replace hq := i_t c1 hq
        exact hK23 x3 H locs ls hI (lv_sub hl [3] rfl) hq
      · replace hq := i_f c1 hq
        refine lv_aload_n hx hb dX8_coarsest_7 rfl (lv_at hl 0 rfl) ?_
        refine lv_iload_n hx hb dX8_coarsest_8 rfl (lv_at hl 1 rfl) ?_
        refine lv_iload_n hx hb dX8_coarsest_9 rfl (lv_at hl 3 rfl) ?_
        obtain ⟨v2, ev2, hq⟩ := b_s hq
        refine gr_i (g_runV (As := [.int x1, .int x3]) (rest := []) (ci := 10) hC (c_X8_lengthNow l V g D cT f n x0 x1 x3 v2 ev2) k_X8_lengthNow m_1708 rfl rfl ⟨Nat.le_of_ble_eq_true rfl, Nat.le_of_ble_eq_true rfl⟩ hI rfl rfl (h_me_eq ev2).1 rfl hl.1 rfl (Nat.le_of_ble_eq_true rfl) dX8_coarsest_10 ⟨by decide, by decide⟩) hI (fun H locs hI => ?_)
        refine lv_iload_n hx hb dX8_coarsest_13 rfl (lv_at hl 2 rfl) ?_
        refine lv_icmp_ge (tgt := 23) hx hb dX8_coarsest_14 (by decide) (fun c3 => ?_) (fun c3 => ?_)
        · replace hq := i_t c3 hq
          exact hK23 x3 H locs ls hI (lv_sub hl [3] rfl) hq
        · replace hq := i_f c3 hq
          refine lv_iinc (v := x3 + (-1 : Int32)) (lv' := [(3, .int (x3 + (-1 : Int32))), (0, .ref x0), (1, .int x1), (2, .int x2)]) hx hb dX8_coarsest_17 hl (k := 3) rfl rfl (by decide) rfl (fun ls hl => ?_)
          refine lv_goto (tgt := 3) hx hb dX8_coarsest_20 (by decide) ?_
          exact ih x0 x1 x2 (x3 + (-1 : Int32)) H locs ls hI (lv_sub hl [1, 2, 3, 0] rfl) hq
  refine hl3 _ ?_ FU a0 a1 a2 (7 : Int32) H locs ls hI (lv_sub hl [1, 2, 3, 0] rfl) hq
  · intro x3 H locs ls hI hl hq
    refine lv_iload_n hx hb dX8_coarsest_23 rfl (lv_at hl 0 rfl) ?_
    exact ge_Ri hx hb hlocks hr rfl hI hq dX8_coarsest_24

def p_X8_coarsestLevelFor_j15 (V : Nat → Nat) (g : GH) (x0 : Nat) (x1 : Int32) (x2 : Int32) (t0 : Int32) (t1 : Int32) (t2 : Nat) (f : GH) : Option (Int32 × GH) :=
  (p_X8_lacksBoth V g f t2 t1 t0).bind fun v2 =>
  (if v2.1 = (0 : Int32) then
    (p_X8_coarsest V g v2.2 x0 x1 x2).bind fun v4 =>
    some (v4, v2.2)
  else
    some ((0 : Int32), v2.2))
def p_X8_coarsestLevelFor (V : Nat → Nat) (g f : GH) (a0 : Nat) (a1 : Int32) (a2 : Int32) : Option (Int32 × GH) :=
  h_me f a0 10 <|
  (p_X8_isCoast V g f a0 a1).bind fun v1 =>
  (if a2 < (0 : Int32) then
    p_X8_coarsestLevelFor_j15 V g a0 a1 a2 (0 : Int32) v1 a0 f
  else
    p_X8_coarsestLevelFor_j15 V g a0 a1 a2 (1 : Int32) v1 a0 f)
abbrev rm_X8_coarsestLevelFor : Room := { frames := 9, cells := 0, slots := 0, locals := 282 }
theorem k_X8_coarsestLevelFor : g_CV yX8_coarsestLevelFor cX8_coarsestLevelFor 3 (some .int) 2 := ⟨⟨m_1766, m_14, by decide +kernel⟩, m_1764, m_1765⟩
set_option maxHeartbeats 4000000 in
set_option maxRecDepth 100000 in
theorem c_X8_coarsestLevelFor (l : Launch) (V : Nat → Nat) (g : GH) (D : va_G) (cT : Nat → ClassId) (f : GH) (n : Nat) (a0 : Nat) (a1 : Int32) (a2 : Int32) (o : Int32 × GH) (hq : p_X8_coarsestLevelFor V g f a0 a1 a2 = some o) : Met l yX8_coarsestLevelFor (Cond.code yX8_coarsestLevelFor cX8_coarsestLevelFor 3 (some .int) :: g_B) rm_X8_coarsestLevelFor (va_Pc [.ref a0, .int a1, .int a2] (g_I V g D cT f n)) (g_Wi V D cT o.1 o.2 n) 0 0 (g_A V) := by
  refine g_begin (own := RX8) [.ref a0, .int a1, .int a2] [(0, .ref a0), (1, .int a1), (2, .int a2)] (g_A V) (fun _ h => h) (by decide) rfl (Nat.le_of_ble_eq_true rfl) rfl ?_
  intro p e s m args below meth c hx hb hr hlocks hin hC hI ls hl
  obtain ⟨hx, hb, hml, hown, hB⟩ := id hC
  obtain ⟨H, hH⟩ : ∃ H, H = s.heap := ⟨_, rfl⟩
  obtain ⟨locs, hlocs⟩ : ∃ L : List Loc, L = [] := ⟨_, rfl⟩
  rw [← hH, ← hlocs] at hI ⊢
  clear hH hlocs
  unfold p_X8_coarsestLevelFor at hq
  replace hq := (h_me_eq hq).2
  refine lv_aload_n hx hb dX8_coarsestLevelFor_0 rfl (lv_at hl 0 rfl) ?_
  refine lv_aload_n hx hb dX8_coarsestLevelFor_1 rfl (lv_at hl 0 rfl) ?_
  refine lv_iload_n hx hb dX8_coarsestLevelFor_2 rfl (lv_at hl 1 rfl) ?_
  obtain ⟨v1, ev1, hq⟩ := b_s hq
  refine gr_i (g_runV (As := [.int a1]) (rest := [.ref a0]) (ci := 10) hC (c_X8_isCoast l V g D cT f n a0 a1 v1 ev1) k_X8_isCoast m_1630 rfl rfl ⟨Nat.le_of_ble_eq_true rfl, Nat.le_of_ble_eq_true rfl⟩ hI rfl rfl (h_me_eq ev1).1 rfl hl.1 rfl (Nat.le_of_ble_eq_true rfl) dX8_coarsestLevelFor_3 ⟨by decide, by decide⟩) hI (fun H locs hI => ?_)
  refine lv_iload_n hx hb dX8_coarsestLevelFor_6 rfl (lv_at hl 2 rfl) ?_
  have hj15 : ∀ (x0 : Nat) (x1 : Int32) (x2 : Int32) (t0 : Int32) (t1 : Int32) (t2 : Nat) (f : GH) (H : Heap) (locs : List Loc) (ls : Array Slot), g_at (g_A V) V g D cT f n s H locs → lv_has ls 3 [(0, .ref x0), (1, .int x1), (2, .int x2)] → p_X8_coarsestLevelFor_j15 V g x0 x1 x2 t0 t1 t2 f = some o → W p l e rm_X8_coarsestLevelFor s m args below meth c H locs 0 0 (MQ below (g_Wi V D cT o.1 o.2 n) args s 0 0 (g_A V)) (F0 m 15 ls [.int t0, .int t1, .ref t2]) := by
    intro x0 x1 x2 t0 t1 t2 f H locs ls hI hl hq
    unfold p_X8_coarsestLevelFor_j15 at hq
    obtain ⟨v2, ev2, hq⟩ := b_s hq
    refine gw_i (g_runV (As := [.int t1, .int t0]) (rest := []) (ci := 10) hC (c_X8_lacksBoth l V g D cT f n t2 t1 t0 v2 ev2) k_X8_lacksBoth m_1693 rfl rfl ⟨Nat.le_of_ble_eq_true rfl, Nat.le_of_ble_eq_true rfl⟩ hI rfl rfl (h_me_eq ev2).1 rfl hl.1 rfl (Nat.le_of_ble_eq_true rfl) dX8_coarsestLevelFor_15 ⟨by decide, by decide⟩) hI (fun H locs hI => ?_)
    refine lv_if_eq (tgt := 25) hx hb dX8_coarsestLevelFor_18 (by decide) (fun c3 => ?_) (fun c3 => ?_)
    · replace hq := i_t c3 hq
      refine lv_aload_n hx hb dX8_coarsestLevelFor_25 rfl (lv_at hl 0 rfl) ?_
      refine lv_iload_n hx hb dX8_coarsestLevelFor_26 rfl (lv_at hl 1 rfl) ?_
      refine lv_iload_n hx hb dX8_coarsestLevelFor_27 rfl (lv_at hl 2 rfl) ?_
      obtain ⟨v4, ev4, hq⟩ := b_s hq
      refine gr_i (g_runV (As := [.int x1, .int x2]) (rest := []) (ci := 10) hC (c_X8_coarsest l V g D cT v2.2 n x0 x1 x2 v4 ev4) k_X8_coarsest m_1767 rfl rfl ⟨Nat.le_of_ble_eq_true rfl, Nat.le_of_ble_eq_true rfl⟩ hI rfl rfl (h_me_eq ev4).1 rfl hl.1 rfl (Nat.le_of_ble_eq_true rfl) dX8_coarsestLevelFor_28 ⟨by decide, by decide⟩) hI (fun H locs hI => ?_)
      exact ge_Wi hx hb hlocks hr rfl hI (congrArg (fun z => z.1) (Option.some.inj hq)) (congrArg (fun z => z.2) (Option.some.inj hq)) dX8_coarsestLevelFor_31
    · replace hq := i_f c3 hq
      refine lv_iconst (v := (0 : Int32)) hx hb dX8_coarsestLevelFor_21 (by decide) ?_
      refine lv_goto (tgt := 31) hx hb dX8_coarsestLevelFor_22 (by decide) ?_
      exact ge_Wi hx hb hlocks hr rfl hI (congrArg (fun z => z.1) (Option.some.inj hq)) (congrArg (fun z => z.2) (Option.some.inj hq)) dX8_coarsestLevelFor_31
  refine lv_if_lt (tgt := 14) hx hb dX8_coarsestLevelFor_7 (by decide) (fun c5 => ?_) (fun c5 => ?_)
  · replace hq := i_t c5 hq
    refine lv_iconst (v := (0 : Int32)) hx hb dX8_coarsestLevelFor_14 (by decide) ?_
    exact hj15 a0 a1 a2 (0 : Int32) v1 a0 f H locs ls hI (lv_sub hl [0, 1, 2] rfl) hq
  · replace hq := i_f c5 hq
    refine lv_iconst (v := (1 : Int32)) hx hb dX8_coarsestLevelFor_10 (by decide) ?_
    refine lv_goto (tgt := 15) hx hb dX8_coarsestLevelFor_11 (by decide) ?_
    exact hj15 a0 a1 a2 (1 : Int32) v1 a0 f H locs ls hI (lv_sub hl [0, 1, 2] rfl) hq

def p_X8_coarsestExactLevel (V : Nat → Nat) (g f : GH) (a0 : Nat) (a1 : Int32) : Option (Int32 × GH) :=
  h_me f a0 10 <|
  (p_X8_isCoast V g f a0 a1).bind fun v1 =>
  (p_X8_lacks V g f a0 v1).bind fun v2 =>
  (if v2.1 = (0 : Int32) then
    (p_X8_lengthNow V g v2.2 a0 a1 (0 : Int32)).bind fun v4 =>
    (p_X8_coarsest V g v2.2 a0 a1 v4).bind fun v5 =>
    some (v5, v2.2)
  else
    some ((0 : Int32), v2.2))
abbrev rm_X8_coarsestExactLevel : Room := { frames := 9, cells := 0, slots := 0, locals := 282 }
theorem k_X8_coarsestExactLevel : g_CV yX8_coarsestExactLevel cX8_coarsestExactLevel 2 (some .int) 1 := ⟨⟨m_1774, m_14, by decide +kernel⟩, m_1772, m_1773⟩
set_option maxHeartbeats 4000000 in
set_option maxRecDepth 100000 in
theorem c_X8_coarsestExactLevel (l : Launch) (V : Nat → Nat) (g : GH) (D : va_G) (cT : Nat → ClassId) (f : GH) (n : Nat) (a0 : Nat) (a1 : Int32) (o : Int32 × GH) (hq : p_X8_coarsestExactLevel V g f a0 a1 = some o) : Met l yX8_coarsestExactLevel (Cond.code yX8_coarsestExactLevel cX8_coarsestExactLevel 2 (some .int) :: g_B) rm_X8_coarsestExactLevel (va_Pc [.ref a0, .int a1] (g_I V g D cT f n)) (g_Wi V D cT o.1 o.2 n) 0 0 (g_A V) := by
  refine g_begin (own := RX8) [.ref a0, .int a1] [(0, .ref a0), (1, .int a1)] (g_A V) (fun _ h => h) (by decide) rfl (Nat.le_of_ble_eq_true rfl) rfl ?_
  intro p e s m args below meth c hx hb hr hlocks hin hC hI ls hl
  obtain ⟨hx, hb, hml, hown, hB⟩ := id hC
  obtain ⟨H, hH⟩ : ∃ H, H = s.heap := ⟨_, rfl⟩
  obtain ⟨locs, hlocs⟩ : ∃ L : List Loc, L = [] := ⟨_, rfl⟩
  rw [← hH, ← hlocs] at hI ⊢
  clear hH hlocs
  unfold p_X8_coarsestExactLevel at hq
  replace hq := (h_me_eq hq).2
  refine lv_aload_n hx hb dX8_coarsestExactLevel_0 rfl (lv_at hl 0 rfl) ?_
  refine lv_aload_n hx hb dX8_coarsestExactLevel_1 rfl (lv_at hl 0 rfl) ?_
  refine lv_iload_n hx hb dX8_coarsestExactLevel_2 rfl (lv_at hl 1 rfl) ?_
  obtain ⟨v1, ev1, hq⟩ := b_s hq
  refine gr_i (g_runV (As := [.int a1]) (rest := [.ref a0]) (ci := 10) hC (c_X8_isCoast l V g D cT f n a0 a1 v1 ev1) k_X8_isCoast m_1630 rfl rfl ⟨Nat.le_of_ble_eq_true rfl, Nat.le_of_ble_eq_true rfl⟩ hI rfl rfl (h_me_eq ev1).1 rfl hl.1 rfl (Nat.le_of_ble_eq_true rfl) dX8_coarsestExactLevel_3 ⟨by decide, by decide⟩) hI (fun H locs hI => ?_)
  obtain ⟨v2, ev2, hq⟩ := b_s hq
  refine gw_i (g_runV (As := [.int v1]) (rest := []) (ci := 10) hC (c_X8_lacks l V g D cT f n a0 v1 v2 ev2) k_X8_lacks m_1637 rfl rfl ⟨Nat.le_of_ble_eq_true rfl, Nat.le_of_ble_eq_true rfl⟩ hI rfl rfl (h_me_eq ev2).1 rfl hl.1 rfl (Nat.le_of_ble_eq_true rfl) dX8_coarsestExactLevel_6 ⟨by decide, by decide⟩) hI (fun H locs hI => ?_)
  refine lv_if_eq (tgt := 16) hx hb dX8_coarsestExactLevel_9 (by decide) (fun c3 => ?_) (fun c3 => ?_)
  · replace hq := i_t c3 hq
    refine lv_aload_n hx hb dX8_coarsestExactLevel_16 rfl (lv_at hl 0 rfl) ?_
    refine lv_iload_n hx hb dX8_coarsestExactLevel_17 rfl (lv_at hl 1 rfl) ?_
    refine lv_aload_n hx hb dX8_coarsestExactLevel_18 rfl (lv_at hl 0 rfl) ?_
    refine lv_iload_n hx hb dX8_coarsestExactLevel_19 rfl (lv_at hl 1 rfl) ?_
    refine lv_iconst (v := (0 : Int32)) hx hb dX8_coarsestExactLevel_20 (by decide) ?_
    obtain ⟨v4, ev4, hq⟩ := b_s hq
    refine gr_i (g_runV (As := [.int a1, .int (0 : Int32)]) (rest := [.int a1, .ref a0]) (ci := 10) hC (c_X8_lengthNow l V g D cT v2.2 n a0 a1 (0 : Int32) v4 ev4) k_X8_lengthNow m_1708 rfl rfl ⟨Nat.le_of_ble_eq_true rfl, Nat.le_of_ble_eq_true rfl⟩ hI rfl rfl (h_me_eq ev4).1 rfl hl.1 rfl (Nat.le_of_ble_eq_true rfl) dX8_coarsestExactLevel_21 ⟨by decide, by decide⟩) hI (fun H locs hI => ?_)
    obtain ⟨v5, ev5, hq⟩ := b_s hq
    refine gr_i (g_runV (As := [.int a1, .int v4]) (rest := []) (ci := 10) hC (c_X8_coarsest l V g D cT v2.2 n a0 a1 v4 v5 ev5) k_X8_coarsest m_1767 rfl rfl ⟨Nat.le_of_ble_eq_true rfl, Nat.le_of_ble_eq_true rfl⟩ hI rfl rfl (h_me_eq ev5).1 rfl hl.1 rfl (Nat.le_of_ble_eq_true rfl) dX8_coarsestExactLevel_24 ⟨by decide, by decide⟩) hI (fun H locs hI => ?_)
    exact ge_Wi hx hb hlocks hr rfl hI (congrArg (fun z => z.1) (Option.some.inj hq)) (congrArg (fun z => z.2) (Option.some.inj hq)) dX8_coarsestExactLevel_27
  · replace hq := i_f c3 hq
    refine lv_iconst (v := (0 : Int32)) hx hb dX8_coarsestExactLevel_12 (by decide) ?_
    refine lv_goto (tgt := 27) hx hb dX8_coarsestExactLevel_13 (by decide) ?_
    exact ge_Wi hx hb hlocks hr rfl hI (congrArg (fun z => z.1) (Option.some.inj hq)) (congrArg (fun z => z.2) (Option.some.inj hq)) dX8_coarsestExactLevel_27

def p_X8_totalLength_l17 (V : Nat → Nat) (g : GH) (K42 : Int32 → GH → Option (Int32 × GH)) : Nat → Nat → Int32 → Int32 → Int32 → GH → Option (Int32 × GH)
  | 0, _, _, _, _, _ => none
  | N + 1, x0, x1, x2, x3, f =>
    (h_gr f x0 10 5).bind fun v4 =>
    (h_li f v4 0 (1 : Int32)).bind fun v5 =>
    (if v5 ≤ x3 then
      K42 x2 f
    else
      (p_X8_lengthNow V g f x0 x3 x1).bind fun v7 =>
      p_X8_totalLength_l17 V g K42 N x0 x1 (x2 + v7) (x3 + (1 : Int32)) f)
def p_X8_totalLength (V : Nat → Nat) (g f : GH) (a0 : Nat) (a1 : Int32) : Option (Int32 × GH) :=
  h_me f a0 10 <|
  (p_X8_isLevel V g f a1).bind fun v1 =>
  (p_X8_lacks V g f a0 v1).bind fun v2 =>
  (if v2.1 = (0 : Int32) then
    p_X8_totalLength_l17 V g (fun x2 f =>
      some (x2, f)) FU a0 a1 (0 : Int32) (0 : Int32) v2.2
  else
    some ((0 : Int32), v2.2))
abbrev rm_X8_totalLength : Room := { frames := 8, cells := 0, slots := 0, locals := 259 }
theorem k_X8_totalLength : g_CV yX8_totalLength cX8_totalLength 4 (some .int) 1 := ⟨⟨m_1778, m_14, by decide +kernel⟩, m_1776, m_1777⟩
set_option maxHeartbeats 4000000 in
set_option maxRecDepth 100000 in
theorem c_X8_totalLength (l : Launch) (V : Nat → Nat) (g : GH) (D : va_G) (cT : Nat → ClassId) (f : GH) (n : Nat) (a0 : Nat) (a1 : Int32) (o : Int32 × GH) (hq : p_X8_totalLength V g f a0 a1 = some o) : Met l yX8_totalLength (Cond.code yX8_totalLength cX8_totalLength 4 (some .int) :: g_B) rm_X8_totalLength (va_Pc [.ref a0, .int a1] (g_I V g D cT f n)) (g_Wi V D cT o.1 o.2 n) 0 0 (g_A V) := by
  refine g_begin (own := RX8) [.ref a0, .int a1] [(0, .ref a0), (1, .int a1)] (g_A V) (fun _ h => h) (by decide) rfl (Nat.le_of_ble_eq_true rfl) rfl ?_
  intro p e s m args below meth c hx hb hr hlocks hin hC hI ls hl
  obtain ⟨hx, hb, hml, hown, hB⟩ := id hC
  obtain ⟨H, hH⟩ : ∃ H, H = s.heap := ⟨_, rfl⟩
  obtain ⟨locs, hlocs⟩ : ∃ L : List Loc, L = [] := ⟨_, rfl⟩
  rw [← hH, ← hlocs] at hI ⊢
  clear hH hlocs
  unfold p_X8_totalLength at hq
  replace hq := (h_me_eq hq).2
  refine lv_aload_n hx hb dX8_totalLength_0 rfl (lv_at hl 0 rfl) ?_
  refine lv_iload_n hx hb dX8_totalLength_1 rfl (lv_at hl 1 rfl) ?_
  obtain ⟨v1, ev1, hq⟩ := b_s hq
  refine gr_i (g_runS (As := [.int a1]) (rest := [.ref a0]) hC (c_X8_isLevel l V g D cT f n a1 v1 ev1) k_X8_isLevel m_1705 rfl rfl ⟨Nat.le_of_ble_eq_true rfl, Nat.le_of_ble_eq_true rfl⟩ hI rfl hl.1 rfl (Nat.le_of_ble_eq_true rfl) dX8_totalLength_2 ⟨by decide, by decide⟩) hI (fun H locs hI => ?_)
  obtain ⟨v2, ev2, hq⟩ := b_s hq
  refine gw_i (g_runV (As := [.int v1]) (rest := []) (ci := 10) hC (c_X8_lacks l V g D cT f n a0 v1 v2 ev2) k_X8_lacks m_1637 rfl rfl ⟨Nat.le_of_ble_eq_true rfl, Nat.le_of_ble_eq_true rfl⟩ hI rfl rfl (h_me_eq ev2).1 rfl hl.1 rfl (Nat.le_of_ble_eq_true rfl) dX8_totalLength_5 ⟨by decide, by decide⟩) hI (fun H locs hI => ?_)
  refine lv_if_eq (tgt := 13) hx hb dX8_totalLength_8 (by decide) (fun c3 => ?_) (fun c3 => ?_)
  · replace hq := i_t c3 hq
    refine lv_iconst (v := (0 : Int32)) hx hb dX8_totalLength_13 (by decide) ?_
    refine lv_istore_n (lv' := [(2, .int (0 : Int32)), (0, .ref a0), (1, .int a1)]) hx hb dX8_totalLength_14 rfl hl (by decide) rfl (fun ls hl => ?_)
    refine lv_iconst (v := (0 : Int32)) hx hb dX8_totalLength_15 (by decide) ?_
    refine lv_istore_n (lv' := [(3, .int (0 : Int32)), (2, .int (0 : Int32)), (0, .ref a0), (1, .int a1)]) hx hb dX8_totalLength_16 rfl hl (by decide) rfl (fun ls hl => ?_)
    have hl17 : ∀ (K42 : Int32 → GH → Option (Int32 × GH)) (hK42 : ∀ (x2 : Int32) (f : GH) (H : Heap) (locs : List Loc) (ls : Array Slot), g_at (g_A V) V g D cT f n s H locs → lv_has ls 4 [(2, .int x2)] → K42 x2 f = some o → W p l e rm_X8_totalLength s m args below meth c H locs 0 0 (MQ below (g_Wi V D cT o.1 o.2 n) args s 0 0 (g_A V)) (F0 m 42 ls [])) (N : Nat) (x0 : Nat) (x1 : Int32) (x2 : Int32) (x3 : Int32) (f : GH) (H : Heap) (locs : List Loc) (ls : Array Slot), g_at (g_A V) V g D cT f n s H locs → lv_has ls 4 [(0, .ref x0), (1, .int x1), (2, .int x2), (3, .int x3)] → p_X8_totalLength_l17 V g K42 N x0 x1 x2 x3 f = some o → W p l e rm_X8_totalLength s m args below meth c H locs 0 0 (MQ below (g_Wi V D cT o.1 o.2 n) args s 0 0 (g_A V)) (F0 m 17 ls []) := by
      intro K42 hK42 N
      induction N with
      | zero =>
        intro x0 x1 x2 x3 f H locs ls hI hl hq
        rw [p_X8_totalLength_l17] at hq
        cases hq
      | succ N ih =>
        intro x0 x1 x2 x3 f H locs ls hI hl hq
        rw [p_X8_totalLength_l17] at hq
        refine lv_iload_n hx hb dX8_totalLength_17 rfl (lv_at hl 3 rfl) ?_
        refine lv_aload_n hx hb dX8_totalLength_18 rfl (lv_at hl 0 rfl) ?_
        obtain ⟨v4, ev4, hq⟩ := b_s hq
        refine fa_gr (own := RX8) (ref := "CoastlineRulerModel") (k := 5) hx hb hB inB_RX8 hown hI rfl (by decide) m_1536 (fun _ h9 => h9) ev4 dX8_totalLength_19 ?_
        refine lv_iconst (v := (1 : Int32)) hx hb dX8_totalLength_22 (by decide) ?_
        obtain ⟨v5, ev5, hq⟩ := b_s hq
        refine fa_li hx hb hI ev5 dX8_totalLength_23 ?_
        refine lv_icmp_ge (tgt := 42) hx hb dX8_totalLength_24 (by decide) (fun c6 => ?_) (fun c6 => ?_)
        · replace hq := i_t c6 hq
          exact hK42 x2 f H locs ls hI (lv_sub hl [2] rfl) hq
        · replace hq := i_f c6 hq
          refine lv_iload_n hx hb dX8_totalLength_27 rfl (lv_at hl 2 rfl) ?_
          refine lv_aload_n hx hb dX8_totalLength_28 rfl (lv_at hl 0 rfl) ?_
          refine lv_iload_n hx hb dX8_totalLength_29 rfl (lv_at hl 3 rfl) ?_
          refine lv_iload_n hx hb dX8_totalLength_30 rfl (lv_at hl 1 rfl) ?_
          obtain ⟨v7, ev7, hq⟩ := b_s hq
          refine gr_i (g_runV (As := [.int x3, .int x1]) (rest := [.int x2]) (ci := 10) hC (c_X8_lengthNow l V g D cT f n x0 x3 x1 v7 ev7) k_X8_lengthNow m_1708 rfl rfl ⟨Nat.le_of_ble_eq_true rfl, Nat.le_of_ble_eq_true rfl⟩ hI rfl rfl (h_me_eq ev7).1 rfl hl.1 rfl (Nat.le_of_ble_eq_true rfl) dX8_totalLength_31 ⟨by decide, by decide⟩) hI (fun H locs hI => ?_)
          refine lv_iadd hx hb dX8_totalLength_34 ?_
          refine lv_istore_n (lv' := [(2, .int (x2 + v7)), (0, .ref x0), (1, .int x1), (3, .int x3)]) hx hb dX8_totalLength_35 rfl hl (by decide) rfl (fun ls hl => ?_)
          refine lv_iinc (v := x3 + (1 : Int32)) (lv' := [(3, .int (x3 + (1 : Int32))), (2, .int (x2 + v7)), (0, .ref x0), (1, .int x1)]) hx hb dX8_totalLength_36 hl (k := 3) rfl rfl (by decide) rfl (fun ls hl => ?_)
          refine lv_goto (tgt := 17) hx hb dX8_totalLength_39 (by decide) ?_
          exact ih x0 x1 (x2 + v7) (x3 + (1 : Int32)) f H locs ls hI (lv_sub hl [2, 3, 1, 0] rfl) hq
    refine hl17 _ ?_ FU a0 a1 (0 : Int32) (0 : Int32) v2.2 H locs ls hI (lv_sub hl [2, 3, 1, 0] rfl) hq
    · intro x2 f H locs ls hI hl hq
      refine lv_iload_n hx hb dX8_totalLength_42 rfl (lv_at hl 0 rfl) ?_
      exact ge_Wi hx hb hlocks hr rfl hI (congrArg (fun z => z.1) (Option.some.inj hq)) (congrArg (fun z => z.2) (Option.some.inj hq)) dX8_totalLength_43
  · replace hq := i_f c3 hq
    refine lv_iconst (v := (0 : Int32)) hx hb dX8_totalLength_11 (by decide) ?_
    exact ge_Wi hx hb hlocks hr rfl hI (congrArg (fun z => z.1) (Option.some.inj hq)) (congrArg (fun z => z.2) (Option.some.inj hq)) dX8_totalLength_12

def p_X8_longestCoast_l17 (V : Nat → Nat) (g : GH) (K59 : Int32 → GH → Option (Int32 × GH)) : Nat → Nat → Int32 → Int32 → Int32 → GH → Option (Int32 × GH)
  | 0, _, _, _, _, _ => none
  | N + 1, x0, x1, x2, x3, f =>
    (h_gr f x0 10 5).bind fun v4 =>
    (h_li f v4 0 (1 : Int32)).bind fun v5 =>
    (if v5 ≤ x3 then
      K59 x2 f
    else
      (if x2 = (-1 : Int32) then
        p_X8_longestCoast_l17 V g K59 N x0 x1 x3 (x3 + (1 : Int32)) f
      else
        (p_X8_lengthNow V g f x0 x3 x1).bind fun v8 =>
        (p_X8_lengthNow V g f x0 x2 x1).bind fun v9 =>
        (if v8 ≤ v9 then
          p_X8_longestCoast_l17 V g K59 N x0 x1 x2 (x3 + (1 : Int32)) f
        else
          p_X8_longestCoast_l17 V g K59 N x0 x1 x3 (x3 + (1 : Int32)) f)))
def p_X8_longestCoast (V : Nat → Nat) (g f : GH) (a0 : Nat) (a1 : Int32) : Option (Int32 × GH) :=
  h_me f a0 10 <|
  (p_X8_isLevel V g f a1).bind fun v1 =>
  (p_X8_lacks V g f a0 v1).bind fun v2 =>
  (if v2.1 = (0 : Int32) then
    p_X8_longestCoast_l17 V g (fun x2 f =>
      some (x2, f)) FU a0 a1 (-1 : Int32) (0 : Int32) v2.2
  else
    some ((0 : Int32), v2.2))
abbrev rm_X8_longestCoast : Room := { frames := 8, cells := 0, slots := 0, locals := 259 }
theorem k_X8_longestCoast : g_CV yX8_longestCoast cX8_longestCoast 4 (some .int) 1 := ⟨⟨m_1782, m_14, by decide +kernel⟩, m_1780, m_1781⟩
set_option maxHeartbeats 4000000 in
set_option maxRecDepth 100000 in
theorem c_X8_longestCoast (l : Launch) (V : Nat → Nat) (g : GH) (D : va_G) (cT : Nat → ClassId) (f : GH) (n : Nat) (a0 : Nat) (a1 : Int32) (o : Int32 × GH) (hq : p_X8_longestCoast V g f a0 a1 = some o) : Met l yX8_longestCoast (Cond.code yX8_longestCoast cX8_longestCoast 4 (some .int) :: g_B) rm_X8_longestCoast (va_Pc [.ref a0, .int a1] (g_I V g D cT f n)) (g_Wi V D cT o.1 o.2 n) 0 0 (g_A V) := by
  refine g_begin (own := RX8) [.ref a0, .int a1] [(0, .ref a0), (1, .int a1)] (g_A V) (fun _ h => h) (by decide) rfl (Nat.le_of_ble_eq_true rfl) rfl ?_
  intro p e s m args below meth c hx hb hr hlocks hin hC hI ls hl
  obtain ⟨hx, hb, hml, hown, hB⟩ := id hC
  obtain ⟨H, hH⟩ : ∃ H, H = s.heap := ⟨_, rfl⟩
  obtain ⟨locs, hlocs⟩ : ∃ L : List Loc, L = [] := ⟨_, rfl⟩
  rw [← hH, ← hlocs] at hI ⊢
  clear hH hlocs
  unfold p_X8_longestCoast at hq
  replace hq := (h_me_eq hq).2
  refine lv_aload_n hx hb dX8_longestCoast_0 rfl (lv_at hl 0 rfl) ?_
  refine lv_iload_n hx hb dX8_longestCoast_1 rfl (lv_at hl 1 rfl) ?_
  obtain ⟨v1, ev1, hq⟩ := b_s hq
  refine gr_i (g_runS (As := [.int a1]) (rest := [.ref a0]) hC (c_X8_isLevel l V g D cT f n a1 v1 ev1) k_X8_isLevel m_1705 rfl rfl ⟨Nat.le_of_ble_eq_true rfl, Nat.le_of_ble_eq_true rfl⟩ hI rfl hl.1 rfl (Nat.le_of_ble_eq_true rfl) dX8_longestCoast_2 ⟨by decide, by decide⟩) hI (fun H locs hI => ?_)
  obtain ⟨v2, ev2, hq⟩ := b_s hq
  refine gw_i (g_runV (As := [.int v1]) (rest := []) (ci := 10) hC (c_X8_lacks l V g D cT f n a0 v1 v2 ev2) k_X8_lacks m_1637 rfl rfl ⟨Nat.le_of_ble_eq_true rfl, Nat.le_of_ble_eq_true rfl⟩ hI rfl rfl (h_me_eq ev2).1 rfl hl.1 rfl (Nat.le_of_ble_eq_true rfl) dX8_longestCoast_5 ⟨by decide, by decide⟩) hI (fun H locs hI => ?_)
  refine lv_if_eq (tgt := 13) hx hb dX8_longestCoast_8 (by decide) (fun c3 => ?_) (fun c3 => ?_)
  · replace hq := i_t c3 hq
    refine lv_iconst (v := (-1 : Int32)) hx hb dX8_longestCoast_13 (by decide) ?_
    refine lv_istore_n (lv' := [(2, .int (-1 : Int32)), (0, .ref a0), (1, .int a1)]) hx hb dX8_longestCoast_14 rfl hl (by decide) rfl (fun ls hl => ?_)
    refine lv_iconst (v := (0 : Int32)) hx hb dX8_longestCoast_15 (by decide) ?_
    refine lv_istore_n (lv' := [(3, .int (0 : Int32)), (2, .int (-1 : Int32)), (0, .ref a0), (1, .int a1)]) hx hb dX8_longestCoast_16 rfl hl (by decide) rfl (fun ls hl => ?_)
    have hl17 : ∀ (K59 : Int32 → GH → Option (Int32 × GH)) (hK59 : ∀ (x2 : Int32) (f : GH) (H : Heap) (locs : List Loc) (ls : Array Slot), g_at (g_A V) V g D cT f n s H locs → lv_has ls 4 [(2, .int x2)] → K59 x2 f = some o → W p l e rm_X8_longestCoast s m args below meth c H locs 0 0 (MQ below (g_Wi V D cT o.1 o.2 n) args s 0 0 (g_A V)) (F0 m 59 ls [])) (N : Nat) (x0 : Nat) (x1 : Int32) (x2 : Int32) (x3 : Int32) (f : GH) (H : Heap) (locs : List Loc) (ls : Array Slot), g_at (g_A V) V g D cT f n s H locs → lv_has ls 4 [(0, .ref x0), (1, .int x1), (2, .int x2), (3, .int x3)] → p_X8_longestCoast_l17 V g K59 N x0 x1 x2 x3 f = some o → W p l e rm_X8_longestCoast s m args below meth c H locs 0 0 (MQ below (g_Wi V D cT o.1 o.2 n) args s 0 0 (g_A V)) (F0 m 17 ls []) := by
      intro K59 hK59 N
      induction N with
      | zero =>
        intro x0 x1 x2 x3 f H locs ls hI hl hq
        rw [p_X8_longestCoast_l17] at hq
        cases hq
      | succ N ih =>
        intro x0 x1 x2 x3 f H locs ls hI hl hq
        rw [p_X8_longestCoast_l17] at hq
        refine lv_iload_n hx hb dX8_longestCoast_17 rfl (lv_at hl 3 rfl) ?_
        refine lv_aload_n hx hb dX8_longestCoast_18 rfl (lv_at hl 0 rfl) ?_
        obtain ⟨v4, ev4, hq⟩ := b_s hq
        refine fa_gr (own := RX8) (ref := "CoastlineRulerModel") (k := 5) hx hb hB inB_RX8 hown hI rfl (by decide) m_1536 (fun _ h9 => h9) ev4 dX8_longestCoast_19 ?_
        refine lv_iconst (v := (1 : Int32)) hx hb dX8_longestCoast_22 (by decide) ?_
        obtain ⟨v5, ev5, hq⟩ := b_s hq
        refine fa_li hx hb hI ev5 dX8_longestCoast_23 ?_
        refine lv_icmp_ge (tgt := 59) hx hb dX8_longestCoast_24 (by decide) (fun c6 => ?_) (fun c6 => ?_)
        · replace hq := i_t c6 hq
          exact hK59 x2 f H locs ls hI (lv_sub hl [2] rfl) hq
        · replace hq := i_f c6 hq
          refine lv_iload_n hx hb dX8_longestCoast_27 rfl (lv_at hl 2 rfl) ?_
          refine lv_iconst (v := (-1 : Int32)) hx hb dX8_longestCoast_28 (by decide) ?_
          refine lv_icmp_eq (tgt := 47) hx hb dX8_longestCoast_29 (by decide) (fun c7 => ?_) (fun c7 => ?_)
          · replace hq := i_t c7 hq
            refine lv_iload_n hx hb dX8_longestCoast_47 rfl (lv_at hl 3 rfl) ?_
            refine lv_goto (tgt := 52) hx hb dX8_longestCoast_48 (by decide) ?_
            refine lv_istore_n (lv' := [(2, .int x3), (0, .ref x0), (1, .int x1), (3, .int x3)]) hx hb dX8_longestCoast_52 rfl hl (by decide) rfl (fun ls hl => ?_)
            refine lv_iinc (v := x3 + (1 : Int32)) (lv' := [(3, .int (x3 + (1 : Int32))), (2, .int x3), (0, .ref x0), (1, .int x1)]) hx hb dX8_longestCoast_53 hl (k := 3) rfl rfl (by decide) rfl (fun ls hl => ?_)
            refine lv_goto (tgt := 17) hx hb dX8_longestCoast_56 (by decide) ?_
            exact ih x0 x1 x3 (x3 + (1 : Int32)) f H locs ls hI (lv_sub hl [2, 3, 1, 0] rfl) hq
          · replace hq := i_f c7 hq
            refine lv_aload_n hx hb dX8_longestCoast_32 rfl (lv_at hl 0 rfl) ?_
            refine lv_iload_n hx hb dX8_longestCoast_33 rfl (lv_at hl 3 rfl) ?_
            refine lv_iload_n hx hb dX8_longestCoast_34 rfl (lv_at hl 1 rfl) ?_
            obtain ⟨v8, ev8, hq⟩ := b_s hq
            refine gr_i (g_runV (As := [.int x3, .int x1]) (rest := []) (ci := 10) hC (c_X8_lengthNow l V g D cT f n x0 x3 x1 v8 ev8) k_X8_lengthNow m_1708 rfl rfl ⟨Nat.le_of_ble_eq_true rfl, Nat.le_of_ble_eq_true rfl⟩ hI rfl rfl (h_me_eq ev8).1 rfl hl.1 rfl (Nat.le_of_ble_eq_true rfl) dX8_longestCoast_35 ⟨by decide, by decide⟩) hI (fun H locs hI => ?_)
            refine lv_aload_n hx hb dX8_longestCoast_38 rfl (lv_at hl 0 rfl) ?_
            refine lv_iload_n hx hb dX8_longestCoast_39 rfl (lv_at hl 2 rfl) ?_
            refine lv_iload_n hx hb dX8_longestCoast_40 rfl (lv_at hl 1 rfl) ?_
            obtain ⟨v9, ev9, hq⟩ := b_s hq
            refine gr_i (g_runV (As := [.int x2, .int x1]) (rest := [.int v8]) (ci := 10) hC (c_X8_lengthNow l V g D cT f n x0 x2 x1 v9 ev9) k_X8_lengthNow m_1708 rfl rfl ⟨Nat.le_of_ble_eq_true rfl, Nat.le_of_ble_eq_true rfl⟩ hI rfl rfl (h_me_eq ev9).1 rfl hl.1 rfl (Nat.le_of_ble_eq_true rfl) dX8_longestCoast_41 ⟨by decide, by decide⟩) hI (fun H locs hI => ?_)
            refine lv_icmp_le (tgt := 51) hx hb dX8_longestCoast_44 (by decide) (fun c10 => ?_) (fun c10 => ?_)
            · replace hq := i_t c10 hq
              refine lv_iload_n hx hb dX8_longestCoast_51 rfl (lv_at hl 2 rfl) ?_
              refine lv_istore_n (lv' := [(2, .int x2), (0, .ref x0), (1, .int x1), (3, .int x3)]) hx hb dX8_longestCoast_52 rfl hl (by decide) rfl (fun ls hl => ?_)
              refine lv_iinc (v := x3 + (1 : Int32)) (lv' := [(3, .int (x3 + (1 : Int32))), (2, .int x2), (0, .ref x0), (1, .int x1)]) hx hb dX8_longestCoast_53 hl (k := 3) rfl rfl (by decide) rfl (fun ls hl => ?_)
              refine lv_goto (tgt := 17) hx hb dX8_longestCoast_56 (by decide) ?_
              exact ih x0 x1 x2 (x3 + (1 : Int32)) f H locs ls hI (lv_sub hl [2, 3, 1, 0] rfl) hq
            · replace hq := i_f c10 hq
              refine lv_iload_n hx hb dX8_longestCoast_47 rfl (lv_at hl 3 rfl) ?_
              refine lv_goto (tgt := 52) hx hb dX8_longestCoast_48 (by decide) ?_
              refine lv_istore_n (lv' := [(2, .int x3), (0, .ref x0), (1, .int x1), (3, .int x3)]) hx hb dX8_longestCoast_52 rfl hl (by decide) rfl (fun ls hl => ?_)
              refine lv_iinc (v := x3 + (1 : Int32)) (lv' := [(3, .int (x3 + (1 : Int32))), (2, .int x3), (0, .ref x0), (1, .int x1)]) hx hb dX8_longestCoast_53 hl (k := 3) rfl rfl (by decide) rfl (fun ls hl => ?_)
              refine lv_goto (tgt := 17) hx hb dX8_longestCoast_56 (by decide) ?_
              exact ih x0 x1 x3 (x3 + (1 : Int32)) f H locs ls hI (lv_sub hl [2, 3, 1, 0] rfl) hq
    refine hl17 _ ?_ FU a0 a1 (-1 : Int32) (0 : Int32) v2.2 H locs ls hI (lv_sub hl [2, 3, 1, 0] rfl) hq
    · intro x2 f H locs ls hI hl hq
      refine lv_iload_n hx hb dX8_longestCoast_59 rfl (lv_at hl 0 rfl) ?_
      exact ge_Wi hx hb hlocks hr rfl hI (congrArg (fun z => z.1) (Option.some.inj hq)) (congrArg (fun z => z.2) (Option.some.inj hq)) dX8_longestCoast_60
  · replace hq := i_f c3 hq
    refine lv_iconst (v := (0 : Int32)) hx hb dX8_longestCoast_11 (by decide) ?_
    exact ge_Wi hx hb hlocks hr rfl hI (congrArg (fun z => z.1) (Option.some.inj hq)) (congrArg (fun z => z.2) (Option.some.inj hq)) dX8_longestCoast_12

def p_X8_refinementRatio (V : Nat → Nat) (g f : GH) (a0 : Nat) (a1 : Int32) (a2 : Int32) : Option (UInt64 × GH) :=
  h_me f a0 10 <|
  (p_X8_isCoast V g f a0 a1).bind fun v1 =>
  (p_X8_isFine V g f a2).bind fun v2 =>
  (p_X8_lacksBoth V g f a0 v1 v2).bind fun v3 =>
  (if v3.1 = (0 : Int32) then
    (p_X8_lengthNow V g v3.2 a0 a1 (a2 + (1 : Int32))).bind fun v5 =>
    (if v5 = (0 : Int32) then
      some (FP.dconst0, v3.2)
    else
      (p_X8_lengthNow V g v3.2 a0 a1 a2).bind fun v7 =>
      (h_ddiv (FP.i2d v7) (FP.i2d v5)).bind fun v8 =>
      some (FP.ddiv (FP.i2d v7) (FP.i2d v5), v3.2))
  else
    some (FP.dconst0, v3.2))
abbrev rm_X8_refinementRatio : Room := { frames := 8, cells := 0, slots := 0, locals := 259 }
theorem k_X8_refinementRatio : g_CV yX8_refinementRatio cX8_refinementRatio 4 (some .double) 2 := ⟨⟨m_1786, m_14, by decide +kernel⟩, m_1784, m_1785⟩
set_option maxHeartbeats 4000000 in
set_option maxRecDepth 100000 in
theorem c_X8_refinementRatio (l : Launch) (V : Nat → Nat) (g : GH) (D : va_G) (cT : Nat → ClassId) (f : GH) (n : Nat) (a0 : Nat) (a1 : Int32) (a2 : Int32) (o : UInt64 × GH) (hq : p_X8_refinementRatio V g f a0 a1 a2 = some o) : Met l yX8_refinementRatio (Cond.code yX8_refinementRatio cX8_refinementRatio 4 (some .double) :: g_B) rm_X8_refinementRatio (va_Pc [.ref a0, .int a1, .int a2] (g_I V g D cT f n)) (g_Wd V D cT o.1 o.2 n) 0 0 (g_A V) := by
  refine g_begin (own := RX8) [.ref a0, .int a1, .int a2] [(0, .ref a0), (1, .int a1), (2, .int a2)] (g_A V) (fun _ h => h) (by decide) rfl (Nat.le_of_ble_eq_true rfl) rfl ?_
  intro p e s m args below meth c hx hb hr hlocks hin hC hI ls hl
  obtain ⟨hx, hb, hml, hown, hB⟩ := id hC
  obtain ⟨H, hH⟩ : ∃ H, H = s.heap := ⟨_, rfl⟩
  obtain ⟨locs, hlocs⟩ : ∃ L : List Loc, L = [] := ⟨_, rfl⟩
  rw [← hH, ← hlocs] at hI ⊢
  clear hH hlocs
  unfold p_X8_refinementRatio at hq
  replace hq := (h_me_eq hq).2
  refine lv_aload_n hx hb dX8_refinementRatio_0 rfl (lv_at hl 0 rfl) ?_
  refine lv_aload_n hx hb dX8_refinementRatio_1 rfl (lv_at hl 0 rfl) ?_
  refine lv_iload_n hx hb dX8_refinementRatio_2 rfl (lv_at hl 1 rfl) ?_
  obtain ⟨v1, ev1, hq⟩ := b_s hq
  refine gr_i (g_runV (As := [.int a1]) (rest := [.ref a0]) (ci := 10) hC (c_X8_isCoast l V g D cT f n a0 a1 v1 ev1) k_X8_isCoast m_1630 rfl rfl ⟨Nat.le_of_ble_eq_true rfl, Nat.le_of_ble_eq_true rfl⟩ hI rfl rfl (h_me_eq ev1).1 rfl hl.1 rfl (Nat.le_of_ble_eq_true rfl) dX8_refinementRatio_3 ⟨by decide, by decide⟩) hI (fun H locs hI => ?_)
  refine lv_iload_n hx hb dX8_refinementRatio_6 rfl (lv_at hl 2 rfl) ?_
  obtain ⟨v2, ev2, hq⟩ := b_s hq
  refine gr_i (g_runS (As := [.int a2]) (rest := [.int v1, .ref a0]) hC (c_X8_isFine l V g D cT f n a2 v2 ev2) k_X8_isFine m_1752 rfl rfl ⟨Nat.le_of_ble_eq_true rfl, Nat.le_of_ble_eq_true rfl⟩ hI rfl hl.1 rfl (Nat.le_of_ble_eq_true rfl) dX8_refinementRatio_7 ⟨by decide, by decide⟩) hI (fun H locs hI => ?_)
  obtain ⟨v3, ev3, hq⟩ := b_s hq
  refine gw_i (g_runV (As := [.int v1, .int v2]) (rest := []) (ci := 10) hC (c_X8_lacksBoth l V g D cT f n a0 v1 v2 v3 ev3) k_X8_lacksBoth m_1693 rfl rfl ⟨Nat.le_of_ble_eq_true rfl, Nat.le_of_ble_eq_true rfl⟩ hI rfl rfl (h_me_eq ev3).1 rfl hl.1 rfl (Nat.le_of_ble_eq_true rfl) dX8_refinementRatio_10 ⟨by decide, by decide⟩) hI (fun H locs hI => ?_)
  refine lv_if_eq (tgt := 18) hx hb dX8_refinementRatio_13 (by decide) (fun c4 => ?_) (fun c4 => ?_)
  · replace hq := i_t c4 hq
    refine lv_aload_n hx hb dX8_refinementRatio_18 rfl (lv_at hl 0 rfl) ?_
    refine lv_iload_n hx hb dX8_refinementRatio_19 rfl (lv_at hl 1 rfl) ?_
    refine lv_iload_n hx hb dX8_refinementRatio_20 rfl (lv_at hl 2 rfl) ?_
    refine lv_iconst (v := (1 : Int32)) hx hb dX8_refinementRatio_21 (by decide) ?_
    refine lv_iadd hx hb dX8_refinementRatio_22 ?_
    obtain ⟨v5, ev5, hq⟩ := b_s hq
    refine gr_i (g_runV (As := [.int a1, .int (a2 + (1 : Int32))]) (rest := []) (ci := 10) hC (c_X8_lengthNow l V g D cT v3.2 n a0 a1 (a2 + (1 : Int32)) v5 ev5) k_X8_lengthNow m_1708 rfl rfl ⟨Nat.le_of_ble_eq_true rfl, Nat.le_of_ble_eq_true rfl⟩ hI rfl rfl (h_me_eq ev5).1 rfl hl.1 rfl (Nat.le_of_ble_eq_true rfl) dX8_refinementRatio_23 ⟨by decide, by decide⟩) hI (fun H locs hI => ?_)
    refine lv_istore_n (lv' := [(3, .int v5), (0, .ref a0), (1, .int a1), (2, .int a2)]) hx hb dX8_refinementRatio_26 rfl hl (by decide) rfl (fun ls hl => ?_)
    refine lv_iload_n hx hb dX8_refinementRatio_27 rfl (lv_at hl 0 rfl) ?_
    refine lv_if_ne (tgt := 35) hx hb dX8_refinementRatio_28 (by decide) (fun c6 => ?_) (fun c6 => ?_)
    · replace hq := i_f c6 hq
      refine lv_aload_n hx hb dX8_refinementRatio_35 rfl (lv_at hl 1 rfl) ?_
      refine lv_iload_n hx hb dX8_refinementRatio_36 rfl (lv_at hl 2 rfl) ?_
      refine lv_iload_n hx hb dX8_refinementRatio_37 rfl (lv_at hl 3 rfl) ?_
      obtain ⟨v7, ev7, hq⟩ := b_s hq
      refine gr_i (g_runV (As := [.int a1, .int a2]) (rest := []) (ci := 10) hC (c_X8_lengthNow l V g D cT v3.2 n a0 a1 a2 v7 ev7) k_X8_lengthNow m_1708 rfl rfl ⟨Nat.le_of_ble_eq_true rfl, Nat.le_of_ble_eq_true rfl⟩ hI rfl rfl (h_me_eq ev7).1 rfl hl.1 rfl (Nat.le_of_ble_eq_true rfl) dX8_refinementRatio_38 ⟨by decide, by decide⟩) hI (fun H locs hI => ?_)
      refine lv_i2d hx hb dX8_refinementRatio_41 ?_
      refine lv_iload_n hx hb dX8_refinementRatio_42 rfl (lv_at hl 0 rfl) ?_
      refine lv_i2d hx hb dX8_refinementRatio_43 ?_
      obtain ⟨v8, ev8, hq⟩ := b_s hq
      obtain ⟨rfl, nv8⟩ := h_ddiv_eq ev8
      refine lv_ddiv hx hb dX8_refinementRatio_44 nv8 ?_
      exact ge_Wd hx hb hlocks hr hI (congrArg (fun z => z.1) (Option.some.inj hq)) (congrArg (fun z => z.2) (Option.some.inj hq)) dX8_refinementRatio_45
    · replace hq := i_t c6 hq
      refine lv_dconst0 hx hb dX8_refinementRatio_31 ?_
      refine lv_goto (tgt := 45) hx hb dX8_refinementRatio_32 (by decide) ?_
      exact ge_Wd hx hb hlocks hr hI (congrArg (fun z => z.1) (Option.some.inj hq)) (congrArg (fun z => z.2) (Option.some.inj hq)) dX8_refinementRatio_45
  · replace hq := i_f c4 hq
    refine lv_dconst0 hx hb dX8_refinementRatio_16 ?_
    exact ge_Wd hx hb hlocks hr hI (congrArg (fun z => z.1) (Option.some.inj hq)) (congrArg (fun z => z.2) (Option.some.inj hq)) dX8_refinementRatio_17

def p_X8_meanStickLength (V : Nat → Nat) (g f : GH) (a0 : Nat) (a1 : Int32) (a2 : Int32) : Option (UInt32 × GH) :=
  h_me f a0 10 <|
  (p_X8_lacksLevel V g f a0 a1 a2).bind fun v1 =>
  (if v1.1 = (0 : Int32) then
    (p_X8_lengthNow V g v1.2 a0 a1 a2).bind fun v3 =>
    (p_X8_sticks V g v1.2 a0 a1 a2).bind fun v4 =>
    (h_fdiv (FP.i2f v3) (FP.i2f v4)).bind fun v5 =>
    some (FP.fdiv (FP.i2f v3) (FP.i2f v4), v1.2)
  else
    some (FP.fconst0, v1.2))
abbrev rm_X8_meanStickLength : Room := { frames := 8, cells := 0, slots := 0, locals := 259 }
theorem k_X8_meanStickLength : g_CV yX8_meanStickLength cX8_meanStickLength 3 (some .float) 2 := ⟨⟨m_1790, m_14, by decide +kernel⟩, m_1788, m_1789⟩
set_option maxHeartbeats 4000000 in
set_option maxRecDepth 100000 in
theorem c_X8_meanStickLength (l : Launch) (V : Nat → Nat) (g : GH) (D : va_G) (cT : Nat → ClassId) (f : GH) (n : Nat) (a0 : Nat) (a1 : Int32) (a2 : Int32) (o : UInt32 × GH) (hq : p_X8_meanStickLength V g f a0 a1 a2 = some o) : Met l yX8_meanStickLength (Cond.code yX8_meanStickLength cX8_meanStickLength 3 (some .float) :: g_B) rm_X8_meanStickLength (va_Pc [.ref a0, .int a1, .int a2] (g_I V g D cT f n)) (g_Wf V D cT o.1 o.2 n) 0 0 (g_A V) := by
  refine g_begin (own := RX8) [.ref a0, .int a1, .int a2] [(0, .ref a0), (1, .int a1), (2, .int a2)] (g_A V) (fun _ h => h) (by decide) rfl (Nat.le_of_ble_eq_true rfl) rfl ?_
  intro p e s m args below meth c hx hb hr hlocks hin hC hI ls hl
  obtain ⟨hx, hb, hml, hown, hB⟩ := id hC
  obtain ⟨H, hH⟩ : ∃ H, H = s.heap := ⟨_, rfl⟩
  obtain ⟨locs, hlocs⟩ : ∃ L : List Loc, L = [] := ⟨_, rfl⟩
  rw [← hH, ← hlocs] at hI ⊢
  clear hH hlocs
  unfold p_X8_meanStickLength at hq
  replace hq := (h_me_eq hq).2
  refine lv_aload_n hx hb dX8_meanStickLength_0 rfl (lv_at hl 0 rfl) ?_
  refine lv_iload_n hx hb dX8_meanStickLength_1 rfl (lv_at hl 1 rfl) ?_
  refine lv_iload_n hx hb dX8_meanStickLength_2 rfl (lv_at hl 2 rfl) ?_
  obtain ⟨v1, ev1, hq⟩ := b_s hq
  refine gw_i (g_runV (As := [.int a1, .int a2]) (rest := []) (ci := 10) hC (c_X8_lacksLevel l V g D cT f n a0 a1 a2 v1 ev1) k_X8_lacksLevel m_1701 rfl rfl ⟨Nat.le_of_ble_eq_true rfl, Nat.le_of_ble_eq_true rfl⟩ hI rfl rfl (h_me_eq ev1).1 rfl hl.1 rfl (Nat.le_of_ble_eq_true rfl) dX8_meanStickLength_3 ⟨by decide, by decide⟩) hI (fun H locs hI => ?_)
  refine lv_if_eq (tgt := 13) hx hb dX8_meanStickLength_6 (by decide) (fun c2 => ?_) (fun c2 => ?_)
  · replace hq := i_t c2 hq
    refine lv_aload_n hx hb dX8_meanStickLength_13 rfl (lv_at hl 0 rfl) ?_
    refine lv_iload_n hx hb dX8_meanStickLength_14 rfl (lv_at hl 1 rfl) ?_
    refine lv_iload_n hx hb dX8_meanStickLength_15 rfl (lv_at hl 2 rfl) ?_
    obtain ⟨v3, ev3, hq⟩ := b_s hq
    refine gr_i (g_runV (As := [.int a1, .int a2]) (rest := []) (ci := 10) hC (c_X8_lengthNow l V g D cT v1.2 n a0 a1 a2 v3 ev3) k_X8_lengthNow m_1708 rfl rfl ⟨Nat.le_of_ble_eq_true rfl, Nat.le_of_ble_eq_true rfl⟩ hI rfl rfl (h_me_eq ev3).1 rfl hl.1 rfl (Nat.le_of_ble_eq_true rfl) dX8_meanStickLength_16 ⟨by decide, by decide⟩) hI (fun H locs hI => ?_)
    refine lv_i2f hx hb dX8_meanStickLength_19 ?_
    refine lv_aload_n hx hb dX8_meanStickLength_20 rfl (lv_at hl 0 rfl) ?_
    refine lv_iload_n hx hb dX8_meanStickLength_21 rfl (lv_at hl 1 rfl) ?_
    refine lv_iload_n hx hb dX8_meanStickLength_22 rfl (lv_at hl 2 rfl) ?_
    obtain ⟨v4, ev4, hq⟩ := b_s hq
    refine gr_i (g_runV (As := [.int a1, .int a2]) (rest := [.float (FP.i2f v3)]) (ci := 10) hC (c_X8_sticks l V g D cT v1.2 n a0 a1 a2 v4 ev4) k_X8_sticks m_1716 rfl rfl ⟨Nat.le_of_ble_eq_true rfl, Nat.le_of_ble_eq_true rfl⟩ hI rfl rfl (h_me_eq ev4).1 rfl hl.1 rfl (Nat.le_of_ble_eq_true rfl) dX8_meanStickLength_23 ⟨by decide, by decide⟩) hI (fun H locs hI => ?_)
    refine lv_i2f hx hb dX8_meanStickLength_26 ?_
    obtain ⟨v5, ev5, hq⟩ := b_s hq
    obtain ⟨rfl, nv5⟩ := h_fdiv_eq ev5
    refine lv_fdiv hx hb dX8_meanStickLength_27 nv5 ?_
    exact ge_Wf hx hb hlocks hr hI (congrArg (fun z => z.1) (Option.some.inj hq)) (congrArg (fun z => z.2) (Option.some.inj hq)) dX8_meanStickLength_28
  · replace hq := i_f c2 hq
    refine lv_fconst0 hx hb dX8_meanStickLength_9 ?_
    refine lv_goto (tgt := 28) hx hb dX8_meanStickLength_10 (by decide) ?_
    exact ge_Wf hx hb hlocks hr hI (congrArg (fun z => z.1) (Option.some.inj hq)) (congrArg (fun z => z.2) (Option.some.inj hq)) dX8_meanStickLength_28

def p_X8_next (V : Nat → Nat) (g f : GH) (a0 : Nat) (a1 : Int32) (a2 : Int32) : Option Int32 :=
  h_me f a0 10 <|
  (p_X8_count V g f a0 a1).bind fun v1 =>
  (if v1 ≤ (a2 + (1 : Int32)) then
    some (0 : Int32)
  else
    some (a2 + (1 : Int32)))
abbrev rm_X8_next : Room := { frames := 4, cells := 0, slots := 0, locals := 161 }
theorem k_X8_next : g_CV yX8_next cX8_next 3 (some .int) 2 := ⟨⟨m_1806, m_14, by decide +kernel⟩, m_1805, ms_44⟩
set_option maxHeartbeats 4000000 in
set_option maxRecDepth 100000 in
theorem c_X8_next (l : Launch) (V : Nat → Nat) (g : GH) (D : va_G) (cT : Nat → ClassId) (f : GH) (n : Nat) (a0 : Nat) (a1 : Int32) (a2 : Int32) (o : Int32) (hq : p_X8_next V g f a0 a1 a2 = some o) : Met l yX8_next (Cond.code yX8_next cX8_next 3 (some .int) :: g_B) rm_X8_next (va_Pc [.ref a0, .int a1, .int a2] (g_I V g D cT f n)) (g_Ri o n) 0 0 g_no := by
  refine g_begin (own := RX8) [.ref a0, .int a1, .int a2] [(0, .ref a0), (1, .int a1), (2, .int a2)] g_no (fun _ h => h.elim) (by decide) rfl (Nat.le_of_ble_eq_true rfl) rfl ?_
  intro p e s m args below meth c hx hb hr hlocks hin hC hI ls hl
  obtain ⟨hx, hb, hml, hown, hB⟩ := id hC
  obtain ⟨H, hH⟩ : ∃ H, H = s.heap := ⟨_, rfl⟩
  obtain ⟨locs, hlocs⟩ : ∃ L : List Loc, L = [] := ⟨_, rfl⟩
  rw [← hH, ← hlocs] at hI ⊢
  clear hH hlocs
  unfold p_X8_next at hq
  replace hq := (h_me_eq hq).2
  refine lv_iload_n hx hb dX8_next_0 rfl (lv_at hl 2 rfl) ?_
  refine lv_iconst (v := (1 : Int32)) hx hb dX8_next_1 (by decide) ?_
  refine lv_iadd hx hb dX8_next_2 ?_
  refine lv_aload_n hx hb dX8_next_3 rfl (lv_at hl 0 rfl) ?_
  refine lv_iload_n hx hb dX8_next_4 rfl (lv_at hl 1 rfl) ?_
  obtain ⟨v1, ev1, hq⟩ := b_s hq
  refine gr_i (g_runV (As := [.int a1]) (rest := [.int (a2 + (1 : Int32))]) (ci := 10) hC (c_X8_count l V g D cT f n a0 a1 v1 ev1) k_X8_count m_1527 rfl rfl ⟨Nat.le_of_ble_eq_true rfl, Nat.le_of_ble_eq_true rfl⟩ hI rfl rfl (h_me_eq ev1).1 rfl hl.1 rfl (Nat.le_of_ble_eq_true rfl) dX8_next_5 ⟨by decide, by decide⟩) hI (fun H locs hI => ?_)
  refine lv_icmp_ge (tgt := 17) hx hb dX8_next_8 (by decide) (fun c2 => ?_) (fun c2 => ?_)
  · replace hq := i_t c2 hq
    refine lv_iconst (v := (0 : Int32)) hx hb dX8_next_17 (by decide) ?_
    exact ge_Ri hx hb hlocks hr rfl hI hq dX8_next_18
  · replace hq := i_f c2 hq
    refine lv_iload_n hx hb dX8_next_11 rfl (lv_at hl 2 rfl) ?_
    refine lv_iconst (v := (1 : Int32)) hx hb dX8_next_12 (by decide) ?_
    refine lv_iadd hx hb dX8_next_13 ?_
    refine lv_goto (tgt := 18) hx hb dX8_next_14 (by decide) ?_
    exact ge_Ri hx hb hlocks hr rfl hI hq dX8_next_18

def p_X8_signedArea_l4 (V : Nat → Nat) (g f : GH) (K59 : Int32 → Option Int32) : Nat → Nat → Int32 → Int32 → Int32 → Option Int32
  | 0, _, _, _, _ => none
  | N + 1, x0, x1, x2, x3 =>
    (p_X8_count V g f x0 x1).bind fun v1 =>
    (if v1 ≤ x3 then
      K59 x2
    else
      (p_X8_next V g f x0 x1 x3).bind fun v3 =>
      (p_X8_x V g f x0 x1 x3).bind fun v4 =>
      (p_X8_y V g f x0 x1 v3).bind fun v5 =>
      (p_X8_x V g f x0 x1 v3).bind fun v6 =>
      (p_X8_y V g f x0 x1 x3).bind fun v7 =>
      p_X8_signedArea_l4 V g f K59 N x0 x1 (x2 + ((v4 * v5) - (v6 * v7))) (x3 + (1 : Int32)))
def p_X8_signedArea (V : Nat → Nat) (g f : GH) (a0 : Nat) (a1 : Int32) : Option Int32 :=
  h_me f a0 10 <|
  p_X8_signedArea_l4 V g f (fun x2 =>
    some x2) FU a0 a1 (0 : Int32) (0 : Int32)
abbrev rm_X8_signedArea : Room := { frames := 5, cells := 0, slots := 0, locals := 183 }
theorem k_X8_signedArea : g_CV yX8_signedArea cX8_signedArea 5 (some .int) 1 := ⟨⟨m_1802, m_14, by decide +kernel⟩, m_1801, ms_43⟩
set_option maxHeartbeats 4000000 in
set_option maxRecDepth 100000 in
theorem c_X8_signedArea (l : Launch) (V : Nat → Nat) (g : GH) (D : va_G) (cT : Nat → ClassId) (f : GH) (n : Nat) (a0 : Nat) (a1 : Int32) (o : Int32) (hq : p_X8_signedArea V g f a0 a1 = some o) : Met l yX8_signedArea (Cond.code yX8_signedArea cX8_signedArea 5 (some .int) :: g_B) rm_X8_signedArea (va_Pc [.ref a0, .int a1] (g_I V g D cT f n)) (g_Ri o n) 0 0 g_no := by
  refine g_begin (own := RX8) [.ref a0, .int a1] [(0, .ref a0), (1, .int a1)] g_no (fun _ h => h.elim) (by decide) rfl (Nat.le_of_ble_eq_true rfl) rfl ?_
  intro p e s m args below meth c hx hb hr hlocks hin hC hI ls hl
  obtain ⟨hx, hb, hml, hown, hB⟩ := id hC
  obtain ⟨H, hH⟩ : ∃ H, H = s.heap := ⟨_, rfl⟩
  obtain ⟨locs, hlocs⟩ : ∃ L : List Loc, L = [] := ⟨_, rfl⟩
  rw [← hH, ← hlocs] at hI ⊢
  clear hH hlocs
  unfold p_X8_signedArea at hq
  replace hq := (h_me_eq hq).2
  refine lv_iconst (v := (0 : Int32)) hx hb dX8_signedArea_0 (by decide) ?_
  refine lv_istore_n (lv' := [(2, .int (0 : Int32)), (0, .ref a0), (1, .int a1)]) hx hb dX8_signedArea_1 rfl hl (by decide) rfl (fun ls hl => ?_)
  refine lv_iconst (v := (0 : Int32)) hx hb dX8_signedArea_2 (by decide) ?_
  refine lv_istore_n (lv' := [(3, .int (0 : Int32)), (2, .int (0 : Int32)), (0, .ref a0), (1, .int a1)]) hx hb dX8_signedArea_3 rfl hl (by decide) rfl (fun ls hl => ?_)
  have hl4 : ∀ (K59 : Int32 → Option Int32) (hK59 : ∀ (x2 : Int32) (H : Heap) (locs : List Loc) (ls : Array Slot), g_at g_no V g D cT f n s H locs → lv_has ls 5 [(2, .int x2)] → K59 x2 = some o → W p l e rm_X8_signedArea s m args below meth c H locs 0 0 (MQ below (g_Ri o n) args s 0 0 g_no) (F0 m 59 ls [])) (N : Nat) (x0 : Nat) (x1 : Int32) (x2 : Int32) (x3 : Int32) (H : Heap) (locs : List Loc) (ls : Array Slot), g_at g_no V g D cT f n s H locs → lv_has ls 5 [(0, .ref x0), (1, .int x1), (2, .int x2), (3, .int x3)] → p_X8_signedArea_l4 V g f K59 N x0 x1 x2 x3 = some o → W p l e rm_X8_signedArea s m args below meth c H locs 0 0 (MQ below (g_Ri o n) args s 0 0 g_no) (F0 m 4 ls []) := by
    intro K59 hK59 N
    induction N with
    | zero =>
      intro x0 x1 x2 x3 H locs ls hI hl hq
      rw [p_X8_signedArea_l4] at hq
      cases hq
    | succ N ih =>
      intro x0 x1 x2 x3 H locs ls hI hl hq
      rw [p_X8_signedArea_l4] at hq
      refine lv_iload_n hx hb dX8_signedArea_4 rfl (lv_at hl 3 rfl) ?_
      refine lv_aload_n hx hb dX8_signedArea_5 rfl (lv_at hl 0 rfl) ?_
      refine lv_iload_n hx hb dX8_signedArea_6 rfl (lv_at hl 1 rfl) ?_
      obtain ⟨v1, ev1, hq⟩ := b_s hq
      refine gr_i (g_runV (As := [.int x1]) (rest := [.int x3]) (ci := 10) hC (c_X8_count l V g D cT f n x0 x1 v1 ev1) k_X8_count m_1527 rfl rfl ⟨Nat.le_of_ble_eq_true rfl, Nat.le_of_ble_eq_true rfl⟩ hI rfl rfl (h_me_eq ev1).1 rfl hl.1 rfl (Nat.le_of_ble_eq_true rfl) dX8_signedArea_7 ⟨by decide, by decide⟩) hI (fun H locs hI => ?_)
      refine lv_icmp_ge (tgt := 59) hx hb dX8_signedArea_10 (by decide) (fun c2 => ?_) (fun c2 => ?_)
      · replace hq := i_t c2 hq
        exact hK59 x2 H locs ls hI (lv_sub hl [2] rfl) hq
      · replace hq := i_f c2 hq
        refine lv_aload_n hx hb dX8_signedArea_13 rfl (lv_at hl 0 rfl) ?_
        refine lv_iload_n hx hb dX8_signedArea_14 rfl (lv_at hl 1 rfl) ?_
        refine lv_iload_n hx hb dX8_signedArea_15 rfl (lv_at hl 3 rfl) ?_
        obtain ⟨v3, ev3, hq⟩ := b_s hq
        refine gr_i (g_runV (As := [.int x1, .int x3]) (rest := []) (ci := 10) hC (c_X8_next l V g D cT f n x0 x1 x3 v3 ev3) k_X8_next m_1803 rfl rfl ⟨Nat.le_of_ble_eq_true rfl, Nat.le_of_ble_eq_true rfl⟩ hI rfl rfl (h_me_eq ev3).1 rfl hl.1 rfl (Nat.le_of_ble_eq_true rfl) dX8_signedArea_16 ⟨by decide, by decide⟩) hI (fun H locs hI => ?_)
        refine lv_istore (lv' := [(4, .int v3), (0, .ref x0), (1, .int x1), (2, .int x2), (3, .int x3)]) hx hb dX8_signedArea_19 hl (by decide) rfl (fun ls hl => ?_)
        refine lv_iload_n hx hb dX8_signedArea_21 rfl (lv_at hl 3 rfl) ?_
        refine lv_aload_n hx hb dX8_signedArea_22 rfl (lv_at hl 1 rfl) ?_
        refine lv_iload_n hx hb dX8_signedArea_23 rfl (lv_at hl 2 rfl) ?_
        refine lv_iload_n hx hb dX8_signedArea_24 rfl (lv_at hl 4 rfl) ?_
        obtain ⟨v4, ev4, hq⟩ := b_s hq
        refine gr_i (g_runV (As := [.int x1, .int x3]) (rest := [.int x2]) (ci := 10) hC (c_X8_x l V g D cT f n x0 x1 x3 v4 ev4) k_X8_x m_1657 rfl rfl ⟨Nat.le_of_ble_eq_true rfl, Nat.le_of_ble_eq_true rfl⟩ hI rfl rfl (h_me_eq ev4).1 rfl hl.1 rfl (Nat.le_of_ble_eq_true rfl) dX8_signedArea_25 ⟨by decide, by decide⟩) hI (fun H locs hI => ?_)
        refine lv_aload_n hx hb dX8_signedArea_28 rfl (lv_at hl 1 rfl) ?_
        refine lv_iload_n hx hb dX8_signedArea_29 rfl (lv_at hl 2 rfl) ?_
        refine lv_iload hx hb dX8_signedArea_30 (lv_at hl 0 rfl) ?_
        obtain ⟨v5, ev5, hq⟩ := b_s hq
        refine gr_i (g_runV (As := [.int x1, .int v3]) (rest := [.int v4, .int x2]) (ci := 10) hC (c_X8_y l V g D cT f n x0 x1 v3 v5 ev5) k_X8_y m_1665 rfl rfl ⟨Nat.le_of_ble_eq_true rfl, Nat.le_of_ble_eq_true rfl⟩ hI rfl rfl (h_me_eq ev5).1 rfl hl.1 rfl (Nat.le_of_ble_eq_true rfl) dX8_signedArea_32 ⟨by decide, by decide⟩) hI (fun H locs hI => ?_)
        refine lv_imul hx hb dX8_signedArea_35 ?_
        refine lv_aload_n hx hb dX8_signedArea_36 rfl (lv_at hl 1 rfl) ?_
        refine lv_iload_n hx hb dX8_signedArea_37 rfl (lv_at hl 2 rfl) ?_
        refine lv_iload hx hb dX8_signedArea_38 (lv_at hl 0 rfl) ?_
        obtain ⟨v6, ev6, hq⟩ := b_s hq
        refine gr_i (g_runV (As := [.int x1, .int v3]) (rest := [.int (v4 * v5), .int x2]) (ci := 10) hC (c_X8_x l V g D cT f n x0 x1 v3 v6 ev6) k_X8_x m_1657 rfl rfl ⟨Nat.le_of_ble_eq_true rfl, Nat.le_of_ble_eq_true rfl⟩ hI rfl rfl (h_me_eq ev6).1 rfl hl.1 rfl (Nat.le_of_ble_eq_true rfl) dX8_signedArea_40 ⟨by decide, by decide⟩) hI (fun H locs hI => ?_)
        refine lv_aload_n hx hb dX8_signedArea_43 rfl (lv_at hl 1 rfl) ?_
        refine lv_iload_n hx hb dX8_signedArea_44 rfl (lv_at hl 2 rfl) ?_
        refine lv_iload_n hx hb dX8_signedArea_45 rfl (lv_at hl 4 rfl) ?_
        obtain ⟨v7, ev7, hq⟩ := b_s hq
        refine gr_i (g_runV (As := [.int x1, .int x3]) (rest := [.int v6, .int (v4 * v5), .int x2]) (ci := 10) hC (c_X8_y l V g D cT f n x0 x1 x3 v7 ev7) k_X8_y m_1665 rfl rfl ⟨Nat.le_of_ble_eq_true rfl, Nat.le_of_ble_eq_true rfl⟩ hI rfl rfl (h_me_eq ev7).1 rfl hl.1 rfl (Nat.le_of_ble_eq_true rfl) dX8_signedArea_46 ⟨by decide, by decide⟩) hI (fun H locs hI => ?_)
        refine lv_imul hx hb dX8_signedArea_49 ?_
        refine lv_isub hx hb dX8_signedArea_50 ?_
        refine lv_iadd hx hb dX8_signedArea_51 ?_
        refine lv_istore_n (lv' := [(2, .int (x2 + ((v4 * v5) - (v6 * v7)))), (4, .int v3), (0, .ref x0), (1, .int x1), (3, .int x3)]) hx hb dX8_signedArea_52 rfl hl (by decide) rfl (fun ls hl => ?_)
        refine lv_iinc (v := x3 + (1 : Int32)) (lv' := [(3, .int (x3 + (1 : Int32))), (2, .int (x2 + ((v4 * v5) - (v6 * v7)))), (4, .int v3), (0, .ref x0), (1, .int x1)]) hx hb dX8_signedArea_53 hl (k := 4) rfl rfl (by decide) rfl (fun ls hl => ?_)
        refine lv_goto (tgt := 4) hx hb dX8_signedArea_56 (by decide) ?_
        exact ih x0 x1 (x2 + ((v4 * v5) - (v6 * v7))) (x3 + (1 : Int32)) H locs ls hI (lv_sub hl [3, 4, 1, 0] rfl) hq
  refine hl4 _ ?_ FU a0 a1 (0 : Int32) (0 : Int32) H locs ls hI (lv_sub hl [2, 3, 1, 0] rfl) hq
  · intro x2 H locs ls hI hl hq
    refine lv_iload_n hx hb dX8_signedArea_59 rfl (lv_at hl 0 rfl) ?_
    exact ge_Ri hx hb hlocks hr rfl hI hq dX8_signedArea_60

def p_X8_lacksIsland (V : Nat → Nat) (g f : GH) (a0 : Nat) (a1 : Int32) : Option (Int32 × GH) :=
  h_me f a0 10 <|
  (p_X8_isCoast V g f a0 a1).bind fun v1 =>
  (p_X8_isCoast V g f a0 a1).bind fun v2 =>
  (if v2 = (0 : Int32) then
    (p_X8_lacksBoth V g f a0 v1 (0 : Int32)).bind fun v4 =>
    (h_bz v4.1).bind fun _ =>
    some (v4.1, v4.2)
  else
    (p_X8_island V g f a0 a1).bind fun v6 =>
    (if v6 = (0 : Int32) then
      (p_X8_lacksBoth V g f a0 v1 (0 : Int32)).bind fun v8 =>
      (h_bz v8.1).bind fun _ =>
      some (v8.1, v8.2)
    else
      (p_X8_lacksBoth V g f a0 v1 (1 : Int32)).bind fun v10 =>
      (h_bz v10.1).bind fun _ =>
      some (v10.1, v10.2)))
abbrev rm_X8_lacksIsland : Room := { frames := 4, cells := 0, slots := 0, locals := 163 }
theorem k_X8_lacksIsland : g_CV yX8_lacksIsland cX8_lacksIsland 2 (some .boolean) 1 := ⟨⟨m_1798, m_14, by decide +kernel⟩, m_1797, ms_42⟩
set_option maxHeartbeats 4000000 in
set_option maxRecDepth 100000 in
theorem c_X8_lacksIsland (l : Launch) (V : Nat → Nat) (g : GH) (D : va_G) (cT : Nat → ClassId) (f : GH) (n : Nat) (a0 : Nat) (a1 : Int32) (o : Int32 × GH) (hq : p_X8_lacksIsland V g f a0 a1 = some o) : Met l yX8_lacksIsland (Cond.code yX8_lacksIsland cX8_lacksIsland 2 (some .boolean) :: g_B) rm_X8_lacksIsland (va_Pc [.ref a0, .int a1] (g_I V g D cT f n)) (g_Wi V D cT o.1 o.2 n) 0 0 (g_A V) := by
  refine g_begin (own := RX8) [.ref a0, .int a1] [(0, .ref a0), (1, .int a1)] (g_A V) (fun _ h => h) (by decide) rfl (Nat.le_of_ble_eq_true rfl) rfl ?_
  intro p e s m args below meth c hx hb hr hlocks hin hC hI ls hl
  obtain ⟨hx, hb, hml, hown, hB⟩ := id hC
  obtain ⟨H, hH⟩ : ∃ H, H = s.heap := ⟨_, rfl⟩
  obtain ⟨locs, hlocs⟩ : ∃ L : List Loc, L = [] := ⟨_, rfl⟩
  rw [← hH, ← hlocs] at hI ⊢
  clear hH hlocs
  unfold p_X8_lacksIsland at hq
  replace hq := (h_me_eq hq).2
  refine lv_aload_n hx hb dX8_lacksIsland_0 rfl (lv_at hl 0 rfl) ?_
  refine lv_aload_n hx hb dX8_lacksIsland_1 rfl (lv_at hl 0 rfl) ?_
  refine lv_iload_n hx hb dX8_lacksIsland_2 rfl (lv_at hl 1 rfl) ?_
  obtain ⟨v1, ev1, hq⟩ := b_s hq
  refine gr_i (g_runV (As := [.int a1]) (rest := [.ref a0]) (ci := 10) hC (c_X8_isCoast l V g D cT f n a0 a1 v1 ev1) k_X8_isCoast m_1630 rfl rfl ⟨Nat.le_of_ble_eq_true rfl, Nat.le_of_ble_eq_true rfl⟩ hI rfl rfl (h_me_eq ev1).1 rfl hl.1 rfl (Nat.le_of_ble_eq_true rfl) dX8_lacksIsland_3 ⟨by decide, by decide⟩) hI (fun H locs hI => ?_)
  refine lv_aload_n hx hb dX8_lacksIsland_6 rfl (lv_at hl 0 rfl) ?_
  refine lv_iload_n hx hb dX8_lacksIsland_7 rfl (lv_at hl 1 rfl) ?_
  obtain ⟨v2, ev2, hq⟩ := b_s hq
  refine gr_i (g_runV (As := [.int a1]) (rest := [.int v1, .ref a0]) (ci := 10) hC (c_X8_isCoast l V g D cT f n a0 a1 v2 ev2) k_X8_isCoast m_1630 rfl rfl ⟨Nat.le_of_ble_eq_true rfl, Nat.le_of_ble_eq_true rfl⟩ hI rfl rfl (h_me_eq ev2).1 rfl hl.1 rfl (Nat.le_of_ble_eq_true rfl) dX8_lacksIsland_8 ⟨by decide, by decide⟩) hI (fun H locs hI => ?_)
  refine lv_if_eq (tgt := 26) hx hb dX8_lacksIsland_11 (by decide) (fun c3 => ?_) (fun c3 => ?_)
  · replace hq := i_t c3 hq
    refine lv_iconst (v := (0 : Int32)) hx hb dX8_lacksIsland_26 (by decide) ?_
    obtain ⟨v4, ev4, hq⟩ := b_s hq
    refine gw_i (g_runV (As := [.int v1, .int (0 : Int32)]) (rest := []) (ci := 10) hC (c_X8_lacksBoth l V g D cT f n a0 v1 (0 : Int32) v4 ev4) k_X8_lacksBoth m_1693 rfl rfl ⟨Nat.le_of_ble_eq_true rfl, Nat.le_of_ble_eq_true rfl⟩ hI rfl rfl (h_me_eq ev4).1 rfl hl.1 rfl (Nat.le_of_ble_eq_true rfl) dX8_lacksIsland_27 ⟨by decide, by decide⟩) hI (fun H locs hI => ?_)
    obtain ⟨_, ev5, hq⟩ := b_s hq
    exact ge_Wi hx hb hlocks hr (h_bz_eq ev5).2.1 hI (congrArg (fun z => z.1) (Option.some.inj hq)) (congrArg (fun z => z.2) (Option.some.inj hq)) dX8_lacksIsland_30
  · replace hq := i_f c3 hq
    refine lv_aload_n hx hb dX8_lacksIsland_14 rfl (lv_at hl 0 rfl) ?_
    refine lv_iload_n hx hb dX8_lacksIsland_15 rfl (lv_at hl 1 rfl) ?_
    obtain ⟨v6, ev6, hq⟩ := b_s hq
    refine gr_i (g_runV (As := [.int a1]) (rest := [.int v1, .ref a0]) (ci := 10) hC (c_X8_island l V g D cT f n a0 a1 v6 ev6) k_X8_island m_1641 rfl rfl ⟨Nat.le_of_ble_eq_true rfl, Nat.le_of_ble_eq_true rfl⟩ hI rfl rfl (h_me_eq ev6).1 rfl hl.1 rfl (Nat.le_of_ble_eq_true rfl) dX8_lacksIsland_16 ⟨by decide, by decide⟩) hI (fun H locs hI => ?_)
    refine lv_if_eq (tgt := 26) hx hb dX8_lacksIsland_19 (by decide) (fun c7 => ?_) (fun c7 => ?_)
    · replace hq := i_t c7 hq
      refine lv_iconst (v := (0 : Int32)) hx hb dX8_lacksIsland_26 (by decide) ?_
      obtain ⟨v8, ev8, hq⟩ := b_s hq
      refine gw_i (g_runV (As := [.int v1, .int (0 : Int32)]) (rest := []) (ci := 10) hC (c_X8_lacksBoth l V g D cT f n a0 v1 (0 : Int32) v8 ev8) k_X8_lacksBoth m_1693 rfl rfl ⟨Nat.le_of_ble_eq_true rfl, Nat.le_of_ble_eq_true rfl⟩ hI rfl rfl (h_me_eq ev8).1 rfl hl.1 rfl (Nat.le_of_ble_eq_true rfl) dX8_lacksIsland_27 ⟨by decide, by decide⟩) hI (fun H locs hI => ?_)
      obtain ⟨_, ev9, hq⟩ := b_s hq
      exact ge_Wi hx hb hlocks hr (h_bz_eq ev9).2.1 hI (congrArg (fun z => z.1) (Option.some.inj hq)) (congrArg (fun z => z.2) (Option.some.inj hq)) dX8_lacksIsland_30
    · replace hq := i_f c7 hq
      refine lv_iconst (v := (1 : Int32)) hx hb dX8_lacksIsland_22 (by decide) ?_
      refine lv_goto (tgt := 27) hx hb dX8_lacksIsland_23 (by decide) ?_
      obtain ⟨v10, ev10, hq⟩ := b_s hq
      refine gw_i (g_runV (As := [.int v1, .int (1 : Int32)]) (rest := []) (ci := 10) hC (c_X8_lacksBoth l V g D cT f n a0 v1 (1 : Int32) v10 ev10) k_X8_lacksBoth m_1693 rfl rfl ⟨Nat.le_of_ble_eq_true rfl, Nat.le_of_ble_eq_true rfl⟩ hI rfl rfl (h_me_eq ev10).1 rfl hl.1 rfl (Nat.le_of_ble_eq_true rfl) dX8_lacksIsland_27 ⟨by decide, by decide⟩) hI (fun H locs hI => ?_)
      obtain ⟨_, ev11, hq⟩ := b_s hq
      exact ge_Wi hx hb hlocks hr (h_bz_eq ev11).2.1 hI (congrArg (fun z => z.1) (Option.some.inj hq)) (congrArg (fun z => z.2) (Option.some.inj hq)) dX8_lacksIsland_30

def p_X8_doubledArea (V : Nat → Nat) (g f : GH) (a0 : Nat) (a1 : Int32) : Option (Int32 × GH) :=
  h_me f a0 10 <|
  (p_X8_lacksIsland V g f a0 a1).bind fun v1 =>
  (if v1.1 = (0 : Int32) then
    (p_X8_signedArea V g v1.2 a0 a1).bind fun v3 =>
    (p_X8_sizeOf V g v1.2 v3).bind fun v4 =>
    some (v4, v1.2)
  else
    some ((0 : Int32), v1.2))
abbrev rm_X8_doubledArea : Room := { frames := 6, cells := 0, slots := 0, locals := 207 }
theorem k_X8_doubledArea : g_CV yX8_doubledArea cX8_doubledArea 2 (some .int) 1 := ⟨⟨m_1794, m_14, by decide +kernel⟩, m_1792, m_1793⟩
set_option maxHeartbeats 4000000 in
set_option maxRecDepth 100000 in
theorem c_X8_doubledArea (l : Launch) (V : Nat → Nat) (g : GH) (D : va_G) (cT : Nat → ClassId) (f : GH) (n : Nat) (a0 : Nat) (a1 : Int32) (o : Int32 × GH) (hq : p_X8_doubledArea V g f a0 a1 = some o) : Met l yX8_doubledArea (Cond.code yX8_doubledArea cX8_doubledArea 2 (some .int) :: g_B) rm_X8_doubledArea (va_Pc [.ref a0, .int a1] (g_I V g D cT f n)) (g_Wi V D cT o.1 o.2 n) 0 0 (g_A V) := by
  refine g_begin (own := RX8) [.ref a0, .int a1] [(0, .ref a0), (1, .int a1)] (g_A V) (fun _ h => h) (by decide) rfl (Nat.le_of_ble_eq_true rfl) rfl ?_
  intro p e s m args below meth c hx hb hr hlocks hin hC hI ls hl
  obtain ⟨hx, hb, hml, hown, hB⟩ := id hC
  obtain ⟨H, hH⟩ : ∃ H, H = s.heap := ⟨_, rfl⟩
  obtain ⟨locs, hlocs⟩ : ∃ L : List Loc, L = [] := ⟨_, rfl⟩
  rw [← hH, ← hlocs] at hI ⊢
  clear hH hlocs
  unfold p_X8_doubledArea at hq
  replace hq := (h_me_eq hq).2
  refine lv_aload_n hx hb dX8_doubledArea_0 rfl (lv_at hl 0 rfl) ?_
  refine lv_iload_n hx hb dX8_doubledArea_1 rfl (lv_at hl 1 rfl) ?_
  obtain ⟨v1, ev1, hq⟩ := b_s hq
  refine gw_i (g_runV (As := [.int a1]) (rest := []) (ci := 10) hC (c_X8_lacksIsland l V g D cT f n a0 a1 v1 ev1) k_X8_lacksIsland m_1795 rfl rfl ⟨Nat.le_of_ble_eq_true rfl, Nat.le_of_ble_eq_true rfl⟩ hI rfl rfl (h_me_eq ev1).1 rfl hl.1 rfl (Nat.le_of_ble_eq_true rfl) dX8_doubledArea_2 ⟨by decide, by decide⟩) hI (fun H locs hI => ?_)
  refine lv_if_eq (tgt := 12) hx hb dX8_doubledArea_5 (by decide) (fun c2 => ?_) (fun c2 => ?_)
  · replace hq := i_t c2 hq
    refine lv_aload_n hx hb dX8_doubledArea_12 rfl (lv_at hl 0 rfl) ?_
    refine lv_iload_n hx hb dX8_doubledArea_13 rfl (lv_at hl 1 rfl) ?_
    obtain ⟨v3, ev3, hq⟩ := b_s hq
    refine gr_i (g_runV (As := [.int a1]) (rest := []) (ci := 10) hC (c_X8_signedArea l V g D cT v1.2 n a0 a1 v3 ev3) k_X8_signedArea m_1799 rfl rfl ⟨Nat.le_of_ble_eq_true rfl, Nat.le_of_ble_eq_true rfl⟩ hI rfl rfl (h_me_eq ev3).1 rfl hl.1 rfl (Nat.le_of_ble_eq_true rfl) dX8_doubledArea_14 ⟨by decide, by decide⟩) hI (fun H locs hI => ?_)
    obtain ⟨v4, ev4, hq⟩ := b_s hq
    refine gr_i (g_runS (As := [.int v3]) (rest := []) hC (c_X8_sizeOf l V g D cT v1.2 n v3 v4 ev4) k_X8_sizeOf m_1680 rfl rfl ⟨Nat.le_of_ble_eq_true rfl, Nat.le_of_ble_eq_true rfl⟩ hI rfl hl.1 rfl (Nat.le_of_ble_eq_true rfl) dX8_doubledArea_17 ⟨by decide, by decide⟩) hI (fun H locs hI => ?_)
    exact ge_Wi hx hb hlocks hr rfl hI (congrArg (fun z => z.1) (Option.some.inj hq)) (congrArg (fun z => z.2) (Option.some.inj hq)) dX8_doubledArea_20
  · replace hq := i_f c2 hq
    refine lv_iconst (v := (0 : Int32)) hx hb dX8_doubledArea_8 (by decide) ?_
    refine lv_goto (tgt := 20) hx hb dX8_doubledArea_9 (by decide) ?_
    exact ge_Wi hx hb hlocks hr rfl hI (congrArg (fun z => z.1) (Option.some.inj hq)) (congrArg (fun z => z.2) (Option.some.inj hq)) dX8_doubledArea_20

def p_X8_isCounterclockwise (V : Nat → Nat) (g f : GH) (a0 : Nat) (a1 : Int32) : Option (Int32 × GH) :=
  h_me f a0 10 <|
  (p_X8_lacksIsland V g f a0 a1).bind fun v1 =>
  (if v1.1 = (0 : Int32) then
    (p_X8_signedArea V g v1.2 a0 a1).bind fun v3 =>
    (if v3 ≤ (0 : Int32) then
      some ((0 : Int32), v1.2)
    else
      some ((1 : Int32), v1.2))
  else
    some ((0 : Int32), v1.2))
abbrev rm_X8_isCounterclockwise : Room := { frames := 6, cells := 0, slots := 0, locals := 207 }
theorem k_X8_isCounterclockwise : g_CV yX8_isCounterclockwise cX8_isCounterclockwise 2 (some .boolean) 1 := ⟨⟨m_1810, m_14, by decide +kernel⟩, m_1808, m_1809⟩
set_option maxHeartbeats 4000000 in
set_option maxRecDepth 100000 in
theorem c_X8_isCounterclockwise (l : Launch) (V : Nat → Nat) (g : GH) (D : va_G) (cT : Nat → ClassId) (f : GH) (n : Nat) (a0 : Nat) (a1 : Int32) (o : Int32 × GH) (hq : p_X8_isCounterclockwise V g f a0 a1 = some o) : Met l yX8_isCounterclockwise (Cond.code yX8_isCounterclockwise cX8_isCounterclockwise 2 (some .boolean) :: g_B) rm_X8_isCounterclockwise (va_Pc [.ref a0, .int a1] (g_I V g D cT f n)) (g_Wi V D cT o.1 o.2 n) 0 0 (g_A V) := by
  refine g_begin (own := RX8) [.ref a0, .int a1] [(0, .ref a0), (1, .int a1)] (g_A V) (fun _ h => h) (by decide) rfl (Nat.le_of_ble_eq_true rfl) rfl ?_
  intro p e s m args below meth c hx hb hr hlocks hin hC hI ls hl
  obtain ⟨hx, hb, hml, hown, hB⟩ := id hC
  obtain ⟨H, hH⟩ : ∃ H, H = s.heap := ⟨_, rfl⟩
  obtain ⟨locs, hlocs⟩ : ∃ L : List Loc, L = [] := ⟨_, rfl⟩
  rw [← hH, ← hlocs] at hI ⊢
  clear hH hlocs
  unfold p_X8_isCounterclockwise at hq
  replace hq := (h_me_eq hq).2
  refine lv_aload_n hx hb dX8_isCounterclockwise_0 rfl (lv_at hl 0 rfl) ?_
  refine lv_iload_n hx hb dX8_isCounterclockwise_1 rfl (lv_at hl 1 rfl) ?_
  obtain ⟨v1, ev1, hq⟩ := b_s hq
  refine gw_i (g_runV (As := [.int a1]) (rest := []) (ci := 10) hC (c_X8_lacksIsland l V g D cT f n a0 a1 v1 ev1) k_X8_lacksIsland m_1795 rfl rfl ⟨Nat.le_of_ble_eq_true rfl, Nat.le_of_ble_eq_true rfl⟩ hI rfl rfl (h_me_eq ev1).1 rfl hl.1 rfl (Nat.le_of_ble_eq_true rfl) dX8_isCounterclockwise_2 ⟨by decide, by decide⟩) hI (fun H locs hI => ?_)
  refine lv_if_ne (tgt := 20) hx hb dX8_isCounterclockwise_5 (by decide) (fun c2 => ?_) (fun c2 => ?_)
  · replace hq := i_f c2 hq
    refine lv_iconst (v := (0 : Int32)) hx hb dX8_isCounterclockwise_20 (by decide) ?_
    exact ge_Wi hx hb hlocks hr (by decide +kernel) hI (congrArg (fun z => z.1) (Option.some.inj hq)) (congrArg (fun z => z.2) (Option.some.inj hq)) dX8_isCounterclockwise_21
  · replace hq := i_t c2 hq
    refine lv_aload_n hx hb dX8_isCounterclockwise_8 rfl (lv_at hl 0 rfl) ?_
    refine lv_iload_n hx hb dX8_isCounterclockwise_9 rfl (lv_at hl 1 rfl) ?_
    obtain ⟨v3, ev3, hq⟩ := b_s hq
    refine gr_i (g_runV (As := [.int a1]) (rest := []) (ci := 10) hC (c_X8_signedArea l V g D cT v1.2 n a0 a1 v3 ev3) k_X8_signedArea m_1799 rfl rfl ⟨Nat.le_of_ble_eq_true rfl, Nat.le_of_ble_eq_true rfl⟩ hI rfl rfl (h_me_eq ev3).1 rfl hl.1 rfl (Nat.le_of_ble_eq_true rfl) dX8_isCounterclockwise_10 ⟨by decide, by decide⟩) hI (fun H locs hI => ?_)
    refine lv_if_le (tgt := 20) hx hb dX8_isCounterclockwise_13 (by decide) (fun c4 => ?_) (fun c4 => ?_)
    · replace hq := i_t c4 hq
      refine lv_iconst (v := (0 : Int32)) hx hb dX8_isCounterclockwise_20 (by decide) ?_
      exact ge_Wi hx hb hlocks hr (by decide +kernel) hI (congrArg (fun z => z.1) (Option.some.inj hq)) (congrArg (fun z => z.2) (Option.some.inj hq)) dX8_isCounterclockwise_21
    · replace hq := i_f c4 hq
      refine lv_iconst (v := (1 : Int32)) hx hb dX8_isCounterclockwise_16 (by decide) ?_
      refine lv_goto (tgt := 21) hx hb dX8_isCounterclockwise_17 (by decide) ?_
      exact ge_Wi hx hb hlocks hr (by decide +kernel) hI (congrArg (fun z => z.1) (Option.some.inj hq)) (congrArg (fun z => z.2) (Option.some.inj hq)) dX8_isCounterclockwise_21

def p_X8_isBetween (V : Nat → Nat) (g f : GH) (a0 : Int32) (a1 : Int32) (a2 : Int32) : Option Int32 :=
  (p_X8_least V g f a1 a2).bind fun v1 =>
  (if a0 < v1 then
    some (0 : Int32)
  else
    (p_X8_least V g f a1 a2).bind fun v3 =>
    (if ((a1 + a2) - v3) < a0 then
      some (0 : Int32)
    else
      some (1 : Int32)))
abbrev rm_X8_isBetween : Room := { frames := 3, cells := 0, slots := 0, locals := 141 }
theorem k_X8_isBetween : g_CS yX8_isBetween cX8_isBetween 3 (some .boolean) 3 := ⟨⟨m_1825, m_14, by decide +kernel⟩, m_1824⟩
set_option maxHeartbeats 4000000 in
set_option maxRecDepth 100000 in
theorem c_X8_isBetween (l : Launch) (V : Nat → Nat) (g : GH) (D : va_G) (cT : Nat → ClassId) (f : GH) (n : Nat) (a0 : Int32) (a1 : Int32) (a2 : Int32) (o : Int32) (hq : p_X8_isBetween V g f a0 a1 a2 = some o) : Met l yX8_isBetween (Cond.code yX8_isBetween cX8_isBetween 3 (some .boolean) :: g_B) rm_X8_isBetween (va_Pc [.int a0, .int a1, .int a2] (g_I V g D cT f n)) (g_Ri o n) 0 0 g_no := by
  refine g_begin (own := RX8) [.int a0, .int a1, .int a2] [(0, .int a0), (1, .int a1), (2, .int a2)] g_no (fun _ h => h.elim) (by decide) rfl (Nat.le_of_ble_eq_true rfl) rfl ?_
  intro p e s m args below meth c hx hb hr hlocks hin hC hI ls hl
  obtain ⟨hx, hb, hml, hown, hB⟩ := id hC
  obtain ⟨H, hH⟩ : ∃ H, H = s.heap := ⟨_, rfl⟩
  obtain ⟨locs, hlocs⟩ : ∃ L : List Loc, L = [] := ⟨_, rfl⟩
  rw [← hH, ← hlocs] at hI ⊢
  clear hH hlocs
  unfold p_X8_isBetween at hq
  refine lv_iload_n hx hb dX8_isBetween_0 rfl (lv_at hl 0 rfl) ?_
  refine lv_iload_n hx hb dX8_isBetween_1 rfl (lv_at hl 1 rfl) ?_
  refine lv_iload_n hx hb dX8_isBetween_2 rfl (lv_at hl 2 rfl) ?_
  obtain ⟨v1, ev1, hq⟩ := b_s hq
  refine gr_i (g_runS (As := [.int a1, .int a2]) (rest := [.int a0]) hC (c_X8_least l V g D cT f n a1 a2 v1 ev1) k_X8_least m_1826 rfl rfl ⟨Nat.le_of_ble_eq_true rfl, Nat.le_of_ble_eq_true rfl⟩ hI rfl hl.1 rfl (Nat.le_of_ble_eq_true rfl) dX8_isBetween_3 ⟨by decide, by decide⟩) hI (fun H locs hI => ?_)
  refine lv_icmp_lt (tgt := 26) hx hb dX8_isBetween_6 (by decide) (fun c2 => ?_) (fun c2 => ?_)
  · replace hq := i_t c2 hq
    refine lv_iconst (v := (0 : Int32)) hx hb dX8_isBetween_26 (by decide) ?_
    exact ge_Ri hx hb hlocks hr (by decide +kernel) hI hq dX8_isBetween_27
  · replace hq := i_f c2 hq
    refine lv_iload_n hx hb dX8_isBetween_9 rfl (lv_at hl 0 rfl) ?_
    refine lv_iload_n hx hb dX8_isBetween_10 rfl (lv_at hl 1 rfl) ?_
    refine lv_iload_n hx hb dX8_isBetween_11 rfl (lv_at hl 2 rfl) ?_
    refine lv_iadd hx hb dX8_isBetween_12 ?_
    refine lv_iload_n hx hb dX8_isBetween_13 rfl (lv_at hl 1 rfl) ?_
    refine lv_iload_n hx hb dX8_isBetween_14 rfl (lv_at hl 2 rfl) ?_
    obtain ⟨v3, ev3, hq⟩ := b_s hq
    refine gr_i (g_runS (As := [.int a1, .int a2]) (rest := [.int (a1 + a2), .int a0]) hC (c_X8_least l V g D cT f n a1 a2 v3 ev3) k_X8_least m_1826 rfl rfl ⟨Nat.le_of_ble_eq_true rfl, Nat.le_of_ble_eq_true rfl⟩ hI rfl hl.1 rfl (Nat.le_of_ble_eq_true rfl) dX8_isBetween_15 ⟨by decide, by decide⟩) hI (fun H locs hI => ?_)
    refine lv_isub hx hb dX8_isBetween_18 ?_
    refine lv_icmp_gt (tgt := 26) hx hb dX8_isBetween_19 (by decide) (fun c4 => ?_) (fun c4 => ?_)
    · replace hq := i_t c4 hq
      refine lv_iconst (v := (0 : Int32)) hx hb dX8_isBetween_26 (by decide) ?_
      exact ge_Ri hx hb hlocks hr (by decide +kernel) hI hq dX8_isBetween_27
    · replace hq := i_f c4 hq
      refine lv_iconst (v := (1 : Int32)) hx hb dX8_isBetween_22 (by decide) ?_
      refine lv_goto (tgt := 27) hx hb dX8_isBetween_23 (by decide) ?_
      exact ge_Ri hx hb hlocks hr (by decide +kernel) hI hq dX8_isBetween_27

def p_X8_turn (V : Nat → Nat) (g f : GH) (a0 : Nat) (a1 : Int32) (a2 : Int32) (a3 : Int32) (a4 : Int32) : Option Int32 :=
  h_me f a0 10 <|
  (p_X8_next V g f a0 a1 a2).bind fun v1 =>
  (p_X8_x V g f a0 a1 v1).bind fun v2 =>
  (p_X8_x V g f a0 a1 a2).bind fun v3 =>
  (p_X8_y V g f a0 a1 v1).bind fun v4 =>
  (p_X8_y V g f a0 a1 a2).bind fun v5 =>
  (p_X8_y V g f a0 a1 a2).bind fun v6 =>
  (p_X8_x V g f a0 a1 a2).bind fun v7 =>
  some (((v2 - v3) * (a4 - v6)) - ((v4 - v5) * (a3 - v7)))
abbrev rm_X8_turn : Room := { frames := 5, cells := 0, slots := 0, locals := 183 }
theorem k_X8_turn : g_CV yX8_turn cX8_turn 8 (some .int) 4 := ⟨⟨m_1832, m_14, by decide +kernel⟩, m_1831, ms_47⟩
set_option maxHeartbeats 4000000 in
set_option maxRecDepth 100000 in
theorem c_X8_turn (l : Launch) (V : Nat → Nat) (g : GH) (D : va_G) (cT : Nat → ClassId) (f : GH) (n : Nat) (a0 : Nat) (a1 : Int32) (a2 : Int32) (a3 : Int32) (a4 : Int32) (o : Int32) (hq : p_X8_turn V g f a0 a1 a2 a3 a4 = some o) : Met l yX8_turn (Cond.code yX8_turn cX8_turn 8 (some .int) :: g_B) rm_X8_turn (va_Pc [.ref a0, .int a1, .int a2, .int a3, .int a4] (g_I V g D cT f n)) (g_Ri o n) 0 0 g_no := by
  refine g_begin (own := RX8) [.ref a0, .int a1, .int a2, .int a3, .int a4] [(0, .ref a0), (1, .int a1), (2, .int a2), (3, .int a3), (4, .int a4)] g_no (fun _ h => h.elim) (by decide) rfl (Nat.le_of_ble_eq_true rfl) rfl ?_
  intro p e s m args below meth c hx hb hr hlocks hin hC hI ls hl
  obtain ⟨hx, hb, hml, hown, hB⟩ := id hC
  obtain ⟨H, hH⟩ : ∃ H, H = s.heap := ⟨_, rfl⟩
  obtain ⟨locs, hlocs⟩ : ∃ L : List Loc, L = [] := ⟨_, rfl⟩
  rw [← hH, ← hlocs] at hI ⊢
  clear hH hlocs
  unfold p_X8_turn at hq
  replace hq := (h_me_eq hq).2
  refine lv_aload_n hx hb dX8_turn_0 rfl (lv_at hl 0 rfl) ?_
  refine lv_iload_n hx hb dX8_turn_1 rfl (lv_at hl 1 rfl) ?_
  refine lv_iload_n hx hb dX8_turn_2 rfl (lv_at hl 2 rfl) ?_
  obtain ⟨v1, ev1, hq⟩ := b_s hq
  refine gr_i (g_runV (As := [.int a1, .int a2]) (rest := []) (ci := 10) hC (c_X8_next l V g D cT f n a0 a1 a2 v1 ev1) k_X8_next m_1803 rfl rfl ⟨Nat.le_of_ble_eq_true rfl, Nat.le_of_ble_eq_true rfl⟩ hI rfl rfl (h_me_eq ev1).1 rfl hl.1 rfl (Nat.le_of_ble_eq_true rfl) dX8_turn_3 ⟨by decide, by decide⟩) hI (fun H locs hI => ?_)
  refine lv_istore (lv' := [(5, .int v1), (0, .ref a0), (1, .int a1), (2, .int a2), (3, .int a3), (4, .int a4)]) hx hb dX8_turn_6 hl (by decide) rfl (fun ls hl => ?_)
  refine lv_aload_n hx hb dX8_turn_8 rfl (lv_at hl 1 rfl) ?_
  refine lv_iload_n hx hb dX8_turn_9 rfl (lv_at hl 2 rfl) ?_
  refine lv_iload hx hb dX8_turn_10 (lv_at hl 0 rfl) ?_
  obtain ⟨v2, ev2, hq⟩ := b_s hq
  refine gr_i (g_runV (As := [.int a1, .int v1]) (rest := []) (ci := 10) hC (c_X8_x l V g D cT f n a0 a1 v1 v2 ev2) k_X8_x m_1657 rfl rfl ⟨Nat.le_of_ble_eq_true rfl, Nat.le_of_ble_eq_true rfl⟩ hI rfl rfl (h_me_eq ev2).1 rfl hl.1 rfl (Nat.le_of_ble_eq_true rfl) dX8_turn_12 ⟨by decide, by decide⟩) hI (fun H locs hI => ?_)
  refine lv_aload_n hx hb dX8_turn_15 rfl (lv_at hl 1 rfl) ?_
  refine lv_iload_n hx hb dX8_turn_16 rfl (lv_at hl 2 rfl) ?_
  refine lv_iload_n hx hb dX8_turn_17 rfl (lv_at hl 3 rfl) ?_
  obtain ⟨v3, ev3, hq⟩ := b_s hq
  refine gr_i (g_runV (As := [.int a1, .int a2]) (rest := [.int v2]) (ci := 10) hC (c_X8_x l V g D cT f n a0 a1 a2 v3 ev3) k_X8_x m_1657 rfl rfl ⟨Nat.le_of_ble_eq_true rfl, Nat.le_of_ble_eq_true rfl⟩ hI rfl rfl (h_me_eq ev3).1 rfl hl.1 rfl (Nat.le_of_ble_eq_true rfl) dX8_turn_18 ⟨by decide, by decide⟩) hI (fun H locs hI => ?_)
  refine lv_isub hx hb dX8_turn_21 ?_
  refine lv_istore (lv' := [(6, .int (v2 - v3)), (5, .int v1), (0, .ref a0), (1, .int a1), (2, .int a2), (3, .int a3), (4, .int a4)]) hx hb dX8_turn_22 hl (by decide) rfl (fun ls hl => ?_)
  refine lv_aload_n hx hb dX8_turn_24 rfl (lv_at hl 2 rfl) ?_
  refine lv_iload_n hx hb dX8_turn_25 rfl (lv_at hl 3 rfl) ?_
  refine lv_iload hx hb dX8_turn_26 (lv_at hl 1 rfl) ?_
  obtain ⟨v4, ev4, hq⟩ := b_s hq
  refine gr_i (g_runV (As := [.int a1, .int v1]) (rest := []) (ci := 10) hC (c_X8_y l V g D cT f n a0 a1 v1 v4 ev4) k_X8_y m_1665 rfl rfl ⟨Nat.le_of_ble_eq_true rfl, Nat.le_of_ble_eq_true rfl⟩ hI rfl rfl (h_me_eq ev4).1 rfl hl.1 rfl (Nat.le_of_ble_eq_true rfl) dX8_turn_28 ⟨by decide, by decide⟩) hI (fun H locs hI => ?_)
  refine lv_aload_n hx hb dX8_turn_31 rfl (lv_at hl 2 rfl) ?_
  refine lv_iload_n hx hb dX8_turn_32 rfl (lv_at hl 3 rfl) ?_
  refine lv_iload_n hx hb dX8_turn_33 rfl (lv_at hl 4 rfl) ?_
  obtain ⟨v5, ev5, hq⟩ := b_s hq
  refine gr_i (g_runV (As := [.int a1, .int a2]) (rest := [.int v4]) (ci := 10) hC (c_X8_y l V g D cT f n a0 a1 a2 v5 ev5) k_X8_y m_1665 rfl rfl ⟨Nat.le_of_ble_eq_true rfl, Nat.le_of_ble_eq_true rfl⟩ hI rfl rfl (h_me_eq ev5).1 rfl hl.1 rfl (Nat.le_of_ble_eq_true rfl) dX8_turn_34 ⟨by decide, by decide⟩) hI (fun H locs hI => ?_)
  refine lv_isub hx hb dX8_turn_37 ?_
  refine lv_istore (lv' := [(7, .int (v4 - v5)), (6, .int (v2 - v3)), (5, .int v1), (0, .ref a0), (1, .int a1), (2, .int a2), (3, .int a3), (4, .int a4)]) hx hb dX8_turn_38 hl (by decide) rfl (fun ls hl => ?_)
  refine lv_iload hx hb dX8_turn_40 (lv_at hl 1 rfl) ?_
  refine lv_iload hx hb dX8_turn_42 (lv_at hl 7 rfl) ?_
  refine lv_aload_n hx hb dX8_turn_44 rfl (lv_at hl 3 rfl) ?_
  refine lv_iload_n hx hb dX8_turn_45 rfl (lv_at hl 4 rfl) ?_
  refine lv_iload_n hx hb dX8_turn_46 rfl (lv_at hl 5 rfl) ?_
  obtain ⟨v6, ev6, hq⟩ := b_s hq
  refine gr_i (g_runV (As := [.int a1, .int a2]) (rest := [.int a4, .int (v2 - v3)]) (ci := 10) hC (c_X8_y l V g D cT f n a0 a1 a2 v6 ev6) k_X8_y m_1665 rfl rfl ⟨Nat.le_of_ble_eq_true rfl, Nat.le_of_ble_eq_true rfl⟩ hI rfl rfl (h_me_eq ev6).1 rfl hl.1 rfl (Nat.le_of_ble_eq_true rfl) dX8_turn_47 ⟨by decide, by decide⟩) hI (fun H locs hI => ?_)
  refine lv_isub hx hb dX8_turn_50 ?_
  refine lv_imul hx hb dX8_turn_51 ?_
  refine lv_iload hx hb dX8_turn_52 (lv_at hl 0 rfl) ?_
  refine lv_iload_n hx hb dX8_turn_54 rfl (lv_at hl 6 rfl) ?_
  refine lv_aload_n hx hb dX8_turn_55 rfl (lv_at hl 3 rfl) ?_
  refine lv_iload_n hx hb dX8_turn_56 rfl (lv_at hl 4 rfl) ?_
  refine lv_iload_n hx hb dX8_turn_57 rfl (lv_at hl 5 rfl) ?_
  obtain ⟨v7, ev7, hq⟩ := b_s hq
  refine gr_i (g_runV (As := [.int a1, .int a2]) (rest := [.int a3, .int (v4 - v5), .int ((v2 - v3) * (a4 - v6))]) (ci := 10) hC (c_X8_x l V g D cT f n a0 a1 a2 v7 ev7) k_X8_x m_1657 rfl rfl ⟨Nat.le_of_ble_eq_true rfl, Nat.le_of_ble_eq_true rfl⟩ hI rfl rfl (h_me_eq ev7).1 rfl hl.1 rfl (Nat.le_of_ble_eq_true rfl) dX8_turn_58 ⟨by decide, by decide⟩) hI (fun H locs hI => ?_)
  refine lv_isub hx hb dX8_turn_61 ?_
  refine lv_imul hx hb dX8_turn_62 ?_
  refine lv_isub hx hb dX8_turn_63 ?_
  exact ge_Ri hx hb hlocks hr rfl hI hq dX8_turn_64

def p_X8_isOn_j54 (V : Nat → Nat) (g f : GH) (x0 : Nat) (x1 : Int32) (x2 : Int32) (x3 : Int32) (x4 : Int32) (t0 : Int32) : Option Int32 :=
  (if t0 = (0 : Int32) then
    some (0 : Int32)
  else
    (p_X8_turn V g f x0 x1 x2 x3 x4).bind fun v6 =>
    (if v6 = (0 : Int32) then
      some (1 : Int32)
    else
      some (0 : Int32)))
def p_X8_isOn_j53 (V : Nat → Nat) (g f : GH) (K54 : Nat → Int32 → Int32 → Int32 → Int32 → Int32 → Option Int32) (x0 : Nat) (x1 : Int32) (x2 : Int32) (x3 : Int32) (x4 : Int32) : Option Int32 :=
  K54 x0 x1 x2 x3 x4 (0 : Int32)
def p_X8_isOn (V : Nat → Nat) (g f : GH) (a0 : Nat) (a1 : Int32) (a2 : Int32) (a3 : Int32) (a4 : Int32) : Option Int32 :=
  h_me f a0 10 <|
  (p_X8_next V g f a0 a1 a2).bind fun v1 =>
  (p_X8_x V g f a0 a1 a2).bind fun v2 =>
  (p_X8_x V g f a0 a1 v1).bind fun v3 =>
  (p_X8_isBetween V g f a3 v2 v3).bind fun v4 =>
  (if v4 = (0 : Int32) then
    p_X8_isOn_j53 V g f (p_X8_isOn_j54 V g f) a0 a1 a2 a3 a4
  else
    (p_X8_y V g f a0 a1 a2).bind fun v9 =>
    (p_X8_y V g f a0 a1 v1).bind fun v10 =>
    (p_X8_isBetween V g f a4 v9 v10).bind fun v11 =>
    (if v11 = (0 : Int32) then
      p_X8_isOn_j53 V g f (p_X8_isOn_j54 V g f) a0 a1 a2 a3 a4
    else
      p_X8_isOn_j54 V g f a0 a1 a2 a3 a4 (1 : Int32)))
abbrev rm_X8_isOn : Room := { frames := 6, cells := 0, slots := 0, locals := 210 }
theorem k_X8_isOn : g_CV yX8_isOn cX8_isOn 7 (some .boolean) 4 := ⟨⟨m_1822, m_14, by decide +kernel⟩, m_1821, ms_46⟩
set_option maxHeartbeats 4000000 in
set_option maxRecDepth 100000 in
theorem c_X8_isOn (l : Launch) (V : Nat → Nat) (g : GH) (D : va_G) (cT : Nat → ClassId) (f : GH) (n : Nat) (a0 : Nat) (a1 : Int32) (a2 : Int32) (a3 : Int32) (a4 : Int32) (o : Int32) (hq : p_X8_isOn V g f a0 a1 a2 a3 a4 = some o) : Met l yX8_isOn (Cond.code yX8_isOn cX8_isOn 7 (some .boolean) :: g_B) rm_X8_isOn (va_Pc [.ref a0, .int a1, .int a2, .int a3, .int a4] (g_I V g D cT f n)) (g_Ri o n) 0 0 g_no := by
  refine g_begin (own := RX8) [.ref a0, .int a1, .int a2, .int a3, .int a4] [(0, .ref a0), (1, .int a1), (2, .int a2), (3, .int a3), (4, .int a4)] g_no (fun _ h => h.elim) (by decide) rfl (Nat.le_of_ble_eq_true rfl) rfl ?_
  intro p e s m args below meth c hx hb hr hlocks hin hC hI ls hl
  obtain ⟨hx, hb, hml, hown, hB⟩ := id hC
  obtain ⟨H, hH⟩ : ∃ H, H = s.heap := ⟨_, rfl⟩
  obtain ⟨locs, hlocs⟩ : ∃ L : List Loc, L = [] := ⟨_, rfl⟩
  rw [← hH, ← hlocs] at hI ⊢
  clear hH hlocs
  unfold p_X8_isOn at hq
  replace hq := (h_me_eq hq).2
  refine lv_aload_n hx hb dX8_isOn_0 rfl (lv_at hl 0 rfl) ?_
  refine lv_iload_n hx hb dX8_isOn_1 rfl (lv_at hl 1 rfl) ?_
  refine lv_iload_n hx hb dX8_isOn_2 rfl (lv_at hl 2 rfl) ?_
  obtain ⟨v1, ev1, hq⟩ := b_s hq
  refine gr_i (g_runV (As := [.int a1, .int a2]) (rest := []) (ci := 10) hC (c_X8_next l V g D cT f n a0 a1 a2 v1 ev1) k_X8_next m_1803 rfl rfl ⟨Nat.le_of_ble_eq_true rfl, Nat.le_of_ble_eq_true rfl⟩ hI rfl rfl (h_me_eq ev1).1 rfl hl.1 rfl (Nat.le_of_ble_eq_true rfl) dX8_isOn_3 ⟨by decide, by decide⟩) hI (fun H locs hI => ?_)
  refine lv_istore (lv' := [(5, .int v1), (0, .ref a0), (1, .int a1), (2, .int a2), (3, .int a3), (4, .int a4)]) hx hb dX8_isOn_6 hl (by decide) rfl (fun ls hl => ?_)
  refine lv_iload_n hx hb dX8_isOn_8 rfl (lv_at hl 4 rfl) ?_
  refine lv_aload_n hx hb dX8_isOn_9 rfl (lv_at hl 1 rfl) ?_
  refine lv_iload_n hx hb dX8_isOn_10 rfl (lv_at hl 2 rfl) ?_
  refine lv_iload_n hx hb dX8_isOn_11 rfl (lv_at hl 3 rfl) ?_
  obtain ⟨v2, ev2, hq⟩ := b_s hq
  refine gr_i (g_runV (As := [.int a1, .int a2]) (rest := [.int a3]) (ci := 10) hC (c_X8_x l V g D cT f n a0 a1 a2 v2 ev2) k_X8_x m_1657 rfl rfl ⟨Nat.le_of_ble_eq_true rfl, Nat.le_of_ble_eq_true rfl⟩ hI rfl rfl (h_me_eq ev2).1 rfl hl.1 rfl (Nat.le_of_ble_eq_true rfl) dX8_isOn_12 ⟨by decide, by decide⟩) hI (fun H locs hI => ?_)
  refine lv_aload_n hx hb dX8_isOn_15 rfl (lv_at hl 1 rfl) ?_
  refine lv_iload_n hx hb dX8_isOn_16 rfl (lv_at hl 2 rfl) ?_
  refine lv_iload hx hb dX8_isOn_17 (lv_at hl 0 rfl) ?_
  obtain ⟨v3, ev3, hq⟩ := b_s hq
  refine gr_i (g_runV (As := [.int a1, .int v1]) (rest := [.int v2, .int a3]) (ci := 10) hC (c_X8_x l V g D cT f n a0 a1 v1 v3 ev3) k_X8_x m_1657 rfl rfl ⟨Nat.le_of_ble_eq_true rfl, Nat.le_of_ble_eq_true rfl⟩ hI rfl rfl (h_me_eq ev3).1 rfl hl.1 rfl (Nat.le_of_ble_eq_true rfl) dX8_isOn_19 ⟨by decide, by decide⟩) hI (fun H locs hI => ?_)
  obtain ⟨v4, ev4, hq⟩ := b_s hq
  refine gr_i (g_runS (As := [.int a3, .int v2, .int v3]) (rest := []) hC (c_X8_isBetween l V g D cT f n a3 v2 v3 v4 ev4) k_X8_isBetween m_1823 rfl rfl ⟨Nat.le_of_ble_eq_true rfl, Nat.le_of_ble_eq_true rfl⟩ hI rfl hl.1 rfl (Nat.le_of_ble_eq_true rfl) dX8_isOn_22 ⟨by decide, by decide⟩) hI (fun H locs hI => ?_)
  have hj54 : ∀ (x0 : Nat) (x1 : Int32) (x2 : Int32) (x3 : Int32) (x4 : Int32) (t0 : Int32) (H : Heap) (locs : List Loc) (ls : Array Slot), g_at g_no V g D cT f n s H locs → lv_has ls 7 [(0, .ref x0), (1, .int x1), (2, .int x2), (3, .int x3), (4, .int x4)] → p_X8_isOn_j54 V g f x0 x1 x2 x3 x4 t0 = some o → W p l e rm_X8_isOn s m args below meth c H locs 0 0 (MQ below (g_Ri o n) args s 0 0 g_no) (F0 m 54 ls [.int t0]) := by
    intro x0 x1 x2 x3 x4 t0 H locs ls hI hl hq
    unfold p_X8_isOn_j54 at hq
    refine lv_istore (lv' := [(6, .int t0), (0, .ref x0), (1, .int x1), (2, .int x2), (3, .int x3), (4, .int x4)]) hx hb dX8_isOn_54 hl (by decide) rfl (fun ls hl => ?_)
    refine lv_iload hx hb dX8_isOn_56 (lv_at hl 0 rfl) ?_
    refine lv_if_eq (tgt := 77) hx hb dX8_isOn_58 (by decide) (fun c5 => ?_) (fun c5 => ?_)
    · replace hq := i_t c5 hq
      refine lv_iconst (v := (0 : Int32)) hx hb dX8_isOn_77 (by decide) ?_
      exact ge_Ri hx hb hlocks hr (by decide +kernel) hI hq dX8_isOn_78
    · replace hq := i_f c5 hq
      refine lv_aload_n hx hb dX8_isOn_61 rfl (lv_at hl 1 rfl) ?_
      refine lv_iload_n hx hb dX8_isOn_62 rfl (lv_at hl 2 rfl) ?_
      refine lv_iload_n hx hb dX8_isOn_63 rfl (lv_at hl 3 rfl) ?_
      refine lv_iload_n hx hb dX8_isOn_64 rfl (lv_at hl 4 rfl) ?_
      refine lv_iload hx hb dX8_isOn_65 (lv_at hl 5 rfl) ?_
      obtain ⟨v6, ev6, hq⟩ := b_s hq
      refine gr_i (g_runV (As := [.int x1, .int x2, .int x3, .int x4]) (rest := []) (ci := 10) hC (c_X8_turn l V g D cT f n x0 x1 x2 x3 x4 v6 ev6) k_X8_turn m_1829 rfl rfl ⟨Nat.le_of_ble_eq_true rfl, Nat.le_of_ble_eq_true rfl⟩ hI rfl rfl (h_me_eq ev6).1 rfl hl.1 rfl (Nat.le_of_ble_eq_true rfl) dX8_isOn_67 ⟨by decide, by decide⟩) hI (fun H locs hI => ?_)
      refine lv_if_ne (tgt := 77) hx hb dX8_isOn_70 (by decide) (fun c7 => ?_) (fun c7 => ?_)
      · replace hq := i_f c7 hq
        refine lv_iconst (v := (0 : Int32)) hx hb dX8_isOn_77 (by decide) ?_
        exact ge_Ri hx hb hlocks hr (by decide +kernel) hI hq dX8_isOn_78
      · replace hq := i_t c7 hq
        refine lv_iconst (v := (1 : Int32)) hx hb dX8_isOn_73 (by decide) ?_
        refine lv_goto (tgt := 78) hx hb dX8_isOn_74 (by decide) ?_
        exact ge_Ri hx hb hlocks hr (by decide +kernel) hI hq dX8_isOn_78
  have hj53 : ∀ (x0 : Nat) (x1 : Int32) (x2 : Int32) (x3 : Int32) (x4 : Int32) (H : Heap) (locs : List Loc) (ls : Array Slot), g_at g_no V g D cT f n s H locs → lv_has ls 7 [(0, .ref x0), (1, .int x1), (2, .int x2), (3, .int x3), (4, .int x4)] → p_X8_isOn_j53 V g f (p_X8_isOn_j54 V g f) x0 x1 x2 x3 x4 = some o → W p l e rm_X8_isOn s m args below meth c H locs 0 0 (MQ below (g_Ri o n) args s 0 0 g_no) (F0 m 53 ls []) := by
    intro x0 x1 x2 x3 x4 H locs ls hI hl hq
    unfold p_X8_isOn_j53 at hq
    refine lv_iconst (v := (0 : Int32)) hx hb dX8_isOn_53 (by decide) ?_
    exact hj54 x0 x1 x2 x3 x4 (0 : Int32) H locs ls hI (lv_sub hl [0, 1, 2, 3, 4] rfl) hq
  refine lv_if_eq (tgt := 53) hx hb dX8_isOn_25 (by decide) (fun c8 => ?_) (fun c8 => ?_)
  · replace hq := i_t c8 hq
    exact hj53 a0 a1 a2 a3 a4 H locs ls hI (lv_sub hl [1, 2, 3, 4, 5] rfl) hq
  · replace hq := i_f c8 hq
    refine lv_iload hx hb dX8_isOn_28 (lv_at hl 5 rfl) ?_
    refine lv_aload_n hx hb dX8_isOn_30 rfl (lv_at hl 1 rfl) ?_
    refine lv_iload_n hx hb dX8_isOn_31 rfl (lv_at hl 2 rfl) ?_
    refine lv_iload_n hx hb dX8_isOn_32 rfl (lv_at hl 3 rfl) ?_
    obtain ⟨v9, ev9, hq⟩ := b_s hq
    refine gr_i (g_runV (As := [.int a1, .int a2]) (rest := [.int a4]) (ci := 10) hC (c_X8_y l V g D cT f n a0 a1 a2 v9 ev9) k_X8_y m_1665 rfl rfl ⟨Nat.le_of_ble_eq_true rfl, Nat.le_of_ble_eq_true rfl⟩ hI rfl rfl (h_me_eq ev9).1 rfl hl.1 rfl (Nat.le_of_ble_eq_true rfl) dX8_isOn_33 ⟨by decide, by decide⟩) hI (fun H locs hI => ?_)
    refine lv_aload_n hx hb dX8_isOn_36 rfl (lv_at hl 1 rfl) ?_
    refine lv_iload_n hx hb dX8_isOn_37 rfl (lv_at hl 2 rfl) ?_
    refine lv_iload hx hb dX8_isOn_38 (lv_at hl 0 rfl) ?_
    obtain ⟨v10, ev10, hq⟩ := b_s hq
    refine gr_i (g_runV (As := [.int a1, .int v1]) (rest := [.int v9, .int a4]) (ci := 10) hC (c_X8_y l V g D cT f n a0 a1 v1 v10 ev10) k_X8_y m_1665 rfl rfl ⟨Nat.le_of_ble_eq_true rfl, Nat.le_of_ble_eq_true rfl⟩ hI rfl rfl (h_me_eq ev10).1 rfl hl.1 rfl (Nat.le_of_ble_eq_true rfl) dX8_isOn_40 ⟨by decide, by decide⟩) hI (fun H locs hI => ?_)
    obtain ⟨v11, ev11, hq⟩ := b_s hq
    refine gr_i (g_runS (As := [.int a4, .int v9, .int v10]) (rest := []) hC (c_X8_isBetween l V g D cT f n a4 v9 v10 v11 ev11) k_X8_isBetween m_1823 rfl rfl ⟨Nat.le_of_ble_eq_true rfl, Nat.le_of_ble_eq_true rfl⟩ hI rfl hl.1 rfl (Nat.le_of_ble_eq_true rfl) dX8_isOn_43 ⟨by decide, by decide⟩) hI (fun H locs hI => ?_)
    refine lv_if_eq (tgt := 53) hx hb dX8_isOn_46 (by decide) (fun c12 => ?_) (fun c12 => ?_)
    · replace hq := i_t c12 hq
      exact hj53 a0 a1 a2 a3 a4 H locs ls hI (lv_sub hl [1, 2, 3, 4, 5] rfl) hq
    · replace hq := i_f c12 hq
      refine lv_iconst (v := (1 : Int32)) hx hb dX8_isOn_49 (by decide) ?_
      refine lv_goto (tgt := 54) hx hb dX8_isOn_50 (by decide) ?_
      exact hj54 a0 a1 a2 a3 a4 (1 : Int32) H locs ls hI (lv_sub hl [1, 2, 3, 4, 5] rfl) hq

def p_X8_isCrossed_j39 (V : Nat → Nat) (g f : GH) (x0 : Nat) (x1 : Int32) (x2 : Int32) (x3 : Int32) (x4 : Int32) (x5 : Int32) (t0 : Int32) : Option Int32 :=
  (p_X8_turn V g f x0 x1 x2 x3 x4).bind fun v4 =>
  (if x5 = t0 then
    some (0 : Int32)
  else
    (if t0 = (0 : Int32) then
      (if (0 : Int32) ≤ v4 then
        some (0 : Int32)
      else
        some (1 : Int32))
    else
      (if v4 ≤ (0 : Int32) then
        some (0 : Int32)
      else
        some (1 : Int32))))
def p_X8_isCrossed_j16 (V : Nat → Nat) (g f : GH) (x0 : Nat) (x1 : Int32) (x2 : Int32) (x3 : Int32) (x4 : Int32) (t0 : Int32) : Option Int32 :=
  (p_X8_next V g f x0 x1 x2).bind fun v2 =>
  (p_X8_y V g f x0 x1 v2).bind fun v3 =>
  (if v3 ≤ x4 then
    p_X8_isCrossed_j39 V g f x0 x1 x2 x3 x4 t0 (0 : Int32)
  else
    p_X8_isCrossed_j39 V g f x0 x1 x2 x3 x4 t0 (1 : Int32))
def p_X8_isCrossed (V : Nat → Nat) (g f : GH) (a0 : Nat) (a1 : Int32) (a2 : Int32) (a3 : Int32) (a4 : Int32) : Option Int32 :=
  h_me f a0 10 <|
  (p_X8_y V g f a0 a1 a2).bind fun v1 =>
  (if v1 ≤ a4 then
    p_X8_isCrossed_j16 V g f a0 a1 a2 a3 a4 (0 : Int32)
  else
    p_X8_isCrossed_j16 V g f a0 a1 a2 a3 a4 (1 : Int32))
abbrev rm_X8_isCrossed : Room := { frames := 6, cells := 0, slots := 0, locals := 210 }
theorem k_X8_isCrossed : g_CV yX8_isCrossed cX8_isCrossed 8 (some .boolean) 4 := ⟨⟨m_1836, m_14, by decide +kernel⟩, m_1835, ms_48⟩
set_option maxHeartbeats 4000000 in
set_option maxRecDepth 100000 in
theorem c_X8_isCrossed (l : Launch) (V : Nat → Nat) (g : GH) (D : va_G) (cT : Nat → ClassId) (f : GH) (n : Nat) (a0 : Nat) (a1 : Int32) (a2 : Int32) (a3 : Int32) (a4 : Int32) (o : Int32) (hq : p_X8_isCrossed V g f a0 a1 a2 a3 a4 = some o) : Met l yX8_isCrossed (Cond.code yX8_isCrossed cX8_isCrossed 8 (some .boolean) :: g_B) rm_X8_isCrossed (va_Pc [.ref a0, .int a1, .int a2, .int a3, .int a4] (g_I V g D cT f n)) (g_Ri o n) 0 0 g_no := by
  refine g_begin (own := RX8) [.ref a0, .int a1, .int a2, .int a3, .int a4] [(0, .ref a0), (1, .int a1), (2, .int a2), (3, .int a3), (4, .int a4)] g_no (fun _ h => h.elim) (by decide) rfl (Nat.le_of_ble_eq_true rfl) rfl ?_
  intro p e s m args below meth c hx hb hr hlocks hin hC hI ls hl
  obtain ⟨hx, hb, hml, hown, hB⟩ := id hC
  obtain ⟨H, hH⟩ : ∃ H, H = s.heap := ⟨_, rfl⟩
  obtain ⟨locs, hlocs⟩ : ∃ L : List Loc, L = [] := ⟨_, rfl⟩
  rw [← hH, ← hlocs] at hI ⊢
  clear hH hlocs
  unfold p_X8_isCrossed at hq
  replace hq := (h_me_eq hq).2
  refine lv_aload_n hx hb dX8_isCrossed_0 rfl (lv_at hl 0 rfl) ?_
  refine lv_iload_n hx hb dX8_isCrossed_1 rfl (lv_at hl 1 rfl) ?_
  refine lv_iload_n hx hb dX8_isCrossed_2 rfl (lv_at hl 2 rfl) ?_
  obtain ⟨v1, ev1, hq⟩ := b_s hq
  refine gr_i (g_runV (As := [.int a1, .int a2]) (rest := []) (ci := 10) hC (c_X8_y l V g D cT f n a0 a1 a2 v1 ev1) k_X8_y m_1665 rfl rfl ⟨Nat.le_of_ble_eq_true rfl, Nat.le_of_ble_eq_true rfl⟩ hI rfl rfl (h_me_eq ev1).1 rfl hl.1 rfl (Nat.le_of_ble_eq_true rfl) dX8_isCrossed_3 ⟨by decide, by decide⟩) hI (fun H locs hI => ?_)
  refine lv_iload hx hb dX8_isCrossed_6 (lv_at hl 4 rfl) ?_
  have hj16 : ∀ (x0 : Nat) (x1 : Int32) (x2 : Int32) (x3 : Int32) (x4 : Int32) (t0 : Int32) (H : Heap) (locs : List Loc) (ls : Array Slot), g_at g_no V g D cT f n s H locs → lv_has ls 8 [(0, .ref x0), (1, .int x1), (2, .int x2), (3, .int x3), (4, .int x4)] → p_X8_isCrossed_j16 V g f x0 x1 x2 x3 x4 t0 = some o → W p l e rm_X8_isCrossed s m args below meth c H locs 0 0 (MQ below (g_Ri o n) args s 0 0 g_no) (F0 m 16 ls [.int t0]) := by
    intro x0 x1 x2 x3 x4 t0 H locs ls hI hl hq
    unfold p_X8_isCrossed_j16 at hq
    refine lv_istore (lv' := [(5, .int t0), (0, .ref x0), (1, .int x1), (2, .int x2), (3, .int x3), (4, .int x4)]) hx hb dX8_isCrossed_16 hl (by decide) rfl (fun ls hl => ?_)
    refine lv_aload_n hx hb dX8_isCrossed_18 rfl (lv_at hl 1 rfl) ?_
    refine lv_iload_n hx hb dX8_isCrossed_19 rfl (lv_at hl 2 rfl) ?_
    refine lv_aload_n hx hb dX8_isCrossed_20 rfl (lv_at hl 1 rfl) ?_
    refine lv_iload_n hx hb dX8_isCrossed_21 rfl (lv_at hl 2 rfl) ?_
    refine lv_iload_n hx hb dX8_isCrossed_22 rfl (lv_at hl 3 rfl) ?_
    obtain ⟨v2, ev2, hq⟩ := b_s hq
    refine gr_i (g_runV (As := [.int x1, .int x2]) (rest := [.int x1, .ref x0]) (ci := 10) hC (c_X8_next l V g D cT f n x0 x1 x2 v2 ev2) k_X8_next m_1803 rfl rfl ⟨Nat.le_of_ble_eq_true rfl, Nat.le_of_ble_eq_true rfl⟩ hI rfl rfl (h_me_eq ev2).1 rfl hl.1 rfl (Nat.le_of_ble_eq_true rfl) dX8_isCrossed_23 ⟨by decide, by decide⟩) hI (fun H locs hI => ?_)
    obtain ⟨v3, ev3, hq⟩ := b_s hq
    refine gr_i (g_runV (As := [.int x1, .int v2]) (rest := []) (ci := 10) hC (c_X8_y l V g D cT f n x0 x1 v2 v3 ev3) k_X8_y m_1665 rfl rfl ⟨Nat.le_of_ble_eq_true rfl, Nat.le_of_ble_eq_true rfl⟩ hI rfl rfl (h_me_eq ev3).1 rfl hl.1 rfl (Nat.le_of_ble_eq_true rfl) dX8_isCrossed_26 ⟨by decide, by decide⟩) hI (fun H locs hI => ?_)
    refine lv_iload hx hb dX8_isCrossed_29 (lv_at hl 5 rfl) ?_
    have hj39 : ∀ (x0 : Nat) (x1 : Int32) (x2 : Int32) (x3 : Int32) (x4 : Int32) (x5 : Int32) (t0 : Int32) (H : Heap) (locs : List Loc) (ls : Array Slot), g_at g_no V g D cT f n s H locs → lv_has ls 8 [(0, .ref x0), (1, .int x1), (2, .int x2), (3, .int x3), (4, .int x4), (5, .int x5)] → p_X8_isCrossed_j39 V g f x0 x1 x2 x3 x4 x5 t0 = some o → W p l e rm_X8_isCrossed s m args below meth c H locs 0 0 (MQ below (g_Ri o n) args s 0 0 g_no) (F0 m 39 ls [.int t0]) := by
      intro x0 x1 x2 x3 x4 x5 t0 H locs ls hI hl hq
      unfold p_X8_isCrossed_j39 at hq
      refine lv_istore (lv' := [(6, .int t0), (0, .ref x0), (1, .int x1), (2, .int x2), (3, .int x3), (4, .int x4), (5, .int x5)]) hx hb dX8_isCrossed_39 hl (by decide) rfl (fun ls hl => ?_)
      refine lv_aload_n hx hb dX8_isCrossed_41 rfl (lv_at hl 1 rfl) ?_
      refine lv_iload_n hx hb dX8_isCrossed_42 rfl (lv_at hl 2 rfl) ?_
      refine lv_iload_n hx hb dX8_isCrossed_43 rfl (lv_at hl 3 rfl) ?_
      refine lv_iload_n hx hb dX8_isCrossed_44 rfl (lv_at hl 4 rfl) ?_
      refine lv_iload hx hb dX8_isCrossed_45 (lv_at hl 5 rfl) ?_
      obtain ⟨v4, ev4, hq⟩ := b_s hq
      refine gr_i (g_runV (As := [.int x1, .int x2, .int x3, .int x4]) (rest := []) (ci := 10) hC (c_X8_turn l V g D cT f n x0 x1 x2 x3 x4 v4 ev4) k_X8_turn m_1829 rfl rfl ⟨Nat.le_of_ble_eq_true rfl, Nat.le_of_ble_eq_true rfl⟩ hI rfl rfl (h_me_eq ev4).1 rfl hl.1 rfl (Nat.le_of_ble_eq_true rfl) dX8_isCrossed_47 ⟨by decide, by decide⟩) hI (fun H locs hI => ?_)
      refine lv_istore (lv' := [(7, .int v4), (6, .int t0), (0, .ref x0), (1, .int x1), (2, .int x2), (3, .int x3), (4, .int x4), (5, .int x5)]) hx hb dX8_isCrossed_50 hl (by decide) rfl (fun ls hl => ?_)
      refine lv_iload hx hb dX8_isCrossed_52 (lv_at hl 7 rfl) ?_
      refine lv_iload hx hb dX8_isCrossed_54 (lv_at hl 1 rfl) ?_
      refine lv_icmp_eq (tgt := 81) hx hb dX8_isCrossed_56 (by decide) (fun c5 => ?_) (fun c5 => ?_)
      · replace hq := i_t c5 hq
        refine lv_iconst (v := (0 : Int32)) hx hb dX8_isCrossed_81 (by decide) ?_
        exact ge_Ri hx hb hlocks hr (by decide +kernel) hI hq dX8_isCrossed_82
      · replace hq := i_f c5 hq
        refine lv_iload hx hb dX8_isCrossed_59 (lv_at hl 1 rfl) ?_
        refine lv_if_eq (tgt := 72) hx hb dX8_isCrossed_61 (by decide) (fun c6 => ?_) (fun c6 => ?_)
        · replace hq := i_t c6 hq
          refine lv_iload hx hb dX8_isCrossed_72 (lv_at hl 0 rfl) ?_
          refine lv_if_ge (tgt := 81) hx hb dX8_isCrossed_74 (by decide) (fun c7 => ?_) (fun c7 => ?_)
          · replace hq := i_t c7 hq
            refine lv_iconst (v := (0 : Int32)) hx hb dX8_isCrossed_81 (by decide) ?_
            exact ge_Ri hx hb hlocks hr (by decide +kernel) hI hq dX8_isCrossed_82
          · replace hq := i_f c7 hq
            refine lv_iconst (v := (1 : Int32)) hx hb dX8_isCrossed_77 (by decide) ?_
            refine lv_goto (tgt := 82) hx hb dX8_isCrossed_78 (by decide) ?_
            exact ge_Ri hx hb hlocks hr (by decide +kernel) hI hq dX8_isCrossed_82
        · replace hq := i_f c6 hq
          refine lv_iload hx hb dX8_isCrossed_64 (lv_at hl 0 rfl) ?_
          refine lv_if_le (tgt := 81) hx hb dX8_isCrossed_66 (by decide) (fun c8 => ?_) (fun c8 => ?_)
          · replace hq := i_t c8 hq
            refine lv_iconst (v := (0 : Int32)) hx hb dX8_isCrossed_81 (by decide) ?_
            exact ge_Ri hx hb hlocks hr (by decide +kernel) hI hq dX8_isCrossed_82
          · replace hq := i_f c8 hq
            refine lv_goto (tgt := 77) hx hb dX8_isCrossed_69 (by decide) ?_
            refine lv_iconst (v := (1 : Int32)) hx hb dX8_isCrossed_77 (by decide) ?_
            refine lv_goto (tgt := 82) hx hb dX8_isCrossed_78 (by decide) ?_
            exact ge_Ri hx hb hlocks hr (by decide +kernel) hI hq dX8_isCrossed_82
    refine lv_icmp_le (tgt := 38) hx hb dX8_isCrossed_31 (by decide) (fun c9 => ?_) (fun c9 => ?_)
    · replace hq := i_t c9 hq
      refine lv_iconst (v := (0 : Int32)) hx hb dX8_isCrossed_38 (by decide) ?_
      exact hj39 x0 x1 x2 x3 x4 t0 (0 : Int32) H locs ls hI (lv_sub hl [1, 2, 3, 4, 5, 0] rfl) hq
    · replace hq := i_f c9 hq
      refine lv_iconst (v := (1 : Int32)) hx hb dX8_isCrossed_34 (by decide) ?_
      refine lv_goto (tgt := 39) hx hb dX8_isCrossed_35 (by decide) ?_
      exact hj39 x0 x1 x2 x3 x4 t0 (1 : Int32) H locs ls hI (lv_sub hl [1, 2, 3, 4, 5, 0] rfl) hq
  refine lv_icmp_le (tgt := 15) hx hb dX8_isCrossed_8 (by decide) (fun c10 => ?_) (fun c10 => ?_)
  · replace hq := i_t c10 hq
    refine lv_iconst (v := (0 : Int32)) hx hb dX8_isCrossed_15 (by decide) ?_
    exact hj16 a0 a1 a2 a3 a4 (0 : Int32) H locs ls hI (lv_sub hl [0, 1, 2, 3, 4] rfl) hq
  · replace hq := i_f c10 hq
    refine lv_iconst (v := (1 : Int32)) hx hb dX8_isCrossed_11 (by decide) ?_
    refine lv_goto (tgt := 16) hx hb dX8_isCrossed_12 (by decide) ?_
    exact hj16 a0 a1 a2 a3 a4 (1 : Int32) H locs ls hI (lv_sub hl [0, 1, 2, 3, 4] rfl) hq

def p_X8_holds_l6 (V : Nat → Nat) (g f : GH) (K28 : Option Int32) (K50 : Int32 → Option Int32) : Nat → Nat → Int32 → Int32 → Int32 → Int32 → Int32 → Option Int32
  | 0, _, _, _, _, _, _ => none
  | N + 1, x0, x1, x2, x3, x4, x5 =>
    (p_X8_count V g f x0 x1).bind fun v1 =>
    (if v1 ≤ x5 then
      K50 x4
    else
      (p_X8_isOn V g f x0 x1 x5 x2 x3).bind fun v3 =>
      (if v3 = (0 : Int32) then
        (p_X8_isCrossed V g f x0 x1 x5 x2 x3).bind fun v5 =>
        p_X8_holds_l6 V g f K28 K50 N x0 x1 x2 x3 (x4 ^^^ v5) (x5 + (1 : Int32))
      else
        K28))
def p_X8_holds (V : Nat → Nat) (g f : GH) (a0 : Nat) (a1 : Int32) (a2 : Int32) (a3 : Int32) : Option Int32 :=
  h_me f a0 10 <|
  p_X8_holds_l6 V g f (some (1 : Int32)) (fun x4 =>
    (h_bz x4).bind fun _ =>
    some x4) FU a0 a1 a2 a3 (0 : Int32) (0 : Int32)
abbrev rm_X8_holds : Room := { frames := 7, cells := 0, slots := 0, locals := 237 }
theorem k_X8_holds : g_CV yX8_holds cX8_holds 6 (some .boolean) 3 := ⟨⟨m_1818, m_14, by decide +kernel⟩, m_1817, ms_45⟩
set_option maxHeartbeats 4000000 in
set_option maxRecDepth 100000 in
theorem c_X8_holds (l : Launch) (V : Nat → Nat) (g : GH) (D : va_G) (cT : Nat → ClassId) (f : GH) (n : Nat) (a0 : Nat) (a1 : Int32) (a2 : Int32) (a3 : Int32) (o : Int32) (hq : p_X8_holds V g f a0 a1 a2 a3 = some o) : Met l yX8_holds (Cond.code yX8_holds cX8_holds 6 (some .boolean) :: g_B) rm_X8_holds (va_Pc [.ref a0, .int a1, .int a2, .int a3] (g_I V g D cT f n)) (g_Ri o n) 0 0 g_no := by
  refine g_begin (own := RX8) [.ref a0, .int a1, .int a2, .int a3] [(0, .ref a0), (1, .int a1), (2, .int a2), (3, .int a3)] g_no (fun _ h => h.elim) (by decide) rfl (Nat.le_of_ble_eq_true rfl) rfl ?_
  intro p e s m args below meth c hx hb hr hlocks hin hC hI ls hl
  obtain ⟨hx, hb, hml, hown, hB⟩ := id hC
  obtain ⟨H, hH⟩ : ∃ H, H = s.heap := ⟨_, rfl⟩
  obtain ⟨locs, hlocs⟩ : ∃ L : List Loc, L = [] := ⟨_, rfl⟩
  rw [← hH, ← hlocs] at hI ⊢
  clear hH hlocs
  unfold p_X8_holds at hq
  replace hq := (h_me_eq hq).2
  refine lv_iconst (v := (0 : Int32)) hx hb dX8_holds_0 (by decide) ?_
  refine lv_istore (lv' := [(4, .int (0 : Int32)), (0, .ref a0), (1, .int a1), (2, .int a2), (3, .int a3)]) hx hb dX8_holds_1 hl (by decide) rfl (fun ls hl => ?_)
  refine lv_iconst (v := (0 : Int32)) hx hb dX8_holds_3 (by decide) ?_
  refine lv_istore (lv' := [(5, .int (0 : Int32)), (4, .int (0 : Int32)), (0, .ref a0), (1, .int a1), (2, .int a2), (3, .int a3)]) hx hb dX8_holds_4 hl (by decide) rfl (fun ls hl => ?_)
  have hl6 : ∀ (K28 : Option Int32) (hK28 : ∀  (H : Heap) (locs : List Loc) (ls : Array Slot), g_at g_no V g D cT f n s H locs → lv_has ls 6 [] → K28  = some o → W p l e rm_X8_holds s m args below meth c H locs 0 0 (MQ below (g_Ri o n) args s 0 0 g_no) (F0 m 28 ls [])) (K50 : Int32 → Option Int32) (hK50 : ∀ (x4 : Int32) (H : Heap) (locs : List Loc) (ls : Array Slot), g_at g_no V g D cT f n s H locs → lv_has ls 6 [(4, .int x4)] → K50 x4 = some o → W p l e rm_X8_holds s m args below meth c H locs 0 0 (MQ below (g_Ri o n) args s 0 0 g_no) (F0 m 50 ls [])) (N : Nat) (x0 : Nat) (x1 : Int32) (x2 : Int32) (x3 : Int32) (x4 : Int32) (x5 : Int32) (H : Heap) (locs : List Loc) (ls : Array Slot), g_at g_no V g D cT f n s H locs → lv_has ls 6 [(0, .ref x0), (1, .int x1), (2, .int x2), (3, .int x3), (4, .int x4), (5, .int x5)] → p_X8_holds_l6 V g f K28 K50 N x0 x1 x2 x3 x4 x5 = some o → W p l e rm_X8_holds s m args below meth c H locs 0 0 (MQ below (g_Ri o n) args s 0 0 g_no) (F0 m 6 ls []) := by
    intro K28 hK28 K50 hK50 N
    induction N with
    | zero =>
      intro x0 x1 x2 x3 x4 x5 H locs ls hI hl hq
      rw [p_X8_holds_l6] at hq
      cases hq
    | succ N ih =>
      intro x0 x1 x2 x3 x4 x5 H locs ls hI hl hq
      rw [p_X8_holds_l6] at hq
      refine lv_iload hx hb dX8_holds_6 (lv_at hl 5 rfl) ?_
      refine lv_aload_n hx hb dX8_holds_8 rfl (lv_at hl 0 rfl) ?_
      refine lv_iload_n hx hb dX8_holds_9 rfl (lv_at hl 1 rfl) ?_
      obtain ⟨v1, ev1, hq⟩ := b_s hq
      refine gr_i (g_runV (As := [.int x1]) (rest := [.int x5]) (ci := 10) hC (c_X8_count l V g D cT f n x0 x1 v1 ev1) k_X8_count m_1527 rfl rfl ⟨Nat.le_of_ble_eq_true rfl, Nat.le_of_ble_eq_true rfl⟩ hI rfl rfl (h_me_eq ev1).1 rfl hl.1 rfl (Nat.le_of_ble_eq_true rfl) dX8_holds_10 ⟨by decide, by decide⟩) hI (fun H locs hI => ?_)
      refine lv_icmp_ge (tgt := 50) hx hb dX8_holds_13 (by decide) (fun c2 => ?_) (fun c2 => ?_)
      · replace hq := i_t c2 hq
        exact hK50 x4 H locs ls hI (lv_sub hl [4] rfl) hq
      · replace hq := i_f c2 hq
        refine lv_aload_n hx hb dX8_holds_16 rfl (lv_at hl 0 rfl) ?_
        refine lv_iload_n hx hb dX8_holds_17 rfl (lv_at hl 1 rfl) ?_
        refine lv_iload hx hb dX8_holds_18 (lv_at hl 5 rfl) ?_
        refine lv_iload_n hx hb dX8_holds_20 rfl (lv_at hl 2 rfl) ?_
        refine lv_iload_n hx hb dX8_holds_21 rfl (lv_at hl 3 rfl) ?_
        obtain ⟨v3, ev3, hq⟩ := b_s hq
        refine gr_i (g_runV (As := [.int x1, .int x5, .int x2, .int x3]) (rest := []) (ci := 10) hC (c_X8_isOn l V g D cT f n x0 x1 x5 x2 x3 v3 ev3) k_X8_isOn m_1819 rfl rfl ⟨Nat.le_of_ble_eq_true rfl, Nat.le_of_ble_eq_true rfl⟩ hI rfl rfl (h_me_eq ev3).1 rfl hl.1 rfl (Nat.le_of_ble_eq_true rfl) dX8_holds_22 ⟨by decide, by decide⟩) hI (fun H locs hI => ?_)
        refine lv_if_eq (tgt := 30) hx hb dX8_holds_25 (by decide) (fun c4 => ?_) (fun c4 => ?_)
        · replace hq := i_t c4 hq
          refine lv_iload hx hb dX8_holds_30 (lv_at hl 4 rfl) ?_
          refine lv_aload_n hx hb dX8_holds_32 rfl (lv_at hl 0 rfl) ?_
          refine lv_iload_n hx hb dX8_holds_33 rfl (lv_at hl 1 rfl) ?_
          refine lv_iload hx hb dX8_holds_34 (lv_at hl 5 rfl) ?_
          refine lv_iload_n hx hb dX8_holds_36 rfl (lv_at hl 2 rfl) ?_
          refine lv_iload_n hx hb dX8_holds_37 rfl (lv_at hl 3 rfl) ?_
          obtain ⟨v5, ev5, hq⟩ := b_s hq
          refine gr_i (g_runV (As := [.int x1, .int x5, .int x2, .int x3]) (rest := [.int x4]) (ci := 10) hC (c_X8_isCrossed l V g D cT f n x0 x1 x5 x2 x3 v5 ev5) k_X8_isCrossed m_1833 rfl rfl ⟨Nat.le_of_ble_eq_true rfl, Nat.le_of_ble_eq_true rfl⟩ hI rfl rfl (h_me_eq ev5).1 rfl hl.1 rfl (Nat.le_of_ble_eq_true rfl) dX8_holds_38 ⟨by decide, by decide⟩) hI (fun H locs hI => ?_)
          refine lv_ixor hx hb dX8_holds_41 ?_
          refine lv_istore (lv' := [(4, .int (x4 ^^^ v5)), (0, .ref x0), (1, .int x1), (2, .int x2), (3, .int x3), (5, .int x5)]) hx hb dX8_holds_42 hl (by decide) rfl (fun ls hl => ?_)
          refine lv_iinc (v := x5 + (1 : Int32)) (lv' := [(5, .int (x5 + (1 : Int32))), (4, .int (x4 ^^^ v5)), (0, .ref x0), (1, .int x1), (2, .int x2), (3, .int x3)]) hx hb dX8_holds_44 hl (k := 5) rfl rfl (by decide) rfl (fun ls hl => ?_)
          refine lv_goto (tgt := 6) hx hb dX8_holds_47 (by decide) ?_
          exact ih x0 x1 x2 x3 (x4 ^^^ v5) (x5 + (1 : Int32)) H locs ls hI (lv_sub hl [2, 3, 4, 5, 1, 0] rfl) hq
        · replace hq := i_f c4 hq
          exact hK28  H locs ls hI (lv_sub hl [] rfl) hq
  refine hl6 _ ?_ _ ?_ FU a0 a1 a2 a3 (0 : Int32) (0 : Int32) H locs ls hI (lv_sub hl [2, 3, 4, 5, 1, 0] rfl) hq
  · intro  H locs ls hI hl hq
    refine lv_iconst (v := (1 : Int32)) hx hb dX8_holds_28 (by decide) ?_
    exact ge_Ri hx hb hlocks hr (by decide +kernel) hI hq dX8_holds_29
  · intro x4 H locs ls hI hl hq
    refine lv_iload hx hb dX8_holds_50 (lv_at hl 0 rfl) ?_
    obtain ⟨_, ev6, hq⟩ := b_s hq
    exact ge_Ri hx hb hlocks hr (h_bz_eq ev6).2.1 hI hq dX8_holds_52

def p_X8_contains (V : Nat → Nat) (g f : GH) (a0 : Nat) (a1 : Int32) (a2 : Int32) (a3 : Int32) : Option (Int32 × GH) :=
  h_me f a0 10 <|
  (p_X8_lacksIsland V g f a0 a1).bind fun v1 =>
  (if v1.1 = (0 : Int32) then
    (p_X8_isPosition V g v1.2 a2 a3).bind fun v3 =>
    (if v3 = (0 : Int32) then
      (h_pt v1.2 a0 10 7 (.int (3 : Int32))).bind fun f7 =>
      some ((0 : Int32), f7)
    else
      (p_X8_holds V g v1.2 a0 a1 a2 a3).bind fun v5 =>
      (h_bz v5).bind fun _ =>
      some (v5, v1.2))
  else
    some ((0 : Int32), v1.2))
abbrev rm_X8_contains : Room := { frames := 8, cells := 0, slots := 0, locals := 262 }
theorem k_X8_contains : g_CV yX8_contains cX8_contains 4 (some .boolean) 3 := ⟨⟨m_1814, m_14, by decide +kernel⟩, m_1812, m_1813⟩
set_option maxHeartbeats 4000000 in
set_option maxRecDepth 100000 in
theorem c_X8_contains (l : Launch) (V : Nat → Nat) (g : GH) (D : va_G) (cT : Nat → ClassId) (f : GH) (n : Nat) (a0 : Nat) (a1 : Int32) (a2 : Int32) (a3 : Int32) (o : Int32 × GH) (hq : p_X8_contains V g f a0 a1 a2 a3 = some o) : Met l yX8_contains (Cond.code yX8_contains cX8_contains 4 (some .boolean) :: g_B) rm_X8_contains (va_Pc [.ref a0, .int a1, .int a2, .int a3] (g_I V g D cT f n)) (g_Wi V D cT o.1 o.2 n) 0 0 (g_A V) := by
  refine g_begin (own := RX8) [.ref a0, .int a1, .int a2, .int a3] [(0, .ref a0), (1, .int a1), (2, .int a2), (3, .int a3)] (g_A V) (fun _ h => h) (by decide) rfl (Nat.le_of_ble_eq_true rfl) rfl ?_
  intro p e s m args below meth c hx hb hr hlocks hin hC hI ls hl
  obtain ⟨hx, hb, hml, hown, hB⟩ := id hC
  obtain ⟨H, hH⟩ : ∃ H, H = s.heap := ⟨_, rfl⟩
  obtain ⟨locs, hlocs⟩ : ∃ L : List Loc, L = [] := ⟨_, rfl⟩
  rw [← hH, ← hlocs] at hI ⊢
  clear hH hlocs
  unfold p_X8_contains at hq
  replace hq := (h_me_eq hq).2
  refine lv_aload_n hx hb dX8_contains_0 rfl (lv_at hl 0 rfl) ?_
  refine lv_iload_n hx hb dX8_contains_1 rfl (lv_at hl 1 rfl) ?_
  obtain ⟨v1, ev1, hq⟩ := b_s hq
  refine gw_i (g_runV (As := [.int a1]) (rest := []) (ci := 10) hC (c_X8_lacksIsland l V g D cT f n a0 a1 v1 ev1) k_X8_lacksIsland m_1795 rfl rfl ⟨Nat.le_of_ble_eq_true rfl, Nat.le_of_ble_eq_true rfl⟩ hI rfl rfl (h_me_eq ev1).1 rfl hl.1 rfl (Nat.le_of_ble_eq_true rfl) dX8_contains_2 ⟨by decide, by decide⟩) hI (fun H locs hI => ?_)
  refine lv_if_eq (tgt := 10) hx hb dX8_contains_5 (by decide) (fun c2 => ?_) (fun c2 => ?_)
  · replace hq := i_t c2 hq
    refine lv_iload_n hx hb dX8_contains_10 rfl (lv_at hl 2 rfl) ?_
    refine lv_iload_n hx hb dX8_contains_11 rfl (lv_at hl 3 rfl) ?_
    obtain ⟨v3, ev3, hq⟩ := b_s hq
    refine gr_i (g_runS (As := [.int a2, .int a3]) (rest := []) hC (c_X8_isPosition l V g D cT v1.2 n a2 a3 v3 ev3) k_X8_isPosition m_1687 rfl rfl ⟨Nat.le_of_ble_eq_true rfl, Nat.le_of_ble_eq_true rfl⟩ hI rfl hl.1 rfl (Nat.le_of_ble_eq_true rfl) dX8_contains_12 ⟨by decide, by decide⟩) hI (fun H locs hI => ?_)
    refine lv_if_ne (tgt := 25) hx hb dX8_contains_15 (by decide) (fun c4 => ?_) (fun c4 => ?_)
    · replace hq := i_f c4 hq
      refine lv_aload_n hx hb dX8_contains_25 rfl (lv_at hl 0 rfl) ?_
      refine lv_iload_n hx hb dX8_contains_26 rfl (lv_at hl 1 rfl) ?_
      refine lv_iload_n hx hb dX8_contains_27 rfl (lv_at hl 2 rfl) ?_
      refine lv_iload_n hx hb dX8_contains_28 rfl (lv_at hl 3 rfl) ?_
      obtain ⟨v5, ev5, hq⟩ := b_s hq
      refine gr_i (g_runV (As := [.int a1, .int a2, .int a3]) (rest := []) (ci := 10) hC (c_X8_holds l V g D cT v1.2 n a0 a1 a2 a3 v5 ev5) k_X8_holds m_1815 rfl rfl ⟨Nat.le_of_ble_eq_true rfl, Nat.le_of_ble_eq_true rfl⟩ hI rfl rfl (h_me_eq ev5).1 rfl hl.1 rfl (Nat.le_of_ble_eq_true rfl) dX8_contains_29 ⟨by decide, by decide⟩) hI (fun H locs hI => ?_)
      obtain ⟨_, ev6, hq⟩ := b_s hq
      exact ge_Wi hx hb hlocks hr (h_bz_eq ev6).2.1 hI (congrArg (fun z => z.1) (Option.some.inj hq)) (congrArg (fun z => z.2) (Option.some.inj hq)) dX8_contains_32
    · replace hq := i_t c4 hq
      refine lv_aload_n hx hb dX8_contains_18 rfl (lv_at hl 0 rfl) ?_
      refine lv_iconst (v := (3 : Int32)) hx hb dX8_contains_19 (by decide) ?_
      obtain ⟨f7, ef7, hq⟩ := b_s hq
      refine fa_pt (own := RX8) (ref := "CoastlineRulerModel") (k := 7) hx hb hB inB_RX8 tyX8_ok nmX8 hown hI rfl (by decide) m_1538 (fun _ h9 => h9) (by decide) rfl rfl ef7 dX8_contains_20 (fun H locs hI => ?_)
      refine lv_iconst (v := (0 : Int32)) hx hb dX8_contains_23 (by decide) ?_
      exact ge_Wi hx hb hlocks hr (by decide +kernel) hI (congrArg (fun z => z.1) (Option.some.inj hq)) (congrArg (fun z => z.2) (Option.some.inj hq)) dX8_contains_24
  · replace hq := i_f c2 hq
    refine lv_iconst (v := (0 : Int32)) hx hb dX8_contains_8 (by decide) ?_
    exact ge_Wi hx hb hlocks hr (by decide +kernel) hI (congrArg (fun z => z.1) (Option.some.inj hq)) (congrArg (fun z => z.2) (Option.some.inj hq)) dX8_contains_9

def p_X8_surrounds_l17 (V : Nat → Nat) (g f : GH) (K46 : Option Int32) (K54 : Option Int32) : Nat → Nat → Int32 → Int32 → Int32 → Option Int32
  | 0, _, _, _, _ => none
  | N + 1, x0, x1, x2, x3 =>
    (p_X8_count V g f x0 x2).bind fun v4 =>
    (if v4 ≤ x3 then
      K54
    else
      (p_X8_x V g f x0 x2 x3).bind fun v6 =>
      (p_X8_y V g f x0 x2 x3).bind fun v7 =>
      (p_X8_holds V g f x0 x1 v6 v7).bind fun v8 =>
      (if v8 = (0 : Int32) then
        K46
      else
        p_X8_surrounds_l17 V g f K46 K54 N x0 x1 x2 (x3 + (1 : Int32))))
def p_X8_surrounds (V : Nat → Nat) (g f : GH) (a0 : Nat) (a1 : Int32) (a2 : Int32) : Option Int32 :=
  h_me f a0 10 <|
  (if a1 = a2 then
    some (0 : Int32)
  else
    (p_X8_island V g f a0 a1).bind fun v2 =>
    (if v2 = (0 : Int32) then
      some (0 : Int32)
    else
      p_X8_surrounds_l17 V g f (some (0 : Int32)) (some (1 : Int32)) FU a0 a1 a2 (0 : Int32)))
abbrev rm_X8_surrounds : Room := { frames := 8, cells := 0, slots := 0, locals := 262 }
theorem k_X8_surrounds : g_CV yX8_surrounds cX8_surrounds 4 (some .boolean) 2 := ⟨⟨m_1844, m_14, by decide +kernel⟩, m_1843, ms_49⟩
set_option maxHeartbeats 4000000 in
set_option maxRecDepth 100000 in
theorem c_X8_surrounds (l : Launch) (V : Nat → Nat) (g : GH) (D : va_G) (cT : Nat → ClassId) (f : GH) (n : Nat) (a0 : Nat) (a1 : Int32) (a2 : Int32) (o : Int32) (hq : p_X8_surrounds V g f a0 a1 a2 = some o) : Met l yX8_surrounds (Cond.code yX8_surrounds cX8_surrounds 4 (some .boolean) :: g_B) rm_X8_surrounds (va_Pc [.ref a0, .int a1, .int a2] (g_I V g D cT f n)) (g_Ri o n) 0 0 g_no := by
  refine g_begin (own := RX8) [.ref a0, .int a1, .int a2] [(0, .ref a0), (1, .int a1), (2, .int a2)] g_no (fun _ h => h.elim) (by decide) rfl (Nat.le_of_ble_eq_true rfl) rfl ?_
  intro p e s m args below meth c hx hb hr hlocks hin hC hI ls hl
  obtain ⟨hx, hb, hml, hown, hB⟩ := id hC
  obtain ⟨H, hH⟩ : ∃ H, H = s.heap := ⟨_, rfl⟩
  obtain ⟨locs, hlocs⟩ : ∃ L : List Loc, L = [] := ⟨_, rfl⟩
  rw [← hH, ← hlocs] at hI ⊢
  clear hH hlocs
  unfold p_X8_surrounds at hq
  replace hq := (h_me_eq hq).2
  refine lv_iload_n hx hb dX8_surrounds_0 rfl (lv_at hl 1 rfl) ?_
  refine lv_iload_n hx hb dX8_surrounds_1 rfl (lv_at hl 2 rfl) ?_
  refine lv_icmp_eq (tgt := 13) hx hb dX8_surrounds_2 (by decide) (fun c1 => ?_) (fun c1 => ?_)
  · replace hq := i_t c1 hq
    refine lv_iconst (v := (0 : Int32)) hx hb dX8_surrounds_13 (by decide) ?_
    exact ge_Ri hx hb hlocks hr (by decide +kernel) hI hq dX8_surrounds_14
  · replace hq := i_f c1 hq
    refine lv_aload_n hx hb dX8_surrounds_5 rfl (lv_at hl 0 rfl) ?_
    refine lv_iload_n hx hb dX8_surrounds_6 rfl (lv_at hl 1 rfl) ?_
    obtain ⟨v2, ev2, hq⟩ := b_s hq
    refine gr_i (g_runV (As := [.int a1]) (rest := []) (ci := 10) hC (c_X8_island l V g D cT f n a0 a1 v2 ev2) k_X8_island m_1641 rfl rfl ⟨Nat.le_of_ble_eq_true rfl, Nat.le_of_ble_eq_true rfl⟩ hI rfl rfl (h_me_eq ev2).1 rfl hl.1 rfl (Nat.le_of_ble_eq_true rfl) dX8_surrounds_7 ⟨by decide, by decide⟩) hI (fun H locs hI => ?_)
    refine lv_if_ne (tgt := 15) hx hb dX8_surrounds_10 (by decide) (fun c3 => ?_) (fun c3 => ?_)
    · replace hq := i_f c3 hq
      refine lv_iconst (v := (0 : Int32)) hx hb dX8_surrounds_15 (by decide) ?_
      refine lv_istore_n (lv' := [(3, .int (0 : Int32)), (0, .ref a0), (1, .int a1), (2, .int a2)]) hx hb dX8_surrounds_16 rfl hl (by decide) rfl (fun ls hl => ?_)
      have hl17 : ∀ (K46 : Option Int32) (hK46 : ∀  (H : Heap) (locs : List Loc) (ls : Array Slot), g_at g_no V g D cT f n s H locs → lv_has ls 4 [] → K46  = some o → W p l e rm_X8_surrounds s m args below meth c H locs 0 0 (MQ below (g_Ri o n) args s 0 0 g_no) (F0 m 46 ls [])) (K54 : Option Int32) (hK54 : ∀  (H : Heap) (locs : List Loc) (ls : Array Slot), g_at g_no V g D cT f n s H locs → lv_has ls 4 [] → K54  = some o → W p l e rm_X8_surrounds s m args below meth c H locs 0 0 (MQ below (g_Ri o n) args s 0 0 g_no) (F0 m 54 ls [])) (N : Nat) (x0 : Nat) (x1 : Int32) (x2 : Int32) (x3 : Int32) (H : Heap) (locs : List Loc) (ls : Array Slot), g_at g_no V g D cT f n s H locs → lv_has ls 4 [(0, .ref x0), (1, .int x1), (2, .int x2), (3, .int x3)] → p_X8_surrounds_l17 V g f K46 K54 N x0 x1 x2 x3 = some o → W p l e rm_X8_surrounds s m args below meth c H locs 0 0 (MQ below (g_Ri o n) args s 0 0 g_no) (F0 m 17 ls []) := by
        intro K46 hK46 K54 hK54 N
        induction N with
        | zero =>
          intro x0 x1 x2 x3 H locs ls hI hl hq
          rw [p_X8_surrounds_l17] at hq
          cases hq
        | succ N ih =>
          intro x0 x1 x2 x3 H locs ls hI hl hq
          rw [p_X8_surrounds_l17] at hq
          refine lv_iload_n hx hb dX8_surrounds_17 rfl (lv_at hl 3 rfl) ?_
          refine lv_aload_n hx hb dX8_surrounds_18 rfl (lv_at hl 0 rfl) ?_
          refine lv_iload_n hx hb dX8_surrounds_19 rfl (lv_at hl 2 rfl) ?_
          obtain ⟨v4, ev4, hq⟩ := b_s hq
          refine gr_i (g_runV (As := [.int x2]) (rest := [.int x3]) (ci := 10) hC (c_X8_count l V g D cT f n x0 x2 v4 ev4) k_X8_count m_1527 rfl rfl ⟨Nat.le_of_ble_eq_true rfl, Nat.le_of_ble_eq_true rfl⟩ hI rfl rfl (h_me_eq ev4).1 rfl hl.1 rfl (Nat.le_of_ble_eq_true rfl) dX8_surrounds_20 ⟨by decide, by decide⟩) hI (fun H locs hI => ?_)
          refine lv_icmp_ge (tgt := 54) hx hb dX8_surrounds_23 (by decide) (fun c5 => ?_) (fun c5 => ?_)
          · replace hq := i_t c5 hq
            exact hK54  H locs ls hI (lv_sub hl [] rfl) hq
          · replace hq := i_f c5 hq
            refine lv_aload_n hx hb dX8_surrounds_26 rfl (lv_at hl 0 rfl) ?_
            refine lv_iload_n hx hb dX8_surrounds_27 rfl (lv_at hl 1 rfl) ?_
            refine lv_aload_n hx hb dX8_surrounds_28 rfl (lv_at hl 0 rfl) ?_
            refine lv_iload_n hx hb dX8_surrounds_29 rfl (lv_at hl 2 rfl) ?_
            refine lv_iload_n hx hb dX8_surrounds_30 rfl (lv_at hl 3 rfl) ?_
            obtain ⟨v6, ev6, hq⟩ := b_s hq
            refine gr_i (g_runV (As := [.int x2, .int x3]) (rest := [.int x1, .ref x0]) (ci := 10) hC (c_X8_x l V g D cT f n x0 x2 x3 v6 ev6) k_X8_x m_1657 rfl rfl ⟨Nat.le_of_ble_eq_true rfl, Nat.le_of_ble_eq_true rfl⟩ hI rfl rfl (h_me_eq ev6).1 rfl hl.1 rfl (Nat.le_of_ble_eq_true rfl) dX8_surrounds_31 ⟨by decide, by decide⟩) hI (fun H locs hI => ?_)
            refine lv_aload_n hx hb dX8_surrounds_34 rfl (lv_at hl 0 rfl) ?_
            refine lv_iload_n hx hb dX8_surrounds_35 rfl (lv_at hl 2 rfl) ?_
            refine lv_iload_n hx hb dX8_surrounds_36 rfl (lv_at hl 3 rfl) ?_
            obtain ⟨v7, ev7, hq⟩ := b_s hq
            refine gr_i (g_runV (As := [.int x2, .int x3]) (rest := [.int v6, .int x1, .ref x0]) (ci := 10) hC (c_X8_y l V g D cT f n x0 x2 x3 v7 ev7) k_X8_y m_1665 rfl rfl ⟨Nat.le_of_ble_eq_true rfl, Nat.le_of_ble_eq_true rfl⟩ hI rfl rfl (h_me_eq ev7).1 rfl hl.1 rfl (Nat.le_of_ble_eq_true rfl) dX8_surrounds_37 ⟨by decide, by decide⟩) hI (fun H locs hI => ?_)
            obtain ⟨v8, ev8, hq⟩ := b_s hq
            refine gr_i (g_runV (As := [.int x1, .int v6, .int v7]) (rest := []) (ci := 10) hC (c_X8_holds l V g D cT f n x0 x1 v6 v7 v8 ev8) k_X8_holds m_1815 rfl rfl ⟨Nat.le_of_ble_eq_true rfl, Nat.le_of_ble_eq_true rfl⟩ hI rfl rfl (h_me_eq ev8).1 rfl hl.1 rfl (Nat.le_of_ble_eq_true rfl) dX8_surrounds_40 ⟨by decide, by decide⟩) hI (fun H locs hI => ?_)
            refine lv_if_ne (tgt := 48) hx hb dX8_surrounds_43 (by decide) (fun c9 => ?_) (fun c9 => ?_)
            · replace hq := i_f c9 hq
              refine lv_iinc (v := x3 + (1 : Int32)) (lv' := [(3, .int (x3 + (1 : Int32))), (0, .ref x0), (1, .int x1), (2, .int x2)]) hx hb dX8_surrounds_48 hl (k := 3) rfl rfl (by decide) rfl (fun ls hl => ?_)
              refine lv_goto (tgt := 17) hx hb dX8_surrounds_51 (by decide) ?_
              exact ih x0 x1 x2 (x3 + (1 : Int32)) H locs ls hI (lv_sub hl [1, 2, 3, 0] rfl) hq
            · replace hq := i_t c9 hq
              exact hK46  H locs ls hI (lv_sub hl [] rfl) hq
      refine hl17 _ ?_ _ ?_ FU a0 a1 a2 (0 : Int32) H locs ls hI (lv_sub hl [1, 2, 3, 0] rfl) hq
      · intro  H locs ls hI hl hq
        refine lv_iconst (v := (0 : Int32)) hx hb dX8_surrounds_46 (by decide) ?_
        exact ge_Ri hx hb hlocks hr (by decide +kernel) hI hq dX8_surrounds_47
      · intro  H locs ls hI hl hq
        refine lv_iconst (v := (1 : Int32)) hx hb dX8_surrounds_54 (by decide) ?_
        exact ge_Ri hx hb hlocks hr (by decide +kernel) hI hq dX8_surrounds_55
    · replace hq := i_t c3 hq
      refine lv_iconst (v := (0 : Int32)) hx hb dX8_surrounds_13 (by decide) ?_
      exact ge_Ri hx hb hlocks hr (by decide +kernel) hI hq dX8_surrounds_14

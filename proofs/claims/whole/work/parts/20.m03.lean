def p_X8_encloses_j41 (V : Nat → Nat) (g : GH) (x0 : Nat) (x1 : Int32) (x2 : Int32) (t0 : Int32) (t1 : Int32) (t2 : Nat) (f : GH) : Option (Int32 × GH) :=
  (p_X8_lacksBoth V g f t2 t1 t0).bind fun v2 =>
  (if v2.1 = (0 : Int32) then
    (p_X8_surrounds V g v2.2 x0 x1 x2).bind fun v4 =>
    (if v4 = (0 : Int32) then
      some ((0 : Int32), v2.2)
    else
      some ((1 : Int32), v2.2))
  else
    some ((0 : Int32), v2.2))
def p_X8_encloses_j40 (V : Nat → Nat) (g : GH) (K41 : Nat → Int32 → Int32 → Int32 → Int32 → Nat → GH → Option (Int32 × GH)) (x0 : Nat) (x1 : Int32) (x2 : Int32) (t0 : Int32) (t1 : Nat) (f : GH) : Option (Int32 × GH) :=
  K41 x0 x1 x2 (0 : Int32) t0 t1 f
def p_X8_encloses_j21 (V : Nat → Nat) (g : GH) (x0 : Nat) (x1 : Int32) (x2 : Int32) (t0 : Int32) (f : GH) : Option (Int32 × GH) :=
  (if t0 = (0 : Int32) then
    p_X8_encloses_j40 V g (p_X8_encloses_j41 V g) x0 x1 x2 t0 x0 f
  else
    (p_X8_island V g f x0 x1).bind fun v7 =>
    (if v7 = (0 : Int32) then
      p_X8_encloses_j40 V g (p_X8_encloses_j41 V g) x0 x1 x2 t0 x0 f
    else
      p_X8_encloses_j41 V g x0 x1 x2 (1 : Int32) t0 x0 f))
def p_X8_encloses_j20 (V : Nat → Nat) (g : GH) (K21 : Nat → Int32 → Int32 → Int32 → GH → Option (Int32 × GH)) (x0 : Nat) (x1 : Int32) (x2 : Int32) (f : GH) : Option (Int32 × GH) :=
  K21 x0 x1 x2 (0 : Int32) f
def p_X8_encloses (V : Nat → Nat) (g f : GH) (a0 : Nat) (a1 : Int32) (a2 : Int32) : Option (Int32 × GH) :=
  h_me f a0 10 <|
  (p_X8_isCoast V g f a0 a1).bind fun v1 =>
  (if v1 = (0 : Int32) then
    p_X8_encloses_j20 V g (p_X8_encloses_j21 V g) a0 a1 a2 f
  else
    (p_X8_isCoast V g f a0 a2).bind fun v10 =>
    (if v10 = (0 : Int32) then
      p_X8_encloses_j20 V g (p_X8_encloses_j21 V g) a0 a1 a2 f
    else
      p_X8_encloses_j21 V g a0 a1 a2 (1 : Int32) f))
abbrev rm_X8_encloses : Room := { frames := 9, cells := 0, slots := 0, locals := 285 }
theorem k_X8_encloses : g_CV yX8_encloses cX8_encloses 4 (some .boolean) 2 := ⟨⟨m_1840, m_14, by decide +kernel⟩, m_1838, m_1839⟩
set_option maxHeartbeats 4000000 in
set_option maxRecDepth 100000 in
theorem c_X8_encloses (l : Launch) (V : Nat → Nat) (g : GH) (D : va_G) (cT : Nat → ClassId) (f : GH) (n : Nat) (a0 : Nat) (a1 : Int32) (a2 : Int32) (o : Int32 × GH) (hq : p_X8_encloses V g f a0 a1 a2 = some o) : Met l yX8_encloses (Cond.code yX8_encloses cX8_encloses 4 (some .boolean) :: g_B) rm_X8_encloses (va_Pc [.ref a0, .int a1, .int a2] (g_I V g D cT f n)) (g_Wi V D cT o.1 o.2 n) 0 0 (g_A V) := by
  refine g_begin (own := RX8) [.ref a0, .int a1, .int a2] [(0, .ref a0), (1, .int a1), (2, .int a2)] (g_A V) (fun _ h => h) (by decide) rfl (Nat.le_of_ble_eq_true rfl) rfl ?_
  intro p e s m args below meth c hx hb hr hlocks hin hC hI ls hl
  obtain ⟨hx, hb, hml, hown, hB⟩ := id hC
  obtain ⟨H, hH⟩ : ∃ H, H = s.heap := ⟨_, rfl⟩
  obtain ⟨locs, hlocs⟩ : ∃ L : List Loc, L = [] := ⟨_, rfl⟩
  rw [← hH, ← hlocs] at hI ⊢
  clear hH hlocs
  unfold p_X8_encloses at hq
  replace hq := (h_me_eq hq).2
  refine lv_aload_n hx hb dX8_encloses_0 rfl (lv_at hl 0 rfl) ?_
  refine lv_iload_n hx hb dX8_encloses_1 rfl (lv_at hl 1 rfl) ?_
  obtain ⟨v1, ev1, hq⟩ := b_s hq
  refine gr_i (g_runV (As := [.int a1]) (rest := []) (ci := 10) hC (c_X8_isCoast l V g D cT f n a0 a1 v1 ev1) k_X8_isCoast m_1630 rfl rfl ⟨Nat.le_of_ble_eq_true rfl, Nat.le_of_ble_eq_true rfl⟩ hI rfl rfl (h_me_eq ev1).1 rfl hl.1 rfl (Nat.le_of_ble_eq_true rfl) dX8_encloses_2 ⟨by decide, by decide⟩) hI (fun H locs hI => ?_)
  have hj21 : ∀ (x0 : Nat) (x1 : Int32) (x2 : Int32) (t0 : Int32) (f : GH) (H : Heap) (locs : List Loc) (ls : Array Slot), g_at (g_A V) V g D cT f n s H locs → lv_has ls 4 [(0, .ref x0), (1, .int x1), (2, .int x2)] → p_X8_encloses_j21 V g x0 x1 x2 t0 f = some o → W p l e rm_X8_encloses s m args below meth c H locs 0 0 (MQ below (g_Wi V D cT o.1 o.2 n) args s 0 0 (g_A V)) (F0 m 21 ls [.int t0]) := by
    intro x0 x1 x2 t0 f H locs ls hI hl hq
    unfold p_X8_encloses_j21 at hq
    refine lv_istore_n (lv' := [(3, .int t0), (0, .ref x0), (1, .int x1), (2, .int x2)]) hx hb dX8_encloses_21 rfl hl (by decide) rfl (fun ls hl => ?_)
    refine lv_aload_n hx hb dX8_encloses_22 rfl (lv_at hl 1 rfl) ?_
    refine lv_iload_n hx hb dX8_encloses_23 rfl (lv_at hl 0 rfl) ?_
    refine lv_iload_n hx hb dX8_encloses_24 rfl (lv_at hl 0 rfl) ?_
    have hj41 : ∀ (x0 : Nat) (x1 : Int32) (x2 : Int32) (t0 : Int32) (t1 : Int32) (t2 : Nat) (f : GH) (H : Heap) (locs : List Loc) (ls : Array Slot), g_at (g_A V) V g D cT f n s H locs → lv_has ls 4 [(0, .ref x0), (1, .int x1), (2, .int x2)] → p_X8_encloses_j41 V g x0 x1 x2 t0 t1 t2 f = some o → W p l e rm_X8_encloses s m args below meth c H locs 0 0 (MQ below (g_Wi V D cT o.1 o.2 n) args s 0 0 (g_A V)) (F0 m 41 ls [.int t0, .int t1, .ref t2]) := by
      intro x0 x1 x2 t0 t1 t2 f H locs ls hI hl hq
      unfold p_X8_encloses_j41 at hq
      obtain ⟨v2, ev2, hq⟩ := b_s hq
      refine gw_i (g_runV (As := [.int t1, .int t0]) (rest := []) (ci := 10) hC (c_X8_lacksBoth l V g D cT f n t2 t1 t0 v2 ev2) k_X8_lacksBoth m_1693 rfl rfl ⟨Nat.le_of_ble_eq_true rfl, Nat.le_of_ble_eq_true rfl⟩ hI rfl rfl (h_me_eq ev2).1 rfl hl.1 rfl (Nat.le_of_ble_eq_true rfl) dX8_encloses_41 ⟨by decide, by decide⟩) hI (fun H locs hI => ?_)
      refine lv_if_ne (tgt := 60) hx hb dX8_encloses_44 (by decide) (fun c3 => ?_) (fun c3 => ?_)
      · replace hq := i_f c3 hq
        refine lv_iconst (v := (0 : Int32)) hx hb dX8_encloses_60 (by decide) ?_
        exact ge_Wi hx hb hlocks hr (by decide +kernel) hI (congrArg (fun z => z.1) (Option.some.inj hq)) (congrArg (fun z => z.2) (Option.some.inj hq)) dX8_encloses_61
      · replace hq := i_t c3 hq
        refine lv_aload_n hx hb dX8_encloses_47 rfl (lv_at hl 0 rfl) ?_
        refine lv_iload_n hx hb dX8_encloses_48 rfl (lv_at hl 1 rfl) ?_
        refine lv_iload_n hx hb dX8_encloses_49 rfl (lv_at hl 2 rfl) ?_
        obtain ⟨v4, ev4, hq⟩ := b_s hq
        refine gr_i (g_runV (As := [.int x1, .int x2]) (rest := []) (ci := 10) hC (c_X8_surrounds l V g D cT v2.2 n x0 x1 x2 v4 ev4) k_X8_surrounds m_1841 rfl rfl ⟨Nat.le_of_ble_eq_true rfl, Nat.le_of_ble_eq_true rfl⟩ hI rfl rfl (h_me_eq ev4).1 rfl hl.1 rfl (Nat.le_of_ble_eq_true rfl) dX8_encloses_50 ⟨by decide, by decide⟩) hI (fun H locs hI => ?_)
        refine lv_if_eq (tgt := 60) hx hb dX8_encloses_53 (by decide) (fun c5 => ?_) (fun c5 => ?_)
        · replace hq := i_t c5 hq
          refine lv_iconst (v := (0 : Int32)) hx hb dX8_encloses_60 (by decide) ?_
          exact ge_Wi hx hb hlocks hr (by decide +kernel) hI (congrArg (fun z => z.1) (Option.some.inj hq)) (congrArg (fun z => z.2) (Option.some.inj hq)) dX8_encloses_61
        · replace hq := i_f c5 hq
          refine lv_iconst (v := (1 : Int32)) hx hb dX8_encloses_56 (by decide) ?_
          refine lv_goto (tgt := 61) hx hb dX8_encloses_57 (by decide) ?_
          exact ge_Wi hx hb hlocks hr (by decide +kernel) hI (congrArg (fun z => z.1) (Option.some.inj hq)) (congrArg (fun z => z.2) (Option.some.inj hq)) dX8_encloses_61
    have hj40 : ∀ (x0 : Nat) (x1 : Int32) (x2 : Int32) (t0 : Int32) (t1 : Nat) (f : GH) (H : Heap) (locs : List Loc) (ls : Array Slot), g_at (g_A V) V g D cT f n s H locs → lv_has ls 4 [(0, .ref x0), (1, .int x1), (2, .int x2)] → p_X8_encloses_j40 V g (p_X8_encloses_j41 V g) x0 x1 x2 t0 t1 f = some o → W p l e rm_X8_encloses s m args below meth c H locs 0 0 (MQ below (g_Wi V D cT o.1 o.2 n) args s 0 0 (g_A V)) (F0 m 40 ls [.int t0, .ref t1]) := by
      intro x0 x1 x2 t0 t1 f H locs ls hI hl hq
      unfold p_X8_encloses_j40 at hq
      refine lv_iconst (v := (0 : Int32)) hx hb dX8_encloses_40 (by decide) ?_
      exact hj41 x0 x1 x2 (0 : Int32) t0 t1 f H locs ls hI (lv_sub hl [0, 1, 2] rfl) hq
    refine lv_if_eq (tgt := 40) hx hb dX8_encloses_25 (by decide) (fun c6 => ?_) (fun c6 => ?_)
    · replace hq := i_t c6 hq
      exact hj40 x0 x1 x2 t0 x0 f H locs ls hI (lv_sub hl [1, 2, 3] rfl) hq
    · replace hq := i_f c6 hq
      refine lv_aload_n hx hb dX8_encloses_28 rfl (lv_at hl 1 rfl) ?_
      refine lv_iload_n hx hb dX8_encloses_29 rfl (lv_at hl 2 rfl) ?_
      obtain ⟨v7, ev7, hq⟩ := b_s hq
      refine gr_i (g_runV (As := [.int x1]) (rest := [.int t0, .ref x0]) (ci := 10) hC (c_X8_island l V g D cT f n x0 x1 v7 ev7) k_X8_island m_1641 rfl rfl ⟨Nat.le_of_ble_eq_true rfl, Nat.le_of_ble_eq_true rfl⟩ hI rfl rfl (h_me_eq ev7).1 rfl hl.1 rfl (Nat.le_of_ble_eq_true rfl) dX8_encloses_30 ⟨by decide, by decide⟩) hI (fun H locs hI => ?_)
      refine lv_if_eq (tgt := 40) hx hb dX8_encloses_33 (by decide) (fun c8 => ?_) (fun c8 => ?_)
      · replace hq := i_t c8 hq
        exact hj40 x0 x1 x2 t0 x0 f H locs ls hI (lv_sub hl [1, 2, 3] rfl) hq
      · replace hq := i_f c8 hq
        refine lv_iconst (v := (1 : Int32)) hx hb dX8_encloses_36 (by decide) ?_
        refine lv_goto (tgt := 41) hx hb dX8_encloses_37 (by decide) ?_
        exact hj41 x0 x1 x2 (1 : Int32) t0 x0 f H locs ls hI (lv_sub hl [1, 2, 3] rfl) hq
  have hj20 : ∀ (x0 : Nat) (x1 : Int32) (x2 : Int32) (f : GH) (H : Heap) (locs : List Loc) (ls : Array Slot), g_at (g_A V) V g D cT f n s H locs → lv_has ls 4 [(0, .ref x0), (1, .int x1), (2, .int x2)] → p_X8_encloses_j20 V g (p_X8_encloses_j21 V g) x0 x1 x2 f = some o → W p l e rm_X8_encloses s m args below meth c H locs 0 0 (MQ below (g_Wi V D cT o.1 o.2 n) args s 0 0 (g_A V)) (F0 m 20 ls []) := by
    intro x0 x1 x2 f H locs ls hI hl hq
    unfold p_X8_encloses_j20 at hq
    refine lv_iconst (v := (0 : Int32)) hx hb dX8_encloses_20 (by decide) ?_
    exact hj21 x0 x1 x2 (0 : Int32) f H locs ls hI (lv_sub hl [0, 1, 2] rfl) hq
  refine lv_if_eq (tgt := 20) hx hb dX8_encloses_5 (by decide) (fun c9 => ?_) (fun c9 => ?_)
  · replace hq := i_t c9 hq
    exact hj20 a0 a1 a2 f H locs ls hI (lv_sub hl [0, 1, 2] rfl) hq
  · replace hq := i_f c9 hq
    refine lv_aload_n hx hb dX8_encloses_8 rfl (lv_at hl 0 rfl) ?_
    refine lv_iload_n hx hb dX8_encloses_9 rfl (lv_at hl 2 rfl) ?_
    obtain ⟨v10, ev10, hq⟩ := b_s hq
    refine gr_i (g_runV (As := [.int a2]) (rest := []) (ci := 10) hC (c_X8_isCoast l V g D cT f n a0 a2 v10 ev10) k_X8_isCoast m_1630 rfl rfl ⟨Nat.le_of_ble_eq_true rfl, Nat.le_of_ble_eq_true rfl⟩ hI rfl rfl (h_me_eq ev10).1 rfl hl.1 rfl (Nat.le_of_ble_eq_true rfl) dX8_encloses_10 ⟨by decide, by decide⟩) hI (fun H locs hI => ?_)
    refine lv_if_eq (tgt := 20) hx hb dX8_encloses_13 (by decide) (fun c11 => ?_) (fun c11 => ?_)
    · replace hq := i_t c11 hq
      exact hj20 a0 a1 a2 f H locs ls hI (lv_sub hl [0, 1, 2] rfl) hq
    · replace hq := i_f c11 hq
      refine lv_iconst (v := (1 : Int32)) hx hb dX8_encloses_16 (by decide) ?_
      refine lv_goto (tgt := 21) hx hb dX8_encloses_17 (by decide) ?_
      exact hj21 a0 a1 a2 (1 : Int32) f H locs ls hI (lv_sub hl [0, 1, 2] rfl) hq

def p_X8_innermostIslandAround_j66 (V : Nat → Nat) (g : GH) (K18 : Nat → Int32 → Int32 → Int32 → GH → Option (Int32 × GH)) (x0 : Nat) (x1 : Int32) (x2 : Int32) (x3 : Int32) (t0 : Int32) (f : GH) : Option (Int32 × GH) :=
  (if t0 = (0 : Int32) then
    K18 x0 x1 x2 (x3 + (1 : Int32)) f
  else
    K18 x0 x1 x3 (x3 + (1 : Int32)) f)
def p_X8_innermostIslandAround_j65 (V : Nat → Nat) (g : GH) (K66 : Nat → Int32 → Int32 → Int32 → Int32 → GH → Option (Int32 × GH)) (x0 : Nat) (x1 : Int32) (x2 : Int32) (x3 : Int32) (f : GH) : Option (Int32 × GH) :=
  K66 x0 x1 x2 x3 (0 : Int32) f
def p_X8_innermostIslandAround_l18 (V : Nat → Nat) (g : GH) (K85 : Int32 → GH → Option (Int32 × GH)) : Nat → Nat → Int32 → Int32 → Int32 → GH → Option (Int32 × GH)
  | 0, _, _, _, _, _ => none
  | N + 1, x0, x1, x2, x3, f =>
    (h_gr f x0 10 5).bind fun v4 =>
    (h_li f v4 0 (1 : Int32)).bind fun v5 =>
    (if v5 ≤ x3 then
      K85 x2 f
    else
      (p_X8_surrounds V g f x0 x3 x1).bind fun v7 =>
      (if v7 = (0 : Int32) then
        p_X8_innermostIslandAround_j65 V g (p_X8_innermostIslandAround_j66 V g (p_X8_innermostIslandAround_l18 V g K85 N)) x0 x1 x2 x3 f
      else
        (if x2 = (-1 : Int32) then
          p_X8_innermostIslandAround_j66 V g (p_X8_innermostIslandAround_l18 V g K85 N) x0 x1 x2 x3 (1 : Int32) f
        else
          (p_X8_signedArea V g f x0 x3).bind fun v11 =>
          (p_X8_sizeOf V g f v11).bind fun v12 =>
          (p_X8_signedArea V g f x0 x2).bind fun v13 =>
          (p_X8_sizeOf V g f v13).bind fun v14 =>
          (if v14 ≤ v12 then
            p_X8_innermostIslandAround_j65 V g (p_X8_innermostIslandAround_j66 V g (p_X8_innermostIslandAround_l18 V g K85 N)) x0 x1 x2 x3 f
          else
            p_X8_innermostIslandAround_j66 V g (p_X8_innermostIslandAround_l18 V g K85 N) x0 x1 x2 x3 (1 : Int32) f))))
def p_X8_innermostIslandAround (V : Nat → Nat) (g f : GH) (a0 : Nat) (a1 : Int32) : Option (Int32 × GH) :=
  h_me f a0 10 <|
  (p_X8_isCoast V g f a0 a1).bind fun v1 =>
  (p_X8_lacks V g f a0 v1).bind fun v2 =>
  (if v2.1 = (0 : Int32) then
    p_X8_innermostIslandAround_l18 V g (fun x2 f =>
      some (x2, f)) FU a0 a1 (-1 : Int32) (0 : Int32) v2.2
  else
    some ((0 : Int32), v2.2))
abbrev rm_X8_innermostIslandAround : Room := { frames := 9, cells := 0, slots := 0, locals := 285 }
theorem k_X8_innermostIslandAround : g_CV yX8_innermostIslandAround cX8_innermostIslandAround 5 (some .int) 1 := ⟨⟨m_1848, m_14, by decide +kernel⟩, m_1846, m_1847⟩
set_option maxHeartbeats 4000000 in
set_option maxRecDepth 100000 in
theorem c_X8_innermostIslandAround (l : Launch) (V : Nat → Nat) (g : GH) (D : va_G) (cT : Nat → ClassId) (f : GH) (n : Nat) (a0 : Nat) (a1 : Int32) (o : Int32 × GH) (hq : p_X8_innermostIslandAround V g f a0 a1 = some o) : Met l yX8_innermostIslandAround (Cond.code yX8_innermostIslandAround cX8_innermostIslandAround 5 (some .int) :: g_B) rm_X8_innermostIslandAround (va_Pc [.ref a0, .int a1] (g_I V g D cT f n)) (g_Wi V D cT o.1 o.2 n) 0 0 (g_A V) := by
  refine g_begin (own := RX8) [.ref a0, .int a1] [(0, .ref a0), (1, .int a1)] (g_A V) (fun _ h => h) (by decide) rfl (Nat.le_of_ble_eq_true rfl) rfl ?_
  intro p e s m args below meth c hx hb hr hlocks hin hC hI ls hl
  obtain ⟨hx, hb, hml, hown, hB⟩ := id hC
  obtain ⟨H, hH⟩ : ∃ H, H = s.heap := ⟨_, rfl⟩
  obtain ⟨locs, hlocs⟩ : ∃ L : List Loc, L = [] := ⟨_, rfl⟩
  rw [← hH, ← hlocs] at hI ⊢
  clear hH hlocs
  unfold p_X8_innermostIslandAround at hq
  replace hq := (h_me_eq hq).2
  refine lv_aload_n hx hb dX8_innermostIslandAround_0 rfl (lv_at hl 0 rfl) ?_
  refine lv_aload_n hx hb dX8_innermostIslandAround_1 rfl (lv_at hl 0 rfl) ?_
  refine lv_iload_n hx hb dX8_innermostIslandAround_2 rfl (lv_at hl 1 rfl) ?_
  obtain ⟨v1, ev1, hq⟩ := b_s hq
  refine gr_i (g_runV (As := [.int a1]) (rest := [.ref a0]) (ci := 10) hC (c_X8_isCoast l V g D cT f n a0 a1 v1 ev1) k_X8_isCoast m_1630 rfl rfl ⟨Nat.le_of_ble_eq_true rfl, Nat.le_of_ble_eq_true rfl⟩ hI rfl rfl (h_me_eq ev1).1 rfl hl.1 rfl (Nat.le_of_ble_eq_true rfl) dX8_innermostIslandAround_3 ⟨by decide, by decide⟩) hI (fun H locs hI => ?_)
  obtain ⟨v2, ev2, hq⟩ := b_s hq
  refine gw_i (g_runV (As := [.int v1]) (rest := []) (ci := 10) hC (c_X8_lacks l V g D cT f n a0 v1 v2 ev2) k_X8_lacks m_1637 rfl rfl ⟨Nat.le_of_ble_eq_true rfl, Nat.le_of_ble_eq_true rfl⟩ hI rfl rfl (h_me_eq ev2).1 rfl hl.1 rfl (Nat.le_of_ble_eq_true rfl) dX8_innermostIslandAround_6 ⟨by decide, by decide⟩) hI (fun H locs hI => ?_)
  refine lv_if_eq (tgt := 14) hx hb dX8_innermostIslandAround_9 (by decide) (fun c3 => ?_) (fun c3 => ?_)
  · replace hq := i_t c3 hq
    refine lv_iconst (v := (-1 : Int32)) hx hb dX8_innermostIslandAround_14 (by decide) ?_
    refine lv_istore_n (lv' := [(2, .int (-1 : Int32)), (0, .ref a0), (1, .int a1)]) hx hb dX8_innermostIslandAround_15 rfl hl (by decide) rfl (fun ls hl => ?_)
    refine lv_iconst (v := (0 : Int32)) hx hb dX8_innermostIslandAround_16 (by decide) ?_
    refine lv_istore_n (lv' := [(3, .int (0 : Int32)), (2, .int (-1 : Int32)), (0, .ref a0), (1, .int a1)]) hx hb dX8_innermostIslandAround_17 rfl hl (by decide) rfl (fun ls hl => ?_)
    have hl18 : ∀ (K85 : Int32 → GH → Option (Int32 × GH)) (hK85 : ∀ (x2 : Int32) (f : GH) (H : Heap) (locs : List Loc) (ls : Array Slot), g_at (g_A V) V g D cT f n s H locs → lv_has ls 5 [(2, .int x2)] → K85 x2 f = some o → W p l e rm_X8_innermostIslandAround s m args below meth c H locs 0 0 (MQ below (g_Wi V D cT o.1 o.2 n) args s 0 0 (g_A V)) (F0 m 85 ls [])) (N : Nat) (x0 : Nat) (x1 : Int32) (x2 : Int32) (x3 : Int32) (f : GH) (H : Heap) (locs : List Loc) (ls : Array Slot), g_at (g_A V) V g D cT f n s H locs → lv_has ls 5 [(0, .ref x0), (1, .int x1), (2, .int x2), (3, .int x3)] → p_X8_innermostIslandAround_l18 V g K85 N x0 x1 x2 x3 f = some o → W p l e rm_X8_innermostIslandAround s m args below meth c H locs 0 0 (MQ below (g_Wi V D cT o.1 o.2 n) args s 0 0 (g_A V)) (F0 m 18 ls []) := by
      intro K85 hK85 N
      induction N with
      | zero =>
        intro x0 x1 x2 x3 f H locs ls hI hl hq
        rw [p_X8_innermostIslandAround_l18] at hq
        cases hq
      | succ N ih =>
        intro x0 x1 x2 x3 f H locs ls hI hl hq
        rw [p_X8_innermostIslandAround_l18] at hq
        refine lv_iload_n hx hb dX8_innermostIslandAround_18 rfl (lv_at hl 3 rfl) ?_
        refine lv_aload_n hx hb dX8_innermostIslandAround_19 rfl (lv_at hl 0 rfl) ?_
        obtain ⟨v4, ev4, hq⟩ := b_s hq
        refine fa_gr (own := RX8) (ref := "CoastlineRulerModel") (k := 5) hx hb hB inB_RX8 hown hI rfl (by decide) m_1536 (fun _ h9 => h9) ev4 dX8_innermostIslandAround_20 ?_
        refine lv_iconst (v := (1 : Int32)) hx hb dX8_innermostIslandAround_23 (by decide) ?_
        obtain ⟨v5, ev5, hq⟩ := b_s hq
        refine fa_li hx hb hI ev5 dX8_innermostIslandAround_24 ?_
        refine lv_icmp_ge (tgt := 85) hx hb dX8_innermostIslandAround_25 (by decide) (fun c6 => ?_) (fun c6 => ?_)
        · replace hq := i_t c6 hq
          exact hK85 x2 f H locs ls hI (lv_sub hl [2] rfl) hq
        · replace hq := i_f c6 hq
          refine lv_aload_n hx hb dX8_innermostIslandAround_28 rfl (lv_at hl 0 rfl) ?_
          refine lv_iload_n hx hb dX8_innermostIslandAround_29 rfl (lv_at hl 3 rfl) ?_
          refine lv_iload_n hx hb dX8_innermostIslandAround_30 rfl (lv_at hl 1 rfl) ?_
          obtain ⟨v7, ev7, hq⟩ := b_s hq
          refine gr_i (g_runV (As := [.int x3, .int x1]) (rest := []) (ci := 10) hC (c_X8_surrounds l V g D cT f n x0 x3 x1 v7 ev7) k_X8_surrounds m_1841 rfl rfl ⟨Nat.le_of_ble_eq_true rfl, Nat.le_of_ble_eq_true rfl⟩ hI rfl rfl (h_me_eq ev7).1 rfl hl.1 rfl (Nat.le_of_ble_eq_true rfl) dX8_innermostIslandAround_31 ⟨by decide, by decide⟩) hI (fun H locs hI => ?_)
          have hj66 : ∀ (x0 : Nat) (x1 : Int32) (x2 : Int32) (x3 : Int32) (t0 : Int32) (f : GH) (H : Heap) (locs : List Loc) (ls : Array Slot), g_at (g_A V) V g D cT f n s H locs → lv_has ls 5 [(0, .ref x0), (1, .int x1), (2, .int x2), (3, .int x3)] → p_X8_innermostIslandAround_j66 V g (p_X8_innermostIslandAround_l18 V g K85 N) x0 x1 x2 x3 t0 f = some o → W p l e rm_X8_innermostIslandAround s m args below meth c H locs 0 0 (MQ below (g_Wi V D cT o.1 o.2 n) args s 0 0 (g_A V)) (F0 m 66 ls [.int t0]) := by
            intro x0 x1 x2 x3 t0 f H locs ls hI hl hq
            unfold p_X8_innermostIslandAround_j66 at hq
            refine lv_istore (lv' := [(4, .int t0), (0, .ref x0), (1, .int x1), (2, .int x2), (3, .int x3)]) hx hb dX8_innermostIslandAround_66 hl (by decide) rfl (fun ls hl => ?_)
            refine lv_iload hx hb dX8_innermostIslandAround_68 (lv_at hl 0 rfl) ?_
            refine lv_if_eq (tgt := 77) hx hb dX8_innermostIslandAround_70 (by decide) (fun c8 => ?_) (fun c8 => ?_)
            · replace hq := i_t c8 hq
              refine lv_iload_n hx hb dX8_innermostIslandAround_77 rfl (lv_at hl 3 rfl) ?_
              refine lv_istore_n (lv' := [(2, .int x2), (4, .int t0), (0, .ref x0), (1, .int x1), (3, .int x3)]) hx hb dX8_innermostIslandAround_78 rfl hl (by decide) rfl (fun ls hl => ?_)
              refine lv_iinc (v := x3 + (1 : Int32)) (lv' := [(3, .int (x3 + (1 : Int32))), (2, .int x2), (4, .int t0), (0, .ref x0), (1, .int x1)]) hx hb dX8_innermostIslandAround_79 hl (k := 4) rfl rfl (by decide) rfl (fun ls hl => ?_)
              refine lv_goto (tgt := 18) hx hb dX8_innermostIslandAround_82 (by decide) ?_
              exact ih x0 x1 x2 (x3 + (1 : Int32)) f H locs ls hI (lv_sub hl [3, 4, 1, 0] rfl) hq
            · replace hq := i_f c8 hq
              refine lv_iload_n hx hb dX8_innermostIslandAround_73 rfl (lv_at hl 4 rfl) ?_
              refine lv_goto (tgt := 78) hx hb dX8_innermostIslandAround_74 (by decide) ?_
              refine lv_istore_n (lv' := [(2, .int x3), (4, .int t0), (0, .ref x0), (1, .int x1), (3, .int x3)]) hx hb dX8_innermostIslandAround_78 rfl hl (by decide) rfl (fun ls hl => ?_)
              refine lv_iinc (v := x3 + (1 : Int32)) (lv' := [(3, .int (x3 + (1 : Int32))), (2, .int x3), (4, .int t0), (0, .ref x0), (1, .int x1)]) hx hb dX8_innermostIslandAround_79 hl (k := 4) rfl rfl (by decide) rfl (fun ls hl => ?_)
              refine lv_goto (tgt := 18) hx hb dX8_innermostIslandAround_82 (by decide) ?_
              exact ih x0 x1 x3 (x3 + (1 : Int32)) f H locs ls hI (lv_sub hl [3, 4, 1, 0] rfl) hq
          have hj65 : ∀ (x0 : Nat) (x1 : Int32) (x2 : Int32) (x3 : Int32) (f : GH) (H : Heap) (locs : List Loc) (ls : Array Slot), g_at (g_A V) V g D cT f n s H locs → lv_has ls 5 [(0, .ref x0), (1, .int x1), (2, .int x2), (3, .int x3)] → p_X8_innermostIslandAround_j65 V g (p_X8_innermostIslandAround_j66 V g (p_X8_innermostIslandAround_l18 V g K85 N)) x0 x1 x2 x3 f = some o → W p l e rm_X8_innermostIslandAround s m args below meth c H locs 0 0 (MQ below (g_Wi V D cT o.1 o.2 n) args s 0 0 (g_A V)) (F0 m 65 ls []) := by
            intro x0 x1 x2 x3 f H locs ls hI hl hq
            unfold p_X8_innermostIslandAround_j65 at hq
            refine lv_iconst (v := (0 : Int32)) hx hb dX8_innermostIslandAround_65 (by decide) ?_
            exact hj66 x0 x1 x2 x3 (0 : Int32) f H locs ls hI (lv_sub hl [0, 1, 2, 3] rfl) hq
          refine lv_if_eq (tgt := 65) hx hb dX8_innermostIslandAround_34 (by decide) (fun c9 => ?_) (fun c9 => ?_)
          · replace hq := i_t c9 hq
            exact hj65 x0 x1 x2 x3 f H locs ls hI (lv_sub hl [0, 1, 2, 3] rfl) hq
          · replace hq := i_f c9 hq
            refine lv_iload_n hx hb dX8_innermostIslandAround_37 rfl (lv_at hl 2 rfl) ?_
            refine lv_iconst (v := (-1 : Int32)) hx hb dX8_innermostIslandAround_38 (by decide) ?_
            refine lv_icmp_eq (tgt := 61) hx hb dX8_innermostIslandAround_39 (by decide) (fun c10 => ?_) (fun c10 => ?_)
            · replace hq := i_t c10 hq
              refine lv_iconst (v := (1 : Int32)) hx hb dX8_innermostIslandAround_61 (by decide) ?_
              refine lv_goto (tgt := 66) hx hb dX8_innermostIslandAround_62 (by decide) ?_
              exact hj66 x0 x1 x2 x3 (1 : Int32) f H locs ls hI (lv_sub hl [0, 1, 2, 3] rfl) hq
            · replace hq := i_f c10 hq
              refine lv_aload_n hx hb dX8_innermostIslandAround_42 rfl (lv_at hl 0 rfl) ?_
              refine lv_iload_n hx hb dX8_innermostIslandAround_43 rfl (lv_at hl 3 rfl) ?_
              obtain ⟨v11, ev11, hq⟩ := b_s hq
              refine gr_i (g_runV (As := [.int x3]) (rest := []) (ci := 10) hC (c_X8_signedArea l V g D cT f n x0 x3 v11 ev11) k_X8_signedArea m_1799 rfl rfl ⟨Nat.le_of_ble_eq_true rfl, Nat.le_of_ble_eq_true rfl⟩ hI rfl rfl (h_me_eq ev11).1 rfl hl.1 rfl (Nat.le_of_ble_eq_true rfl) dX8_innermostIslandAround_44 ⟨by decide, by decide⟩) hI (fun H locs hI => ?_)
              obtain ⟨v12, ev12, hq⟩ := b_s hq
              refine gr_i (g_runS (As := [.int v11]) (rest := []) hC (c_X8_sizeOf l V g D cT f n v11 v12 ev12) k_X8_sizeOf m_1680 rfl rfl ⟨Nat.le_of_ble_eq_true rfl, Nat.le_of_ble_eq_true rfl⟩ hI rfl hl.1 rfl (Nat.le_of_ble_eq_true rfl) dX8_innermostIslandAround_47 ⟨by decide, by decide⟩) hI (fun H locs hI => ?_)
              refine lv_aload_n hx hb dX8_innermostIslandAround_50 rfl (lv_at hl 0 rfl) ?_
              refine lv_iload_n hx hb dX8_innermostIslandAround_51 rfl (lv_at hl 2 rfl) ?_
              obtain ⟨v13, ev13, hq⟩ := b_s hq
              refine gr_i (g_runV (As := [.int x2]) (rest := [.int v12]) (ci := 10) hC (c_X8_signedArea l V g D cT f n x0 x2 v13 ev13) k_X8_signedArea m_1799 rfl rfl ⟨Nat.le_of_ble_eq_true rfl, Nat.le_of_ble_eq_true rfl⟩ hI rfl rfl (h_me_eq ev13).1 rfl hl.1 rfl (Nat.le_of_ble_eq_true rfl) dX8_innermostIslandAround_52 ⟨by decide, by decide⟩) hI (fun H locs hI => ?_)
              obtain ⟨v14, ev14, hq⟩ := b_s hq
              refine gr_i (g_runS (As := [.int v13]) (rest := [.int v12]) hC (c_X8_sizeOf l V g D cT f n v13 v14 ev14) k_X8_sizeOf m_1680 rfl rfl ⟨Nat.le_of_ble_eq_true rfl, Nat.le_of_ble_eq_true rfl⟩ hI rfl hl.1 rfl (Nat.le_of_ble_eq_true rfl) dX8_innermostIslandAround_55 ⟨by decide, by decide⟩) hI (fun H locs hI => ?_)
              refine lv_icmp_ge (tgt := 65) hx hb dX8_innermostIslandAround_58 (by decide) (fun c15 => ?_) (fun c15 => ?_)
              · replace hq := i_t c15 hq
                exact hj65 x0 x1 x2 x3 f H locs ls hI (lv_sub hl [0, 1, 2, 3] rfl) hq
              · replace hq := i_f c15 hq
                refine lv_iconst (v := (1 : Int32)) hx hb dX8_innermostIslandAround_61 (by decide) ?_
                refine lv_goto (tgt := 66) hx hb dX8_innermostIslandAround_62 (by decide) ?_
                exact hj66 x0 x1 x2 x3 (1 : Int32) f H locs ls hI (lv_sub hl [0, 1, 2, 3] rfl) hq
    refine hl18 _ ?_ FU a0 a1 (-1 : Int32) (0 : Int32) v2.2 H locs ls hI (lv_sub hl [2, 3, 1, 0] rfl) hq
    · intro x2 f H locs ls hI hl hq
      refine lv_iload_n hx hb dX8_innermostIslandAround_85 rfl (lv_at hl 0 rfl) ?_
      exact ge_Wi hx hb hlocks hr rfl hI (congrArg (fun z => z.1) (Option.some.inj hq)) (congrArg (fun z => z.2) (Option.some.inj hq)) dX8_innermostIslandAround_86
  · replace hq := i_f c3 hq
    refine lv_iconst (v := (0 : Int32)) hx hb dX8_innermostIslandAround_12 (by decide) ?_
    exact ge_Wi hx hb hlocks hr rfl hI (congrArg (fun z => z.1) (Option.some.inj hq)) (congrArg (fun z => z.2) (Option.some.inj hq)) dX8_innermostIslandAround_13

def p_X8_ringDepth_l18 (V : Nat → Nat) (g : GH) (K51 : Int32 → GH → Option (Int32 × GH)) : Nat → Nat → Int32 → Int32 → Int32 → GH → Option (Int32 × GH)
  | 0, _, _, _, _, _ => none
  | N + 1, x0, x1, x2, x3, f =>
    (h_gr f x0 10 5).bind fun v4 =>
    (h_li f v4 0 (1 : Int32)).bind fun v5 =>
    (if v5 ≤ x3 then
      K51 x2 f
    else
      (p_X8_surrounds V g f x0 x3 x1).bind fun v7 =>
      (if v7 = (0 : Int32) then
        p_X8_ringDepth_l18 V g K51 N x0 x1 (x2 + (0 : Int32)) (x3 + (1 : Int32)) f
      else
        p_X8_ringDepth_l18 V g K51 N x0 x1 (x2 + (1 : Int32)) (x3 + (1 : Int32)) f))
def p_X8_ringDepth (V : Nat → Nat) (g f : GH) (a0 : Nat) (a1 : Int32) : Option (Int32 × GH) :=
  h_me f a0 10 <|
  (p_X8_isCoast V g f a0 a1).bind fun v1 =>
  (p_X8_lacks V g f a0 v1).bind fun v2 =>
  (if v2.1 = (0 : Int32) then
    p_X8_ringDepth_l18 V g (fun x2 f =>
      some (x2, f)) FU a0 a1 (0 : Int32) (0 : Int32) v2.2
  else
    some ((0 : Int32), v2.2))
abbrev rm_X8_ringDepth : Room := { frames := 9, cells := 0, slots := 0, locals := 285 }
theorem k_X8_ringDepth : g_CV yX8_ringDepth cX8_ringDepth 4 (some .int) 1 := ⟨⟨m_1852, m_14, by decide +kernel⟩, m_1850, m_1851⟩
set_option maxHeartbeats 4000000 in
set_option maxRecDepth 100000 in
theorem c_X8_ringDepth (l : Launch) (V : Nat → Nat) (g : GH) (D : va_G) (cT : Nat → ClassId) (f : GH) (n : Nat) (a0 : Nat) (a1 : Int32) (o : Int32 × GH) (hq : p_X8_ringDepth V g f a0 a1 = some o) : Met l yX8_ringDepth (Cond.code yX8_ringDepth cX8_ringDepth 4 (some .int) :: g_B) rm_X8_ringDepth (va_Pc [.ref a0, .int a1] (g_I V g D cT f n)) (g_Wi V D cT o.1 o.2 n) 0 0 (g_A V) := by
  refine g_begin (own := RX8) [.ref a0, .int a1] [(0, .ref a0), (1, .int a1)] (g_A V) (fun _ h => h) (by decide) rfl (Nat.le_of_ble_eq_true rfl) rfl ?_
  intro p e s m args below meth c hx hb hr hlocks hin hC hI ls hl
  obtain ⟨hx, hb, hml, hown, hB⟩ := id hC
  obtain ⟨H, hH⟩ : ∃ H, H = s.heap := ⟨_, rfl⟩
  obtain ⟨locs, hlocs⟩ : ∃ L : List Loc, L = [] := ⟨_, rfl⟩
  rw [← hH, ← hlocs] at hI ⊢
  clear hH hlocs
  unfold p_X8_ringDepth at hq
  replace hq := (h_me_eq hq).2
  refine lv_aload_n hx hb dX8_ringDepth_0 rfl (lv_at hl 0 rfl) ?_
  refine lv_aload_n hx hb dX8_ringDepth_1 rfl (lv_at hl 0 rfl) ?_
  refine lv_iload_n hx hb dX8_ringDepth_2 rfl (lv_at hl 1 rfl) ?_
  obtain ⟨v1, ev1, hq⟩ := b_s hq
  refine gr_i (g_runV (As := [.int a1]) (rest := [.ref a0]) (ci := 10) hC (c_X8_isCoast l V g D cT f n a0 a1 v1 ev1) k_X8_isCoast m_1630 rfl rfl ⟨Nat.le_of_ble_eq_true rfl, Nat.le_of_ble_eq_true rfl⟩ hI rfl rfl (h_me_eq ev1).1 rfl hl.1 rfl (Nat.le_of_ble_eq_true rfl) dX8_ringDepth_3 ⟨by decide, by decide⟩) hI (fun H locs hI => ?_)
  obtain ⟨v2, ev2, hq⟩ := b_s hq
  refine gw_i (g_runV (As := [.int v1]) (rest := []) (ci := 10) hC (c_X8_lacks l V g D cT f n a0 v1 v2 ev2) k_X8_lacks m_1637 rfl rfl ⟨Nat.le_of_ble_eq_true rfl, Nat.le_of_ble_eq_true rfl⟩ hI rfl rfl (h_me_eq ev2).1 rfl hl.1 rfl (Nat.le_of_ble_eq_true rfl) dX8_ringDepth_6 ⟨by decide, by decide⟩) hI (fun H locs hI => ?_)
  refine lv_if_eq (tgt := 14) hx hb dX8_ringDepth_9 (by decide) (fun c3 => ?_) (fun c3 => ?_)
  · replace hq := i_t c3 hq
    refine lv_iconst (v := (0 : Int32)) hx hb dX8_ringDepth_14 (by decide) ?_
    refine lv_istore_n (lv' := [(2, .int (0 : Int32)), (0, .ref a0), (1, .int a1)]) hx hb dX8_ringDepth_15 rfl hl (by decide) rfl (fun ls hl => ?_)
    refine lv_iconst (v := (0 : Int32)) hx hb dX8_ringDepth_16 (by decide) ?_
    refine lv_istore_n (lv' := [(3, .int (0 : Int32)), (2, .int (0 : Int32)), (0, .ref a0), (1, .int a1)]) hx hb dX8_ringDepth_17 rfl hl (by decide) rfl (fun ls hl => ?_)
    have hl18 : ∀ (K51 : Int32 → GH → Option (Int32 × GH)) (hK51 : ∀ (x2 : Int32) (f : GH) (H : Heap) (locs : List Loc) (ls : Array Slot), g_at (g_A V) V g D cT f n s H locs → lv_has ls 4 [(2, .int x2)] → K51 x2 f = some o → W p l e rm_X8_ringDepth s m args below meth c H locs 0 0 (MQ below (g_Wi V D cT o.1 o.2 n) args s 0 0 (g_A V)) (F0 m 51 ls [])) (N : Nat) (x0 : Nat) (x1 : Int32) (x2 : Int32) (x3 : Int32) (f : GH) (H : Heap) (locs : List Loc) (ls : Array Slot), g_at (g_A V) V g D cT f n s H locs → lv_has ls 4 [(0, .ref x0), (1, .int x1), (2, .int x2), (3, .int x3)] → p_X8_ringDepth_l18 V g K51 N x0 x1 x2 x3 f = some o → W p l e rm_X8_ringDepth s m args below meth c H locs 0 0 (MQ below (g_Wi V D cT o.1 o.2 n) args s 0 0 (g_A V)) (F0 m 18 ls []) := by
      intro K51 hK51 N
      induction N with
      | zero =>
        intro x0 x1 x2 x3 f H locs ls hI hl hq
        rw [p_X8_ringDepth_l18] at hq
        cases hq
      | succ N ih =>
        intro x0 x1 x2 x3 f H locs ls hI hl hq
        rw [p_X8_ringDepth_l18] at hq
        refine lv_iload_n hx hb dX8_ringDepth_18 rfl (lv_at hl 3 rfl) ?_
        refine lv_aload_n hx hb dX8_ringDepth_19 rfl (lv_at hl 0 rfl) ?_
        obtain ⟨v4, ev4, hq⟩ := b_s hq
        refine fa_gr (own := RX8) (ref := "CoastlineRulerModel") (k := 5) hx hb hB inB_RX8 hown hI rfl (by decide) m_1536 (fun _ h9 => h9) ev4 dX8_ringDepth_20 ?_
        refine lv_iconst (v := (1 : Int32)) hx hb dX8_ringDepth_23 (by decide) ?_
        obtain ⟨v5, ev5, hq⟩ := b_s hq
        refine fa_li hx hb hI ev5 dX8_ringDepth_24 ?_
        refine lv_icmp_ge (tgt := 51) hx hb dX8_ringDepth_25 (by decide) (fun c6 => ?_) (fun c6 => ?_)
        · replace hq := i_t c6 hq
          exact hK51 x2 f H locs ls hI (lv_sub hl [2] rfl) hq
        · replace hq := i_f c6 hq
          refine lv_iload_n hx hb dX8_ringDepth_28 rfl (lv_at hl 2 rfl) ?_
          refine lv_aload_n hx hb dX8_ringDepth_29 rfl (lv_at hl 0 rfl) ?_
          refine lv_iload_n hx hb dX8_ringDepth_30 rfl (lv_at hl 3 rfl) ?_
          refine lv_iload_n hx hb dX8_ringDepth_31 rfl (lv_at hl 1 rfl) ?_
          obtain ⟨v7, ev7, hq⟩ := b_s hq
          refine gr_i (g_runV (As := [.int x3, .int x1]) (rest := [.int x2]) (ci := 10) hC (c_X8_surrounds l V g D cT f n x0 x3 x1 v7 ev7) k_X8_surrounds m_1841 rfl rfl ⟨Nat.le_of_ble_eq_true rfl, Nat.le_of_ble_eq_true rfl⟩ hI rfl rfl (h_me_eq ev7).1 rfl hl.1 rfl (Nat.le_of_ble_eq_true rfl) dX8_ringDepth_32 ⟨by decide, by decide⟩) hI (fun H locs hI => ?_)
          refine lv_if_eq (tgt := 42) hx hb dX8_ringDepth_35 (by decide) (fun c8 => ?_) (fun c8 => ?_)
          · replace hq := i_t c8 hq
            refine lv_iconst (v := (0 : Int32)) hx hb dX8_ringDepth_42 (by decide) ?_
            refine lv_iadd hx hb dX8_ringDepth_43 ?_
            refine lv_istore_n (lv' := [(2, .int (x2 + (0 : Int32))), (0, .ref x0), (1, .int x1), (3, .int x3)]) hx hb dX8_ringDepth_44 rfl hl (by decide) rfl (fun ls hl => ?_)
            refine lv_iinc (v := x3 + (1 : Int32)) (lv' := [(3, .int (x3 + (1 : Int32))), (2, .int (x2 + (0 : Int32))), (0, .ref x0), (1, .int x1)]) hx hb dX8_ringDepth_45 hl (k := 3) rfl rfl (by decide) rfl (fun ls hl => ?_)
            refine lv_goto (tgt := 18) hx hb dX8_ringDepth_48 (by decide) ?_
            exact ih x0 x1 (x2 + (0 : Int32)) (x3 + (1 : Int32)) f H locs ls hI (lv_sub hl [2, 3, 1, 0] rfl) hq
          · replace hq := i_f c8 hq
            refine lv_iconst (v := (1 : Int32)) hx hb dX8_ringDepth_38 (by decide) ?_
            refine lv_goto (tgt := 43) hx hb dX8_ringDepth_39 (by decide) ?_
            refine lv_iadd hx hb dX8_ringDepth_43 ?_
            refine lv_istore_n (lv' := [(2, .int (x2 + (1 : Int32))), (0, .ref x0), (1, .int x1), (3, .int x3)]) hx hb dX8_ringDepth_44 rfl hl (by decide) rfl (fun ls hl => ?_)
            refine lv_iinc (v := x3 + (1 : Int32)) (lv' := [(3, .int (x3 + (1 : Int32))), (2, .int (x2 + (1 : Int32))), (0, .ref x0), (1, .int x1)]) hx hb dX8_ringDepth_45 hl (k := 3) rfl rfl (by decide) rfl (fun ls hl => ?_)
            refine lv_goto (tgt := 18) hx hb dX8_ringDepth_48 (by decide) ?_
            exact ih x0 x1 (x2 + (1 : Int32)) (x3 + (1 : Int32)) f H locs ls hI (lv_sub hl [2, 3, 1, 0] rfl) hq
    refine hl18 _ ?_ FU a0 a1 (0 : Int32) (0 : Int32) v2.2 H locs ls hI (lv_sub hl [2, 3, 1, 0] rfl) hq
    · intro x2 f H locs ls hI hl hq
      refine lv_iload_n hx hb dX8_ringDepth_51 rfl (lv_at hl 0 rfl) ?_
      exact ge_Wi hx hb hlocks hr rfl hI (congrArg (fun z => z.1) (Option.some.inj hq)) (congrArg (fun z => z.2) (Option.some.inj hq)) dX8_ringDepth_52
  · replace hq := i_f c3 hq
    refine lv_iconst (v := (0 : Int32)) hx hb dX8_ringDepth_12 (by decide) ?_
    exact ge_Wi hx hb hlocks hr rfl hI (congrArg (fun z => z.1) (Option.some.inj hq)) (congrArg (fun z => z.2) (Option.some.inj hq)) dX8_ringDepth_13

def p_X8_box_j54 (V : Nat → Nat) (g f : GH) (K12 : Nat → Int32 → Int32 → Int32 → Int32 → Int32 → Option Int32) (x0 : Nat) (x1 : Int32) (x2 : Int32) (x4 : Int32) (x5 : Int32) (x6 : Int32) (t0 : Int32) : Option Int32 :=
  (if x6 ≤ x4 then
    K12 x0 x1 x2 t0 x4 (x5 + (1 : Int32))
  else
    K12 x0 x1 x2 t0 x6 (x5 + (1 : Int32)))
def p_X8_box_l12 (V : Nat → Nat) (g f : GH) (K77 : Int32 → Int32 → Option Int32) : Nat → Nat → Int32 → Int32 → Int32 → Int32 → Int32 → Option Int32
  | 0, _, _, _, _, _, _ => none
  | N + 1, x0, x1, x2, x3, x4, x5 =>
    (p_X8_count V g f x0 x1).bind fun v1 =>
    (if v1 ≤ x5 then
      K77 x3 x4
    else
      (h_gr f x0 10 5).bind fun v3 =>
      (p_X8_at V g f x1).bind fun v4 =>
      (h_li f v3 0 (((v4 + (2 : Int32)) + ((2 : Int32) * x5)) + x2)).bind fun v5 =>
      (if x3 ≤ v5 then
        p_X8_box_j54 V g f (p_X8_box_l12 V g f K77 N) x0 x1 x2 x4 x5 v5 x3
      else
        p_X8_box_j54 V g f (p_X8_box_l12 V g f K77 N) x0 x1 x2 x4 x5 v5 v5))
def p_X8_box (V : Nat → Nat) (g f : GH) (a0 : Nat) (a1 : Int32) (a2 : Int32) : Option Int32 :=
  h_me f a0 10 <|
  p_X8_box_l12 V g f (fun x3 x4 =>
    some (x4 - x3)) FU a0 a1 a2 (1000 : Int32) (-1000 : Int32) (0 : Int32)
abbrev rm_X8_box : Room := { frames := 4, cells := 0, slots := 0, locals := 161 }
theorem k_X8_box : g_CV yX8_box cX8_box 7 (some .int) 2 := ⟨⟨m_1860, m_14, by decide +kernel⟩, m_1859, ms_50⟩
set_option maxHeartbeats 4000000 in
set_option maxRecDepth 100000 in
theorem c_X8_box (l : Launch) (V : Nat → Nat) (g : GH) (D : va_G) (cT : Nat → ClassId) (f : GH) (n : Nat) (a0 : Nat) (a1 : Int32) (a2 : Int32) (o : Int32) (hq : p_X8_box V g f a0 a1 a2 = some o) : Met l yX8_box (Cond.code yX8_box cX8_box 7 (some .int) :: g_B) rm_X8_box (va_Pc [.ref a0, .int a1, .int a2] (g_I V g D cT f n)) (g_Ri o n) 0 0 g_no := by
  refine g_begin (own := RX8) [.ref a0, .int a1, .int a2] [(0, .ref a0), (1, .int a1), (2, .int a2)] g_no (fun _ h => h.elim) (by decide) rfl (Nat.le_of_ble_eq_true rfl) rfl ?_
  intro p e s m args below meth c hx hb hr hlocks hin hC hI ls hl
  obtain ⟨hx, hb, hml, hown, hB⟩ := id hC
  obtain ⟨H, hH⟩ : ∃ H, H = s.heap := ⟨_, rfl⟩
  obtain ⟨locs, hlocs⟩ : ∃ L : List Loc, L = [] := ⟨_, rfl⟩
  rw [← hH, ← hlocs] at hI ⊢
  clear hH hlocs
  unfold p_X8_box at hq
  replace hq := (h_me_eq hq).2
  refine lv_sipush (v := (1000 : Int32)) hx hb dX8_box_0 (by decide) ?_
  refine lv_istore_n (lv' := [(3, .int (1000 : Int32)), (0, .ref a0), (1, .int a1), (2, .int a2)]) hx hb dX8_box_3 rfl hl (by decide) rfl (fun ls hl => ?_)
  refine lv_sipush (v := (-1000 : Int32)) hx hb dX8_box_4 (by decide) ?_
  refine lv_istore (lv' := [(4, .int (-1000 : Int32)), (3, .int (1000 : Int32)), (0, .ref a0), (1, .int a1), (2, .int a2)]) hx hb dX8_box_7 hl (by decide) rfl (fun ls hl => ?_)
  refine lv_iconst (v := (0 : Int32)) hx hb dX8_box_9 (by decide) ?_
  refine lv_istore (lv' := [(5, .int (0 : Int32)), (4, .int (-1000 : Int32)), (3, .int (1000 : Int32)), (0, .ref a0), (1, .int a1), (2, .int a2)]) hx hb dX8_box_10 hl (by decide) rfl (fun ls hl => ?_)
  have hl12 : ∀ (K77 : Int32 → Int32 → Option Int32) (hK77 : ∀ (x3 : Int32) (x4 : Int32) (H : Heap) (locs : List Loc) (ls : Array Slot), g_at g_no V g D cT f n s H locs → lv_has ls 7 [(3, .int x3), (4, .int x4)] → K77 x3 x4 = some o → W p l e rm_X8_box s m args below meth c H locs 0 0 (MQ below (g_Ri o n) args s 0 0 g_no) (F0 m 77 ls [])) (N : Nat) (x0 : Nat) (x1 : Int32) (x2 : Int32) (x3 : Int32) (x4 : Int32) (x5 : Int32) (H : Heap) (locs : List Loc) (ls : Array Slot), g_at g_no V g D cT f n s H locs → lv_has ls 7 [(0, .ref x0), (1, .int x1), (2, .int x2), (3, .int x3), (4, .int x4), (5, .int x5)] → p_X8_box_l12 V g f K77 N x0 x1 x2 x3 x4 x5 = some o → W p l e rm_X8_box s m args below meth c H locs 0 0 (MQ below (g_Ri o n) args s 0 0 g_no) (F0 m 12 ls []) := by
    intro K77 hK77 N
    induction N with
    | zero =>
      intro x0 x1 x2 x3 x4 x5 H locs ls hI hl hq
      rw [p_X8_box_l12] at hq
      cases hq
    | succ N ih =>
      intro x0 x1 x2 x3 x4 x5 H locs ls hI hl hq
      rw [p_X8_box_l12] at hq
      refine lv_iload hx hb dX8_box_12 (lv_at hl 5 rfl) ?_
      refine lv_aload_n hx hb dX8_box_14 rfl (lv_at hl 0 rfl) ?_
      refine lv_iload_n hx hb dX8_box_15 rfl (lv_at hl 1 rfl) ?_
      obtain ⟨v1, ev1, hq⟩ := b_s hq
      refine gr_i (g_runV (As := [.int x1]) (rest := [.int x5]) (ci := 10) hC (c_X8_count l V g D cT f n x0 x1 v1 ev1) k_X8_count m_1527 rfl rfl ⟨Nat.le_of_ble_eq_true rfl, Nat.le_of_ble_eq_true rfl⟩ hI rfl rfl (h_me_eq ev1).1 rfl hl.1 rfl (Nat.le_of_ble_eq_true rfl) dX8_box_16 ⟨by decide, by decide⟩) hI (fun H locs hI => ?_)
      refine lv_icmp_ge (tgt := 77) hx hb dX8_box_19 (by decide) (fun c2 => ?_) (fun c2 => ?_)
      · replace hq := i_t c2 hq
        exact hK77 x3 x4 H locs ls hI (lv_sub hl [3, 4] rfl) hq
      · replace hq := i_f c2 hq
        refine lv_aload_n hx hb dX8_box_22 rfl (lv_at hl 0 rfl) ?_
        obtain ⟨v3, ev3, hq⟩ := b_s hq
        refine fa_gr (own := RX8) (ref := "CoastlineRulerModel") (k := 5) hx hb hB inB_RX8 hown hI rfl (by decide) m_1536 (fun _ h9 => h9) ev3 dX8_box_23 ?_
        refine lv_iload_n hx hb dX8_box_26 rfl (lv_at hl 1 rfl) ?_
        obtain ⟨v4, ev4, hq⟩ := b_s hq
        refine gr_i (g_runS (As := [.int x1]) (rest := [.ref v3]) hC (c_X8_at l V g D cT f n x1 v4 ev4) k_X8_at m_1515 rfl rfl ⟨Nat.le_of_ble_eq_true rfl, Nat.le_of_ble_eq_true rfl⟩ hI rfl hl.1 rfl (Nat.le_of_ble_eq_true rfl) dX8_box_27 ⟨by decide, by decide⟩) hI (fun H locs hI => ?_)
        refine lv_iconst (v := (2 : Int32)) hx hb dX8_box_30 (by decide) ?_
        refine lv_iadd hx hb dX8_box_31 ?_
        refine lv_iconst (v := (2 : Int32)) hx hb dX8_box_32 (by decide) ?_
        refine lv_iload hx hb dX8_box_33 (lv_at hl 5 rfl) ?_
        refine lv_imul hx hb dX8_box_35 ?_
        refine lv_iadd hx hb dX8_box_36 ?_
        refine lv_iload_n hx hb dX8_box_37 rfl (lv_at hl 2 rfl) ?_
        refine lv_iadd hx hb dX8_box_38 ?_
        obtain ⟨v5, ev5, hq⟩ := b_s hq
        refine fa_li hx hb hI ev5 dX8_box_39 ?_
        refine lv_istore (lv' := [(6, .int v5), (0, .ref x0), (1, .int x1), (2, .int x2), (3, .int x3), (4, .int x4), (5, .int x5)]) hx hb dX8_box_40 hl (by decide) rfl (fun ls hl => ?_)
        refine lv_iload hx hb dX8_box_42 (lv_at hl 0 rfl) ?_
        refine lv_iload_n hx hb dX8_box_44 rfl (lv_at hl 4 rfl) ?_
        have hj54 : ∀ (x0 : Nat) (x1 : Int32) (x2 : Int32) (x4 : Int32) (x5 : Int32) (x6 : Int32) (t0 : Int32) (H : Heap) (locs : List Loc) (ls : Array Slot), g_at g_no V g D cT f n s H locs → lv_has ls 7 [(0, .ref x0), (1, .int x1), (2, .int x2), (4, .int x4), (5, .int x5), (6, .int x6)] → p_X8_box_j54 V g f (p_X8_box_l12 V g f K77 N) x0 x1 x2 x4 x5 x6 t0 = some o → W p l e rm_X8_box s m args below meth c H locs 0 0 (MQ below (g_Ri o n) args s 0 0 g_no) (F0 m 54 ls [.int t0]) := by
          intro x0 x1 x2 x4 x5 x6 t0 H locs ls hI hl hq
          unfold p_X8_box_j54 at hq
          refine lv_istore_n (lv' := [(3, .int t0), (0, .ref x0), (1, .int x1), (2, .int x2), (4, .int x4), (5, .int x5), (6, .int x6)]) hx hb dX8_box_54 rfl hl (by decide) rfl (fun ls hl => ?_)
          refine lv_iload hx hb dX8_box_55 (lv_at hl 6 rfl) ?_
          refine lv_iload hx hb dX8_box_57 (lv_at hl 4 rfl) ?_
          refine lv_icmp_le (tgt := 67) hx hb dX8_box_59 (by decide) (fun c6 => ?_) (fun c6 => ?_)
          · replace hq := i_t c6 hq
            refine lv_iload hx hb dX8_box_67 (lv_at hl 4 rfl) ?_
            refine lv_istore (lv' := [(4, .int x4), (3, .int t0), (0, .ref x0), (1, .int x1), (2, .int x2), (5, .int x5), (6, .int x6)]) hx hb dX8_box_69 hl (by decide) rfl (fun ls hl => ?_)
            refine lv_iinc (v := x5 + (1 : Int32)) (lv' := [(5, .int (x5 + (1 : Int32))), (4, .int x4), (3, .int t0), (0, .ref x0), (1, .int x1), (2, .int x2), (6, .int x6)]) hx hb dX8_box_71 hl (k := 5) rfl rfl (by decide) rfl (fun ls hl => ?_)
            refine lv_goto (tgt := 12) hx hb dX8_box_74 (by decide) ?_
            exact ih x0 x1 x2 t0 x4 (x5 + (1 : Int32)) H locs ls hI (lv_sub hl [3, 4, 5, 2, 1, 0] rfl) hq
          · replace hq := i_f c6 hq
            refine lv_iload hx hb dX8_box_62 (lv_at hl 6 rfl) ?_
            refine lv_goto (tgt := 69) hx hb dX8_box_64 (by decide) ?_
            refine lv_istore (lv' := [(4, .int x6), (3, .int t0), (0, .ref x0), (1, .int x1), (2, .int x2), (5, .int x5), (6, .int x6)]) hx hb dX8_box_69 hl (by decide) rfl (fun ls hl => ?_)
            refine lv_iinc (v := x5 + (1 : Int32)) (lv' := [(5, .int (x5 + (1 : Int32))), (4, .int x6), (3, .int t0), (0, .ref x0), (1, .int x1), (2, .int x2), (6, .int x6)]) hx hb dX8_box_71 hl (k := 5) rfl rfl (by decide) rfl (fun ls hl => ?_)
            refine lv_goto (tgt := 12) hx hb dX8_box_74 (by decide) ?_
            exact ih x0 x1 x2 t0 x6 (x5 + (1 : Int32)) H locs ls hI (lv_sub hl [3, 4, 5, 2, 1, 0] rfl) hq
        refine lv_icmp_ge (tgt := 53) hx hb dX8_box_45 (by decide) (fun c7 => ?_) (fun c7 => ?_)
        · replace hq := i_t c7 hq
          refine lv_iload_n hx hb dX8_box_53 rfl (lv_at hl 4 rfl) ?_
          exact hj54 x0 x1 x2 x4 x5 v5 x3 H locs ls hI (lv_sub hl [1, 2, 3, 5, 6, 0] rfl) hq
        · replace hq := i_f c7 hq
          refine lv_iload hx hb dX8_box_48 (lv_at hl 0 rfl) ?_
          refine lv_goto (tgt := 54) hx hb dX8_box_50 (by decide) ?_
          exact hj54 x0 x1 x2 x4 x5 v5 v5 H locs ls hI (lv_sub hl [1, 2, 3, 5, 6, 0] rfl) hq
  refine hl12 _ ?_ FU a0 a1 a2 (1000 : Int32) (-1000 : Int32) (0 : Int32) H locs ls hI (lv_sub hl [3, 4, 5, 2, 1, 0] rfl) hq
  · intro x3 x4 H locs ls hI hl hq
    refine lv_iload hx hb dX8_box_77 (lv_at hl 1 rfl) ?_
    refine lv_iload_n hx hb dX8_box_79 rfl (lv_at hl 0 rfl) ?_
    refine lv_isub hx hb dX8_box_80 ?_
    exact ge_Ri hx hb hlocks hr rfl hI hq dX8_box_81

def p_X8_boxWidth (V : Nat → Nat) (g f : GH) (a0 : Nat) (a1 : Int32) : Option (Int32 × GH) :=
  h_me f a0 10 <|
  (p_X8_isCoast V g f a0 a1).bind fun v1 =>
  (p_X8_lacks V g f a0 v1).bind fun v2 =>
  (if v2.1 = (0 : Int32) then
    (p_X8_box V g v2.2 a0 a1 (0 : Int32)).bind fun v4 =>
    some (v4, v2.2)
  else
    some ((0 : Int32), v2.2))
abbrev rm_X8_boxWidth : Room := { frames := 5, cells := 0, slots := 0, locals := 187 }
theorem k_X8_boxWidth : g_CV yX8_boxWidth cX8_boxWidth 2 (some .int) 1 := ⟨⟨m_1856, m_14, by decide +kernel⟩, m_1854, m_1855⟩
set_option maxHeartbeats 4000000 in
set_option maxRecDepth 100000 in
theorem c_X8_boxWidth (l : Launch) (V : Nat → Nat) (g : GH) (D : va_G) (cT : Nat → ClassId) (f : GH) (n : Nat) (a0 : Nat) (a1 : Int32) (o : Int32 × GH) (hq : p_X8_boxWidth V g f a0 a1 = some o) : Met l yX8_boxWidth (Cond.code yX8_boxWidth cX8_boxWidth 2 (some .int) :: g_B) rm_X8_boxWidth (va_Pc [.ref a0, .int a1] (g_I V g D cT f n)) (g_Wi V D cT o.1 o.2 n) 0 0 (g_A V) := by
  refine g_begin (own := RX8) [.ref a0, .int a1] [(0, .ref a0), (1, .int a1)] (g_A V) (fun _ h => h) (by decide) rfl (Nat.le_of_ble_eq_true rfl) rfl ?_
  intro p e s m args below meth c hx hb hr hlocks hin hC hI ls hl
  obtain ⟨hx, hb, hml, hown, hB⟩ := id hC
  obtain ⟨H, hH⟩ : ∃ H, H = s.heap := ⟨_, rfl⟩
  obtain ⟨locs, hlocs⟩ : ∃ L : List Loc, L = [] := ⟨_, rfl⟩
  rw [← hH, ← hlocs] at hI ⊢
  clear hH hlocs
  unfold p_X8_boxWidth at hq
  replace hq := (h_me_eq hq).2
  refine lv_aload_n hx hb dX8_boxWidth_0 rfl (lv_at hl 0 rfl) ?_
  refine lv_aload_n hx hb dX8_boxWidth_1 rfl (lv_at hl 0 rfl) ?_
  refine lv_iload_n hx hb dX8_boxWidth_2 rfl (lv_at hl 1 rfl) ?_
  obtain ⟨v1, ev1, hq⟩ := b_s hq
  refine gr_i (g_runV (As := [.int a1]) (rest := [.ref a0]) (ci := 10) hC (c_X8_isCoast l V g D cT f n a0 a1 v1 ev1) k_X8_isCoast m_1630 rfl rfl ⟨Nat.le_of_ble_eq_true rfl, Nat.le_of_ble_eq_true rfl⟩ hI rfl rfl (h_me_eq ev1).1 rfl hl.1 rfl (Nat.le_of_ble_eq_true rfl) dX8_boxWidth_3 ⟨by decide, by decide⟩) hI (fun H locs hI => ?_)
  obtain ⟨v2, ev2, hq⟩ := b_s hq
  refine gw_i (g_runV (As := [.int v1]) (rest := []) (ci := 10) hC (c_X8_lacks l V g D cT f n a0 v1 v2 ev2) k_X8_lacks m_1637 rfl rfl ⟨Nat.le_of_ble_eq_true rfl, Nat.le_of_ble_eq_true rfl⟩ hI rfl rfl (h_me_eq ev2).1 rfl hl.1 rfl (Nat.le_of_ble_eq_true rfl) dX8_boxWidth_6 ⟨by decide, by decide⟩) hI (fun H locs hI => ?_)
  refine lv_if_eq (tgt := 16) hx hb dX8_boxWidth_9 (by decide) (fun c3 => ?_) (fun c3 => ?_)
  · replace hq := i_t c3 hq
    refine lv_aload_n hx hb dX8_boxWidth_16 rfl (lv_at hl 0 rfl) ?_
    refine lv_iload_n hx hb dX8_boxWidth_17 rfl (lv_at hl 1 rfl) ?_
    refine lv_iconst (v := (0 : Int32)) hx hb dX8_boxWidth_18 (by decide) ?_
    obtain ⟨v4, ev4, hq⟩ := b_s hq
    refine gr_i (g_runV (As := [.int a1, .int (0 : Int32)]) (rest := []) (ci := 10) hC (c_X8_box l V g D cT v2.2 n a0 a1 (0 : Int32) v4 ev4) k_X8_box m_1857 rfl rfl ⟨Nat.le_of_ble_eq_true rfl, Nat.le_of_ble_eq_true rfl⟩ hI rfl rfl (h_me_eq ev4).1 rfl hl.1 rfl (Nat.le_of_ble_eq_true rfl) dX8_boxWidth_19 ⟨by decide, by decide⟩) hI (fun H locs hI => ?_)
    exact ge_Wi hx hb hlocks hr rfl hI (congrArg (fun z => z.1) (Option.some.inj hq)) (congrArg (fun z => z.2) (Option.some.inj hq)) dX8_boxWidth_22
  · replace hq := i_f c3 hq
    refine lv_iconst (v := (0 : Int32)) hx hb dX8_boxWidth_12 (by decide) ?_
    refine lv_goto (tgt := 22) hx hb dX8_boxWidth_13 (by decide) ?_
    exact ge_Wi hx hb hlocks hr rfl hI (congrArg (fun z => z.1) (Option.some.inj hq)) (congrArg (fun z => z.2) (Option.some.inj hq)) dX8_boxWidth_22

def p_X8_boxHeight (V : Nat → Nat) (g f : GH) (a0 : Nat) (a1 : Int32) : Option (Int32 × GH) :=
  h_me f a0 10 <|
  (p_X8_isCoast V g f a0 a1).bind fun v1 =>
  (p_X8_lacks V g f a0 v1).bind fun v2 =>
  (if v2.1 = (0 : Int32) then
    (p_X8_box V g v2.2 a0 a1 (1 : Int32)).bind fun v4 =>
    some (v4, v2.2)
  else
    some ((0 : Int32), v2.2))
abbrev rm_X8_boxHeight : Room := { frames := 5, cells := 0, slots := 0, locals := 187 }
theorem k_X8_boxHeight : g_CV yX8_boxHeight cX8_boxHeight 2 (some .int) 1 := ⟨⟨m_1864, m_14, by decide +kernel⟩, m_1862, m_1863⟩
set_option maxHeartbeats 4000000 in
set_option maxRecDepth 100000 in
theorem c_X8_boxHeight (l : Launch) (V : Nat → Nat) (g : GH) (D : va_G) (cT : Nat → ClassId) (f : GH) (n : Nat) (a0 : Nat) (a1 : Int32) (o : Int32 × GH) (hq : p_X8_boxHeight V g f a0 a1 = some o) : Met l yX8_boxHeight (Cond.code yX8_boxHeight cX8_boxHeight 2 (some .int) :: g_B) rm_X8_boxHeight (va_Pc [.ref a0, .int a1] (g_I V g D cT f n)) (g_Wi V D cT o.1 o.2 n) 0 0 (g_A V) := by
  refine g_begin (own := RX8) [.ref a0, .int a1] [(0, .ref a0), (1, .int a1)] (g_A V) (fun _ h => h) (by decide) rfl (Nat.le_of_ble_eq_true rfl) rfl ?_
  intro p e s m args below meth c hx hb hr hlocks hin hC hI ls hl
  obtain ⟨hx, hb, hml, hown, hB⟩ := id hC
  obtain ⟨H, hH⟩ : ∃ H, H = s.heap := ⟨_, rfl⟩
  obtain ⟨locs, hlocs⟩ : ∃ L : List Loc, L = [] := ⟨_, rfl⟩
  rw [← hH, ← hlocs] at hI ⊢
  clear hH hlocs
  unfold p_X8_boxHeight at hq
  replace hq := (h_me_eq hq).2
  refine lv_aload_n hx hb dX8_boxHeight_0 rfl (lv_at hl 0 rfl) ?_
  refine lv_aload_n hx hb dX8_boxHeight_1 rfl (lv_at hl 0 rfl) ?_
  refine lv_iload_n hx hb dX8_boxHeight_2 rfl (lv_at hl 1 rfl) ?_
  obtain ⟨v1, ev1, hq⟩ := b_s hq
  refine gr_i (g_runV (As := [.int a1]) (rest := [.ref a0]) (ci := 10) hC (c_X8_isCoast l V g D cT f n a0 a1 v1 ev1) k_X8_isCoast m_1630 rfl rfl ⟨Nat.le_of_ble_eq_true rfl, Nat.le_of_ble_eq_true rfl⟩ hI rfl rfl (h_me_eq ev1).1 rfl hl.1 rfl (Nat.le_of_ble_eq_true rfl) dX8_boxHeight_3 ⟨by decide, by decide⟩) hI (fun H locs hI => ?_)
  obtain ⟨v2, ev2, hq⟩ := b_s hq
  refine gw_i (g_runV (As := [.int v1]) (rest := []) (ci := 10) hC (c_X8_lacks l V g D cT f n a0 v1 v2 ev2) k_X8_lacks m_1637 rfl rfl ⟨Nat.le_of_ble_eq_true rfl, Nat.le_of_ble_eq_true rfl⟩ hI rfl rfl (h_me_eq ev2).1 rfl hl.1 rfl (Nat.le_of_ble_eq_true rfl) dX8_boxHeight_6 ⟨by decide, by decide⟩) hI (fun H locs hI => ?_)
  refine lv_if_eq (tgt := 16) hx hb dX8_boxHeight_9 (by decide) (fun c3 => ?_) (fun c3 => ?_)
  · replace hq := i_t c3 hq
    refine lv_aload_n hx hb dX8_boxHeight_16 rfl (lv_at hl 0 rfl) ?_
    refine lv_iload_n hx hb dX8_boxHeight_17 rfl (lv_at hl 1 rfl) ?_
    refine lv_iconst (v := (1 : Int32)) hx hb dX8_boxHeight_18 (by decide) ?_
    obtain ⟨v4, ev4, hq⟩ := b_s hq
    refine gr_i (g_runV (As := [.int a1, .int (1 : Int32)]) (rest := []) (ci := 10) hC (c_X8_box l V g D cT v2.2 n a0 a1 (1 : Int32) v4 ev4) k_X8_box m_1857 rfl rfl ⟨Nat.le_of_ble_eq_true rfl, Nat.le_of_ble_eq_true rfl⟩ hI rfl rfl (h_me_eq ev4).1 rfl hl.1 rfl (Nat.le_of_ble_eq_true rfl) dX8_boxHeight_19 ⟨by decide, by decide⟩) hI (fun H locs hI => ?_)
    exact ge_Wi hx hb hlocks hr rfl hI (congrArg (fun z => z.1) (Option.some.inj hq)) (congrArg (fun z => z.2) (Option.some.inj hq)) dX8_boxHeight_22
  · replace hq := i_f c3 hq
    refine lv_iconst (v := (0 : Int32)) hx hb dX8_boxHeight_12 (by decide) ?_
    refine lv_goto (tgt := 22) hx hb dX8_boxHeight_13 (by decide) ?_
    exact ge_Wi hx hb hlocks hr rfl hI (congrArg (fun z => z.1) (Option.some.inj hq)) (congrArg (fun z => z.2) (Option.some.inj hq)) dX8_boxHeight_22

def p_X8_foldedCount (V : Nat → Nat) (g f : GH) (a0 : Nat) (a1 : Int32) : Option Int32 :=
  h_me f a0 10 <|
  (p_X8_island V g f a0 a1).bind fun v1 =>
  (if v1 = (0 : Int32) then
    (p_X8_count V g f a0 a1).bind fun v3 =>
    some (((2 : Int32) * v3) - (1 : Int32))
  else
    (p_X8_count V g f a0 a1).bind fun v4 =>
    some ((2 : Int32) * v4))
abbrev rm_X8_foldedCount : Room := { frames := 4, cells := 0, slots := 0, locals := 161 }
theorem k_X8_foldedCount : g_CV yX8_foldedCount cX8_foldedCount 2 (some .int) 1 := ⟨⟨m_1879, m_14, by decide +kernel⟩, m_1878, ms_52⟩
set_option maxHeartbeats 4000000 in
set_option maxRecDepth 100000 in
theorem c_X8_foldedCount (l : Launch) (V : Nat → Nat) (g : GH) (D : va_G) (cT : Nat → ClassId) (f : GH) (n : Nat) (a0 : Nat) (a1 : Int32) (o : Int32) (hq : p_X8_foldedCount V g f a0 a1 = some o) : Met l yX8_foldedCount (Cond.code yX8_foldedCount cX8_foldedCount 2 (some .int) :: g_B) rm_X8_foldedCount (va_Pc [.ref a0, .int a1] (g_I V g D cT f n)) (g_Ri o n) 0 0 g_no := by
  refine g_begin (own := RX8) [.ref a0, .int a1] [(0, .ref a0), (1, .int a1)] g_no (fun _ h => h.elim) (by decide) rfl (Nat.le_of_ble_eq_true rfl) rfl ?_
  intro p e s m args below meth c hx hb hr hlocks hin hC hI ls hl
  obtain ⟨hx, hb, hml, hown, hB⟩ := id hC
  obtain ⟨H, hH⟩ : ∃ H, H = s.heap := ⟨_, rfl⟩
  obtain ⟨locs, hlocs⟩ : ∃ L : List Loc, L = [] := ⟨_, rfl⟩
  rw [← hH, ← hlocs] at hI ⊢
  clear hH hlocs
  unfold p_X8_foldedCount at hq
  replace hq := (h_me_eq hq).2
  refine lv_aload_n hx hb dX8_foldedCount_0 rfl (lv_at hl 0 rfl) ?_
  refine lv_iload_n hx hb dX8_foldedCount_1 rfl (lv_at hl 1 rfl) ?_
  obtain ⟨v1, ev1, hq⟩ := b_s hq
  refine gr_i (g_runV (As := [.int a1]) (rest := []) (ci := 10) hC (c_X8_island l V g D cT f n a0 a1 v1 ev1) k_X8_island m_1641 rfl rfl ⟨Nat.le_of_ble_eq_true rfl, Nat.le_of_ble_eq_true rfl⟩ hI rfl rfl (h_me_eq ev1).1 rfl hl.1 rfl (Nat.le_of_ble_eq_true rfl) dX8_foldedCount_2 ⟨by decide, by decide⟩) hI (fun H locs hI => ?_)
  refine lv_if_eq (tgt := 18) hx hb dX8_foldedCount_5 (by decide) (fun c2 => ?_) (fun c2 => ?_)
  · replace hq := i_t c2 hq
    refine lv_iconst (v := (2 : Int32)) hx hb dX8_foldedCount_18 (by decide) ?_
    refine lv_aload_n hx hb dX8_foldedCount_19 rfl (lv_at hl 0 rfl) ?_
    refine lv_iload_n hx hb dX8_foldedCount_20 rfl (lv_at hl 1 rfl) ?_
    obtain ⟨v3, ev3, hq⟩ := b_s hq
    refine gr_i (g_runV (As := [.int a1]) (rest := [.int (2 : Int32)]) (ci := 10) hC (c_X8_count l V g D cT f n a0 a1 v3 ev3) k_X8_count m_1527 rfl rfl ⟨Nat.le_of_ble_eq_true rfl, Nat.le_of_ble_eq_true rfl⟩ hI rfl rfl (h_me_eq ev3).1 rfl hl.1 rfl (Nat.le_of_ble_eq_true rfl) dX8_foldedCount_21 ⟨by decide, by decide⟩) hI (fun H locs hI => ?_)
    refine lv_imul hx hb dX8_foldedCount_24 ?_
    refine lv_iconst (v := (1 : Int32)) hx hb dX8_foldedCount_25 (by decide) ?_
    refine lv_isub hx hb dX8_foldedCount_26 ?_
    exact ge_Ri hx hb hlocks hr rfl hI hq dX8_foldedCount_27
  · replace hq := i_f c2 hq
    refine lv_iconst (v := (2 : Int32)) hx hb dX8_foldedCount_8 (by decide) ?_
    refine lv_aload_n hx hb dX8_foldedCount_9 rfl (lv_at hl 0 rfl) ?_
    refine lv_iload_n hx hb dX8_foldedCount_10 rfl (lv_at hl 1 rfl) ?_
    obtain ⟨v4, ev4, hq⟩ := b_s hq
    refine gr_i (g_runV (As := [.int a1]) (rest := [.int (2 : Int32)]) (ci := 10) hC (c_X8_count l V g D cT f n a0 a1 v4 ev4) k_X8_count m_1527 rfl rfl ⟨Nat.le_of_ble_eq_true rfl, Nat.le_of_ble_eq_true rfl⟩ hI rfl rfl (h_me_eq ev4).1 rfl hl.1 rfl (Nat.le_of_ble_eq_true rfl) dX8_foldedCount_11 ⟨by decide, by decide⟩) hI (fun H locs hI => ?_)
    refine lv_imul hx hb dX8_foldedCount_14 ?_
    refine lv_goto (tgt := 27) hx hb dX8_foldedCount_15 (by decide) ?_
    exact ge_Ri hx hb hlocks hr rfl hI hq dX8_foldedCount_27

def p_X8_layMiddle_j166 (V : Nat → Nat) (g : GH) (x8 : Int32) (x9 : Int32) (x10 : Int32) (t0 : Int32) (f : GH) : Option (Int32 × GH) :=
  (if x10 = (0 : Int32) then
    (p_X8_isPosition V g f t0 x8).bind fun v14 =>
    (h_bz v14).bind fun _ =>
    some (v14, f)
  else
    (p_X8_isPosition V g f t0 (x8 + x9)).bind fun v16 =>
    (h_bz v16).bind fun _ =>
    some (v16, f))
def p_X8_layMiddle_j148 (V : Nat → Nat) (g : GH) (x7 : Int32) (x8 : Int32) (x9 : Int32) (x10 : Int32) (t0 : Int32) (t1 : Int32) (t2 : Int32) (t3 : Int32) (t4 : Nat) (f : GH) : Option (Int32 × GH) :=
  (p_X8_layPoint V g f t4 t3 t2 t1 t0).bind fun v12 =>
  (if x10 = (0 : Int32) then
    p_X8_layMiddle_j166 V g x8 x9 x10 (x7 + x9) v12
  else
    p_X8_layMiddle_j166 V g x8 x9 x10 x7 v12)
def p_X8_layMiddle_j133 (V : Nat → Nat) (g : GH) (x7 : Int32) (x8 : Int32) (x9 : Int32) (x10 : Int32) (t0 : Int32) (t1 : Int32) (t2 : Int32) (t3 : Nat) (f : GH) : Option (Int32 × GH) :=
  (if x10 = (0 : Int32) then
    p_X8_layMiddle_j148 V g x7 x8 x9 x10 x8 t0 t1 t2 t3 f
  else
    p_X8_layMiddle_j148 V g x7 x8 x9 x10 (x8 + x9) t0 t1 t2 t3 f)
def p_X8_layMiddle_j108 (V : Nat → Nat) (g : GH) (x0 : Nat) (x2 : Int32) (x7 : Int32) (x8 : Int32) (x9 : Int32) (t0 : Int32) (f : GH) : Option (Int32 × GH) :=
  (if t0 = (0 : Int32) then
    p_X8_layMiddle_j133 V g x7 x8 x9 t0 (x7 + x9) (((2 : Int32) * x2) + (1 : Int32)) (6 : Int32) x0 f
  else
    p_X8_layMiddle_j133 V g x7 x8 x9 t0 x7 (((2 : Int32) * x2) + (1 : Int32)) (6 : Int32) x0 f)
def p_X8_layMiddle_j88 (V : Nat → Nat) (g : GH) (x0 : Nat) (x2 : Int32) (x5 : Int32) (x6 : Int32) (x7 : Int32) (x8 : Int32) (t0 : Int32) (f : GH) : Option (Int32 × GH) :=
  (p_X8_sizeOf V g f x5).bind fun v10 =>
  (p_X8_sizeOf V g f x6).bind fun v11 =>
  (if v10 < v11 then
    p_X8_layMiddle_j108 V g x0 x2 x7 x8 t0 (0 : Int32) f
  else
    p_X8_layMiddle_j108 V g x0 x2 x7 x8 t0 (1 : Int32) f)
def p_X8_layMiddle (V : Nat → Nat) (g f : GH) (a0 : Nat) (a1 : Int32) (a2 : Int32) (a3 : Int32) : Option (Int32 × GH) :=
  h_me f a0 10 <|
  (p_X8_next V g f a0 a1 a2).bind fun v1 =>
  (p_X8_x V g f a0 a1 v1).bind fun v2 =>
  (p_X8_x V g f a0 a1 a2).bind fun v3 =>
  (p_X8_y V g f a0 a1 v1).bind fun v4 =>
  (p_X8_y V g f a0 a1 a2).bind fun v5 =>
  (p_X8_x V g f a0 a1 a2).bind fun v6 =>
  (p_X8_x V g f a0 a1 v1).bind fun v7 =>
  (p_X8_y V g f a0 a1 a2).bind fun v8 =>
  (p_X8_y V g f a0 a1 v1).bind fun v9 =>
  (if (a2 - a2 / (2 : Int32) * (2 : Int32)) = (0 : Int32) then
    p_X8_layMiddle_j88 V g a0 a2 (v2 - v3) (v4 - v5) ((v6 + v7) >>> ((1 : Int32) &&& 31)) ((v8 + v9) >>> ((1 : Int32) &&& 31)) a3 f
  else
    p_X8_layMiddle_j88 V g a0 a2 (v2 - v3) (v4 - v5) ((v6 + v7) >>> ((1 : Int32) &&& 31)) ((v8 + v9) >>> ((1 : Int32) &&& 31)) (-a3) f)
abbrev rm_X8_layMiddle : Room := { frames := 5, cells := 0, slots := 0, locals := 183 }
theorem k_X8_layMiddle : g_CV yX8_layMiddle cX8_layMiddle 11 (some .boolean) 3 := ⟨⟨m_1887, m_14, by decide +kernel⟩, m_1886, ms_54⟩
set_option maxHeartbeats 4000000 in
set_option maxRecDepth 100000 in
theorem c_X8_layMiddle (l : Launch) (V : Nat → Nat) (g : GH) (D : va_G) (cT : Nat → ClassId) (f : GH) (n : Nat) (a0 : Nat) (a1 : Int32) (a2 : Int32) (a3 : Int32) (o : Int32 × GH) (hq : p_X8_layMiddle V g f a0 a1 a2 a3 = some o) : Met l yX8_layMiddle (Cond.code yX8_layMiddle cX8_layMiddle 11 (some .boolean) :: g_B) rm_X8_layMiddle (va_Pc [.ref a0, .int a1, .int a2, .int a3] (g_I V g D cT f n)) (g_Wi V D cT o.1 o.2 n) 0 0 (g_A V) := by
  refine g_begin (own := RX8) [.ref a0, .int a1, .int a2, .int a3] [(0, .ref a0), (1, .int a1), (2, .int a2), (3, .int a3)] (g_A V) (fun _ h => h) (by decide) rfl (Nat.le_of_ble_eq_true rfl) rfl ?_
  intro p e s m args below meth c hx hb hr hlocks hin hC hI ls hl
  obtain ⟨hx, hb, hml, hown, hB⟩ := id hC
  obtain ⟨H, hH⟩ : ∃ H, H = s.heap := ⟨_, rfl⟩
  obtain ⟨locs, hlocs⟩ : ∃ L : List Loc, L = [] := ⟨_, rfl⟩
  rw [← hH, ← hlocs] at hI ⊢
  clear hH hlocs
  unfold p_X8_layMiddle at hq
  replace hq := (h_me_eq hq).2
  refine lv_aload_n hx hb dX8_layMiddle_0 rfl (lv_at hl 0 rfl) ?_
  refine lv_iload_n hx hb dX8_layMiddle_1 rfl (lv_at hl 1 rfl) ?_
  refine lv_iload_n hx hb dX8_layMiddle_2 rfl (lv_at hl 2 rfl) ?_
  obtain ⟨v1, ev1, hq⟩ := b_s hq
  refine gr_i (g_runV (As := [.int a1, .int a2]) (rest := []) (ci := 10) hC (c_X8_next l V g D cT f n a0 a1 a2 v1 ev1) k_X8_next m_1803 rfl rfl ⟨Nat.le_of_ble_eq_true rfl, Nat.le_of_ble_eq_true rfl⟩ hI rfl rfl (h_me_eq ev1).1 rfl hl.1 rfl (Nat.le_of_ble_eq_true rfl) dX8_layMiddle_3 ⟨by decide, by decide⟩) hI (fun H locs hI => ?_)
  refine lv_istore (lv' := [(4, .int v1), (0, .ref a0), (1, .int a1), (2, .int a2), (3, .int a3)]) hx hb dX8_layMiddle_6 hl (by decide) rfl (fun ls hl => ?_)
  refine lv_aload_n hx hb dX8_layMiddle_8 rfl (lv_at hl 1 rfl) ?_
  refine lv_iload_n hx hb dX8_layMiddle_9 rfl (lv_at hl 2 rfl) ?_
  refine lv_iload hx hb dX8_layMiddle_10 (lv_at hl 0 rfl) ?_
  obtain ⟨v2, ev2, hq⟩ := b_s hq
  refine gr_i (g_runV (As := [.int a1, .int v1]) (rest := []) (ci := 10) hC (c_X8_x l V g D cT f n a0 a1 v1 v2 ev2) k_X8_x m_1657 rfl rfl ⟨Nat.le_of_ble_eq_true rfl, Nat.le_of_ble_eq_true rfl⟩ hI rfl rfl (h_me_eq ev2).1 rfl hl.1 rfl (Nat.le_of_ble_eq_true rfl) dX8_layMiddle_12 ⟨by decide, by decide⟩) hI (fun H locs hI => ?_)
  refine lv_aload_n hx hb dX8_layMiddle_15 rfl (lv_at hl 1 rfl) ?_
  refine lv_iload_n hx hb dX8_layMiddle_16 rfl (lv_at hl 2 rfl) ?_
  refine lv_iload_n hx hb dX8_layMiddle_17 rfl (lv_at hl 3 rfl) ?_
  obtain ⟨v3, ev3, hq⟩ := b_s hq
  refine gr_i (g_runV (As := [.int a1, .int a2]) (rest := [.int v2]) (ci := 10) hC (c_X8_x l V g D cT f n a0 a1 a2 v3 ev3) k_X8_x m_1657 rfl rfl ⟨Nat.le_of_ble_eq_true rfl, Nat.le_of_ble_eq_true rfl⟩ hI rfl rfl (h_me_eq ev3).1 rfl hl.1 rfl (Nat.le_of_ble_eq_true rfl) dX8_layMiddle_18 ⟨by decide, by decide⟩) hI (fun H locs hI => ?_)
  refine lv_isub hx hb dX8_layMiddle_21 ?_
  refine lv_istore (lv' := [(5, .int (v2 - v3)), (4, .int v1), (0, .ref a0), (1, .int a1), (2, .int a2), (3, .int a3)]) hx hb dX8_layMiddle_22 hl (by decide) rfl (fun ls hl => ?_)
  refine lv_aload_n hx hb dX8_layMiddle_24 rfl (lv_at hl 2 rfl) ?_
  refine lv_iload_n hx hb dX8_layMiddle_25 rfl (lv_at hl 3 rfl) ?_
  refine lv_iload hx hb dX8_layMiddle_26 (lv_at hl 1 rfl) ?_
  obtain ⟨v4, ev4, hq⟩ := b_s hq
  refine gr_i (g_runV (As := [.int a1, .int v1]) (rest := []) (ci := 10) hC (c_X8_y l V g D cT f n a0 a1 v1 v4 ev4) k_X8_y m_1665 rfl rfl ⟨Nat.le_of_ble_eq_true rfl, Nat.le_of_ble_eq_true rfl⟩ hI rfl rfl (h_me_eq ev4).1 rfl hl.1 rfl (Nat.le_of_ble_eq_true rfl) dX8_layMiddle_28 ⟨by decide, by decide⟩) hI (fun H locs hI => ?_)
  refine lv_aload_n hx hb dX8_layMiddle_31 rfl (lv_at hl 2 rfl) ?_
  refine lv_iload_n hx hb dX8_layMiddle_32 rfl (lv_at hl 3 rfl) ?_
  refine lv_iload_n hx hb dX8_layMiddle_33 rfl (lv_at hl 4 rfl) ?_
  obtain ⟨v5, ev5, hq⟩ := b_s hq
  refine gr_i (g_runV (As := [.int a1, .int a2]) (rest := [.int v4]) (ci := 10) hC (c_X8_y l V g D cT f n a0 a1 a2 v5 ev5) k_X8_y m_1665 rfl rfl ⟨Nat.le_of_ble_eq_true rfl, Nat.le_of_ble_eq_true rfl⟩ hI rfl rfl (h_me_eq ev5).1 rfl hl.1 rfl (Nat.le_of_ble_eq_true rfl) dX8_layMiddle_34 ⟨by decide, by decide⟩) hI (fun H locs hI => ?_)
  refine lv_isub hx hb dX8_layMiddle_37 ?_
  refine lv_istore (lv' := [(6, .int (v4 - v5)), (5, .int (v2 - v3)), (4, .int v1), (0, .ref a0), (1, .int a1), (2, .int a2), (3, .int a3)]) hx hb dX8_layMiddle_38 hl (by decide) rfl (fun ls hl => ?_)
  refine lv_aload_n hx hb dX8_layMiddle_40 rfl (lv_at hl 3 rfl) ?_
  refine lv_iload_n hx hb dX8_layMiddle_41 rfl (lv_at hl 4 rfl) ?_
  refine lv_iload_n hx hb dX8_layMiddle_42 rfl (lv_at hl 5 rfl) ?_
  obtain ⟨v6, ev6, hq⟩ := b_s hq
  refine gr_i (g_runV (As := [.int a1, .int a2]) (rest := []) (ci := 10) hC (c_X8_x l V g D cT f n a0 a1 a2 v6 ev6) k_X8_x m_1657 rfl rfl ⟨Nat.le_of_ble_eq_true rfl, Nat.le_of_ble_eq_true rfl⟩ hI rfl rfl (h_me_eq ev6).1 rfl hl.1 rfl (Nat.le_of_ble_eq_true rfl) dX8_layMiddle_43 ⟨by decide, by decide⟩) hI (fun H locs hI => ?_)
  refine lv_aload_n hx hb dX8_layMiddle_46 rfl (lv_at hl 3 rfl) ?_
  refine lv_iload_n hx hb dX8_layMiddle_47 rfl (lv_at hl 4 rfl) ?_
  refine lv_iload hx hb dX8_layMiddle_48 (lv_at hl 2 rfl) ?_
  obtain ⟨v7, ev7, hq⟩ := b_s hq
  refine gr_i (g_runV (As := [.int a1, .int v1]) (rest := [.int v6]) (ci := 10) hC (c_X8_x l V g D cT f n a0 a1 v1 v7 ev7) k_X8_x m_1657 rfl rfl ⟨Nat.le_of_ble_eq_true rfl, Nat.le_of_ble_eq_true rfl⟩ hI rfl rfl (h_me_eq ev7).1 rfl hl.1 rfl (Nat.le_of_ble_eq_true rfl) dX8_layMiddle_50 ⟨by decide, by decide⟩) hI (fun H locs hI => ?_)
  refine lv_iadd hx hb dX8_layMiddle_53 ?_
  refine lv_iconst (v := (1 : Int32)) hx hb dX8_layMiddle_54 (by decide) ?_
  refine lv_ishr hx hb dX8_layMiddle_55 ?_
  refine lv_istore (lv' := [(7, .int ((v6 + v7) >>> ((1 : Int32) &&& 31))), (6, .int (v4 - v5)), (5, .int (v2 - v3)), (4, .int v1), (0, .ref a0), (1, .int a1), (2, .int a2), (3, .int a3)]) hx hb dX8_layMiddle_56 hl (by decide) rfl (fun ls hl => ?_)
  refine lv_aload_n hx hb dX8_layMiddle_58 rfl (lv_at hl 4 rfl) ?_
  refine lv_iload_n hx hb dX8_layMiddle_59 rfl (lv_at hl 5 rfl) ?_
  refine lv_iload_n hx hb dX8_layMiddle_60 rfl (lv_at hl 6 rfl) ?_
  obtain ⟨v8, ev8, hq⟩ := b_s hq
  refine gr_i (g_runV (As := [.int a1, .int a2]) (rest := []) (ci := 10) hC (c_X8_y l V g D cT f n a0 a1 a2 v8 ev8) k_X8_y m_1665 rfl rfl ⟨Nat.le_of_ble_eq_true rfl, Nat.le_of_ble_eq_true rfl⟩ hI rfl rfl (h_me_eq ev8).1 rfl hl.1 rfl (Nat.le_of_ble_eq_true rfl) dX8_layMiddle_61 ⟨by decide, by decide⟩) hI (fun H locs hI => ?_)
  refine lv_aload_n hx hb dX8_layMiddle_64 rfl (lv_at hl 4 rfl) ?_
  refine lv_iload_n hx hb dX8_layMiddle_65 rfl (lv_at hl 5 rfl) ?_
  refine lv_iload hx hb dX8_layMiddle_66 (lv_at hl 3 rfl) ?_
  obtain ⟨v9, ev9, hq⟩ := b_s hq
  refine gr_i (g_runV (As := [.int a1, .int v1]) (rest := [.int v8]) (ci := 10) hC (c_X8_y l V g D cT f n a0 a1 v1 v9 ev9) k_X8_y m_1665 rfl rfl ⟨Nat.le_of_ble_eq_true rfl, Nat.le_of_ble_eq_true rfl⟩ hI rfl rfl (h_me_eq ev9).1 rfl hl.1 rfl (Nat.le_of_ble_eq_true rfl) dX8_layMiddle_68 ⟨by decide, by decide⟩) hI (fun H locs hI => ?_)
  refine lv_iadd hx hb dX8_layMiddle_71 ?_
  refine lv_iconst (v := (1 : Int32)) hx hb dX8_layMiddle_72 (by decide) ?_
  refine lv_ishr hx hb dX8_layMiddle_73 ?_
  refine lv_istore (lv' := [(8, .int ((v8 + v9) >>> ((1 : Int32) &&& 31))), (7, .int ((v6 + v7) >>> ((1 : Int32) &&& 31))), (6, .int (v4 - v5)), (5, .int (v2 - v3)), (4, .int v1), (0, .ref a0), (1, .int a1), (2, .int a2), (3, .int a3)]) hx hb dX8_layMiddle_74 hl (by decide) rfl (fun ls hl => ?_)
  refine lv_iload_n hx hb dX8_layMiddle_76 rfl (lv_at hl 7 rfl) ?_
  refine lv_iconst (v := (2 : Int32)) hx hb dX8_layMiddle_77 (by decide) ?_
  refine lv_irem hx hb dX8_layMiddle_78 (by decide) ?_
  have hj88 : ∀ (x0 : Nat) (x2 : Int32) (x5 : Int32) (x6 : Int32) (x7 : Int32) (x8 : Int32) (t0 : Int32) (f : GH) (H : Heap) (locs : List Loc) (ls : Array Slot), g_at (g_A V) V g D cT f n s H locs → lv_has ls 11 [(0, .ref x0), (2, .int x2), (5, .int x5), (6, .int x6), (7, .int x7), (8, .int x8)] → p_X8_layMiddle_j88 V g x0 x2 x5 x6 x7 x8 t0 f = some o → W p l e rm_X8_layMiddle s m args below meth c H locs 0 0 (MQ below (g_Wi V D cT o.1 o.2 n) args s 0 0 (g_A V)) (F0 m 88 ls [.int t0]) := by
    intro x0 x2 x5 x6 x7 x8 t0 f H locs ls hI hl hq
    unfold p_X8_layMiddle_j88 at hq
    refine lv_istore (lv' := [(9, .int t0), (0, .ref x0), (2, .int x2), (5, .int x5), (6, .int x6), (7, .int x7), (8, .int x8)]) hx hb dX8_layMiddle_88 hl (by decide) rfl (fun ls hl => ?_)
    refine lv_iload hx hb dX8_layMiddle_90 (lv_at hl 3 rfl) ?_
    obtain ⟨v10, ev10, hq⟩ := b_s hq
    refine gr_i (g_runS (As := [.int x5]) (rest := []) hC (c_X8_sizeOf l V g D cT f n x5 v10 ev10) k_X8_sizeOf m_1680 rfl rfl ⟨Nat.le_of_ble_eq_true rfl, Nat.le_of_ble_eq_true rfl⟩ hI rfl hl.1 rfl (Nat.le_of_ble_eq_true rfl) dX8_layMiddle_92 ⟨by decide, by decide⟩) hI (fun H locs hI => ?_)
    refine lv_iload hx hb dX8_layMiddle_95 (lv_at hl 4 rfl) ?_
    obtain ⟨v11, ev11, hq⟩ := b_s hq
    refine gr_i (g_runS (As := [.int x6]) (rest := [.int v10]) hC (c_X8_sizeOf l V g D cT f n x6 v11 ev11) k_X8_sizeOf m_1680 rfl rfl ⟨Nat.le_of_ble_eq_true rfl, Nat.le_of_ble_eq_true rfl⟩ hI rfl hl.1 rfl (Nat.le_of_ble_eq_true rfl) dX8_layMiddle_97 ⟨by decide, by decide⟩) hI (fun H locs hI => ?_)
    have hj108 : ∀ (x0 : Nat) (x2 : Int32) (x7 : Int32) (x8 : Int32) (x9 : Int32) (t0 : Int32) (f : GH) (H : Heap) (locs : List Loc) (ls : Array Slot), g_at (g_A V) V g D cT f n s H locs → lv_has ls 11 [(0, .ref x0), (2, .int x2), (7, .int x7), (8, .int x8), (9, .int x9)] → p_X8_layMiddle_j108 V g x0 x2 x7 x8 x9 t0 f = some o → W p l e rm_X8_layMiddle s m args below meth c H locs 0 0 (MQ below (g_Wi V D cT o.1 o.2 n) args s 0 0 (g_A V)) (F0 m 108 ls [.int t0]) := by
      intro x0 x2 x7 x8 x9 t0 f H locs ls hI hl hq
      unfold p_X8_layMiddle_j108 at hq
      refine lv_istore (lv' := [(10, .int t0), (0, .ref x0), (2, .int x2), (7, .int x7), (8, .int x8), (9, .int x9)]) hx hb dX8_layMiddle_108 hl (by decide) rfl (fun ls hl => ?_)
      refine lv_aload_n hx hb dX8_layMiddle_110 rfl (lv_at hl 1 rfl) ?_
      refine lv_bipush (v := (6 : Int32)) hx hb dX8_layMiddle_111 (by decide) ?_
      refine lv_iconst (v := (2 : Int32)) hx hb dX8_layMiddle_113 (by decide) ?_
      refine lv_iload_n hx hb dX8_layMiddle_114 rfl (lv_at hl 2 rfl) ?_
      refine lv_imul hx hb dX8_layMiddle_115 ?_
      refine lv_iconst (v := (1 : Int32)) hx hb dX8_layMiddle_116 (by decide) ?_
      refine lv_iadd hx hb dX8_layMiddle_117 ?_
      refine lv_iload hx hb dX8_layMiddle_118 (lv_at hl 0 rfl) ?_
      have hj133 : ∀ (x7 : Int32) (x8 : Int32) (x9 : Int32) (x10 : Int32) (t0 : Int32) (t1 : Int32) (t2 : Int32) (t3 : Nat) (f : GH) (H : Heap) (locs : List Loc) (ls : Array Slot), g_at (g_A V) V g D cT f n s H locs → lv_has ls 11 [(7, .int x7), (8, .int x8), (9, .int x9), (10, .int x10)] → p_X8_layMiddle_j133 V g x7 x8 x9 x10 t0 t1 t2 t3 f = some o → W p l e rm_X8_layMiddle s m args below meth c H locs 0 0 (MQ below (g_Wi V D cT o.1 o.2 n) args s 0 0 (g_A V)) (F0 m 133 ls [.int t0, .int t1, .int t2, .ref t3]) := by
        intro x7 x8 x9 x10 t0 t1 t2 t3 f H locs ls hI hl hq
        unfold p_X8_layMiddle_j133 at hq
        refine lv_iload hx hb dX8_layMiddle_133 (lv_at hl 3 rfl) ?_
        have hj148 : ∀ (x7 : Int32) (x8 : Int32) (x9 : Int32) (x10 : Int32) (t0 : Int32) (t1 : Int32) (t2 : Int32) (t3 : Int32) (t4 : Nat) (f : GH) (H : Heap) (locs : List Loc) (ls : Array Slot), g_at (g_A V) V g D cT f n s H locs → lv_has ls 11 [(7, .int x7), (8, .int x8), (9, .int x9), (10, .int x10)] → p_X8_layMiddle_j148 V g x7 x8 x9 x10 t0 t1 t2 t3 t4 f = some o → W p l e rm_X8_layMiddle s m args below meth c H locs 0 0 (MQ below (g_Wi V D cT o.1 o.2 n) args s 0 0 (g_A V)) (F0 m 148 ls [.int t0, .int t1, .int t2, .int t3, .ref t4]) := by
          intro x7 x8 x9 x10 t0 t1 t2 t3 t4 f H locs ls hI hl hq
          unfold p_X8_layMiddle_j148 at hq
          obtain ⟨v12, ev12, hq⟩ := b_s hq
          refine gw_v (g_runV (As := [.int t3, .int t2, .int t1, .int t0]) (rest := []) (ci := 10) hC (c_X8_layPoint l V g D cT f n t4 t3 t2 t1 t0 v12 ev12) k_X8_layPoint m_1880 rfl rfl ⟨Nat.le_of_ble_eq_true rfl, Nat.le_of_ble_eq_true rfl⟩ hI rfl rfl (h_me_eq ev12).1 rfl hl.1 rfl (Nat.le_of_ble_eq_true rfl) dX8_layMiddle_148 ⟨by decide, by decide⟩) hI (fun H locs hI => ?_)
          refine lv_iload hx hb dX8_layMiddle_151 (lv_at hl 3 rfl) ?_
          have hj166 : ∀ (x8 : Int32) (x9 : Int32) (x10 : Int32) (t0 : Int32) (f : GH) (H : Heap) (locs : List Loc) (ls : Array Slot), g_at (g_A V) V g D cT f n s H locs → lv_has ls 11 [(8, .int x8), (9, .int x9), (10, .int x10)] → p_X8_layMiddle_j166 V g x8 x9 x10 t0 f = some o → W p l e rm_X8_layMiddle s m args below meth c H locs 0 0 (MQ below (g_Wi V D cT o.1 o.2 n) args s 0 0 (g_A V)) (F0 m 166 ls [.int t0]) := by
            intro x8 x9 x10 t0 f H locs ls hI hl hq
            unfold p_X8_layMiddle_j166 at hq
            refine lv_iload hx hb dX8_layMiddle_166 (lv_at hl 2 rfl) ?_
            refine lv_if_eq (tgt := 179) hx hb dX8_layMiddle_168 (by decide) (fun c13 => ?_) (fun c13 => ?_)
            · replace hq := i_t c13 hq
              refine lv_iload hx hb dX8_layMiddle_179 (lv_at hl 0 rfl) ?_
              obtain ⟨v14, ev14, hq⟩ := b_s hq
              refine gr_i (g_runS (As := [.int t0, .int x8]) (rest := []) hC (c_X8_isPosition l V g D cT f n t0 x8 v14 ev14) k_X8_isPosition m_1687 rfl rfl ⟨Nat.le_of_ble_eq_true rfl, Nat.le_of_ble_eq_true rfl⟩ hI rfl hl.1 rfl (Nat.le_of_ble_eq_true rfl) dX8_layMiddle_181 ⟨by decide, by decide⟩) hI (fun H locs hI => ?_)
              obtain ⟨_, ev15, hq⟩ := b_s hq
              exact ge_Wi hx hb hlocks hr (h_bz_eq ev15).2.1 hI (congrArg (fun z => z.1) (Option.some.inj hq)) (congrArg (fun z => z.2) (Option.some.inj hq)) dX8_layMiddle_184
            · replace hq := i_f c13 hq
              refine lv_iload hx hb dX8_layMiddle_171 (lv_at hl 0 rfl) ?_
              refine lv_iload hx hb dX8_layMiddle_173 (lv_at hl 1 rfl) ?_
              refine lv_iadd hx hb dX8_layMiddle_175 ?_
              refine lv_goto (tgt := 181) hx hb dX8_layMiddle_176 (by decide) ?_
              obtain ⟨v16, ev16, hq⟩ := b_s hq
              refine gr_i (g_runS (As := [.int t0, .int (x8 + x9)]) (rest := []) hC (c_X8_isPosition l V g D cT f n t0 (x8 + x9) v16 ev16) k_X8_isPosition m_1687 rfl rfl ⟨Nat.le_of_ble_eq_true rfl, Nat.le_of_ble_eq_true rfl⟩ hI rfl hl.1 rfl (Nat.le_of_ble_eq_true rfl) dX8_layMiddle_181 ⟨by decide, by decide⟩) hI (fun H locs hI => ?_)
              obtain ⟨_, ev17, hq⟩ := b_s hq
              exact ge_Wi hx hb hlocks hr (h_bz_eq ev17).2.1 hI (congrArg (fun z => z.1) (Option.some.inj hq)) (congrArg (fun z => z.2) (Option.some.inj hq)) dX8_layMiddle_184
          refine lv_if_eq (tgt := 161) hx hb dX8_layMiddle_153 (by decide) (fun c18 => ?_) (fun c18 => ?_)
          · replace hq := i_t c18 hq
            refine lv_iload hx hb dX8_layMiddle_161 (lv_at hl 0 rfl) ?_
            refine lv_iload hx hb dX8_layMiddle_163 (lv_at hl 2 rfl) ?_
            refine lv_iadd hx hb dX8_layMiddle_165 ?_
            exact hj166 x8 x9 x10 (x7 + x9) v12 H locs ls hI (lv_sub hl [1, 2, 3] rfl) hq
          · replace hq := i_f c18 hq
            refine lv_iload hx hb dX8_layMiddle_156 (lv_at hl 0 rfl) ?_
            refine lv_goto (tgt := 166) hx hb dX8_layMiddle_158 (by decide) ?_
            exact hj166 x8 x9 x10 x7 v12 H locs ls hI (lv_sub hl [1, 2, 3] rfl) hq
        refine lv_if_eq (tgt := 146) hx hb dX8_layMiddle_135 (by decide) (fun c19 => ?_) (fun c19 => ?_)
        · replace hq := i_t c19 hq
          refine lv_iload hx hb dX8_layMiddle_146 (lv_at hl 1 rfl) ?_
          exact hj148 x7 x8 x9 x10 x8 t0 t1 t2 t3 f H locs ls hI (lv_sub hl [0, 1, 2, 3] rfl) hq
        · replace hq := i_f c19 hq
          refine lv_iload hx hb dX8_layMiddle_138 (lv_at hl 1 rfl) ?_
          refine lv_iload hx hb dX8_layMiddle_140 (lv_at hl 2 rfl) ?_
          refine lv_iadd hx hb dX8_layMiddle_142 ?_
          refine lv_goto (tgt := 148) hx hb dX8_layMiddle_143 (by decide) ?_
          exact hj148 x7 x8 x9 x10 (x8 + x9) t0 t1 t2 t3 f H locs ls hI (lv_sub hl [0, 1, 2, 3] rfl) hq
      refine lv_if_eq (tgt := 128) hx hb dX8_layMiddle_120 (by decide) (fun c20 => ?_) (fun c20 => ?_)
      · replace hq := i_t c20 hq
        refine lv_iload hx hb dX8_layMiddle_128 (lv_at hl 3 rfl) ?_
        refine lv_iload hx hb dX8_layMiddle_130 (lv_at hl 5 rfl) ?_
        refine lv_iadd hx hb dX8_layMiddle_132 ?_
        exact hj133 x7 x8 x9 t0 (x7 + x9) (((2 : Int32) * x2) + (1 : Int32)) (6 : Int32) x0 f H locs ls hI (lv_sub hl [3, 4, 5, 0] rfl) hq
      · replace hq := i_f c20 hq
        refine lv_iload hx hb dX8_layMiddle_123 (lv_at hl 3 rfl) ?_
        refine lv_goto (tgt := 133) hx hb dX8_layMiddle_125 (by decide) ?_
        exact hj133 x7 x8 x9 t0 x7 (((2 : Int32) * x2) + (1 : Int32)) (6 : Int32) x0 f H locs ls hI (lv_sub hl [3, 4, 5, 0] rfl) hq
    refine lv_icmp_lt (tgt := 107) hx hb dX8_layMiddle_100 (by decide) (fun c21 => ?_) (fun c21 => ?_)
    · replace hq := i_t c21 hq
      refine lv_iconst (v := (0 : Int32)) hx hb dX8_layMiddle_107 (by decide) ?_
      exact hj108 x0 x2 x7 x8 t0 (0 : Int32) f H locs ls hI (lv_sub hl [1, 2, 5, 6, 0] rfl) hq
    · replace hq := i_f c21 hq
      refine lv_iconst (v := (1 : Int32)) hx hb dX8_layMiddle_103 (by decide) ?_
      refine lv_goto (tgt := 108) hx hb dX8_layMiddle_104 (by decide) ?_
      exact hj108 x0 x2 x7 x8 t0 (1 : Int32) f H locs ls hI (lv_sub hl [1, 2, 5, 6, 0] rfl) hq
  refine lv_if_ne (tgt := 86) hx hb dX8_layMiddle_79 (by decide) (fun c22 => ?_) (fun c22 => ?_)
  · replace hq := i_f c22 hq
    refine lv_iload_n hx hb dX8_layMiddle_86 rfl (lv_at hl 8 rfl) ?_
    refine lv_ineg hx hb dX8_layMiddle_87 ?_
    exact hj88 a0 a2 (v2 - v3) (v4 - v5) ((v6 + v7) >>> ((1 : Int32) &&& 31)) ((v8 + v9) >>> ((1 : Int32) &&& 31)) (-a3) f H locs ls hI (lv_sub hl [5, 7, 3, 2, 1, 0] rfl) hq
  · replace hq := i_t c22 hq
    refine lv_iload_n hx hb dX8_layMiddle_82 rfl (lv_at hl 8 rfl) ?_
    refine lv_goto (tgt := 88) hx hb dX8_layMiddle_83 (by decide) ?_
    exact hj88 a0 a2 (v2 - v3) (v4 - v5) ((v6 + v7) >>> ((1 : Int32) &&& 31)) ((v8 + v9) >>> ((1 : Int32) &&& 31)) a3 f H locs ls hI (lv_sub hl [5, 7, 3, 2, 1, 0] rfl) hq

def p_X8_layFolded_l57 (V : Nat → Nat) (g : GH) (K120 : Int32 → GH → Option (Int32 × GH)) : Nat → Nat → Int32 → Int32 → Int32 → Int32 → Int32 → GH → Option (Int32 × GH)
  | 0, _, _, _, _, _, _, _ => none
  | N + 1, x0, x1, x2, x3, x4, x5, f =>
    (p_X8_count V g f x0 x1).bind fun v12 =>
    (if v12 ≤ x5 then
      K120 x4 f
    else
      (p_X8_x V g f x0 x1 x5).bind fun v14 =>
      (p_X8_y V g f x0 x1 x5).bind fun v15 =>
      (p_X8_layPoint V g f x0 (6 : Int32) ((2 : Int32) * x5) v14 v15).bind fun v16 =>
      (if x3 ≤ (((2 : Int32) * x5) + (1 : Int32)) then
        p_X8_layFolded_l57 V g K120 N x0 x1 x2 x3 x4 (x5 + (1 : Int32)) v16
      else
        (p_X8_layMiddle V g v16 x0 x1 x5 x2).bind fun v18 =>
        p_X8_layFolded_l57 V g K120 N x0 x1 x2 x3 (x4 &&& v18.1) (x5 + (1 : Int32)) v18.2))
def p_X8_layFolded (V : Nat → Nat) (g f : GH) (a0 : Nat) (a1 : Int32) (a2 : Int32) : Option (Int32 × GH) :=
  h_me f a0 10 <|
  (p_X8_foldedCount V g f a0 a1).bind fun v1 =>
  (if v1 ≤ (129 : Int32) then
    (h_gr f a0 10 5).bind fun v3 =>
    (p_X8_at V g f (6 : Int32)).bind fun v4 =>
    (h_gr f a0 10 5).bind fun v5 =>
    (p_X8_at V g f a1).bind fun v6 =>
    (h_li f v5 0 (v6 + (0 : Int32))).bind fun v7 =>
    (h_si f v3 0 (v4 + (0 : Int32)) v7).bind fun f8 =>
    (h_gr f8 a0 10 5).bind fun v9 =>
    (p_X8_at V g f8 (6 : Int32)).bind fun v10 =>
    (h_si f8 v9 0 (v10 + (1 : Int32)) v1).bind fun f11 =>
    p_X8_layFolded_l57 V g (fun x4 f =>
      (if x4 = (0 : Int32) then
        some ((2 : Int32), f)
      else
        some ((0 : Int32), f))) FU a0 a1 a2 v1 (1 : Int32) (0 : Int32) f11
  else
    some ((1 : Int32), f))
abbrev rm_X8_layFolded : Room := { frames := 6, cells := 0, slots := 0, locals := 213 }
theorem k_X8_layFolded : g_CV yX8_layFolded cX8_layFolded 6 (some .int) 2 := ⟨⟨m_1875, m_14, by decide +kernel⟩, m_1874, ms_51⟩
set_option maxHeartbeats 4000000 in
set_option maxRecDepth 100000 in
theorem c_X8_layFolded (l : Launch) (V : Nat → Nat) (g : GH) (D : va_G) (cT : Nat → ClassId) (f : GH) (n : Nat) (a0 : Nat) (a1 : Int32) (a2 : Int32) (o : Int32 × GH) (hq : p_X8_layFolded V g f a0 a1 a2 = some o) : Met l yX8_layFolded (Cond.code yX8_layFolded cX8_layFolded 6 (some .int) :: g_B) rm_X8_layFolded (va_Pc [.ref a0, .int a1, .int a2] (g_I V g D cT f n)) (g_Wi V D cT o.1 o.2 n) 0 0 (g_A V) := by
  refine g_begin (own := RX8) [.ref a0, .int a1, .int a2] [(0, .ref a0), (1, .int a1), (2, .int a2)] (g_A V) (fun _ h => h) (by decide) rfl (Nat.le_of_ble_eq_true rfl) rfl ?_
  intro p e s m args below meth c hx hb hr hlocks hin hC hI ls hl
  obtain ⟨hx, hb, hml, hown, hB⟩ := id hC
  obtain ⟨H, hH⟩ : ∃ H, H = s.heap := ⟨_, rfl⟩
  obtain ⟨locs, hlocs⟩ : ∃ L : List Loc, L = [] := ⟨_, rfl⟩
  rw [← hH, ← hlocs] at hI ⊢
  clear hH hlocs
  unfold p_X8_layFolded at hq
  replace hq := (h_me_eq hq).2
  refine lv_aload_n hx hb dX8_layFolded_0 rfl (lv_at hl 0 rfl) ?_
  refine lv_iload_n hx hb dX8_layFolded_1 rfl (lv_at hl 1 rfl) ?_
  obtain ⟨v1, ev1, hq⟩ := b_s hq
  refine gr_i (g_runV (As := [.int a1]) (rest := []) (ci := 10) hC (c_X8_foldedCount l V g D cT f n a0 a1 v1 ev1) k_X8_foldedCount m_1876 rfl rfl ⟨Nat.le_of_ble_eq_true rfl, Nat.le_of_ble_eq_true rfl⟩ hI rfl rfl (h_me_eq ev1).1 rfl hl.1 rfl (Nat.le_of_ble_eq_true rfl) dX8_layFolded_2 ⟨by decide, by decide⟩) hI (fun H locs hI => ?_)
  refine lv_istore_n (lv' := [(3, .int v1), (0, .ref a0), (1, .int a1), (2, .int a2)]) hx hb dX8_layFolded_5 rfl hl (by decide) rfl (fun ls hl => ?_)
  refine lv_iload_n hx hb dX8_layFolded_6 rfl (lv_at hl 0 rfl) ?_
  refine lv_sipush (v := (129 : Int32)) hx hb dX8_layFolded_7 (by decide) ?_
  refine lv_icmp_le (tgt := 15) hx hb dX8_layFolded_10 (by decide) (fun c2 => ?_) (fun c2 => ?_)
  · replace hq := i_t c2 hq
    refine lv_aload_n hx hb dX8_layFolded_15 rfl (lv_at hl 1 rfl) ?_
    obtain ⟨v3, ev3, hq⟩ := b_s hq
    refine fa_gr (own := RX8) (ref := "CoastlineRulerModel") (k := 5) hx hb hB inB_RX8 hown hI rfl (by decide) m_1536 (fun _ h9 => h9) ev3 dX8_layFolded_16 ?_
    refine lv_bipush (v := (6 : Int32)) hx hb dX8_layFolded_19 (by decide) ?_
    obtain ⟨v4, ev4, hq⟩ := b_s hq
    refine gr_i (g_runS (As := [.int (6 : Int32)]) (rest := [.ref v3]) hC (c_X8_at l V g D cT f n (6 : Int32) v4 ev4) k_X8_at m_1515 rfl rfl ⟨Nat.le_of_ble_eq_true rfl, Nat.le_of_ble_eq_true rfl⟩ hI rfl hl.1 rfl (Nat.le_of_ble_eq_true rfl) dX8_layFolded_21 ⟨by decide, by decide⟩) hI (fun H locs hI => ?_)
    refine lv_iconst (v := (0 : Int32)) hx hb dX8_layFolded_24 (by decide) ?_
    refine lv_iadd hx hb dX8_layFolded_25 ?_
    refine lv_aload_n hx hb dX8_layFolded_26 rfl (lv_at hl 1 rfl) ?_
    obtain ⟨v5, ev5, hq⟩ := b_s hq
    refine fa_gr (own := RX8) (ref := "CoastlineRulerModel") (k := 5) hx hb hB inB_RX8 hown hI rfl (by decide) m_1536 (fun _ h9 => h9) ev5 dX8_layFolded_27 ?_
    refine lv_iload_n hx hb dX8_layFolded_30 rfl (lv_at hl 2 rfl) ?_
    obtain ⟨v6, ev6, hq⟩ := b_s hq
    refine gr_i (g_runS (As := [.int a1]) (rest := [.ref v5, .int (v4 + (0 : Int32)), .ref v3]) hC (c_X8_at l V g D cT f n a1 v6 ev6) k_X8_at m_1515 rfl rfl ⟨Nat.le_of_ble_eq_true rfl, Nat.le_of_ble_eq_true rfl⟩ hI rfl hl.1 rfl (Nat.le_of_ble_eq_true rfl) dX8_layFolded_31 ⟨by decide, by decide⟩) hI (fun H locs hI => ?_)
    refine lv_iconst (v := (0 : Int32)) hx hb dX8_layFolded_34 (by decide) ?_
    refine lv_iadd hx hb dX8_layFolded_35 ?_
    obtain ⟨v7, ev7, hq⟩ := b_s hq
    refine fa_li hx hb hI ev7 dX8_layFolded_36 ?_
    obtain ⟨f8, ef8, hq⟩ := b_s hq
    refine fa_si hx hb hI ef8 dX8_layFolded_37 (fun H locs hI => ?_)
    refine lv_aload_n hx hb dX8_layFolded_38 rfl (lv_at hl 1 rfl) ?_
    obtain ⟨v9, ev9, hq⟩ := b_s hq
    refine fa_gr (own := RX8) (ref := "CoastlineRulerModel") (k := 5) hx hb hB inB_RX8 hown hI rfl (by decide) m_1536 (fun _ h9 => h9) ev9 dX8_layFolded_39 ?_
    refine lv_bipush (v := (6 : Int32)) hx hb dX8_layFolded_42 (by decide) ?_
    obtain ⟨v10, ev10, hq⟩ := b_s hq
    refine gr_i (g_runS (As := [.int (6 : Int32)]) (rest := [.ref v9]) hC (c_X8_at l V g D cT f8 n (6 : Int32) v10 ev10) k_X8_at m_1515 rfl rfl ⟨Nat.le_of_ble_eq_true rfl, Nat.le_of_ble_eq_true rfl⟩ hI rfl hl.1 rfl (Nat.le_of_ble_eq_true rfl) dX8_layFolded_44 ⟨by decide, by decide⟩) hI (fun H locs hI => ?_)
    refine lv_iconst (v := (1 : Int32)) hx hb dX8_layFolded_47 (by decide) ?_
    refine lv_iadd hx hb dX8_layFolded_48 ?_
    refine lv_iload_n hx hb dX8_layFolded_49 rfl (lv_at hl 0 rfl) ?_
    obtain ⟨f11, ef11, hq⟩ := b_s hq
    refine fa_si hx hb hI ef11 dX8_layFolded_50 (fun H locs hI => ?_)
    refine lv_iconst (v := (1 : Int32)) hx hb dX8_layFolded_51 (by decide) ?_
    refine lv_istore (lv' := [(4, .int (1 : Int32)), (3, .int v1), (0, .ref a0), (1, .int a1), (2, .int a2)]) hx hb dX8_layFolded_52 hl (by decide) rfl (fun ls hl => ?_)
    refine lv_iconst (v := (0 : Int32)) hx hb dX8_layFolded_54 (by decide) ?_
    refine lv_istore (lv' := [(5, .int (0 : Int32)), (4, .int (1 : Int32)), (3, .int v1), (0, .ref a0), (1, .int a1), (2, .int a2)]) hx hb dX8_layFolded_55 hl (by decide) rfl (fun ls hl => ?_)
    have hl57 : ∀ (K120 : Int32 → GH → Option (Int32 × GH)) (hK120 : ∀ (x4 : Int32) (f : GH) (H : Heap) (locs : List Loc) (ls : Array Slot), g_at (g_A V) V g D cT f n s H locs → lv_has ls 6 [(4, .int x4)] → K120 x4 f = some o → W p l e rm_X8_layFolded s m args below meth c H locs 0 0 (MQ below (g_Wi V D cT o.1 o.2 n) args s 0 0 (g_A V)) (F0 m 120 ls [])) (N : Nat) (x0 : Nat) (x1 : Int32) (x2 : Int32) (x3 : Int32) (x4 : Int32) (x5 : Int32) (f : GH) (H : Heap) (locs : List Loc) (ls : Array Slot), g_at (g_A V) V g D cT f n s H locs → lv_has ls 6 [(0, .ref x0), (1, .int x1), (2, .int x2), (3, .int x3), (4, .int x4), (5, .int x5)] → p_X8_layFolded_l57 V g K120 N x0 x1 x2 x3 x4 x5 f = some o → W p l e rm_X8_layFolded s m args below meth c H locs 0 0 (MQ below (g_Wi V D cT o.1 o.2 n) args s 0 0 (g_A V)) (F0 m 57 ls []) := by
      intro K120 hK120 N
      induction N with
      | zero =>
        intro x0 x1 x2 x3 x4 x5 f H locs ls hI hl hq
        rw [p_X8_layFolded_l57] at hq
        cases hq
      | succ N ih =>
        intro x0 x1 x2 x3 x4 x5 f H locs ls hI hl hq
        rw [p_X8_layFolded_l57] at hq
        refine lv_iload hx hb dX8_layFolded_57 (lv_at hl 5 rfl) ?_
        refine lv_aload_n hx hb dX8_layFolded_59 rfl (lv_at hl 0 rfl) ?_
        refine lv_iload_n hx hb dX8_layFolded_60 rfl (lv_at hl 1 rfl) ?_
        obtain ⟨v12, ev12, hq⟩ := b_s hq
        refine gr_i (g_runV (As := [.int x1]) (rest := [.int x5]) (ci := 10) hC (c_X8_count l V g D cT f n x0 x1 v12 ev12) k_X8_count m_1527 rfl rfl ⟨Nat.le_of_ble_eq_true rfl, Nat.le_of_ble_eq_true rfl⟩ hI rfl rfl (h_me_eq ev12).1 rfl hl.1 rfl (Nat.le_of_ble_eq_true rfl) dX8_layFolded_61 ⟨by decide, by decide⟩) hI (fun H locs hI => ?_)
        refine lv_icmp_ge (tgt := 120) hx hb dX8_layFolded_64 (by decide) (fun c13 => ?_) (fun c13 => ?_)
        · replace hq := i_t c13 hq
          exact hK120 x4 f H locs ls hI (lv_sub hl [4] rfl) hq
        · replace hq := i_f c13 hq
          refine lv_aload_n hx hb dX8_layFolded_67 rfl (lv_at hl 0 rfl) ?_
          refine lv_bipush (v := (6 : Int32)) hx hb dX8_layFolded_68 (by decide) ?_
          refine lv_iconst (v := (2 : Int32)) hx hb dX8_layFolded_70 (by decide) ?_
          refine lv_iload hx hb dX8_layFolded_71 (lv_at hl 5 rfl) ?_
          refine lv_imul hx hb dX8_layFolded_73 ?_
          refine lv_aload_n hx hb dX8_layFolded_74 rfl (lv_at hl 0 rfl) ?_
          refine lv_iload_n hx hb dX8_layFolded_75 rfl (lv_at hl 1 rfl) ?_
          refine lv_iload hx hb dX8_layFolded_76 (lv_at hl 5 rfl) ?_
          obtain ⟨v14, ev14, hq⟩ := b_s hq
          refine gr_i (g_runV (As := [.int x1, .int x5]) (rest := [.int ((2 : Int32) * x5), .int (6 : Int32), .ref x0]) (ci := 10) hC (c_X8_x l V g D cT f n x0 x1 x5 v14 ev14) k_X8_x m_1657 rfl rfl ⟨Nat.le_of_ble_eq_true rfl, Nat.le_of_ble_eq_true rfl⟩ hI rfl rfl (h_me_eq ev14).1 rfl hl.1 rfl (Nat.le_of_ble_eq_true rfl) dX8_layFolded_78 ⟨by decide, by decide⟩) hI (fun H locs hI => ?_)
          refine lv_aload_n hx hb dX8_layFolded_81 rfl (lv_at hl 0 rfl) ?_
          refine lv_iload_n hx hb dX8_layFolded_82 rfl (lv_at hl 1 rfl) ?_
          refine lv_iload hx hb dX8_layFolded_83 (lv_at hl 5 rfl) ?_
          obtain ⟨v15, ev15, hq⟩ := b_s hq
          refine gr_i (g_runV (As := [.int x1, .int x5]) (rest := [.int v14, .int ((2 : Int32) * x5), .int (6 : Int32), .ref x0]) (ci := 10) hC (c_X8_y l V g D cT f n x0 x1 x5 v15 ev15) k_X8_y m_1665 rfl rfl ⟨Nat.le_of_ble_eq_true rfl, Nat.le_of_ble_eq_true rfl⟩ hI rfl rfl (h_me_eq ev15).1 rfl hl.1 rfl (Nat.le_of_ble_eq_true rfl) dX8_layFolded_85 ⟨by decide, by decide⟩) hI (fun H locs hI => ?_)
          obtain ⟨v16, ev16, hq⟩ := b_s hq
          refine gw_v (g_runV (As := [.int (6 : Int32), .int ((2 : Int32) * x5), .int v14, .int v15]) (rest := []) (ci := 10) hC (c_X8_layPoint l V g D cT f n x0 (6 : Int32) ((2 : Int32) * x5) v14 v15 v16 ev16) k_X8_layPoint m_1880 rfl rfl ⟨Nat.le_of_ble_eq_true rfl, Nat.le_of_ble_eq_true rfl⟩ hI rfl rfl (h_me_eq ev16).1 rfl hl.1 rfl (Nat.le_of_ble_eq_true rfl) dX8_layFolded_88 ⟨by decide, by decide⟩) hI (fun H locs hI => ?_)
          refine lv_iconst (v := (2 : Int32)) hx hb dX8_layFolded_91 (by decide) ?_
          refine lv_iload hx hb dX8_layFolded_92 (lv_at hl 5 rfl) ?_
          refine lv_imul hx hb dX8_layFolded_94 ?_
          refine lv_iconst (v := (1 : Int32)) hx hb dX8_layFolded_95 (by decide) ?_
          refine lv_iadd hx hb dX8_layFolded_96 ?_
          refine lv_iload_n hx hb dX8_layFolded_97 rfl (lv_at hl 3 rfl) ?_
          refine lv_icmp_ge (tgt := 114) hx hb dX8_layFolded_98 (by decide) (fun c17 => ?_) (fun c17 => ?_)
          · replace hq := i_t c17 hq
            refine lv_iinc (v := x5 + (1 : Int32)) (lv' := [(5, .int (x5 + (1 : Int32))), (0, .ref x0), (1, .int x1), (2, .int x2), (3, .int x3), (4, .int x4)]) hx hb dX8_layFolded_114 hl (k := 5) rfl rfl (by decide) rfl (fun ls hl => ?_)
            refine lv_goto (tgt := 57) hx hb dX8_layFolded_117 (by decide) ?_
            exact ih x0 x1 x2 x3 x4 (x5 + (1 : Int32)) v16 H locs ls hI (lv_sub hl [1, 2, 3, 4, 5, 0] rfl) hq
          · replace hq := i_f c17 hq
            refine lv_iload hx hb dX8_layFolded_101 (lv_at hl 4 rfl) ?_
            refine lv_aload_n hx hb dX8_layFolded_103 rfl (lv_at hl 0 rfl) ?_
            refine lv_iload_n hx hb dX8_layFolded_104 rfl (lv_at hl 1 rfl) ?_
            refine lv_iload hx hb dX8_layFolded_105 (lv_at hl 5 rfl) ?_
            refine lv_iload_n hx hb dX8_layFolded_107 rfl (lv_at hl 2 rfl) ?_
            obtain ⟨v18, ev18, hq⟩ := b_s hq
            refine gw_i (g_runV (As := [.int x1, .int x5, .int x2]) (rest := [.int x4]) (ci := 10) hC (c_X8_layMiddle l V g D cT v16 n x0 x1 x5 x2 v18 ev18) k_X8_layMiddle m_1884 rfl rfl ⟨Nat.le_of_ble_eq_true rfl, Nat.le_of_ble_eq_true rfl⟩ hI rfl rfl (h_me_eq ev18).1 rfl hl.1 rfl (Nat.le_of_ble_eq_true rfl) dX8_layFolded_108 ⟨by decide, by decide⟩) hI (fun H locs hI => ?_)
            refine lv_iand hx hb dX8_layFolded_111 ?_
            refine lv_istore (lv' := [(4, .int (x4 &&& v18.1)), (0, .ref x0), (1, .int x1), (2, .int x2), (3, .int x3), (5, .int x5)]) hx hb dX8_layFolded_112 hl (by decide) rfl (fun ls hl => ?_)
            refine lv_iinc (v := x5 + (1 : Int32)) (lv' := [(5, .int (x5 + (1 : Int32))), (4, .int (x4 &&& v18.1)), (0, .ref x0), (1, .int x1), (2, .int x2), (3, .int x3)]) hx hb dX8_layFolded_114 hl (k := 5) rfl rfl (by decide) rfl (fun ls hl => ?_)
            refine lv_goto (tgt := 57) hx hb dX8_layFolded_117 (by decide) ?_
            exact ih x0 x1 x2 x3 (x4 &&& v18.1) (x5 + (1 : Int32)) v18.2 H locs ls hI (lv_sub hl [2, 3, 4, 5, 1, 0] rfl) hq
    refine hl57 _ ?_ FU a0 a1 a2 v1 (1 : Int32) (0 : Int32) f11 H locs ls hI (lv_sub hl [3, 4, 5, 2, 1, 0] rfl) hq
    · intro x4 f H locs ls hI hl hq
      refine lv_iload hx hb dX8_layFolded_120 (lv_at hl 0 rfl) ?_
      refine lv_if_eq (tgt := 129) hx hb dX8_layFolded_122 (by decide) (fun c19 => ?_) (fun c19 => ?_)
      · replace hq := i_t c19 hq
        refine lv_iconst (v := (2 : Int32)) hx hb dX8_layFolded_129 (by decide) ?_
        exact ge_Wi hx hb hlocks hr rfl hI (congrArg (fun z => z.1) (Option.some.inj hq)) (congrArg (fun z => z.2) (Option.some.inj hq)) dX8_layFolded_130
      · replace hq := i_f c19 hq
        refine lv_iconst (v := (0 : Int32)) hx hb dX8_layFolded_125 (by decide) ?_
        refine lv_goto (tgt := 130) hx hb dX8_layFolded_126 (by decide) ?_
        exact ge_Wi hx hb hlocks hr rfl hI (congrArg (fun z => z.1) (Option.some.inj hq)) (congrArg (fun z => z.2) (Option.some.inj hq)) dX8_layFolded_130
  · replace hq := i_f c2 hq
    refine lv_iconst (v := (1 : Int32)) hx hb dX8_layFolded_13 (by decide) ?_
    exact ge_Wi hx hb hlocks hr rfl hI (congrArg (fun z => z.1) (Option.some.inj hq)) (congrArg (fun z => z.2) (Option.some.inj hq)) dX8_layFolded_14

def p_X8_foldObstacle (V : Nat → Nat) (g f : GH) (a0 : Nat) (a1 : Int32) (a2 : Int32) : Option (Int32 × GH) :=
  h_me f a0 10 <|
  (p_X8_isCoast V g f a0 a1).bind fun v1 =>
  (p_X8_isHeight V g f a2).bind fun v2 =>
  (p_X8_lacksBoth V g f a0 v1 v2).bind fun v3 =>
  (if v3.1 = (0 : Int32) then
    (p_X8_layFolded V g v3.2 a0 a1 a2).bind fun v5 =>
    some (v5.1, v5.2)
  else
    some ((0 : Int32), v3.2))
abbrev rm_X8_foldObstacle : Room := { frames := 7, cells := 0, slots := 0, locals := 238 }
theorem k_X8_foldObstacle : g_CV yX8_foldObstacle cX8_foldObstacle 3 (some .int) 2 := ⟨⟨m_1868, m_14, by decide +kernel⟩, m_1866, m_1867⟩
set_option maxHeartbeats 4000000 in
set_option maxRecDepth 100000 in
theorem c_X8_foldObstacle (l : Launch) (V : Nat → Nat) (g : GH) (D : va_G) (cT : Nat → ClassId) (f : GH) (n : Nat) (a0 : Nat) (a1 : Int32) (a2 : Int32) (o : Int32 × GH) (hq : p_X8_foldObstacle V g f a0 a1 a2 = some o) : Met l yX8_foldObstacle (Cond.code yX8_foldObstacle cX8_foldObstacle 3 (some .int) :: g_B) rm_X8_foldObstacle (va_Pc [.ref a0, .int a1, .int a2] (g_I V g D cT f n)) (g_Wi V D cT o.1 o.2 n) 0 0 (g_A V) := by
  refine g_begin (own := RX8) [.ref a0, .int a1, .int a2] [(0, .ref a0), (1, .int a1), (2, .int a2)] (g_A V) (fun _ h => h) (by decide) rfl (Nat.le_of_ble_eq_true rfl) rfl ?_
  intro p e s m args below meth c hx hb hr hlocks hin hC hI ls hl
  obtain ⟨hx, hb, hml, hown, hB⟩ := id hC
  obtain ⟨H, hH⟩ : ∃ H, H = s.heap := ⟨_, rfl⟩
  obtain ⟨locs, hlocs⟩ : ∃ L : List Loc, L = [] := ⟨_, rfl⟩
  rw [← hH, ← hlocs] at hI ⊢
  clear hH hlocs
  unfold p_X8_foldObstacle at hq
  replace hq := (h_me_eq hq).2
  refine lv_aload_n hx hb dX8_foldObstacle_0 rfl (lv_at hl 0 rfl) ?_
  refine lv_aload_n hx hb dX8_foldObstacle_1 rfl (lv_at hl 0 rfl) ?_
  refine lv_iload_n hx hb dX8_foldObstacle_2 rfl (lv_at hl 1 rfl) ?_
  obtain ⟨v1, ev1, hq⟩ := b_s hq
  refine gr_i (g_runV (As := [.int a1]) (rest := [.ref a0]) (ci := 10) hC (c_X8_isCoast l V g D cT f n a0 a1 v1 ev1) k_X8_isCoast m_1630 rfl rfl ⟨Nat.le_of_ble_eq_true rfl, Nat.le_of_ble_eq_true rfl⟩ hI rfl rfl (h_me_eq ev1).1 rfl hl.1 rfl (Nat.le_of_ble_eq_true rfl) dX8_foldObstacle_3 ⟨by decide, by decide⟩) hI (fun H locs hI => ?_)
  refine lv_iload_n hx hb dX8_foldObstacle_6 rfl (lv_at hl 2 rfl) ?_
  obtain ⟨v2, ev2, hq⟩ := b_s hq
  refine gr_i (g_runS (As := [.int a2]) (rest := [.int v1, .ref a0]) hC (c_X8_isHeight l V g D cT f n a2 v2 ev2) k_X8_isHeight m_1869 rfl rfl ⟨Nat.le_of_ble_eq_true rfl, Nat.le_of_ble_eq_true rfl⟩ hI rfl hl.1 rfl (Nat.le_of_ble_eq_true rfl) dX8_foldObstacle_7 ⟨by decide, by decide⟩) hI (fun H locs hI => ?_)
  obtain ⟨v3, ev3, hq⟩ := b_s hq
  refine gw_i (g_runV (As := [.int v1, .int v2]) (rest := []) (ci := 10) hC (c_X8_lacksBoth l V g D cT f n a0 v1 v2 v3 ev3) k_X8_lacksBoth m_1693 rfl rfl ⟨Nat.le_of_ble_eq_true rfl, Nat.le_of_ble_eq_true rfl⟩ hI rfl rfl (h_me_eq ev3).1 rfl hl.1 rfl (Nat.le_of_ble_eq_true rfl) dX8_foldObstacle_10 ⟨by decide, by decide⟩) hI (fun H locs hI => ?_)
  refine lv_if_eq (tgt := 20) hx hb dX8_foldObstacle_13 (by decide) (fun c4 => ?_) (fun c4 => ?_)
  · replace hq := i_t c4 hq
    refine lv_aload_n hx hb dX8_foldObstacle_20 rfl (lv_at hl 0 rfl) ?_
    refine lv_iload_n hx hb dX8_foldObstacle_21 rfl (lv_at hl 1 rfl) ?_
    refine lv_iload_n hx hb dX8_foldObstacle_22 rfl (lv_at hl 2 rfl) ?_
    obtain ⟨v5, ev5, hq⟩ := b_s hq
    refine gw_i (g_runV (As := [.int a1, .int a2]) (rest := []) (ci := 10) hC (c_X8_layFolded l V g D cT v3.2 n a0 a1 a2 v5 ev5) k_X8_layFolded m_1872 rfl rfl ⟨Nat.le_of_ble_eq_true rfl, Nat.le_of_ble_eq_true rfl⟩ hI rfl rfl (h_me_eq ev5).1 rfl hl.1 rfl (Nat.le_of_ble_eq_true rfl) dX8_foldObstacle_23 ⟨by decide, by decide⟩) hI (fun H locs hI => ?_)
    exact ge_Wi hx hb hlocks hr rfl hI (congrArg (fun z => z.1) (Option.some.inj hq)) (congrArg (fun z => z.2) (Option.some.inj hq)) dX8_foldObstacle_26
  · replace hq := i_f c4 hq
    refine lv_iconst (v := (0 : Int32)) hx hb dX8_foldObstacle_16 (by decide) ?_
    refine lv_goto (tgt := 26) hx hb dX8_foldObstacle_17 (by decide) ?_
    exact ge_Wi hx hb hlocks hr rfl hI (congrArg (fun z => z.1) (Option.some.inj hq)) (congrArg (fun z => z.2) (Option.some.inj hq)) dX8_foldObstacle_26

def p_X8_lengthAfterFold_j25 (V : Nat → Nat) (g : GH) (x0 : Nat) (x1 : Int32) (x2 : Int32) (x3 : Int32) (t0 : Int32) (t1 : Int32) (t2 : Nat) (f : GH) : Option (Int32 × GH) :=
  (p_X8_lacksBoth V g f t2 t1 t0).bind fun v3 =>
  (if v3.1 = (0 : Int32) then
    (p_X8_layFolded V g v3.2 x0 x1 x2).bind fun v5 =>
    (if v5.1 = (0 : Int32) then
      (p_X8_lengthNow V g v5.2 x0 (6 : Int32) x3).bind fun v7 =>
      some (v7, v5.2)
    else
      some ((-1 : Int32), v5.2))
  else
    some ((0 : Int32), v3.2))
def p_X8_lengthAfterFold_j24 (V : Nat → Nat) (g : GH) (K25 : Nat → Int32 → Int32 → Int32 → Int32 → Int32 → Nat → GH → Option (Int32 × GH)) (x0 : Nat) (x1 : Int32) (x2 : Int32) (x3 : Int32) (t0 : Int32) (t1 : Nat) (f : GH) : Option (Int32 × GH) :=
  K25 x0 x1 x2 x3 (0 : Int32) t0 t1 f
def p_X8_lengthAfterFold (V : Nat → Nat) (g f : GH) (a0 : Nat) (a1 : Int32) (a2 : Int32) (a3 : Int32) : Option (Int32 × GH) :=
  h_me f a0 10 <|
  (p_X8_isCoast V g f a0 a1).bind fun v1 =>
  (p_X8_isHeight V g f a2).bind fun v2 =>
  (if v2 = (0 : Int32) then
    p_X8_lengthAfterFold_j24 V g (p_X8_lengthAfterFold_j25 V g) a0 a1 a2 a3 v1 a0 f
  else
    (p_X8_isLevel V g f a3).bind fun v9 =>
    (if v9 = (0 : Int32) then
      p_X8_lengthAfterFold_j24 V g (p_X8_lengthAfterFold_j25 V g) a0 a1 a2 a3 v1 a0 f
    else
      p_X8_lengthAfterFold_j25 V g a0 a1 a2 a3 (1 : Int32) v1 a0 f))
abbrev rm_X8_lengthAfterFold : Room := { frames := 8, cells := 0, slots := 0, locals := 259 }
theorem k_X8_lengthAfterFold : g_CV yX8_lengthAfterFold cX8_lengthAfterFold 4 (some .int) 3 := ⟨⟨m_1891, m_14, by decide +kernel⟩, m_1889, m_1890⟩
set_option maxHeartbeats 4000000 in
set_option maxRecDepth 100000 in
theorem c_X8_lengthAfterFold (l : Launch) (V : Nat → Nat) (g : GH) (D : va_G) (cT : Nat → ClassId) (f : GH) (n : Nat) (a0 : Nat) (a1 : Int32) (a2 : Int32) (a3 : Int32) (o : Int32 × GH) (hq : p_X8_lengthAfterFold V g f a0 a1 a2 a3 = some o) : Met l yX8_lengthAfterFold (Cond.code yX8_lengthAfterFold cX8_lengthAfterFold 4 (some .int) :: g_B) rm_X8_lengthAfterFold (va_Pc [.ref a0, .int a1, .int a2, .int a3] (g_I V g D cT f n)) (g_Wi V D cT o.1 o.2 n) 0 0 (g_A V) := by
  refine g_begin (own := RX8) [.ref a0, .int a1, .int a2, .int a3] [(0, .ref a0), (1, .int a1), (2, .int a2), (3, .int a3)] (g_A V) (fun _ h => h) (by decide) rfl (Nat.le_of_ble_eq_true rfl) rfl ?_
  intro p e s m args below meth c hx hb hr hlocks hin hC hI ls hl
  obtain ⟨hx, hb, hml, hown, hB⟩ := id hC
  obtain ⟨H, hH⟩ : ∃ H, H = s.heap := ⟨_, rfl⟩
  obtain ⟨locs, hlocs⟩ : ∃ L : List Loc, L = [] := ⟨_, rfl⟩
  rw [← hH, ← hlocs] at hI ⊢
  clear hH hlocs
  unfold p_X8_lengthAfterFold at hq
  replace hq := (h_me_eq hq).2
  refine lv_aload_n hx hb dX8_lengthAfterFold_0 rfl (lv_at hl 0 rfl) ?_
  refine lv_aload_n hx hb dX8_lengthAfterFold_1 rfl (lv_at hl 0 rfl) ?_
  refine lv_iload_n hx hb dX8_lengthAfterFold_2 rfl (lv_at hl 1 rfl) ?_
  obtain ⟨v1, ev1, hq⟩ := b_s hq
  refine gr_i (g_runV (As := [.int a1]) (rest := [.ref a0]) (ci := 10) hC (c_X8_isCoast l V g D cT f n a0 a1 v1 ev1) k_X8_isCoast m_1630 rfl rfl ⟨Nat.le_of_ble_eq_true rfl, Nat.le_of_ble_eq_true rfl⟩ hI rfl rfl (h_me_eq ev1).1 rfl hl.1 rfl (Nat.le_of_ble_eq_true rfl) dX8_lengthAfterFold_3 ⟨by decide, by decide⟩) hI (fun H locs hI => ?_)
  refine lv_iload_n hx hb dX8_lengthAfterFold_6 rfl (lv_at hl 2 rfl) ?_
  obtain ⟨v2, ev2, hq⟩ := b_s hq
  refine gr_i (g_runS (As := [.int a2]) (rest := [.int v1, .ref a0]) hC (c_X8_isHeight l V g D cT f n a2 v2 ev2) k_X8_isHeight m_1869 rfl rfl ⟨Nat.le_of_ble_eq_true rfl, Nat.le_of_ble_eq_true rfl⟩ hI rfl hl.1 rfl (Nat.le_of_ble_eq_true rfl) dX8_lengthAfterFold_7 ⟨by decide, by decide⟩) hI (fun H locs hI => ?_)
  have hj25 : ∀ (x0 : Nat) (x1 : Int32) (x2 : Int32) (x3 : Int32) (t0 : Int32) (t1 : Int32) (t2 : Nat) (f : GH) (H : Heap) (locs : List Loc) (ls : Array Slot), g_at (g_A V) V g D cT f n s H locs → lv_has ls 4 [(0, .ref x0), (1, .int x1), (2, .int x2), (3, .int x3)] → p_X8_lengthAfterFold_j25 V g x0 x1 x2 x3 t0 t1 t2 f = some o → W p l e rm_X8_lengthAfterFold s m args below meth c H locs 0 0 (MQ below (g_Wi V D cT o.1 o.2 n) args s 0 0 (g_A V)) (F0 m 25 ls [.int t0, .int t1, .ref t2]) := by
    intro x0 x1 x2 x3 t0 t1 t2 f H locs ls hI hl hq
    unfold p_X8_lengthAfterFold_j25 at hq
    obtain ⟨v3, ev3, hq⟩ := b_s hq
    refine gw_i (g_runV (As := [.int t1, .int t0]) (rest := []) (ci := 10) hC (c_X8_lacksBoth l V g D cT f n t2 t1 t0 v3 ev3) k_X8_lacksBoth m_1693 rfl rfl ⟨Nat.le_of_ble_eq_true rfl, Nat.le_of_ble_eq_true rfl⟩ hI rfl rfl (h_me_eq ev3).1 rfl hl.1 rfl (Nat.le_of_ble_eq_true rfl) dX8_lengthAfterFold_25 ⟨by decide, by decide⟩) hI (fun H locs hI => ?_)
    refine lv_if_eq (tgt := 33) hx hb dX8_lengthAfterFold_28 (by decide) (fun c4 => ?_) (fun c4 => ?_)
    · replace hq := i_t c4 hq
      refine lv_aload_n hx hb dX8_lengthAfterFold_33 rfl (lv_at hl 0 rfl) ?_
      refine lv_iload_n hx hb dX8_lengthAfterFold_34 rfl (lv_at hl 1 rfl) ?_
      refine lv_iload_n hx hb dX8_lengthAfterFold_35 rfl (lv_at hl 2 rfl) ?_
      obtain ⟨v5, ev5, hq⟩ := b_s hq
      refine gw_i (g_runV (As := [.int x1, .int x2]) (rest := []) (ci := 10) hC (c_X8_layFolded l V g D cT v3.2 n x0 x1 x2 v5 ev5) k_X8_layFolded m_1872 rfl rfl ⟨Nat.le_of_ble_eq_true rfl, Nat.le_of_ble_eq_true rfl⟩ hI rfl rfl (h_me_eq ev5).1 rfl hl.1 rfl (Nat.le_of_ble_eq_true rfl) dX8_lengthAfterFold_36 ⟨by decide, by decide⟩) hI (fun H locs hI => ?_)
      refine lv_if_ne (tgt := 52) hx hb dX8_lengthAfterFold_39 (by decide) (fun c6 => ?_) (fun c6 => ?_)
      · replace hq := i_f c6 hq
        refine lv_iconst (v := (-1 : Int32)) hx hb dX8_lengthAfterFold_52 (by decide) ?_
        exact ge_Wi hx hb hlocks hr rfl hI (congrArg (fun z => z.1) (Option.some.inj hq)) (congrArg (fun z => z.2) (Option.some.inj hq)) dX8_lengthAfterFold_53
      · replace hq := i_t c6 hq
        refine lv_aload_n hx hb dX8_lengthAfterFold_42 rfl (lv_at hl 0 rfl) ?_
        refine lv_bipush (v := (6 : Int32)) hx hb dX8_lengthAfterFold_43 (by decide) ?_
        refine lv_iload_n hx hb dX8_lengthAfterFold_45 rfl (lv_at hl 3 rfl) ?_
        obtain ⟨v7, ev7, hq⟩ := b_s hq
        refine gr_i (g_runV (As := [.int (6 : Int32), .int x3]) (rest := []) (ci := 10) hC (c_X8_lengthNow l V g D cT v5.2 n x0 (6 : Int32) x3 v7 ev7) k_X8_lengthNow m_1708 rfl rfl ⟨Nat.le_of_ble_eq_true rfl, Nat.le_of_ble_eq_true rfl⟩ hI rfl rfl (h_me_eq ev7).1 rfl hl.1 rfl (Nat.le_of_ble_eq_true rfl) dX8_lengthAfterFold_46 ⟨by decide, by decide⟩) hI (fun H locs hI => ?_)
        refine lv_goto (tgt := 53) hx hb dX8_lengthAfterFold_49 (by decide) ?_
        exact ge_Wi hx hb hlocks hr rfl hI (congrArg (fun z => z.1) (Option.some.inj hq)) (congrArg (fun z => z.2) (Option.some.inj hq)) dX8_lengthAfterFold_53
    · replace hq := i_f c4 hq
      refine lv_iconst (v := (0 : Int32)) hx hb dX8_lengthAfterFold_31 (by decide) ?_
      exact ge_Wi hx hb hlocks hr rfl hI (congrArg (fun z => z.1) (Option.some.inj hq)) (congrArg (fun z => z.2) (Option.some.inj hq)) dX8_lengthAfterFold_32
  have hj24 : ∀ (x0 : Nat) (x1 : Int32) (x2 : Int32) (x3 : Int32) (t0 : Int32) (t1 : Nat) (f : GH) (H : Heap) (locs : List Loc) (ls : Array Slot), g_at (g_A V) V g D cT f n s H locs → lv_has ls 4 [(0, .ref x0), (1, .int x1), (2, .int x2), (3, .int x3)] → p_X8_lengthAfterFold_j24 V g (p_X8_lengthAfterFold_j25 V g) x0 x1 x2 x3 t0 t1 f = some o → W p l e rm_X8_lengthAfterFold s m args below meth c H locs 0 0 (MQ below (g_Wi V D cT o.1 o.2 n) args s 0 0 (g_A V)) (F0 m 24 ls [.int t0, .ref t1]) := by
    intro x0 x1 x2 x3 t0 t1 f H locs ls hI hl hq
    unfold p_X8_lengthAfterFold_j24 at hq
    refine lv_iconst (v := (0 : Int32)) hx hb dX8_lengthAfterFold_24 (by decide) ?_
    exact hj25 x0 x1 x2 x3 (0 : Int32) t0 t1 f H locs ls hI (lv_sub hl [0, 1, 2, 3] rfl) hq
  refine lv_if_eq (tgt := 24) hx hb dX8_lengthAfterFold_10 (by decide) (fun c8 => ?_) (fun c8 => ?_)
  · replace hq := i_t c8 hq
    exact hj24 a0 a1 a2 a3 v1 a0 f H locs ls hI (lv_sub hl [0, 1, 2, 3] rfl) hq
  · replace hq := i_f c8 hq
    refine lv_iload_n hx hb dX8_lengthAfterFold_13 rfl (lv_at hl 3 rfl) ?_
    obtain ⟨v9, ev9, hq⟩ := b_s hq
    refine gr_i (g_runS (As := [.int a3]) (rest := [.int v1, .ref a0]) hC (c_X8_isLevel l V g D cT f n a3 v9 ev9) k_X8_isLevel m_1705 rfl rfl ⟨Nat.le_of_ble_eq_true rfl, Nat.le_of_ble_eq_true rfl⟩ hI rfl hl.1 rfl (Nat.le_of_ble_eq_true rfl) dX8_lengthAfterFold_14 ⟨by decide, by decide⟩) hI (fun H locs hI => ?_)
    refine lv_if_eq (tgt := 24) hx hb dX8_lengthAfterFold_17 (by decide) (fun c10 => ?_) (fun c10 => ?_)
    · replace hq := i_t c10 hq
      exact hj24 a0 a1 a2 a3 v1 a0 f H locs ls hI (lv_sub hl [0, 1, 2, 3] rfl) hq
    · replace hq := i_f c10 hq
      refine lv_iconst (v := (1 : Int32)) hx hb dX8_lengthAfterFold_20 (by decide) ?_
      refine lv_goto (tgt := 25) hx hb dX8_lengthAfterFold_21 (by decide) ?_
      exact hj25 a0 a1 a2 a3 (1 : Int32) v1 a0 f H locs ls hI (lv_sub hl [0, 1, 2, 3] rfl) hq

def p_X8_cut_l29 (V : Nat → Nat) (g : GH) (K70 : GH → Option GH) : Nat → Nat → Int32 → Int32 → GH → Option GH
  | 0, _, _, _, _ => none
  | N + 1, x0, x1, x4, f =>
    (p_X8_at V g f x1).bind fun v6 =>
    (p_X8_count V g f x0 x1).bind fun v7 =>
    (if ((v6 + (2 : Int32)) + ((2 : Int32) * v7)) ≤ x4 then
      K70 f
    else
      (h_gr f x0 10 5).bind fun v9 =>
      (h_gr f x0 10 5).bind fun v10 =>
      (h_li f v10 0 (x4 + (2 : Int32))).bind fun v11 =>
      (h_si f v9 0 x4 v11).bind fun f12 =>
      p_X8_cut_l29 V g K70 N x0 x1 (x4 + (1 : Int32)) f12)
def p_X8_cut (V : Nat → Nat) (g f : GH) (a0 : Nat) (a1 : Int32) (a2 : Int32) : Option GH :=
  h_me f a0 10 <|
  (p_X8_at V g f a1).bind fun v1 =>
  (h_gr f a0 10 5).bind fun v2 =>
  (p_X8_at V g f a1).bind fun v3 =>
  (h_li f v2 0 (v3 + (1 : Int32))).bind fun v4 =>
  (h_si f v2 0 (v3 + (1 : Int32)) (v4 - (1 : Int32))).bind fun f5 =>
  p_X8_cut_l29 V g (fun f =>
    some f) FU a0 a1 ((v1 + (2 : Int32)) + ((2 : Int32) * a2)) f5
abbrev rm_X8_cut : Room := { frames := 4, cells := 0, slots := 0, locals := 161 }
theorem k_X8_cut : g_CV yX8_cut cX8_cut 5 none 2 := ⟨⟨m_1911, m_14, by decide +kernel⟩, m_1910, ms_58⟩
set_option maxHeartbeats 4000000 in
set_option maxRecDepth 100000 in
theorem c_X8_cut (l : Launch) (V : Nat → Nat) (g : GH) (D : va_G) (cT : Nat → ClassId) (f : GH) (n : Nat) (a0 : Nat) (a1 : Int32) (a2 : Int32) (o : GH) (hq : p_X8_cut V g f a0 a1 a2 = some o) : Met l yX8_cut (Cond.code yX8_cut cX8_cut 5 none :: g_B) rm_X8_cut (va_Pc [.ref a0, .int a1, .int a2] (g_I V g D cT f n)) (g_Wv V D cT o n) 0 0 (g_A V) := by
  refine g_begin (own := RX8) [.ref a0, .int a1, .int a2] [(0, .ref a0), (1, .int a1), (2, .int a2)] (g_A V) (fun _ h => h) (by decide) rfl (Nat.le_of_ble_eq_true rfl) rfl ?_
  intro p e s m args below meth c hx hb hr hlocks hin hC hI ls hl
  obtain ⟨hx, hb, hml, hown, hB⟩ := id hC
  obtain ⟨H, hH⟩ : ∃ H, H = s.heap := ⟨_, rfl⟩
  obtain ⟨locs, hlocs⟩ : ∃ L : List Loc, L = [] := ⟨_, rfl⟩
  rw [← hH, ← hlocs] at hI ⊢
  clear hH hlocs
  unfold p_X8_cut at hq
  replace hq := (h_me_eq hq).2
  refine lv_iload_n hx hb dX8_cut_0 rfl (lv_at hl 1 rfl) ?_
  obtain ⟨v1, ev1, hq⟩ := b_s hq
  refine gr_i (g_runS (As := [.int a1]) (rest := []) hC (c_X8_at l V g D cT f n a1 v1 ev1) k_X8_at m_1515 rfl rfl ⟨Nat.le_of_ble_eq_true rfl, Nat.le_of_ble_eq_true rfl⟩ hI rfl hl.1 rfl (Nat.le_of_ble_eq_true rfl) dX8_cut_1 ⟨by decide, by decide⟩) hI (fun H locs hI => ?_)
  refine lv_iconst (v := (2 : Int32)) hx hb dX8_cut_4 (by decide) ?_
  refine lv_iadd hx hb dX8_cut_5 ?_
  refine lv_iconst (v := (2 : Int32)) hx hb dX8_cut_6 (by decide) ?_
  refine lv_iload_n hx hb dX8_cut_7 rfl (lv_at hl 2 rfl) ?_
  refine lv_imul hx hb dX8_cut_8 ?_
  refine lv_iadd hx hb dX8_cut_9 ?_
  refine lv_istore_n (lv' := [(3, .int ((v1 + (2 : Int32)) + ((2 : Int32) * a2))), (0, .ref a0), (1, .int a1), (2, .int a2)]) hx hb dX8_cut_10 rfl hl (by decide) rfl (fun ls hl => ?_)
  refine lv_aload_n hx hb dX8_cut_11 rfl (lv_at hl 1 rfl) ?_
  obtain ⟨v2, ev2, hq⟩ := b_s hq
  refine fa_gr (own := RX8) (ref := "CoastlineRulerModel") (k := 5) hx hb hB inB_RX8 hown hI rfl (by decide) m_1536 (fun _ h9 => h9) ev2 dX8_cut_12 ?_
  refine lv_iload_n hx hb dX8_cut_15 rfl (lv_at hl 2 rfl) ?_
  obtain ⟨v3, ev3, hq⟩ := b_s hq
  refine gr_i (g_runS (As := [.int a1]) (rest := [.ref v2]) hC (c_X8_at l V g D cT f n a1 v3 ev3) k_X8_at m_1515 rfl rfl ⟨Nat.le_of_ble_eq_true rfl, Nat.le_of_ble_eq_true rfl⟩ hI rfl hl.1 rfl (Nat.le_of_ble_eq_true rfl) dX8_cut_16 ⟨by decide, by decide⟩) hI (fun H locs hI => ?_)
  refine lv_iconst (v := (1 : Int32)) hx hb dX8_cut_19 (by decide) ?_
  refine lv_iadd hx hb dX8_cut_20 ?_
  refine lv_dup2_11 hx hb dX8_cut_21 rfl rfl ?_
  obtain ⟨v4, ev4, hq⟩ := b_s hq
  refine fa_li hx hb hI ev4 dX8_cut_22 ?_
  refine lv_iconst (v := (1 : Int32)) hx hb dX8_cut_23 (by decide) ?_
  refine lv_isub hx hb dX8_cut_24 ?_
  obtain ⟨f5, ef5, hq⟩ := b_s hq
  refine fa_si hx hb hI ef5 dX8_cut_25 (fun H locs hI => ?_)
  refine lv_iload_n hx hb dX8_cut_26 rfl (lv_at hl 0 rfl) ?_
  refine lv_istore (lv' := [(4, .int ((v1 + (2 : Int32)) + ((2 : Int32) * a2))), (3, .int ((v1 + (2 : Int32)) + ((2 : Int32) * a2))), (0, .ref a0), (1, .int a1), (2, .int a2)]) hx hb dX8_cut_27 hl (by decide) rfl (fun ls hl => ?_)
  have hl29 : ∀ (K70 : GH → Option GH) (hK70 : ∀ (f : GH) (H : Heap) (locs : List Loc) (ls : Array Slot), g_at (g_A V) V g D cT f n s H locs → lv_has ls 5 [] → K70 f = some o → W p l e rm_X8_cut s m args below meth c H locs 0 0 (MQ below (g_Wv V D cT o n) args s 0 0 (g_A V)) (F0 m 70 ls [])) (N : Nat) (x0 : Nat) (x1 : Int32) (x4 : Int32) (f : GH) (H : Heap) (locs : List Loc) (ls : Array Slot), g_at (g_A V) V g D cT f n s H locs → lv_has ls 5 [(0, .ref x0), (1, .int x1), (4, .int x4)] → p_X8_cut_l29 V g K70 N x0 x1 x4 f = some o → W p l e rm_X8_cut s m args below meth c H locs 0 0 (MQ below (g_Wv V D cT o n) args s 0 0 (g_A V)) (F0 m 29 ls []) := by
    intro K70 hK70 N
    induction N with
    | zero =>
      intro x0 x1 x4 f H locs ls hI hl hq
      rw [p_X8_cut_l29] at hq
      cases hq
    | succ N ih =>
      intro x0 x1 x4 f H locs ls hI hl hq
      rw [p_X8_cut_l29] at hq
      refine lv_iload hx hb dX8_cut_29 (lv_at hl 2 rfl) ?_
      refine lv_iload_n hx hb dX8_cut_31 rfl (lv_at hl 1 rfl) ?_
      obtain ⟨v6, ev6, hq⟩ := b_s hq
      refine gr_i (g_runS (As := [.int x1]) (rest := [.int x4]) hC (c_X8_at l V g D cT f n x1 v6 ev6) k_X8_at m_1515 rfl rfl ⟨Nat.le_of_ble_eq_true rfl, Nat.le_of_ble_eq_true rfl⟩ hI rfl hl.1 rfl (Nat.le_of_ble_eq_true rfl) dX8_cut_32 ⟨by decide, by decide⟩) hI (fun H locs hI => ?_)
      refine lv_iconst (v := (2 : Int32)) hx hb dX8_cut_35 (by decide) ?_
      refine lv_iadd hx hb dX8_cut_36 ?_
      refine lv_iconst (v := (2 : Int32)) hx hb dX8_cut_37 (by decide) ?_
      refine lv_aload_n hx hb dX8_cut_38 rfl (lv_at hl 0 rfl) ?_
      refine lv_iload_n hx hb dX8_cut_39 rfl (lv_at hl 1 rfl) ?_
      obtain ⟨v7, ev7, hq⟩ := b_s hq
      refine gr_i (g_runV (As := [.int x1]) (rest := [.int (2 : Int32), .int (v6 + (2 : Int32)), .int x4]) (ci := 10) hC (c_X8_count l V g D cT f n x0 x1 v7 ev7) k_X8_count m_1527 rfl rfl ⟨Nat.le_of_ble_eq_true rfl, Nat.le_of_ble_eq_true rfl⟩ hI rfl rfl (h_me_eq ev7).1 rfl hl.1 rfl (Nat.le_of_ble_eq_true rfl) dX8_cut_40 ⟨by decide, by decide⟩) hI (fun H locs hI => ?_)
      refine lv_imul hx hb dX8_cut_43 ?_
      refine lv_iadd hx hb dX8_cut_44 ?_
      refine lv_icmp_ge (tgt := 70) hx hb dX8_cut_45 (by decide) (fun c8 => ?_) (fun c8 => ?_)
      · replace hq := i_t c8 hq
        exact hK70 f H locs ls hI (lv_sub hl [] rfl) hq
      · replace hq := i_f c8 hq
        refine lv_aload_n hx hb dX8_cut_48 rfl (lv_at hl 0 rfl) ?_
        obtain ⟨v9, ev9, hq⟩ := b_s hq
        refine fa_gr (own := RX8) (ref := "CoastlineRulerModel") (k := 5) hx hb hB inB_RX8 hown hI rfl (by decide) m_1536 (fun _ h9 => h9) ev9 dX8_cut_49 ?_
        refine lv_iload hx hb dX8_cut_52 (lv_at hl 2 rfl) ?_
        refine lv_aload_n hx hb dX8_cut_54 rfl (lv_at hl 0 rfl) ?_
        obtain ⟨v10, ev10, hq⟩ := b_s hq
        refine fa_gr (own := RX8) (ref := "CoastlineRulerModel") (k := 5) hx hb hB inB_RX8 hown hI rfl (by decide) m_1536 (fun _ h9 => h9) ev10 dX8_cut_55 ?_
        refine lv_iload hx hb dX8_cut_58 (lv_at hl 2 rfl) ?_
        refine lv_iconst (v := (2 : Int32)) hx hb dX8_cut_60 (by decide) ?_
        refine lv_iadd hx hb dX8_cut_61 ?_
        obtain ⟨v11, ev11, hq⟩ := b_s hq
        refine fa_li hx hb hI ev11 dX8_cut_62 ?_
        obtain ⟨f12, ef12, hq⟩ := b_s hq
        refine fa_si hx hb hI ef12 dX8_cut_63 (fun H locs hI => ?_)
        refine lv_iinc (v := x4 + (1 : Int32)) (lv' := [(4, .int (x4 + (1 : Int32))), (0, .ref x0), (1, .int x1)]) hx hb dX8_cut_64 hl (k := 2) rfl rfl (by decide) rfl (fun ls hl => ?_)
        refine lv_goto (tgt := 29) hx hb dX8_cut_67 (by decide) ?_
        exact ih x0 x1 (x4 + (1 : Int32)) f12 H locs ls hI (lv_sub hl [1, 2, 0] rfl) hq
  refine hl29 _ ?_ FU a0 a1 ((v1 + (2 : Int32)) + ((2 : Int32) * a2)) f5 H locs ls hI (lv_sub hl [2, 3, 0] rfl) hq
  · intro f H locs ls hI hl hq
    exact ge_Wv hx hb hlocks hr hI (Option.some.inj hq) dX8_cut_70

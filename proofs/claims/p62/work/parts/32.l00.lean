abbrev rm_L_most : Room := { frames := 2, cells := 0, slots := 0, locals := 120 }
theorem k_L_most : g_CS yL_most cL_most 2 (some .int) 2 := ⟨⟨m_546, m_0, by decide +kernel⟩, m_545⟩
set_option maxHeartbeats 4000000 in
set_option maxRecDepth 100000 in
theorem c_L_most (l : Launch) (hl0 : l.stackTraces = false) (V : Nat → Nat) (g : GH) (D : va_G) (cT : Nat → ClassId) (f : GH) (n : Nat) (a0 : Int32) (a1 : Int32) (o : Int32) (hq : p_L_most V g f a0 a1 = some o) : Met l yL_most (Cond.code yL_most cL_most 2 (some .int) :: g_B) rm_L_most (va_Pc [.int a0, .int a1] (g_I V g D cT f n)) (g_Ri o n) 0 0 g_no := by
  refine g_begin (own := RL) [.int a0, .int a1] [(0, .int a0), (1, .int a1)] g_no (fun _ h => h.elim) (by decide) rfl (Nat.le_of_ble_eq_true rfl) rfl ?_
  intro p e s m args below meth c hx hb hr hlocks hin hC hI ls hl
  obtain ⟨hx, hb, hml, hown, hB⟩ := id hC
  obtain ⟨H, hH⟩ : ∃ H, H = s.heap := ⟨_, rfl⟩
  obtain ⟨locs, hlocs⟩ : ∃ L : List Loc, L = [] := ⟨_, rfl⟩
  rw [← hH, ← hlocs] at hI ⊢
  clear hH hlocs
  unfold p_L_most at hq
  refine lv_iload_n hx hb dL_most_0 rfl (lv_at hl 0 rfl) ?_
  refine lv_ldc (own := RL) (index := 7) (v := (2147483647 : Int32)) hx hb hown (hB _ m_547) dL_most_1 ?_
  refine lv_iand hx hb dL_most_3 ?_
  refine lv_iload_n hx hb dL_most_4 rfl (lv_at hl 1 rfl) ?_
  obtain ⟨_, ev1, hq⟩ := b_s hq
  refine lv_irem hx hb dL_most_5 (h_dv_eq ev1).2 ?_
  exact ge_Ri hx hb hlocks hr rfl hI hq dL_most_6

abbrev rm_L_cell : Room := { frames := 2, cells := 0, slots := 0, locals := 120 }
theorem k_L_cell : g_CS yL_cell cL_cell 2 (some .int) 2 := ⟨⟨m_550, m_0, by decide +kernel⟩, m_549⟩
set_option maxHeartbeats 4000000 in
set_option maxRecDepth 100000 in
theorem c_L_cell (l : Launch) (hl0 : l.stackTraces = false) (V : Nat → Nat) (g : GH) (D : va_G) (cT : Nat → ClassId) (f : GH) (n : Nat) (a0 : Nat) (a1 : Int32) (o : Int32) (hq : p_L_cell V g f a0 a1 = some o) : Met l yL_cell (Cond.code yL_cell cL_cell 2 (some .int) :: g_B) rm_L_cell (va_Pc [.ref a0, .int a1] (g_I V g D cT f n)) (g_Ri o n) 0 0 g_no := by
  refine g_begin (own := RL) [.ref a0, .int a1] [(0, .ref a0), (1, .int a1)] g_no (fun _ h => h.elim) (by decide) rfl (Nat.le_of_ble_eq_true rfl) rfl ?_
  intro p e s m args below meth c hx hb hr hlocks hin hC hI ls hl
  obtain ⟨hx, hb, hml, hown, hB⟩ := id hC
  obtain ⟨H, hH⟩ : ∃ H, H = s.heap := ⟨_, rfl⟩
  obtain ⟨locs, hlocs⟩ : ∃ L : List Loc, L = [] := ⟨_, rfl⟩
  rw [← hH, ← hlocs] at hI ⊢
  clear hH hlocs
  unfold p_L_cell at hq
  refine lv_iload_n hx hb dL_cell_0 rfl (lv_at hl 1 rfl) ?_
  refine lv_aload_n hx hb dL_cell_1 rfl (lv_at hl 0 rfl) ?_
  obtain ⟨v1, ev1, hq⟩ := b_s hq
  refine fs_al hx hb hI (by decide) ev1 dL_cell_2 ?_
  refine lv_icmp_ge (tgt := 12) hx hb dL_cell_3 (by decide) (fun c2 => ?_) (fun c2 => ?_)
  · replace hq := i_t c2 hq
    refine lv_bipush (v := (37 : Int32)) hx hb dL_cell_12 (by decide) ?_
    refine lv_iload_n hx hb dL_cell_14 rfl (lv_at hl 1 rfl) ?_
    refine lv_imul hx hb dL_cell_15 ?_
    exact ge_Ri hx hb hlocks hr rfl hI hq dL_cell_16
  · replace hq := i_f c2 hq
    refine lv_aload_n hx hb dL_cell_6 rfl (lv_at hl 0 rfl) ?_
    refine lv_iload_n hx hb dL_cell_7 rfl (lv_at hl 1 rfl) ?_
    obtain ⟨v3, ev3, hq⟩ := b_s hq
    refine fs_li hx hb hI ev3 dL_cell_8 ?_
    refine lv_goto (tgt := 16) hx hb dL_cell_9 (by decide) ?_
    exact ge_Ri hx hb hlocks hr rfl hI hq dL_cell_16

abbrev rm_L_add : Room := { frames := 4, cells := 0, slots := 0, locals := 167 }
theorem k_L_add : g_CS yL_add cL_add 4 none 3 := ⟨⟨m_558, m_0, by decide +kernel⟩, m_557⟩
set_option maxHeartbeats 4000000 in
set_option maxRecDepth 100000 in
theorem c_L_add (l : Launch) (hl0 : l.stackTraces = false) (V : Nat → Nat) (g : GH) (D : va_G) (cT : Nat → ClassId) (f : GH) (n : Nat) (a0 : Nat) (a1 : Nat) (a2 : Int32) (o : GH) (hq : p_L_add V g f a0 a1 a2 = some o) : Met l yL_add (Cond.code yL_add cL_add 4 none :: g_B) rm_L_add (va_Pc [.ref a0, .ref a1, .int a2] (g_I V g D cT f n)) (g_Wv V D cT o n) 0 0 (g_A V) := by
  refine g_begin (own := RL) [.ref a0, .ref a1, .int a2] [(0, .ref a0), (1, .ref a1), (2, .int a2)] (g_A V) (fun _ h => h) (by decide) rfl (Nat.le_of_ble_eq_true rfl) rfl ?_
  intro p e s m args below meth c hx hb hr hlocks hin hC hI ls hl
  obtain ⟨hx, hb, hml, hown, hB⟩ := id hC
  obtain ⟨H, hH⟩ : ∃ H, H = s.heap := ⟨_, rfl⟩
  obtain ⟨locs, hlocs⟩ : ∃ L : List Loc, L = [] := ⟨_, rfl⟩
  rw [← hH, ← hlocs] at hI ⊢
  clear hH hlocs
  unfold p_L_add at hq
  refine lv_aload_n hx hb dL_add_0 rfl (lv_at hl 1 rfl) ?_
  refine lv_aload_n hx hb dL_add_1 rfl (lv_at hl 1 rfl) ?_
  refine lv_iconst (v := (5 : Int32)) hx hb dL_add_2 (by decide) ?_
  obtain ⟨v1, ev1, hq⟩ := b_s hq
  refine fa_li hx hb hI ev1 dL_add_3 ?_
  refine lv_bipush (v := (20 : Int32)) hx hb dL_add_4 (by decide) ?_
  refine lv_irem hx hb dL_add_6 (by decide) ?_
  refine lv_iconst (v := (4 : Int32)) hx hb dL_add_7 (by decide) ?_
  refine lv_idiv hx hb dL_add_8 (by decide) ?_
  refine lv_dup2_11 hx hb dL_add_9 rfl rfl ?_
  obtain ⟨v2, ev2, hq⟩ := b_s hq
  refine fa_li hx hb hI ev2 dL_add_10 ?_
  refine lv_iload_n hx hb dL_add_11 rfl (lv_at hl 2 rfl) ?_
  refine lv_bipush (v := (24 : Int32)) hx hb dL_add_12 (by decide) ?_
  refine lv_bipush (v := (8 : Int32)) hx hb dL_add_14 (by decide) ?_
  refine lv_aload_n hx hb dL_add_16 rfl (lv_at hl 1 rfl) ?_
  refine lv_iconst (v := (5 : Int32)) hx hb dL_add_17 (by decide) ?_
  obtain ⟨v3, ev3, hq⟩ := b_s hq
  refine fa_li hx hb hI ev3 dL_add_18 ?_
  refine lv_iconst (v := (4 : Int32)) hx hb dL_add_19 (by decide) ?_
  refine lv_irem hx hb dL_add_20 (by decide) ?_
  refine lv_imul hx hb dL_add_21 ?_
  refine lv_isub hx hb dL_add_22 ?_
  refine lv_ishl hx hb dL_add_23 ?_
  refine lv_ior hx hb dL_add_24 ?_
  obtain ⟨f4, ef4, hq⟩ := b_s hq
  refine fa_si hx hb hI ef4 dL_add_25 (fun H locs hI => ?_)
  refine lv_aload_n hx hb dL_add_26 rfl (lv_at hl 1 rfl) ?_
  refine lv_iconst (v := (5 : Int32)) hx hb dL_add_27 (by decide) ?_
  refine lv_dup2_11 hx hb dL_add_28 rfl rfl ?_
  obtain ⟨v5, ev5, hq⟩ := b_s hq
  refine fa_li hx hb hI ev5 dL_add_29 ?_
  refine lv_iconst (v := (1 : Int32)) hx hb dL_add_30 (by decide) ?_
  refine lv_iadd hx hb dL_add_31 ?_
  obtain ⟨f6, ef6, hq⟩ := b_s hq
  refine fa_si hx hb hI ef6 dL_add_32 (fun H locs hI => ?_)
  refine lv_aload_n hx hb dL_add_33 rfl (lv_at hl 1 rfl) ?_
  refine lv_iconst (v := (5 : Int32)) hx hb dL_add_34 (by decide) ?_
  obtain ⟨v7, ev7, hq⟩ := b_s hq
  refine fa_li hx hb hI ev7 dL_add_35 ?_
  refine lv_bipush (v := (20 : Int32)) hx hb dL_add_36 (by decide) ?_
  refine lv_irem hx hb dL_add_38 (by decide) ?_
  refine lv_if_eq (tgt := 43) hx hb dL_add_39 (by decide) (fun c8 => ?_) (fun c8 => ?_)
  · replace hq := i_t c8 hq
    refine lv_aload_n hx hb dL_add_43 rfl (lv_at hl 0 rfl) ?_
    refine lv_aload_n hx hb dL_add_44 rfl (lv_at hl 1 rfl) ?_
    refine lv_iconst (v := (0 : Int32)) hx hb dL_add_45 (by decide) ?_
    obtain ⟨v9, ev9, hq⟩ := b_s hq
    refine fa_li hx hb hI ev9 dL_add_46 ?_
    refine lv_aload_n hx hb dL_add_47 rfl (lv_at hl 1 rfl) ?_
    refine lv_iconst (v := (1 : Int32)) hx hb dL_add_48 (by decide) ?_
    obtain ⟨v10, ev10, hq⟩ := b_s hq
    refine fa_li hx hb hI ev10 dL_add_49 ?_
    refine lv_aload_n hx hb dL_add_50 rfl (lv_at hl 1 rfl) ?_
    refine lv_iconst (v := (2 : Int32)) hx hb dL_add_51 (by decide) ?_
    obtain ⟨v11, ev11, hq⟩ := b_s hq
    refine fa_li hx hb hI ev11 dL_add_52 ?_
    refine lv_aload_n hx hb dL_add_53 rfl (lv_at hl 1 rfl) ?_
    refine lv_iconst (v := (3 : Int32)) hx hb dL_add_54 (by decide) ?_
    obtain ⟨v12, ev12, hq⟩ := b_s hq
    refine fa_li hx hb hI ev12 dL_add_55 ?_
    refine lv_aload_n hx hb dL_add_56 rfl (lv_at hl 1 rfl) ?_
    refine lv_iconst (v := (4 : Int32)) hx hb dL_add_57 (by decide) ?_
    obtain ⟨v13, ev13, hq⟩ := b_s hq
    refine fa_li hx hb hI ev13 dL_add_58 ?_
    obtain ⟨v14, ev14, hq⟩ := b_s hq
    refine gw_i (g_runV (As := [.int v9, .int v10, .int v11, .int v12, .int v13]) (rest := []) (ci := 9) hC (c_X7_appendText l V g D cT f6 n a0 v9 v10 v11 v12 v13 v14 ev14) k_X7_appendText m_559 rfl rfl ⟨Nat.le_of_ble_eq_true rfl, Nat.le_of_ble_eq_true rfl⟩ hI rfl rfl (h_me_eq ev14).1 rfl hl.1 rfl (Nat.le_of_ble_eq_true rfl) dL_add_59 ⟨by decide, by decide⟩) hI (fun H locs hI => ?_)
    refine lv_pop hx hb dL_add_62 rfl ?_
    refine lv_iconst (v := (0 : Int32)) hx hb dL_add_63 (by decide) ?_
    refine lv_istore_n (lv' := [(3, .int (0 : Int32)), (0, .ref a0), (1, .ref a1), (2, .int a2)]) hx hb dL_add_64 rfl hl (by decide) rfl (fun ls hl => ?_)
    have hl65 : ∀ (K80 : GH → Option GH) (hK80 : ∀ (f : GH) (H : Heap) (locs : List Loc) (ls : Array Slot), g_at (g_A V) V g D cT f n s H locs → lv_has ls 4 [] → K80 f = some o → W p l e rm_L_add s m args below meth c H locs 0 0 (MQ below (g_Wv V D cT o n) args s 0 0 (g_A V)) (F0 m 80 ls [])) (N : Nat) (x1 : Nat) (x3 : Int32) (f : GH) (H : Heap) (locs : List Loc) (ls : Array Slot), g_at (g_A V) V g D cT f n s H locs → lv_has ls 4 [(1, .ref x1), (3, .int x3)] → p_L_add_l65 V g K80 N x1 x3 f = some o → W p l e rm_L_add s m args below meth c H locs 0 0 (MQ below (g_Wv V D cT o n) args s 0 0 (g_A V)) (F0 m 65 ls []) := by
      intro K80 hK80 N
      induction N with
      | zero =>
        intro x1 x3 f H locs ls hI hl hq
        rw [p_L_add_l65] at hq
        cases hq
      | succ N ih =>
        intro x1 x3 f H locs ls hI hl hq
        rw [p_L_add_l65] at hq
        refine lv_iload_n hx hb dL_add_65 rfl (lv_at hl 1 rfl) ?_
        refine lv_iconst (v := (5 : Int32)) hx hb dL_add_66 (by decide) ?_
        refine lv_icmp_ge (tgt := 80) hx hb dL_add_67 (by decide) (fun c15 => ?_) (fun c15 => ?_)
        · replace hq := i_t c15 hq
          exact hK80 f H locs ls hI (lv_sub hl [] rfl) hq
        · replace hq := i_f c15 hq
          refine lv_aload_n hx hb dL_add_70 rfl (lv_at hl 0 rfl) ?_
          refine lv_iload_n hx hb dL_add_71 rfl (lv_at hl 1 rfl) ?_
          refine lv_iconst (v := (0 : Int32)) hx hb dL_add_72 (by decide) ?_
          obtain ⟨f16, ef16, hq⟩ := b_s hq
          refine fa_si hx hb hI ef16 dL_add_73 (fun H locs hI => ?_)
          refine lv_iinc (v := x3 + (1 : Int32)) (lv' := [(3, .int (x3 + (1 : Int32))), (1, .ref x1)]) hx hb dL_add_74 hl (k := 1) rfl rfl (by decide) rfl (fun ls hl => ?_)
          refine lv_goto (tgt := 65) hx hb dL_add_77 (by decide) ?_
          exact ih x1 (x3 + (1 : Int32)) f16 H locs ls hI (lv_sub hl [1, 0] rfl) hq
    refine hl65 _ ?_ FU a1 (0 : Int32) v14.2 H locs ls hI (lv_sub hl [2, 0] rfl) hq
    · intro f H locs ls hI hl hq
      exact ge_Wv hx hb hlocks hr hI (Option.some.inj hq) dL_add_80
  · replace hq := i_f c8 hq
    exact ge_Wv hx hb hlocks hr hI (Option.some.inj hq) dL_add_42

abbrev rm_L_say : Room := { frames := 6, cells := 0, slots := 0, locals := 205 }
theorem k_L_say : g_CS yL_say cL_say 4 none 3 := ⟨⟨m_553, m_0, by decide +kernel⟩, m_552⟩
set_option maxHeartbeats 4000000 in
set_option maxRecDepth 100000 in
theorem c_L_say (l : Launch) (hl0 : l.stackTraces = false) (V : Nat → Nat) (g : GH) (D : va_G) (cT : Nat → ClassId) (f : GH) (n : Nat) (a0 : Nat) (a1 : Nat) (a2 : Nat) (o : GH) (hq : p_L_say V g f a0 a1 a2 = some o) : Met l yL_say (Cond.code yL_say cL_say 4 none :: g_B) rm_L_say (va_Pc [.ref a0, .ref a1, .ref a2] (g_I V g D cT f n)) (g_Wv V D cT o n) 0 0 (g_A V) := by
  refine g_begin (own := RL) [.ref a0, .ref a1, .ref a2] [(0, .ref a0), (1, .ref a1), (2, .ref a2)] (g_A V) (fun _ h => h) (by decide) rfl (Nat.le_of_ble_eq_true rfl) rfl ?_
  intro p e s m args below meth c hx hb hr hlocks hin hC hI ls hl
  obtain ⟨hx, hb, hml, hown, hB⟩ := id hC
  obtain ⟨H, hH⟩ : ∃ H, H = s.heap := ⟨_, rfl⟩
  obtain ⟨locs, hlocs⟩ : ∃ L : List Loc, L = [] := ⟨_, rfl⟩
  rw [← hH, ← hlocs] at hI ⊢
  clear hH hlocs
  unfold p_L_say at hq
  refine lv_iconst (v := (0 : Int32)) hx hb dL_say_0 (by decide) ?_
  refine lv_istore_n (lv' := [(3, .int (0 : Int32)), (0, .ref a0), (1, .ref a1), (2, .ref a2)]) hx hb dL_say_1 rfl hl (by decide) rfl (fun ls hl => ?_)
  have hl2 : ∀ (K26 : GH → Option GH) (hK26 : ∀ (f : GH) (H : Heap) (locs : List Loc) (ls : Array Slot), g_at (g_A V) V g D cT f n s H locs → lv_has ls 4 [] → K26 f = some o → W p l e rm_L_say s m args below meth c H locs 0 0 (MQ below (g_Wv V D cT o n) args s 0 0 (g_A V)) (F0 m 26 ls [])) (N : Nat) (x0 : Nat) (x1 : Nat) (x2 : Nat) (x3 : Int32) (f : GH) (H : Heap) (locs : List Loc) (ls : Array Slot), g_at (g_A V) V g D cT f n s H locs → lv_has ls 4 [(0, .ref x0), (1, .ref x1), (2, .ref x2), (3, .int x3)] → p_L_say_l2 V g K26 N x0 x1 x2 x3 f = some o → W p l e rm_L_say s m args below meth c H locs 0 0 (MQ below (g_Wv V D cT o n) args s 0 0 (g_A V)) (F0 m 2 ls []) := by
    intro K26 hK26 N
    induction N with
    | zero =>
      intro x0 x1 x2 x3 f H locs ls hI hl hq
      rw [p_L_say_l2] at hq
      cases hq
    | succ N ih =>
      intro x0 x1 x2 x3 f H locs ls hI hl hq
      rw [p_L_say_l2] at hq
      refine lv_iload_n hx hb dL_say_2 rfl (lv_at hl 3 rfl) ?_
      refine lv_aload_n hx hb dL_say_3 rfl (lv_at hl 2 rfl) ?_
      obtain ⟨v1, ev1, hq⟩ := b_s hq
      refine gr_i (g_runV (As := []) (rest := [.int x3]) (ci := 0) hC (c_J0_length_8abf5D l V g D cT f n x2 v1 ev1) k_J0_length_8abf5D m_554 rfl rfl ⟨Nat.le_of_ble_eq_true rfl, Nat.le_of_ble_eq_true rfl⟩ hI rfl rfl (h_me_eq ev1).1 rfl hl.1 rfl (Nat.le_of_ble_eq_true rfl) dL_say_4 ⟨by decide, by decide⟩) hI (fun H locs hI => ?_)
      refine lv_icmp_ge (tgt := 26) hx hb dL_say_7 (by decide) (fun c2 => ?_) (fun c2 => ?_)
      · replace hq := i_t c2 hq
        exact hK26 f H locs ls hI (lv_sub hl [] rfl) hq
      · replace hq := i_f c2 hq
        refine lv_aload_n hx hb dL_say_10 rfl (lv_at hl 0 rfl) ?_
        refine lv_aload_n hx hb dL_say_11 rfl (lv_at hl 1 rfl) ?_
        refine lv_aload_n hx hb dL_say_12 rfl (lv_at hl 2 rfl) ?_
        refine lv_iload_n hx hb dL_say_13 rfl (lv_at hl 3 rfl) ?_
        obtain ⟨v3, ev3, hq⟩ := b_s hq
        refine gr_i (g_runV (As := [.int x3]) (rest := [.ref x1, .ref x0]) (ci := 0) hC (c_J0_charAt_5068eD l V g D cT f n x2 x3 v3 ev3) k_J0_charAt_5068eD m_555 rfl rfl ⟨Nat.le_of_ble_eq_true rfl, Nat.le_of_ble_eq_true rfl⟩ hI rfl rfl (h_me_eq ev3).1 rfl hl.1 rfl (Nat.le_of_ble_eq_true rfl) dL_say_14 ⟨by decide, by decide⟩) hI (fun H locs hI => ?_)
        obtain ⟨v4, ev4, hq⟩ := b_s hq
        refine gw_v (g_runS (As := [.ref x0, .ref x1, .int v3]) (rest := []) hC (c_L_add l hl0 V g D cT f n x0 x1 v3 v4 ev4) k_L_add m_556 rfl rfl ⟨Nat.le_of_ble_eq_true rfl, Nat.le_of_ble_eq_true rfl⟩ hI rfl hl.1 rfl (Nat.le_of_ble_eq_true rfl) dL_say_17 ⟨by decide, by decide⟩) hI (fun H locs hI => ?_)
        refine lv_iinc (v := x3 + (1 : Int32)) (lv' := [(3, .int (x3 + (1 : Int32))), (0, .ref x0), (1, .ref x1), (2, .ref x2)]) hx hb dL_say_20 hl (k := 3) rfl rfl (by decide) rfl (fun ls hl => ?_)
        refine lv_goto (tgt := 2) hx hb dL_say_23 (by decide) ?_
        exact ih x0 x1 x2 (x3 + (1 : Int32)) v4 H locs ls hI (lv_sub hl [1, 2, 3, 0] rfl) hq
  refine hl2 _ ?_ FU a0 a1 a2 (0 : Int32) f H locs ls hI (lv_sub hl [1, 2, 3, 0] rfl) hq
  · intro f H locs ls hI hl hq
    exact ge_Wv hx hb hlocks hr hI (Option.some.inj hq) dL_say_26

abbrev rm_L_end : Room := { frames := 5, cells := 0, slots := 0, locals := 190 }
theorem k_L_end : g_CS yL_end cL_end 3 (some .int) 2 := ⟨⟨m_569, m_0, by decide +kernel⟩, m_568⟩
set_option maxHeartbeats 4000000 in
set_option maxRecDepth 100000 in
theorem c_L_end (l : Launch) (hl0 : l.stackTraces = false) (V : Nat → Nat) (g : GH) (D : va_G) (cT : Nat → ClassId) (f : GH) (n : Nat) (a0 : Nat) (a1 : Nat) (o : Int32 × GH) (hq : p_L_end V g f a0 a1 = some o) : Met l yL_end (Cond.code yL_end cL_end 3 (some .int) :: g_B) rm_L_end (va_Pc [.ref a0, .ref a1] (g_I V g D cT f n)) (g_Wi V D cT o.1 o.2 n) 0 0 (g_A V) := by
  refine g_begin (own := RL) [.ref a0, .ref a1] [(0, .ref a0), (1, .ref a1)] (g_A V) (fun _ h => h) (by decide) rfl (Nat.le_of_ble_eq_true rfl) rfl ?_
  intro p e s m args below meth c hx hb hr hlocks hin hC hI ls hl
  obtain ⟨hx, hb, hml, hown, hB⟩ := id hC
  obtain ⟨H, hH⟩ : ∃ H, H = s.heap := ⟨_, rfl⟩
  obtain ⟨locs, hlocs⟩ : ∃ L : List Loc, L = [] := ⟨_, rfl⟩
  rw [← hH, ← hlocs] at hI ⊢
  clear hH hlocs
  unfold p_L_end at hq
  refine lv_aload_n hx hb dL_end_0 rfl (lv_at hl 1 rfl) ?_
  refine lv_iconst (v := (5 : Int32)) hx hb dL_end_1 (by decide) ?_
  obtain ⟨v1, ev1, hq⟩ := b_s hq
  refine fa_li hx hb hI ev1 dL_end_2 ?_
  refine lv_istore_n (lv' := [(2, .int v1), (0, .ref a0), (1, .ref a1)]) hx hb dL_end_3 rfl hl (by decide) rfl (fun ls hl => ?_)
  have hl4 : ∀ (K23 : Nat → Int32 → GH → Option (Int32 × GH)) (hK23 : ∀ (x1 : Nat) (x2 : Int32) (f : GH) (H : Heap) (locs : List Loc) (ls : Array Slot), g_at (g_A V) V g D cT f n s H locs → lv_has ls 3 [(1, .ref x1), (2, .int x2)] → K23 x1 x2 f = some o → W p l e rm_L_end s m args below meth c H locs 0 0 (MQ below (g_Wi V D cT o.1 o.2 n) args s 0 0 (g_A V)) (F0 m 23 ls [])) (N : Nat) (x0 : Nat) (x1 : Nat) (x2 : Int32) (f : GH) (H : Heap) (locs : List Loc) (ls : Array Slot), g_at (g_A V) V g D cT f n s H locs → lv_has ls 3 [(0, .ref x0), (1, .ref x1), (2, .int x2)] → p_L_end_l4 V g K23 N x0 x1 x2 f = some o → W p l e rm_L_end s m args below meth c H locs 0 0 (MQ below (g_Wi V D cT o.1 o.2 n) args s 0 0 (g_A V)) (F0 m 4 ls []) := by
    intro K23 hK23 N
    induction N with
    | zero =>
      intro x0 x1 x2 f H locs ls hI hl hq
      rw [p_L_end_l4] at hq
      cases hq
    | succ N ih =>
      intro x0 x1 x2 f H locs ls hI hl hq
      rw [p_L_end_l4] at hq
      refine lv_aload_n hx hb dL_end_4 rfl (lv_at hl 1 rfl) ?_
      refine lv_iconst (v := (5 : Int32)) hx hb dL_end_5 (by decide) ?_
      obtain ⟨v2, ev2, hq⟩ := b_s hq
      refine fa_li hx hb hI ev2 dL_end_6 ?_
      refine lv_bipush (v := (20 : Int32)) hx hb dL_end_7 (by decide) ?_
      refine lv_irem hx hb dL_end_9 (by decide) ?_
      refine lv_if_eq (tgt := 23) hx hb dL_end_10 (by decide) (fun c3 => ?_) (fun c3 => ?_)
      · replace hq := i_t c3 hq
        exact hK23 x1 x2 f H locs ls hI (lv_sub hl [1, 2] rfl) hq
      · replace hq := i_f c3 hq
        refine lv_aload_n hx hb dL_end_13 rfl (lv_at hl 0 rfl) ?_
        refine lv_aload_n hx hb dL_end_14 rfl (lv_at hl 1 rfl) ?_
        refine lv_bipush (v := (32 : Int32)) hx hb dL_end_15 (by decide) ?_
        obtain ⟨v4, ev4, hq⟩ := b_s hq
        refine gw_v (g_runS (As := [.ref x0, .ref x1, .int (32 : Int32)]) (rest := []) hC (c_L_add l hl0 V g D cT f n x0 x1 (32 : Int32) v4 ev4) k_L_add m_556 rfl rfl ⟨Nat.le_of_ble_eq_true rfl, Nat.le_of_ble_eq_true rfl⟩ hI rfl hl.1 rfl (Nat.le_of_ble_eq_true rfl) dL_end_17 ⟨by decide, by decide⟩) hI (fun H locs hI => ?_)
        refine lv_goto (tgt := 4) hx hb dL_end_20 (by decide) ?_
        exact ih x0 x1 x2 v4 H locs ls hI (lv_sub hl [0, 1, 2] rfl) hq
  refine hl4 _ ?_ FU a0 a1 v1 f H locs ls hI (lv_sub hl [1, 2, 0] rfl) hq
  · intro x1 x2 f H locs ls hI hl hq
    refine lv_aload_n hx hb dL_end_23 rfl (lv_at hl 0 rfl) ?_
    refine lv_iconst (v := (5 : Int32)) hx hb dL_end_24 (by decide) ?_
    refine lv_iconst (v := (0 : Int32)) hx hb dL_end_25 (by decide) ?_
    obtain ⟨f5, ef5, hq⟩ := b_s hq
    refine fa_si hx hb hI ef5 dL_end_26 (fun H locs hI => ?_)
    refine lv_iload_n hx hb dL_end_27 rfl (lv_at hl 1 rfl) ?_
    exact ge_Wi hx hb hlocks hr rfl hI (congrArg (fun z => z.1) (Option.some.inj hq)) (congrArg (fun z => z.2) (Option.some.inj hq)) dL_end_28

abbrev rm_L_all : Room := { frames := 11, cells := 3, slots := 1612, locals := 207 }
theorem k_L_all : g_CS yL_all cL_all 7 (some (.array .int)) 1 := ⟨⟨m_572, m_0, by decide +kernel⟩, m_571⟩
set_option maxHeartbeats 4000000 in
set_option maxRecDepth 100000 in
theorem c_L_all (l : Launch) (hl0 : l.stackTraces = false) (V : Nat → Nat) (g : GH) (D : va_G) (cT : Nat → ClassId) (f : GH) (n : Nat) (a0 : Nat) (o : Nat × GH × Nat) (hq : p_L_all V g f n a0 = some o) : Met l yL_all (Cond.code yL_all cL_all 7 (some (.array .int)) :: g_B) rm_L_all (va_Pc [.ref a0] (g_I V g D cT f n)) (g_Wr V D cT o.1 o.2.1 o.2.2) 3 1612 (g_A V) := by
  refine g_begin (own := RL) [.ref a0] [(0, .ref a0)] (g_A V) (fun _ h => h) (by decide) rfl (Nat.le_of_ble_eq_true rfl) rfl ?_
  intro p e s m args below meth c hx hb hr hlocks hin hC hI ls hl
  obtain ⟨hx, hb, hml, hown, hB⟩ := id hC
  obtain ⟨H, hH⟩ : ∃ H, H = s.heap := ⟨_, rfl⟩
  obtain ⟨locs, hlocs⟩ : ∃ L : List Loc, L = [] := ⟨_, rfl⟩
  rw [← hH, ← hlocs] at hI ⊢
  clear hH hlocs
  unfold p_L_all at hq
  refine lv_aload_n hx hb dL_all_0 rfl (lv_at hl 0 rfl) ?_
  obtain ⟨v1, ev1, hq⟩ := b_s hq
  refine gr_i (g_runV (As := []) (rest := []) (ci := 9) hC (c_X7_coastCount l V g D cT f n a0 v1 ev1) k_X7_coastCount m_503 rfl rfl ⟨Nat.le_of_ble_eq_true rfl, Nat.le_of_ble_eq_true rfl⟩ hI rfl rfl (h_me_eq ev1).1 rfl hl.1 rfl (Nat.le_of_ble_eq_true rfl) dL_all_1 ⟨by decide, by decide⟩) hI (fun H locs hI => ?_)
  refine lv_istore_n (lv' := [(1, .int v1), (0, .ref a0)]) hx hb dL_all_4 rfl hl (by decide) rfl (fun ls hl => ?_)
  refine lv_iconst (v := (0 : Int32)) hx hb dL_all_5 (by decide) ?_
  refine lv_istore_n (lv' := [(2, .int (0 : Int32)), (1, .int v1), (0, .ref a0)]) hx hb dL_all_6 rfl hl (by decide) rfl (fun ls hl => ?_)
  refine lv_iconst (v := (0 : Int32)) hx hb dL_all_7 (by decide) ?_
  refine lv_istore_n (lv' := [(3, .int (0 : Int32)), (2, .int (0 : Int32)), (1, .int v1), (0, .ref a0)]) hx hb dL_all_8 rfl hl (by decide) rfl (fun ls hl => ?_)
  have hl9 : ∀ (K28 : Nat → Int32 → Int32 → GH → Nat → Option (Nat × GH × Nat)) (hK28 : ∀ (x0 : Nat) (x1 : Int32) (x2 : Int32) (f : GH) (n : Nat) (H : Heap) (locs : List Loc) (ls : Array Slot), g_at (g_A V) V g D cT f n s H locs → lv_has ls 7 [(0, .ref x0), (1, .int x1), (2, .int x2)] → K28 x0 x1 x2 f n = some o → W p l e rm_L_all s m args below meth c H locs 0 0 (MQ below (g_Wr V D cT o.1 o.2.1 o.2.2) args s 3 1612 (g_A V)) (F0 m 28 ls [])) (N : Nat) (x0 : Nat) (x1 : Int32) (x2 : Int32) (x3 : Int32) (f : GH) (n : Nat) (H : Heap) (locs : List Loc) (ls : Array Slot), g_at (g_A V) V g D cT f n s H locs → lv_has ls 7 [(0, .ref x0), (1, .int x1), (2, .int x2), (3, .int x3)] → p_L_all_l9 V g K28 N x0 x1 x2 x3 f n = some o → W p l e rm_L_all s m args below meth c H locs 0 0 (MQ below (g_Wr V D cT o.1 o.2.1 o.2.2) args s 3 1612 (g_A V)) (F0 m 9 ls []) := by
    intro K28 hK28 N
    induction N with
    | zero =>
      intro x0 x1 x2 x3 f n H locs ls hI hl hq
      rw [p_L_all_l9] at hq
      cases hq
    | succ N ih =>
      intro x0 x1 x2 x3 f n H locs ls hI hl hq
      rw [p_L_all_l9] at hq
      refine lv_iload_n hx hb dL_all_9 rfl (lv_at hl 3 rfl) ?_
      refine lv_iload_n hx hb dL_all_10 rfl (lv_at hl 1 rfl) ?_
      refine lv_icmp_ge (tgt := 28) hx hb dL_all_11 (by decide) (fun c2 => ?_) (fun c2 => ?_)
      · replace hq := i_t c2 hq
        exact hK28 x0 x1 x2 f n H locs ls hI (lv_sub hl [0, 1, 2] rfl) hq
      · replace hq := i_f c2 hq
        refine lv_iload_n hx hb dL_all_14 rfl (lv_at hl 2 rfl) ?_
        refine lv_aload_n hx hb dL_all_15 rfl (lv_at hl 0 rfl) ?_
        refine lv_iload_n hx hb dL_all_16 rfl (lv_at hl 3 rfl) ?_
        obtain ⟨v3, ev3, hq⟩ := b_s hq
        refine gx0_i (g_runVX (As := [.int x3]) (rest := [.int x2]) (ci := 9) hC (c_X7_pointCount l hl0 V g D cT f n x0 x3 (.inr v3) (h_nt_eq ev3)) k_X7_pointCount m_573 rfl rfl ⟨Nat.le_of_ble_eq_true rfl, Nat.le_of_ble_eq_true rfl⟩ hI rfl rfl (h_me_eq (h_nt_eq ev3)).1 rfl hl.1 rfl (Nat.le_of_ble_eq_true rfl) dL_all_17 ⟨by decide, by decide⟩) hI (fun H locs hI => ?_)
        refine lv_iadd hx hb dL_all_20 ?_
        refine lv_istore_n (lv' := [(2, .int (x2 + v3)), (0, .ref x0), (1, .int x1), (3, .int x3)]) hx hb dL_all_21 rfl hl (by decide) rfl (fun ls hl => ?_)
        refine lv_iinc (v := x3 + (1 : Int32)) (lv' := [(3, .int (x3 + (1 : Int32))), (2, .int (x2 + v3)), (0, .ref x0), (1, .int x1)]) hx hb dL_all_22 hl (k := 3) rfl rfl (by decide) rfl (fun ls hl => ?_)
        refine lv_goto (tgt := 9) hx hb dL_all_25 (by decide) ?_
        exact ih x0 x1 (x2 + v3) (x3 + (1 : Int32)) f n H locs ls hI (lv_sub hl [2, 3, 1, 0] rfl) hq
  refine hl9 _ ?_ FU a0 v1 (0 : Int32) (0 : Int32) f n H locs ls hI (lv_sub hl [3, 2, 1, 0] rfl) hq
  · intro x0 x1 x2 f n H locs ls hI hl hq
    refine lv_iconst (v := (5 : Int32)) hx hb dL_all_28 (by decide) ?_
    refine lv_iconst (v := (2 : Int32)) hx hb dL_all_29 (by decide) ?_
    refine lv_iload_n hx hb dL_all_30 rfl (lv_at hl 1 rfl) ?_
    refine lv_imul hx hb dL_all_31 ?_
    refine lv_iadd hx hb dL_all_32 ?_
    refine lv_iconst (v := (2 : Int32)) hx hb dL_all_33 (by decide) ?_
    refine lv_iload_n hx hb dL_all_34 rfl (lv_at hl 2 rfl) ?_
    refine lv_imul hx hb dL_all_35 ?_
    refine lv_iadd hx hb dL_all_36 ?_
    obtain ⟨f4, ef4, hq⟩ := b_s hq
    refine fa_newv (atype := .int) (M := 1600) (t := 0) hx hb hB m_71 rfl (by decide) (by decide) hI (by decide) (by decide) (by decide) ef4 dL_all_37 (fun H locs hI => ?_)
    refine lv_astore_n (lv' := [(3, .ref n), (0, .ref x0), (1, .int x1), (2, .int x2)]) hx hb dL_all_39 rfl hl (by decide) rfl (fun ls hl => ?_)
    refine lv_iconst (v := (0 : Int32)) hx hb dL_all_40 (by decide) ?_
    refine lv_istore (lv' := [(4, .int (0 : Int32)), (3, .ref n), (0, .ref x0), (1, .int x1), (2, .int x2)]) hx hb dL_all_41 hl (by decide) rfl (fun ls hl => ?_)
    refine lv_aload_n hx hb dL_all_43 rfl (lv_at hl 1 rfl) ?_
    refine lv_iload hx hb dL_all_44 (lv_at hl 0 rfl) ?_
    refine lv_iinc (v := (1 : Int32)) (lv' := [(4, .int (1 : Int32)), (3, .ref n), (0, .ref x0), (1, .int x1), (2, .int x2)]) hx hb dL_all_46 hl (k := 0) rfl (by decide) (by decide) rfl (fun ls hl => ?_)
    refine lv_iload_n hx hb dL_all_49 rfl (lv_at hl 3 rfl) ?_
    obtain ⟨f5, ef5, hq⟩ := b_s hq
    refine fa_si hx hb hI ef5 dL_all_50 (fun H locs hI => ?_)
    refine lv_aload_n hx hb dL_all_51 rfl (lv_at hl 1 rfl) ?_
    refine lv_iload hx hb dL_all_52 (lv_at hl 0 rfl) ?_
    refine lv_iinc (v := (2 : Int32)) (lv' := [(4, .int (2 : Int32)), (3, .ref n), (0, .ref x0), (1, .int x1), (2, .int x2)]) hx hb dL_all_54 hl (k := 0) rfl (by decide) (by decide) rfl (fun ls hl => ?_)
    refine lv_aload_n hx hb dL_all_57 rfl (lv_at hl 2 rfl) ?_
    obtain ⟨v6, ev6, hq⟩ := b_s hq
    refine gr_i (g_runV (As := []) (rest := [.int (1 : Int32), .ref n]) (ci := 9) hC (c_X7_usesKingMetric l V g D cT f5 (n + 1) x0 v6 ev6) k_X7_usesKingMetric m_601 rfl rfl ⟨Nat.le_of_ble_eq_true rfl, Nat.le_of_ble_eq_true rfl⟩ hI rfl rfl (h_me_eq ev6).1 rfl hl.1 rfl (Nat.le_of_ble_eq_true rfl) dL_all_58 ⟨by decide, by decide⟩) hI (fun H locs hI => ?_)
    have hj69 : ∀ (x0 : Nat) (x1 : Int32) (x3 : Nat) (x4 : Int32) (t0 : Int32) (t1 : Int32) (t2 : Nat) (f : GH) (n : Nat) (H : Heap) (locs : List Loc) (ls : Array Slot), g_at (g_A V) V g D cT f n s H locs → lv_has ls 7 [(0, .ref x0), (1, .int x1), (3, .ref x3), (4, .int x4)] → p_L_all_j69 V g x0 x1 x3 x4 t0 t1 t2 f n = some o → W p l e rm_L_all s m args below meth c H locs 1 1600 (MQ below (g_Wr V D cT o.1 o.2.1 o.2.2) args s 3 1612 (g_A V)) (F0 m 69 ls [.int t0, .int t1, .ref t2]) := by
      intro x0 x1 x3 x4 t0 t1 t2 f n H locs ls hI hl hq
      unfold p_L_all_j69 at hq
      obtain ⟨f7, ef7, hq⟩ := b_s hq
      refine fa_si hx hb hI ef7 dL_all_69 (fun H locs hI => ?_)
      refine lv_aload_n hx hb dL_all_70 rfl (lv_at hl 2 rfl) ?_
      refine lv_iload hx hb dL_all_71 (lv_at hl 3 rfl) ?_
      refine lv_iinc (v := x4 + (1 : Int32)) (lv' := [(4, .int (x4 + (1 : Int32))), (0, .ref x0), (1, .int x1), (3, .ref x3)]) hx hb dL_all_73 hl (k := 3) rfl rfl (by decide) rfl (fun ls hl => ?_)
      refine lv_aload_n hx hb dL_all_76 rfl (lv_at hl 1 rfl) ?_
      obtain ⟨v8, ev8, hq⟩ := b_s hq
      refine gr_i (g_runV (As := []) (rest := [.int x4, .ref x3]) (ci := 9) hC (c_X7_loadedPoints l V g D cT f7 n x0 v8 ev8) k_X7_loadedPoints m_605 rfl rfl ⟨Nat.le_of_ble_eq_true rfl, Nat.le_of_ble_eq_true rfl⟩ hI rfl rfl (h_me_eq ev8).1 rfl hl.1 rfl (Nat.le_of_ble_eq_true rfl) dL_all_77 ⟨by decide, by decide⟩) hI (fun H locs hI => ?_)
      obtain ⟨f9, ef9, hq⟩ := b_s hq
      refine fa_si hx hb hI ef9 dL_all_80 (fun H locs hI => ?_)
      refine lv_aload_n hx hb dL_all_81 rfl (lv_at hl 3 rfl) ?_
      refine lv_iload hx hb dL_all_82 (lv_at hl 0 rfl) ?_
      refine lv_iinc (v := (x4 + (1 : Int32)) + (1 : Int32)) (lv' := [(4, .int ((x4 + (1 : Int32)) + (1 : Int32))), (0, .ref x0), (1, .int x1), (3, .ref x3)]) hx hb dL_all_84 hl (k := 0) rfl rfl (by decide) rfl (fun ls hl => ?_)
      refine lv_aload_n hx hb dL_all_87 rfl (lv_at hl 1 rfl) ?_
      obtain ⟨v10, ev10, hq⟩ := b_s hq
      refine gr_i (g_runV (As := []) (rest := [.int (x4 + (1 : Int32)), .ref x3]) (ci := 9) hC (c_X7_addedPoints l V g D cT f9 n x0 v10 ev10) k_X7_addedPoints m_507 rfl rfl ⟨Nat.le_of_ble_eq_true rfl, Nat.le_of_ble_eq_true rfl⟩ hI rfl rfl (h_me_eq ev10).1 rfl hl.1 rfl (Nat.le_of_ble_eq_true rfl) dL_all_88 ⟨by decide, by decide⟩) hI (fun H locs hI => ?_)
      obtain ⟨f11, ef11, hq⟩ := b_s hq
      refine fa_si hx hb hI ef11 dL_all_91 (fun H locs hI => ?_)
      refine lv_aload_n hx hb dL_all_92 rfl (lv_at hl 3 rfl) ?_
      refine lv_iload hx hb dL_all_93 (lv_at hl 0 rfl) ?_
      refine lv_iinc (v := ((x4 + (1 : Int32)) + (1 : Int32)) + (1 : Int32)) (lv' := [(4, .int (((x4 + (1 : Int32)) + (1 : Int32)) + (1 : Int32))), (0, .ref x0), (1, .int x1), (3, .ref x3)]) hx hb dL_all_95 hl (k := 0) rfl rfl (by decide) rfl (fun ls hl => ?_)
      refine lv_aload_n hx hb dL_all_98 rfl (lv_at hl 1 rfl) ?_
      obtain ⟨v12, ev12, hq⟩ := b_s hq
      refine gr_i (g_runV (As := []) (rest := [.int ((x4 + (1 : Int32)) + (1 : Int32)), .ref x3]) (ci := 9) hC (c_X7_removedPoints l V g D cT f11 n x0 v12 ev12) k_X7_removedPoints m_609 rfl rfl ⟨Nat.le_of_ble_eq_true rfl, Nat.le_of_ble_eq_true rfl⟩ hI rfl rfl (h_me_eq ev12).1 rfl hl.1 rfl (Nat.le_of_ble_eq_true rfl) dL_all_99 ⟨by decide, by decide⟩) hI (fun H locs hI => ?_)
      obtain ⟨f13, ef13, hq⟩ := b_s hq
      refine fa_si hx hb hI ef13 dL_all_102 (fun H locs hI => ?_)
      refine lv_iconst (v := (0 : Int32)) hx hb dL_all_103 (by decide) ?_
      refine lv_istore (lv' := [(5, .int (0 : Int32)), (4, .int (((x4 + (1 : Int32)) + (1 : Int32)) + (1 : Int32))), (0, .ref x0), (1, .int x1), (3, .ref x3)]) hx hb dL_all_104 hl (by decide) rfl (fun ls hl => ?_)
      have hl106 : ∀ (K202 : Nat → GH → Nat → Option (Nat × GH × Nat)) (hK202 : ∀ (x3 : Nat) (f : GH) (n : Nat) (H : Heap) (locs : List Loc) (ls : Array Slot), g_at (g_A V) V g D cT f n s H locs → lv_has ls 7 [(3, .ref x3)] → K202 x3 f n = some o → W p l e rm_L_all s m args below meth c H locs 1 1600 (MQ below (g_Wr V D cT o.1 o.2.1 o.2.2) args s 3 1612 (g_A V)) (F0 m 202 ls [])) (N : Nat) (x0 : Nat) (x1 : Int32) (x3 : Nat) (x4 : Int32) (x5 : Int32) (f : GH) (n : Nat) (H : Heap) (locs : List Loc) (ls : Array Slot), g_at (g_A V) V g D cT f n s H locs → lv_has ls 7 [(0, .ref x0), (1, .int x1), (3, .ref x3), (4, .int x4), (5, .int x5)] → p_L_all_l106 V g K202 N x0 x1 x3 x4 x5 f n = some o → W p l e rm_L_all s m args below meth c H locs 1 1600 (MQ below (g_Wr V D cT o.1 o.2.1 o.2.2) args s 3 1612 (g_A V)) (F0 m 106 ls []) := by
        intro K202 hK202 N
        induction N with
        | zero =>
          intro x0 x1 x3 x4 x5 f n H locs ls hI hl hq
          rw [p_L_all_l106] at hq
          cases hq
        | succ N ih =>
          intro x0 x1 x3 x4 x5 f n H locs ls hI hl hq
          rw [p_L_all_l106] at hq
          refine lv_iload hx hb dL_all_106 (lv_at hl 4 rfl) ?_
          refine lv_iload_n hx hb dL_all_108 rfl (lv_at hl 1 rfl) ?_
          refine lv_icmp_ge (tgt := 202) hx hb dL_all_109 (by decide) (fun c14 => ?_) (fun c14 => ?_)
          · replace hq := i_t c14 hq
            exact hK202 x3 f n H locs ls hI (lv_sub hl [2] rfl) hq
          · replace hq := i_f c14 hq
            refine lv_aload_n hx hb dL_all_112 rfl (lv_at hl 2 rfl) ?_
            refine lv_iload hx hb dL_all_113 (lv_at hl 3 rfl) ?_
            refine lv_iinc (v := x4 + (1 : Int32)) (lv' := [(4, .int (x4 + (1 : Int32))), (0, .ref x0), (1, .int x1), (3, .ref x3), (5, .int x5)]) hx hb dL_all_115 hl (k := 3) rfl rfl (by decide) rfl (fun ls hl => ?_)
            refine lv_aload_n hx hb dL_all_118 rfl (lv_at hl 1 rfl) ?_
            refine lv_iload hx hb dL_all_119 (lv_at hl 4 rfl) ?_
            obtain ⟨v15, ev15, hq⟩ := b_s hq
            refine gx0_i (g_runVX (As := [.int x5]) (rest := [.int x4, .ref x3]) (ci := 9) hC (c_X7_isIsland l hl0 V g D cT f n x0 x5 (.inr v15) (h_nt_eq ev15)) k_X7_isIsland m_613 rfl rfl ⟨Nat.le_of_ble_eq_true rfl, Nat.le_of_ble_eq_true rfl⟩ hI rfl rfl (h_me_eq (h_nt_eq ev15)).1 rfl hl.1 rfl (Nat.le_of_ble_eq_true rfl) dL_all_121 ⟨by decide, by decide⟩) hI (fun H locs hI => ?_)
            have hj132 : ∀ (x0 : Nat) (x1 : Int32) (x3 : Nat) (x4 : Int32) (x5 : Int32) (t0 : Int32) (t1 : Int32) (t2 : Nat) (f : GH) (n : Nat) (H : Heap) (locs : List Loc) (ls : Array Slot), g_at (g_A V) V g D cT f n s H locs → lv_has ls 7 [(0, .ref x0), (1, .int x1), (3, .ref x3), (4, .int x4), (5, .int x5)] → p_L_all_j132 V g (p_L_all_l106 V g K202 N) x0 x1 x3 x4 x5 t0 t1 t2 f n = some o → W p l e rm_L_all s m args below meth c H locs 1 1600 (MQ below (g_Wr V D cT o.1 o.2.1 o.2.2) args s 3 1612 (g_A V)) (F0 m 132 ls [.int t0, .int t1, .ref t2]) := by
              intro x0 x1 x3 x4 x5 t0 t1 t2 f n H locs ls hI hl hq
              unfold p_L_all_j132 at hq
              obtain ⟨f16, ef16, hq⟩ := b_s hq
              refine fa_si hx hb hI ef16 dL_all_132 (fun H locs hI => ?_)
              refine lv_aload_n hx hb dL_all_133 rfl (lv_at hl 2 rfl) ?_
              refine lv_iload hx hb dL_all_134 (lv_at hl 3 rfl) ?_
              refine lv_iinc (v := x4 + (1 : Int32)) (lv' := [(4, .int (x4 + (1 : Int32))), (0, .ref x0), (1, .int x1), (3, .ref x3), (5, .int x5)]) hx hb dL_all_136 hl (k := 3) rfl rfl (by decide) rfl (fun ls hl => ?_)
              refine lv_aload_n hx hb dL_all_139 rfl (lv_at hl 1 rfl) ?_
              refine lv_iload hx hb dL_all_140 (lv_at hl 4 rfl) ?_
              obtain ⟨v17, ev17, hq⟩ := b_s hq
              refine gx0_i (g_runVX (As := [.int x5]) (rest := [.int x4, .ref x3]) (ci := 9) hC (c_X7_pointCount l hl0 V g D cT f16 n x0 x5 (.inr v17) (h_nt_eq ev17)) k_X7_pointCount m_573 rfl rfl ⟨Nat.le_of_ble_eq_true rfl, Nat.le_of_ble_eq_true rfl⟩ hI rfl rfl (h_me_eq (h_nt_eq ev17)).1 rfl hl.1 rfl (Nat.le_of_ble_eq_true rfl) dL_all_142 ⟨by decide, by decide⟩) hI (fun H locs hI => ?_)
              obtain ⟨f18, ef18, hq⟩ := b_s hq
              refine fa_si hx hb hI ef18 dL_all_145 (fun H locs hI => ?_)
              refine lv_iconst (v := (0 : Int32)) hx hb dL_all_146 (by decide) ?_
              refine lv_istore (lv' := [(6, .int (0 : Int32)), (4, .int (x4 + (1 : Int32))), (0, .ref x0), (1, .int x1), (3, .ref x3), (5, .int x5)]) hx hb dL_all_147 hl (by decide) rfl (fun ls hl => ?_)
              have hl149 : ∀ (K196 : Nat → Int32 → Nat → Int32 → Int32 → GH → Nat → Option (Nat × GH × Nat)) (hK196 : ∀ (x0 : Nat) (x1 : Int32) (x3 : Nat) (x4 : Int32) (x5 : Int32) (f : GH) (n : Nat) (H : Heap) (locs : List Loc) (ls : Array Slot), g_at (g_A V) V g D cT f n s H locs → lv_has ls 7 [(0, .ref x0), (1, .int x1), (3, .ref x3), (4, .int x4), (5, .int x5)] → K196 x0 x1 x3 x4 x5 f n = some o → W p l e rm_L_all s m args below meth c H locs 1 1600 (MQ below (g_Wr V D cT o.1 o.2.1 o.2.2) args s 3 1612 (g_A V)) (F0 m 196 ls [])) (N : Nat) (x0 : Nat) (x1 : Int32) (x3 : Nat) (x4 : Int32) (x5 : Int32) (x6 : Int32) (f : GH) (n : Nat) (H : Heap) (locs : List Loc) (ls : Array Slot), g_at (g_A V) V g D cT f n s H locs → lv_has ls 7 [(0, .ref x0), (1, .int x1), (3, .ref x3), (4, .int x4), (5, .int x5), (6, .int x6)] → p_L_all_l149 V g K196 N x0 x1 x3 x4 x5 x6 f n = some o → W p l e rm_L_all s m args below meth c H locs 1 1600 (MQ below (g_Wr V D cT o.1 o.2.1 o.2.2) args s 3 1612 (g_A V)) (F0 m 149 ls []) := by
                intro K196 hK196 N
                induction N with
                | zero =>
                  intro x0 x1 x3 x4 x5 x6 f n H locs ls hI hl hq
                  rw [p_L_all_l149] at hq
                  cases hq
                | succ N ih =>
                  intro x0 x1 x3 x4 x5 x6 f n H locs ls hI hl hq
                  rw [p_L_all_l149] at hq
                  refine lv_iload hx hb dL_all_149 (lv_at hl 5 rfl) ?_
                  refine lv_aload_n hx hb dL_all_151 rfl (lv_at hl 0 rfl) ?_
                  refine lv_iload hx hb dL_all_152 (lv_at hl 4 rfl) ?_
                  obtain ⟨v19, ev19, hq⟩ := b_s hq
                  refine gx0_i (g_runVX (As := [.int x5]) (rest := [.int x6]) (ci := 9) hC (c_X7_pointCount l hl0 V g D cT f n x0 x5 (.inr v19) (h_nt_eq ev19)) k_X7_pointCount m_573 rfl rfl ⟨Nat.le_of_ble_eq_true rfl, Nat.le_of_ble_eq_true rfl⟩ hI rfl rfl (h_me_eq (h_nt_eq ev19)).1 rfl hl.1 rfl (Nat.le_of_ble_eq_true rfl) dL_all_154 ⟨by decide, by decide⟩) hI (fun H locs hI => ?_)
                  refine lv_icmp_ge (tgt := 196) hx hb dL_all_157 (by decide) (fun c20 => ?_) (fun c20 => ?_)
                  · replace hq := i_t c20 hq
                    exact hK196 x0 x1 x3 x4 x5 f n H locs ls hI (lv_sub hl [0, 1, 2, 3, 4] rfl) hq
                  · replace hq := i_f c20 hq
                    refine lv_aload_n hx hb dL_all_160 rfl (lv_at hl 2 rfl) ?_
                    refine lv_iload hx hb dL_all_161 (lv_at hl 3 rfl) ?_
                    refine lv_iinc (v := x4 + (1 : Int32)) (lv' := [(4, .int (x4 + (1 : Int32))), (0, .ref x0), (1, .int x1), (3, .ref x3), (5, .int x5), (6, .int x6)]) hx hb dL_all_163 hl (k := 3) rfl rfl (by decide) rfl (fun ls hl => ?_)
                    refine lv_aload_n hx hb dL_all_166 rfl (lv_at hl 1 rfl) ?_
                    refine lv_iload hx hb dL_all_167 (lv_at hl 4 rfl) ?_
                    refine lv_iload hx hb dL_all_169 (lv_at hl 5 rfl) ?_
                    obtain ⟨v21, ev21, hq⟩ := b_s hq
                    refine gx0_i (g_runVX (As := [.int x5, .int x6]) (rest := [.int x4, .ref x3]) (ci := 9) hC (c_X7_pointX l hl0 V g D cT f n x0 x5 x6 (.inr v21) (h_nt_eq ev21)) k_X7_pointX m_617 rfl rfl ⟨Nat.le_of_ble_eq_true rfl, Nat.le_of_ble_eq_true rfl⟩ hI rfl rfl (h_me_eq (h_nt_eq ev21)).1 rfl hl.1 rfl (Nat.le_of_ble_eq_true rfl) dL_all_171 ⟨by decide, by decide⟩) hI (fun H locs hI => ?_)
                    obtain ⟨f22, ef22, hq⟩ := b_s hq
                    refine fa_si hx hb hI ef22 dL_all_174 (fun H locs hI => ?_)
                    refine lv_aload_n hx hb dL_all_175 rfl (lv_at hl 3 rfl) ?_
                    refine lv_iload hx hb dL_all_176 (lv_at hl 0 rfl) ?_
                    refine lv_iinc (v := (x4 + (1 : Int32)) + (1 : Int32)) (lv' := [(4, .int ((x4 + (1 : Int32)) + (1 : Int32))), (0, .ref x0), (1, .int x1), (3, .ref x3), (5, .int x5), (6, .int x6)]) hx hb dL_all_178 hl (k := 0) rfl rfl (by decide) rfl (fun ls hl => ?_)
                    refine lv_aload_n hx hb dL_all_181 rfl (lv_at hl 1 rfl) ?_
                    refine lv_iload hx hb dL_all_182 (lv_at hl 4 rfl) ?_
                    refine lv_iload hx hb dL_all_184 (lv_at hl 5 rfl) ?_
                    obtain ⟨v23, ev23, hq⟩ := b_s hq
                    refine gx0_i (g_runVX (As := [.int x5, .int x6]) (rest := [.int (x4 + (1 : Int32)), .ref x3]) (ci := 9) hC (c_X7_pointY l hl0 V g D cT f22 n x0 x5 x6 (.inr v23) (h_nt_eq ev23)) k_X7_pointY m_626 rfl rfl ⟨Nat.le_of_ble_eq_true rfl, Nat.le_of_ble_eq_true rfl⟩ hI rfl rfl (h_me_eq (h_nt_eq ev23)).1 rfl hl.1 rfl (Nat.le_of_ble_eq_true rfl) dL_all_186 ⟨by decide, by decide⟩) hI (fun H locs hI => ?_)
                    obtain ⟨f24, ef24, hq⟩ := b_s hq
                    refine fa_si hx hb hI ef24 dL_all_189 (fun H locs hI => ?_)
                    refine lv_iinc (v := x6 + (1 : Int32)) (lv' := [(6, .int (x6 + (1 : Int32))), (4, .int ((x4 + (1 : Int32)) + (1 : Int32))), (0, .ref x0), (1, .int x1), (3, .ref x3), (5, .int x5)]) hx hb dL_all_190 hl (k := 5) rfl rfl (by decide) rfl (fun ls hl => ?_)
                    refine lv_goto (tgt := 149) hx hb dL_all_193 (by decide) ?_
                    exact ih x0 x1 x3 ((x4 + (1 : Int32)) + (1 : Int32)) x5 (x6 + (1 : Int32)) f24 n H locs ls hI (lv_sub hl [2, 3, 4, 1, 5, 0] rfl) hq
              refine hl149 _ ?_ FU x0 x1 x3 (x4 + (1 : Int32)) x5 (0 : Int32) f18 n H locs ls hI (lv_sub hl [2, 3, 4, 1, 5, 0] rfl) hq
              · intro x0 x1 x3 x4 x5 f n H locs ls hI hl hq
                refine lv_iinc (v := x5 + (1 : Int32)) (lv' := [(5, .int (x5 + (1 : Int32))), (0, .ref x0), (1, .int x1), (3, .ref x3), (4, .int x4)]) hx hb dL_all_196 hl (k := 4) rfl rfl (by decide) rfl (fun ls hl => ?_)
                refine lv_goto (tgt := 106) hx hb dL_all_199 (by decide) ?_
                exact ih x0 x1 x3 x4 (x5 + (1 : Int32)) f n H locs ls hI (lv_sub hl [1, 2, 3, 4, 0] rfl) hq
            refine lv_if_eq (tgt := 131) hx hb dL_all_124 (by decide) (fun c25 => ?_) (fun c25 => ?_)
            · replace hq := i_t c25 hq
              refine lv_iconst (v := (0 : Int32)) hx hb dL_all_131 (by decide) ?_
              exact hj132 x0 x1 x3 (x4 + (1 : Int32)) x5 (0 : Int32) x4 x3 f n H locs ls hI (lv_sub hl [1, 2, 3, 0, 4] rfl) hq
            · replace hq := i_f c25 hq
              refine lv_iconst (v := (1 : Int32)) hx hb dL_all_127 (by decide) ?_
              refine lv_goto (tgt := 132) hx hb dL_all_128 (by decide) ?_
              exact hj132 x0 x1 x3 (x4 + (1 : Int32)) x5 (1 : Int32) x4 x3 f n H locs ls hI (lv_sub hl [1, 2, 3, 0, 4] rfl) hq
      refine hl106 _ ?_ FU x0 x1 x3 (((x4 + (1 : Int32)) + (1 : Int32)) + (1 : Int32)) (0 : Int32) f13 n H locs ls hI (lv_sub hl [2, 3, 4, 1, 0] rfl) hq
      · intro x3 f n H locs ls hI hl hq
        refine lv_aload_n hx hb dL_all_202 rfl (lv_at hl 0 rfl) ?_
        refine W.widen (k := 3) (n := 1612) (by decide) (by decide) ?_
        obtain rfl := Option.some.inj hq
        exact ge_Wr hx hb hlocks hr (Or.inr ⟨_, rfl⟩) hI rfl rfl dL_all_203
    refine lv_if_eq (tgt := 68) hx hb dL_all_61 (by decide) (fun c26 => ?_) (fun c26 => ?_)
    · replace hq := i_t c26 hq
      refine lv_iconst (v := (0 : Int32)) hx hb dL_all_68 (by decide) ?_
      exact hj69 x0 x1 n (2 : Int32) (0 : Int32) (1 : Int32) n f5 (n + 1) H locs ls hI (lv_sub hl [2, 3, 1, 0] rfl) hq
    · replace hq := i_f c26 hq
      refine lv_iconst (v := (1 : Int32)) hx hb dL_all_64 (by decide) ?_
      refine lv_goto (tgt := 69) hx hb dL_all_65 (by decide) ?_
      exact hj69 x0 x1 n (2 : Int32) (1 : Int32) (1 : Int32) n f5 (n + 1) H locs ls hI (lv_sub hl [2, 3, 1, 0] rfl) hq

abbrev rm_L_alike : Room := { frames := 2, cells := 0, slots := 0, locals := 120 }
theorem k_L_alike : g_CS yL_alike cL_alike 3 (some .boolean) 2 := ⟨⟨m_632, m_0, by decide +kernel⟩, m_631⟩
set_option maxHeartbeats 4000000 in
set_option maxRecDepth 100000 in
theorem c_L_alike (l : Launch) (hl0 : l.stackTraces = false) (V : Nat → Nat) (g : GH) (D : va_G) (cT : Nat → ClassId) (f : GH) (n : Nat) (a0 : Nat) (a1 : Nat) (o : Int32) (hq : p_L_alike V g f a0 a1 = some o) : Met l yL_alike (Cond.code yL_alike cL_alike 3 (some .boolean) :: g_B) rm_L_alike (va_Pc [.ref a0, .ref a1] (g_I V g D cT f n)) (g_Ri o n) 0 0 g_no := by
  refine g_begin (own := RL) [.ref a0, .ref a1] [(0, .ref a0), (1, .ref a1)] g_no (fun _ h => h.elim) (by decide) rfl (Nat.le_of_ble_eq_true rfl) rfl ?_
  intro p e s m args below meth c hx hb hr hlocks hin hC hI ls hl
  obtain ⟨hx, hb, hml, hown, hB⟩ := id hC
  obtain ⟨H, hH⟩ : ∃ H, H = s.heap := ⟨_, rfl⟩
  obtain ⟨locs, hlocs⟩ : ∃ L : List Loc, L = [] := ⟨_, rfl⟩
  rw [← hH, ← hlocs] at hI ⊢
  clear hH hlocs
  unfold p_L_alike at hq
  refine lv_aload_n hx hb dL_alike_0 rfl (lv_at hl 0 rfl) ?_
  obtain ⟨v1, ev1, hq⟩ := b_s hq
  refine fa_al hx hb hI (by decide) ev1 dL_alike_1 ?_
  refine lv_aload_n hx hb dL_alike_2 rfl (lv_at hl 1 rfl) ?_
  obtain ⟨v2, ev2, hq⟩ := b_s hq
  refine fa_al hx hb hI (by decide) ev2 dL_alike_3 ?_
  refine lv_icmp_eq (tgt := 9) hx hb dL_alike_4 (by decide) (fun c3 => ?_) (fun c3 => ?_)
  · replace hq := i_t c3 hq
    refine lv_iconst (v := (0 : Int32)) hx hb dL_alike_9 (by decide) ?_
    refine lv_istore_n (lv' := [(2, .int (0 : Int32)), (0, .ref a0), (1, .ref a1)]) hx hb dL_alike_10 rfl hl (by decide) rfl (fun ls hl => ?_)
    have hl11 : ∀ (K26 : Option Int32) (hK26 : ∀  (H : Heap) (locs : List Loc) (ls : Array Slot), g_at g_no V g D cT f n s H locs → lv_has ls 3 [] → K26  = some o → W p l e rm_L_alike s m args below meth c H locs 0 0 (MQ below (g_Ri o n) args s 0 0 g_no) (F0 m 26 ls [])) (K34 : Option Int32) (hK34 : ∀  (H : Heap) (locs : List Loc) (ls : Array Slot), g_at g_no V g D cT f n s H locs → lv_has ls 3 [] → K34  = some o → W p l e rm_L_alike s m args below meth c H locs 0 0 (MQ below (g_Ri o n) args s 0 0 g_no) (F0 m 34 ls [])) (N : Nat) (x0 : Nat) (x1 : Nat) (x2 : Int32) (H : Heap) (locs : List Loc) (ls : Array Slot), g_at g_no V g D cT f n s H locs → lv_has ls 3 [(0, .ref x0), (1, .ref x1), (2, .int x2)] → p_L_alike_l11 V g f K26 K34 N x0 x1 x2 = some o → W p l e rm_L_alike s m args below meth c H locs 0 0 (MQ below (g_Ri o n) args s 0 0 g_no) (F0 m 11 ls []) := by
      intro K26 hK26 K34 hK34 N
      induction N with
      | zero =>
        intro x0 x1 x2 H locs ls hI hl hq
        rw [p_L_alike_l11] at hq
        cases hq
      | succ N ih =>
        intro x0 x1 x2 H locs ls hI hl hq
        rw [p_L_alike_l11] at hq
        refine lv_iload_n hx hb dL_alike_11 rfl (lv_at hl 2 rfl) ?_
        refine lv_aload_n hx hb dL_alike_12 rfl (lv_at hl 0 rfl) ?_
        obtain ⟨v4, ev4, hq⟩ := b_s hq
        refine fa_al hx hb hI (by decide) ev4 dL_alike_13 ?_
        refine lv_icmp_ge (tgt := 34) hx hb dL_alike_14 (by decide) (fun c5 => ?_) (fun c5 => ?_)
        · replace hq := i_t c5 hq
          exact hK34  H locs ls hI (lv_sub hl [] rfl) hq
        · replace hq := i_f c5 hq
          refine lv_aload_n hx hb dL_alike_17 rfl (lv_at hl 0 rfl) ?_
          refine lv_iload_n hx hb dL_alike_18 rfl (lv_at hl 2 rfl) ?_
          obtain ⟨v6, ev6, hq⟩ := b_s hq
          refine fa_li hx hb hI ev6 dL_alike_19 ?_
          refine lv_aload_n hx hb dL_alike_20 rfl (lv_at hl 1 rfl) ?_
          refine lv_iload_n hx hb dL_alike_21 rfl (lv_at hl 2 rfl) ?_
          obtain ⟨v7, ev7, hq⟩ := b_s hq
          refine fa_li hx hb hI ev7 dL_alike_22 ?_
          refine lv_icmp_eq (tgt := 28) hx hb dL_alike_23 (by decide) (fun c8 => ?_) (fun c8 => ?_)
          · replace hq := i_t c8 hq
            refine lv_iinc (v := x2 + (1 : Int32)) (lv' := [(2, .int (x2 + (1 : Int32))), (0, .ref x0), (1, .ref x1)]) hx hb dL_alike_28 hl (k := 2) rfl rfl (by decide) rfl (fun ls hl => ?_)
            refine lv_goto (tgt := 11) hx hb dL_alike_31 (by decide) ?_
            exact ih x0 x1 (x2 + (1 : Int32)) H locs ls hI (lv_sub hl [1, 2, 0] rfl) hq
          · replace hq := i_f c8 hq
            exact hK26  H locs ls hI (lv_sub hl [] rfl) hq
    refine hl11 _ ?_ _ ?_ FU a0 a1 (0 : Int32) H locs ls hI (lv_sub hl [1, 2, 0] rfl) hq
    · intro  H locs ls hI hl hq
      refine lv_iconst (v := (0 : Int32)) hx hb dL_alike_26 (by decide) ?_
      exact ge_Ri hx hb hlocks hr (by decide +kernel) hI hq dL_alike_27
    · intro  H locs ls hI hl hq
      refine lv_iconst (v := (1 : Int32)) hx hb dL_alike_34 (by decide) ?_
      exact ge_Ri hx hb hlocks hr (by decide +kernel) hI hq dL_alike_35
  · replace hq := i_f c3 hq
    refine lv_iconst (v := (0 : Int32)) hx hb dL_alike_7 (by decide) ?_
    exact ge_Ri hx hb hlocks hr (by decide +kernel) hI hq dL_alike_8

abbrev rm_L_areSticks : Room := { frames := 11, cells := 4, slots := 24, locals := 286 }
theorem k_L_areSticks : g_CS yL_areSticks cL_areSticks 11 (some .boolean) 2 := ⟨⟨m_635, m_0, by decide +kernel⟩, m_634⟩
set_option maxHeartbeats 4000000 in
set_option maxRecDepth 100000 in
theorem c_L_areSticks (l : Launch) (hl0 : l.stackTraces = false) (V : Nat → Nat) (g : GH) (D : va_G) (cT : Nat → ClassId) (f : GH) (n : Nat) (a0 : Nat) (a1 : Int32) (o : Int32) (hq : p_L_areSticks V g f a0 a1 = some o) : Met l yL_areSticks (Cond.code yL_areSticks cL_areSticks 11 (some .boolean) :: g_B) rm_L_areSticks (va_Pc [.ref a0, .int a1] (g_I V g D cT f n)) (g_Ri o n) 4 24 g_no := by
  refine g_begin (own := RL) [.ref a0, .int a1] [(0, .ref a0), (1, .int a1)] g_no (fun _ h => h.elim) (by decide) rfl (Nat.le_of_ble_eq_true rfl) rfl ?_
  intro p e s m args below meth c hx hb hr hlocks hin hC hI ls hl
  obtain ⟨hx, hb, hml, hown, hB⟩ := id hC
  obtain ⟨H, hH⟩ : ∃ H, H = s.heap := ⟨_, rfl⟩
  obtain ⟨locs, hlocs⟩ : ∃ L : List Loc, L = [] := ⟨_, rfl⟩
  rw [← hH, ← hlocs] at hI ⊢
  clear hH hlocs
  unfold p_L_areSticks at hq
  refine lv_aload_n hx hb dL_areSticks_0 rfl (lv_at hl 0 rfl) ?_
  refine lv_iload_n hx hb dL_areSticks_1 rfl (lv_at hl 1 rfl) ?_
  obtain ⟨v1, ev1, hq⟩ := b_s hq
  refine gx0_i (g_runVX (As := [.int a1]) (rest := []) (ci := 9) hC (c_X7_pointCount l hl0 V g D cT f n a0 a1 (.inr v1) (h_nt_eq ev1)) k_X7_pointCount m_573 rfl rfl ⟨Nat.le_of_ble_eq_true rfl, Nat.le_of_ble_eq_true rfl⟩ hI rfl rfl (h_me_eq (h_nt_eq ev1)).1 rfl hl.1 rfl (Nat.le_of_ble_eq_true rfl) dL_areSticks_2 ⟨by decide, by decide⟩) hI (fun H locs hI => ?_)
  refine lv_istore_n (lv' := [(2, .int v1), (0, .ref a0), (1, .int a1)]) hx hb dL_areSticks_5 rfl hl (by decide) rfl (fun ls hl => ?_)
  refine lv_iconst (v := (0 : Int32)) hx hb dL_areSticks_6 (by decide) ?_
  refine lv_istore_n (lv' := [(3, .int (0 : Int32)), (2, .int v1), (0, .ref a0), (1, .int a1)]) hx hb dL_areSticks_7 rfl hl (by decide) rfl (fun ls hl => ?_)
  have hl8 : ∀ (K171 : Option Int32) (hK171 : ∀  (H : Heap) (locs : List Loc) (ls : Array Slot), g_at g_no V g D cT f n s H locs → lv_has ls 11 [] → K171  = some o → W p l e rm_L_areSticks s m args below meth c H locs 0 0 (MQ below (g_Ri o n) args s 4 24 g_no) (F0 m 171 ls [])) (K267 : Option Int32) (hK267 : ∀  (H : Heap) (locs : List Loc) (ls : Array Slot), g_at g_no V g D cT f n s H locs → lv_has ls 11 [] → K267  = some o → W p l e rm_L_areSticks s m args below meth c H locs 0 0 (MQ below (g_Ri o n) args s 4 24 g_no) (F0 m 267 ls [])) (K314 : Option Int32) (hK314 : ∀  (H : Heap) (locs : List Loc) (ls : Array Slot), g_at g_no V g D cT f n s H locs → lv_has ls 11 [] → K314  = some o → W p l e rm_L_areSticks s m args below meth c H locs 0 0 (MQ below (g_Ri o n) args s 4 24 g_no) (F0 m 314 ls [])) (K322 : Nat → Int32 → Option Int32) (hK322 : ∀ (x0 : Nat) (x1 : Int32) (H : Heap) (locs : List Loc) (ls : Array Slot), g_at g_no V g D cT f n s H locs → lv_has ls 11 [(0, .ref x0), (1, .int x1)] → K322 x0 x1 = some o → W p l e rm_L_areSticks s m args below meth c H locs 0 0 (MQ below (g_Ri o n) args s 4 24 g_no) (F0 m 322 ls [])) (N : Nat) (x0 : Nat) (x1 : Int32) (x2 : Int32) (x3 : Int32) (H : Heap) (locs : List Loc) (ls : Array Slot), g_at g_no V g D cT f n s H locs → lv_has ls 11 [(0, .ref x0), (1, .int x1), (2, .int x2), (3, .int x3)] → p_L_areSticks_l8 V g f K171 K267 K314 K322 N x0 x1 x2 x3 = some o → W p l e rm_L_areSticks s m args below meth c H locs 0 0 (MQ below (g_Ri o n) args s 4 24 g_no) (F0 m 8 ls []) := by
    intro K171 hK171 K267 hK267 K314 hK314 K322 hK322 N
    induction N with
    | zero =>
      intro x0 x1 x2 x3 H locs ls hI hl hq
      rw [p_L_areSticks_l8] at hq
      cases hq
    | succ N ih =>
      intro x0 x1 x2 x3 H locs ls hI hl hq
      rw [p_L_areSticks_l8] at hq
      refine lv_iload_n hx hb dL_areSticks_8 rfl (lv_at hl 3 rfl) ?_
      refine lv_bipush (v := (8 : Int32)) hx hb dL_areSticks_9 (by decide) ?_
      refine lv_icmp_ge (tgt := 322) hx hb dL_areSticks_11 (by decide) (fun c2 => ?_) (fun c2 => ?_)
      · replace hq := i_t c2 hq
        exact hK322 x0 x1 H locs ls hI (lv_sub hl [0, 1] rfl) hq
      · replace hq := i_f c2 hq
        refine lv_aload_n hx hb dL_areSticks_14 rfl (lv_at hl 0 rfl) ?_
        refine lv_iload_n hx hb dL_areSticks_15 rfl (lv_at hl 1 rfl) ?_
        refine lv_iload_n hx hb dL_areSticks_16 rfl (lv_at hl 3 rfl) ?_
        obtain ⟨v3, ev3, hq⟩ := b_s hq
        refine gx0_i (g_runVX (As := [.int x1, .int x3]) (rest := []) (ci := 9) hC (c_X7_stickCount l hl0 V g D cT f n x0 x1 x3 (.inr v3) (h_nt_eq ev3)) k_X7_stickCount m_636 rfl rfl ⟨Nat.le_of_ble_eq_true rfl, Nat.le_of_ble_eq_true rfl⟩ hI rfl rfl (h_me_eq (h_nt_eq ev3)).1 rfl hl.1 rfl (Nat.le_of_ble_eq_true rfl) dL_areSticks_17 ⟨by decide, by decide⟩) hI (fun H locs hI => ?_)
        refine lv_istore (lv' := [(4, .int v3), (0, .ref x0), (1, .int x1), (2, .int x2), (3, .int x3)]) hx hb dL_areSticks_20 hl (by decide) rfl (fun ls hl => ?_)
        refine lv_iconst (v := (0 : Int32)) hx hb dL_areSticks_22 (by decide) ?_
        refine lv_istore (lv' := [(5, .int (0 : Int32)), (4, .int v3), (0, .ref x0), (1, .int x1), (2, .int x2), (3, .int x3)]) hx hb dL_areSticks_23 hl (by decide) rfl (fun ls hl => ?_)
        refine lv_aload_n hx hb dL_areSticks_25 rfl (lv_at hl 2 rfl) ?_
        refine lv_iload_n hx hb dL_areSticks_26 rfl (lv_at hl 3 rfl) ?_
        refine lv_iload_n hx hb dL_areSticks_27 rfl (lv_at hl 5 rfl) ?_
        obtain ⟨v4, ev4, hq⟩ := b_s hq
        refine gx0_i (g_runVX (As := [.int x1, .int x3]) (rest := []) (ci := 9) hC (c_X7_longestStick l hl0 V g D cT f n x0 x1 x3 (.inr v4) (h_nt_eq ev4)) k_X7_longestStick m_644 rfl rfl ⟨Nat.le_of_ble_eq_true rfl, Nat.le_of_ble_eq_true rfl⟩ hI rfl rfl (h_me_eq (h_nt_eq ev4)).1 rfl hl.1 rfl (Nat.le_of_ble_eq_true rfl) dL_areSticks_28 ⟨by decide, by decide⟩) hI (fun H locs hI => ?_)
        refine lv_istore (lv' := [(6, .int v4), (5, .int (0 : Int32)), (4, .int v3), (0, .ref x0), (1, .int x1), (2, .int x2), (3, .int x3)]) hx hb dL_areSticks_31 hl (by decide) rfl (fun ls hl => ?_)
        refine lv_iconst (v := (0 : Int32)) hx hb dL_areSticks_33 (by decide) ?_
        refine lv_istore (lv' := [(7, .int (0 : Int32)), (6, .int v4), (5, .int (0 : Int32)), (4, .int v3), (0, .ref x0), (1, .int x1), (2, .int x2), (3, .int x3)]) hx hb dL_areSticks_34 hl (by decide) rfl (fun ls hl => ?_)
        have hl36 : ∀ (K171 : Option Int32) (hK171 : ∀  (H : Heap) (locs : List Loc) (ls : Array Slot), g_at g_no V g D cT f n s H locs → lv_has ls 11 [] → K171  = some o → W p l e rm_L_areSticks s m args below meth c H locs 0 0 (MQ below (g_Ri o n) args s 4 24 g_no) (F0 m 171 ls [])) (K179 : Nat → Int32 → Int32 → Int32 → Int32 → Int32 → Option Int32) (hK179 : ∀ (x0 : Nat) (x1 : Int32) (x2 : Int32) (x3 : Int32) (x4 : Int32) (x5 : Int32) (H : Heap) (locs : List Loc) (ls : Array Slot), g_at g_no V g D cT f n s H locs → lv_has ls 11 [(0, .ref x0), (1, .int x1), (2, .int x2), (3, .int x3), (4, .int x4), (5, .int x5)] → K179 x0 x1 x2 x3 x4 x5 = some o → W p l e rm_L_areSticks s m args below meth c H locs 0 0 (MQ below (g_Ri o n) args s 4 24 g_no) (F0 m 179 ls [])) (N : Nat) (x0 : Nat) (x1 : Int32) (x2 : Int32) (x3 : Int32) (x4 : Int32) (x5 : Int32) (x6 : Int32) (x7 : Int32) (H : Heap) (locs : List Loc) (ls : Array Slot), g_at g_no V g D cT f n s H locs → lv_has ls 11 [(0, .ref x0), (1, .int x1), (2, .int x2), (3, .int x3), (4, .int x4), (5, .int x5), (6, .int x6), (7, .int x7)] → p_L_areSticks_l36 V g f K171 K179 N x0 x1 x2 x3 x4 x5 x6 x7 = some o → W p l e rm_L_areSticks s m args below meth c H locs 0 0 (MQ below (g_Ri o n) args s 4 24 g_no) (F0 m 36 ls []) := by
          intro K171 hK171 K179 hK179 N
          induction N with
          | zero =>
            intro x0 x1 x2 x3 x4 x5 x6 x7 H locs ls hI hl hq
            rw [p_L_areSticks_l36] at hq
            cases hq
          | succ N ih =>
            intro x0 x1 x2 x3 x4 x5 x6 x7 H locs ls hI hl hq
            rw [p_L_areSticks_l36] at hq
            refine lv_iload hx hb dL_areSticks_36 (lv_at hl 7 rfl) ?_
            refine lv_iload hx hb dL_areSticks_38 (lv_at hl 4 rfl) ?_
            refine lv_icmp_ge (tgt := 179) hx hb dL_areSticks_40 (by decide) (fun c5 => ?_) (fun c5 => ?_)
            · replace hq := i_t c5 hq
              exact hK179 x0 x1 x2 x3 x4 x5 H locs ls hI (lv_sub hl [0, 1, 2, 3, 4, 5] rfl) hq
            · replace hq := i_f c5 hq
              refine lv_aload_n hx hb dL_areSticks_43 rfl (lv_at hl 0 rfl) ?_
              refine lv_iload_n hx hb dL_areSticks_44 rfl (lv_at hl 1 rfl) ?_
              refine lv_iload_n hx hb dL_areSticks_45 rfl (lv_at hl 3 rfl) ?_
              refine lv_iload hx hb dL_areSticks_46 (lv_at hl 7 rfl) ?_
              obtain ⟨v6, ev6, hq⟩ := b_s hq
              refine gx0_i (g_runVX (As := [.int x1, .int x3, .int x7]) (rest := []) (ci := 9) hC (c_X7_stickStart l hl0 V g D cT f n x0 x1 x3 x7 (.inr v6) (h_nt_eq ev6)) k_X7_stickStart m_674 rfl rfl ⟨Nat.le_of_ble_eq_true rfl, Nat.le_of_ble_eq_true rfl⟩ hI rfl rfl (h_me_eq (h_nt_eq ev6)).1 rfl hl.1 rfl (Nat.le_of_ble_eq_true rfl) dL_areSticks_48 ⟨by decide, by decide⟩) hI (fun H locs hI => ?_)
              refine lv_istore (lv' := [(8, .int v6), (0, .ref x0), (1, .int x1), (2, .int x2), (3, .int x3), (4, .int x4), (5, .int x5), (6, .int x6), (7, .int x7)]) hx hb dL_areSticks_51 hl (by decide) rfl (fun ls hl => ?_)
              refine lv_iload hx hb dL_areSticks_53 (lv_at hl 8 rfl) ?_
              refine lv_iconst (v := (1 : Int32)) hx hb dL_areSticks_55 (by decide) ?_
              refine lv_iadd hx hb dL_areSticks_56 ?_
              refine lv_iload hx hb dL_areSticks_57 (lv_at hl 5 rfl) ?_
              have hj90 : ∀ (x0 : Nat) (x1 : Int32) (x2 : Int32) (x3 : Int32) (x4 : Int32) (x5 : Int32) (x6 : Int32) (x7 : Int32) (x8 : Int32) (t0 : Int32) (H : Heap) (locs : List Loc) (ls : Array Slot), g_at g_no V g D cT f n s H locs → lv_has ls 11 [(0, .ref x0), (1, .int x1), (2, .int x2), (3, .int x3), (4, .int x4), (5, .int x5), (6, .int x6), (7, .int x7), (8, .int x8)] → p_L_areSticks_j90 V g f (p_L_areSticks_l36 V g f K171 K179 N) K171 x0 x1 x2 x3 x4 x5 x6 x7 x8 t0 = some o → W p l e rm_L_areSticks s m args below meth c H locs 0 0 (MQ below (g_Ri o n) args s 4 24 g_no) (F0 m 90 ls [.int t0]) := by
                intro x0 x1 x2 x3 x4 x5 x6 x7 x8 t0 H locs ls hI hl hq
                unfold p_L_areSticks_j90 at hq
                refine lv_istore (lv' := [(9, .int t0), (0, .ref x0), (1, .int x1), (2, .int x2), (3, .int x3), (4, .int x4), (5, .int x5), (6, .int x6), (7, .int x7), (8, .int x8)]) hx hb dL_areSticks_90 hl (by decide) rfl (fun ls hl => ?_)
                refine lv_aload_n hx hb dL_areSticks_92 rfl (lv_at hl 1 rfl) ?_
                refine lv_iload_n hx hb dL_areSticks_93 rfl (lv_at hl 2 rfl) ?_
                refine lv_iload_n hx hb dL_areSticks_94 rfl (lv_at hl 4 rfl) ?_
                refine lv_iload hx hb dL_areSticks_95 (lv_at hl 8 rfl) ?_
                obtain ⟨v7, ev7, hq⟩ := b_s hq
                refine gx0_i (g_runVX (As := [.int x1, .int x3, .int x7]) (rest := []) (ci := 9) hC (c_X7_stickLength l hl0 V g D cT f n x0 x1 x3 x7 (.inr v7) (h_nt_eq ev7)) k_X7_stickLength m_682 rfl rfl ⟨Nat.le_of_ble_eq_true rfl, Nat.le_of_ble_eq_true rfl⟩ hI rfl rfl (h_me_eq (h_nt_eq ev7)).1 rfl hl.1 rfl (Nat.le_of_ble_eq_true rfl) dL_areSticks_97 ⟨by decide, by decide⟩) hI (fun H locs hI => ?_)
                refine lv_istore (lv' := [(10, .int v7), (9, .int t0), (0, .ref x0), (1, .int x1), (2, .int x2), (3, .int x3), (4, .int x4), (5, .int x5), (6, .int x6), (7, .int x7), (8, .int x8)]) hx hb dL_areSticks_100 hl (by decide) rfl (fun ls hl => ?_)
                refine lv_iload hx hb dL_areSticks_102 (lv_at hl 7 rfl) ?_
                refine lv_iload hx hb dL_areSticks_104 (lv_at hl 0 rfl) ?_
                refine lv_iadd hx hb dL_areSticks_106 ?_
                refine lv_istore (lv' := [(5, .int (x5 + v7)), (10, .int v7), (9, .int t0), (0, .ref x0), (1, .int x1), (2, .int x2), (3, .int x3), (4, .int x4), (6, .int x6), (7, .int x7), (8, .int x8)]) hx hb dL_areSticks_107 hl (by decide) rfl (fun ls hl => ?_)
                refine lv_iload hx hb dL_areSticks_109 (lv_at hl 10 rfl) ?_
                refine lv_iload hx hb dL_areSticks_111 (lv_at hl 9 rfl) ?_
                refine lv_iload_n hx hb dL_areSticks_113 rfl (lv_at hl 6 rfl) ?_
                refine lv_ishl hx hb dL_areSticks_114 ?_
                refine lv_icmp_ne (tgt := 171) hx hb dL_areSticks_115 (by decide) (fun c8 => ?_) (fun c8 => ?_)
                · replace hq := i_f c8 hq
                  exact hK171  H locs ls hI (lv_sub hl [] rfl) hq
                · replace hq := i_t c8 hq
                  refine lv_iload hx hb dL_areSticks_118 (lv_at hl 10 rfl) ?_
                  refine lv_iload_n hx hb dL_areSticks_120 rfl (lv_at hl 5 rfl) ?_
                  refine lv_icmp_ge (tgt := 171) hx hb dL_areSticks_121 (by decide) (fun c9 => ?_) (fun c9 => ?_)
                  · replace hq := i_t c9 hq
                    exact hK171  H locs ls hI (lv_sub hl [] rfl) hq
                  · replace hq := i_f c9 hq
                    refine lv_iload hx hb dL_areSticks_124 (lv_at hl 1 rfl) ?_
                    refine lv_aload_n hx hb dL_areSticks_126 rfl (lv_at hl 3 rfl) ?_
                    refine lv_iload_n hx hb dL_areSticks_127 rfl (lv_at hl 4 rfl) ?_
                    refine lv_iload hx hb dL_areSticks_128 (lv_at hl 10 rfl) ?_
                    refine lv_iload hx hb dL_areSticks_130 (lv_at hl 2 rfl) ?_
                    obtain ⟨v10, ev10, hq⟩ := b_s hq
                    refine gx0_i (g_runVX (As := [.int x1, .int x8, .int t0]) (rest := [.int v7]) (ci := 9) hC (c_X7_pointDistance l hl0 V g D cT f n x0 x1 x8 t0 (.inr v10) (h_nt_eq ev10)) k_X7_pointDistance m_686 rfl rfl ⟨Nat.le_of_ble_eq_true rfl, Nat.le_of_ble_eq_true rfl⟩ hI rfl rfl (h_me_eq (h_nt_eq ev10)).1 rfl hl.1 rfl (Nat.le_of_ble_eq_true rfl) dL_areSticks_132 ⟨by decide, by decide⟩) hI (fun H locs hI => ?_)
                    refine lv_icmp_ne (tgt := 171) hx hb dL_areSticks_135 (by decide) (fun c11 => ?_) (fun c11 => ?_)
                    · replace hq := i_f c11 hq
                      exact hK171  H locs ls hI (lv_sub hl [] rfl) hq
                    · replace hq := i_t c11 hq
                      refine lv_iload hx hb dL_areSticks_138 (lv_at hl 1 rfl) ?_
                      refine lv_aload_n hx hb dL_areSticks_140 rfl (lv_at hl 3 rfl) ?_
                      refine lv_iload_n hx hb dL_areSticks_141 rfl (lv_at hl 4 rfl) ?_
                      refine lv_iload_n hx hb dL_areSticks_142 rfl (lv_at hl 6 rfl) ?_
                      refine lv_iload hx hb dL_areSticks_143 (lv_at hl 8 rfl) ?_
                      obtain ⟨v12, ev12, hq⟩ := b_s hq
                      refine gx0_i (g_runVX (As := [.int x1, .int x3, .int x6]) (rest := [.int v7]) (ci := 9) hC (c_X7_stickLength l hl0 V g D cT f n x0 x1 x3 x6 (.inr v12) (h_nt_eq ev12)) k_X7_stickLength m_682 rfl rfl ⟨Nat.le_of_ble_eq_true rfl, Nat.le_of_ble_eq_true rfl⟩ hI rfl rfl (h_me_eq (h_nt_eq ev12)).1 rfl hl.1 rfl (Nat.le_of_ble_eq_true rfl) dL_areSticks_145 ⟨by decide, by decide⟩) hI (fun H locs hI => ?_)
                      refine lv_icmp_gt (tgt := 171) hx hb dL_areSticks_148 (by decide) (fun c13 => ?_) (fun c13 => ?_)
                      · replace hq := i_t c13 hq
                        exact hK171  H locs ls hI (lv_sub hl [] rfl) hq
                      · replace hq := i_f c13 hq
                        refine lv_iload hx hb dL_areSticks_151 (lv_at hl 9 rfl) ?_
                        refine lv_iload hx hb dL_areSticks_153 (lv_at hl 8 rfl) ?_
                        refine lv_icmp_ge (tgt := 173) hx hb dL_areSticks_155 (by decide) (fun c14 => ?_) (fun c14 => ?_)
                        · replace hq := i_t c14 hq
                          refine lv_iinc (v := x7 + (1 : Int32)) (lv' := [(7, .int (x7 + (1 : Int32))), (5, .int (x5 + v7)), (10, .int v7), (9, .int t0), (0, .ref x0), (1, .int x1), (2, .int x2), (3, .int x3), (4, .int x4), (6, .int x6), (8, .int x8)]) hx hb dL_areSticks_173 hl (k := 9) rfl rfl (by decide) rfl (fun ls hl => ?_)
                          refine lv_goto (tgt := 36) hx hb dL_areSticks_176 (by decide) ?_
                          exact ih x0 x1 x2 x3 x4 (x5 + v7) x6 (x7 + (1 : Int32)) H locs ls hI (lv_sub hl [4, 5, 6, 7, 8, 1, 9, 0] rfl) hq
                        · replace hq := i_f c14 hq
                          refine lv_iload hx hb dL_areSticks_158 (lv_at hl 1 rfl) ?_
                          refine lv_aload_n hx hb dL_areSticks_160 rfl (lv_at hl 3 rfl) ?_
                          refine lv_iload_n hx hb dL_areSticks_161 rfl (lv_at hl 4 rfl) ?_
                          refine lv_iload_n hx hb dL_areSticks_162 rfl (lv_at hl 6 rfl) ?_
                          refine lv_iload hx hb dL_areSticks_163 (lv_at hl 8 rfl) ?_
                          obtain ⟨v15, ev15, hq⟩ := b_s hq
                          refine gx0_i (g_runVX (As := [.int x1, .int x3, .int x6]) (rest := [.int v7]) (ci := 9) hC (c_X7_stickLength l hl0 V g D cT f n x0 x1 x3 x6 (.inr v15) (h_nt_eq ev15)) k_X7_stickLength m_682 rfl rfl ⟨Nat.le_of_ble_eq_true rfl, Nat.le_of_ble_eq_true rfl⟩ hI rfl rfl (h_me_eq (h_nt_eq ev15)).1 rfl hl.1 rfl (Nat.le_of_ble_eq_true rfl) dL_areSticks_165 ⟨by decide, by decide⟩) hI (fun H locs hI => ?_)
                          refine lv_icmp_ne (tgt := 173) hx hb dL_areSticks_168 (by decide) (fun c16 => ?_) (fun c16 => ?_)
                          · replace hq := i_f c16 hq
                            refine lv_iinc (v := x7 + (1 : Int32)) (lv' := [(7, .int (x7 + (1 : Int32))), (5, .int (x5 + v7)), (10, .int v7), (9, .int t0), (0, .ref x0), (1, .int x1), (2, .int x2), (3, .int x3), (4, .int x4), (6, .int x6), (8, .int x8)]) hx hb dL_areSticks_173 hl (k := 9) rfl rfl (by decide) rfl (fun ls hl => ?_)
                            refine lv_goto (tgt := 36) hx hb dL_areSticks_176 (by decide) ?_
                            exact ih x0 x1 x2 x3 x4 (x5 + v7) x6 (x7 + (1 : Int32)) H locs ls hI (lv_sub hl [4, 5, 6, 7, 8, 1, 9, 0] rfl) hq
                          · replace hq := i_t c16 hq
                            exact hK171  H locs ls hI (lv_sub hl [] rfl) hq
              refine lv_icmp_ge (tgt := 75) hx hb dL_areSticks_59 (by decide) (fun c17 => ?_) (fun c17 => ?_)
              · replace hq := i_t c17 hq
                refine lv_aload_n hx hb dL_areSticks_75 rfl (lv_at hl 1 rfl) ?_
                refine lv_iload_n hx hb dL_areSticks_76 rfl (lv_at hl 2 rfl) ?_
                obtain ⟨v18, ev18, hq⟩ := b_s hq
                refine gx0_i (g_runVX (As := [.int x1]) (rest := []) (ci := 9) hC (c_X7_isIsland l hl0 V g D cT f n x0 x1 (.inr v18) (h_nt_eq ev18)) k_X7_isIsland m_613 rfl rfl ⟨Nat.le_of_ble_eq_true rfl, Nat.le_of_ble_eq_true rfl⟩ hI rfl rfl (h_me_eq (h_nt_eq ev18)).1 rfl hl.1 rfl (Nat.le_of_ble_eq_true rfl) dL_areSticks_77 ⟨by decide, by decide⟩) hI (fun H locs hI => ?_)
                refine lv_if_eq (tgt := 87) hx hb dL_areSticks_80 (by decide) (fun c19 => ?_) (fun c19 => ?_)
                · replace hq := i_t c19 hq
                  refine lv_iload_n hx hb dL_areSticks_87 rfl (lv_at hl 3 rfl) ?_
                  refine lv_iconst (v := (1 : Int32)) hx hb dL_areSticks_88 (by decide) ?_
                  refine lv_isub hx hb dL_areSticks_89 ?_
                  exact hj90 x0 x1 x2 x3 x4 x5 x6 x7 v6 (x2 - (1 : Int32)) H locs ls hI (lv_sub hl [1, 2, 3, 4, 5, 6, 7, 8, 0] rfl) hq
                · replace hq := i_f c19 hq
                  refine lv_iconst (v := (0 : Int32)) hx hb dL_areSticks_83 (by decide) ?_
                  refine lv_goto (tgt := 90) hx hb dL_areSticks_84 (by decide) ?_
                  exact hj90 x0 x1 x2 x3 x4 x5 x6 x7 v6 (0 : Int32) H locs ls hI (lv_sub hl [1, 2, 3, 4, 5, 6, 7, 8, 0] rfl) hq
              · replace hq := i_f c17 hq
                refine lv_aload_n hx hb dL_areSticks_62 rfl (lv_at hl 1 rfl) ?_
                refine lv_iload_n hx hb dL_areSticks_63 rfl (lv_at hl 2 rfl) ?_
                refine lv_iload_n hx hb dL_areSticks_64 rfl (lv_at hl 4 rfl) ?_
                refine lv_iload hx hb dL_areSticks_65 (lv_at hl 8 rfl) ?_
                refine lv_iconst (v := (1 : Int32)) hx hb dL_areSticks_67 (by decide) ?_
                refine lv_iadd hx hb dL_areSticks_68 ?_
                obtain ⟨v20, ev20, hq⟩ := b_s hq
                refine gx0_i (g_runVX (As := [.int x1, .int x3, .int (x7 + (1 : Int32))]) (rest := []) (ci := 9) hC (c_X7_stickStart l hl0 V g D cT f n x0 x1 x3 (x7 + (1 : Int32)) (.inr v20) (h_nt_eq ev20)) k_X7_stickStart m_674 rfl rfl ⟨Nat.le_of_ble_eq_true rfl, Nat.le_of_ble_eq_true rfl⟩ hI rfl rfl (h_me_eq (h_nt_eq ev20)).1 rfl hl.1 rfl (Nat.le_of_ble_eq_true rfl) dL_areSticks_69 ⟨by decide, by decide⟩) hI (fun H locs hI => ?_)
                refine lv_goto (tgt := 90) hx hb dL_areSticks_72 (by decide) ?_
                exact hj90 x0 x1 x2 x3 x4 x5 x6 x7 v6 v20 H locs ls hI (lv_sub hl [1, 2, 3, 4, 5, 6, 7, 8, 0] rfl) hq
        refine hl36 _ hK171 _ ?_ FU x0 x1 x2 x3 v3 (0 : Int32) v4 (0 : Int32) H locs ls hI (lv_sub hl [4, 5, 6, 7, 3, 2, 1, 0] rfl) hq
        · intro x0 x1 x2 x3 x4 x5 H locs ls hI hl hq
          refine lv_iload hx hb dL_areSticks_179 (lv_at hl 5 rfl) ?_
          refine lv_aload_n hx hb dL_areSticks_181 rfl (lv_at hl 0 rfl) ?_
          refine lv_iload_n hx hb dL_areSticks_182 rfl (lv_at hl 1 rfl) ?_
          refine lv_iload_n hx hb dL_areSticks_183 rfl (lv_at hl 3 rfl) ?_
          obtain ⟨v21, ev21, hq⟩ := b_s hq
          refine gx0_i (g_runVX (As := [.int x1, .int x3]) (rest := [.int x5]) (ci := 9) hC (c_X7_lengthAt l hl0 V g D cT f n x0 x1 x3 (.inr v21) (h_nt_eq ev21)) k_X7_lengthAt m_691 rfl rfl ⟨Nat.le_of_ble_eq_true rfl, Nat.le_of_ble_eq_true rfl⟩ hI rfl rfl (h_me_eq (h_nt_eq ev21)).1 rfl hl.1 rfl (Nat.le_of_ble_eq_true rfl) dL_areSticks_184 ⟨by decide, by decide⟩) hI (fun H locs hI => ?_)
          refine lv_icmp_ne (tgt := 267) hx hb dL_areSticks_187 (by decide) (fun c22 => ?_) (fun c22 => ?_)
          · replace hq := i_f c22 hq
            exact hK267  H locs ls hI (lv_sub hl [] rfl) hq
          · replace hq := i_t c22 hq
            refine lv_iload hx hb dL_areSticks_190 (lv_at hl 4 rfl) ?_
            refine lv_iconst (v := (1 : Int32)) hx hb dL_areSticks_192 (by decide) ?_
            refine lv_icmp_lt (tgt := 267) hx hb dL_areSticks_193 (by decide) (fun c23 => ?_) (fun c23 => ?_)
            · replace hq := i_t c23 hq
              exact hK267  H locs ls hI (lv_sub hl [] rfl) hq
            · replace hq := i_f c23 hq
              refine lv_iload_n hx hb dL_areSticks_196 rfl (lv_at hl 3 rfl) ?_
              have hj213 : ∀ (x0 : Nat) (x1 : Int32) (x2 : Int32) (x3 : Int32) (x5 : Int32) (H : Heap) (locs : List Loc) (ls : Array Slot), g_at g_no V g D cT f n s H locs → lv_has ls 11 [(0, .ref x0), (1, .int x1), (2, .int x2), (3, .int x3), (5, .int x5)] → p_L_areSticks_j213 V g f (p_L_areSticks_l8 V g f K171 K267 K314 K322 N) K267 K314 x0 x1 x2 x3 x5 = some o → W p l e rm_L_areSticks s m args below meth c H locs 0 0 (MQ below (g_Ri o n) args s 4 24 g_no) (F0 m 213 ls []) := by
                intro x0 x1 x2 x3 x5 H locs ls hI hl hq
                unfold p_L_areSticks_j213 at hq
                refine lv_iload_n hx hb dL_areSticks_213 rfl (lv_at hl 3 rfl) ?_
                refine lv_bipush (v := (7 : Int32)) hx hb dL_areSticks_214 (by decide) ?_
                have hj269 : ∀ (x0 : Nat) (x1 : Int32) (x2 : Int32) (x3 : Int32) (x5 : Int32) (H : Heap) (locs : List Loc) (ls : Array Slot), g_at g_no V g D cT f n s H locs → lv_has ls 11 [(0, .ref x0), (1, .int x1), (2, .int x2), (3, .int x3), (5, .int x5)] → p_L_areSticks_j269 V g f (p_L_areSticks_l8 V g f K171 K267 K314 K322 N) K314 x0 x1 x2 x3 x5 = some o → W p l e rm_L_areSticks s m args below meth c H locs 0 0 (MQ below (g_Ri o n) args s 4 24 g_no) (F0 m 269 ls []) := by
                  intro x0 x1 x2 x3 x5 H locs ls hI hl hq
                  unfold p_L_areSticks_j269 at hq
                  refine lv_aload_n hx hb dL_areSticks_269 rfl (lv_at hl 0 rfl) ?_
                  refine lv_iload_n hx hb dL_areSticks_270 rfl (lv_at hl 1 rfl) ?_
                  refine lv_iload hx hb dL_areSticks_271 (lv_at hl 4 rfl) ?_
                  obtain ⟨v24, ev24, hq⟩ := b_s hq
                  refine gx0_i (g_runVX (As := [.int x1, .int x5]) (rest := []) (ci := 9) hC (c_X7_coarsestLevelFor l hl0 V g D cT f n x0 x1 x5 (.inr v24) (h_nt_eq ev24)) k_X7_coarsestLevelFor m_714 rfl rfl ⟨Nat.le_of_ble_eq_true rfl, Nat.le_of_ble_eq_true rfl⟩ hI rfl rfl (h_me_eq (h_nt_eq ev24)).1 rfl hl.1 rfl (Nat.le_of_ble_eq_true rfl) dL_areSticks_273 ⟨by decide, by decide⟩) hI (fun H locs hI => ?_)
                  refine lv_iload_n hx hb dL_areSticks_276 rfl (lv_at hl 3 rfl) ?_
                  refine lv_icmp_lt (tgt := 314) hx hb dL_areSticks_277 (by decide) (fun c25 => ?_) (fun c25 => ?_)
                  · replace hq := i_t c25 hq
                    exact hK314  H locs ls hI (lv_sub hl [] rfl) hq
                  · replace hq := i_f c25 hq
                    refine lv_aload_n hx hb dL_areSticks_280 rfl (lv_at hl 0 rfl) ?_
                    obtain ⟨v26, ev26, hq⟩ := b_s hq
                    refine gr_i (g_runV (As := []) (rest := []) (ci := 9) hC (c_X7_usesKingMetric l V g D cT f n x0 v26 ev26) k_X7_usesKingMetric m_601 rfl rfl ⟨Nat.le_of_ble_eq_true rfl, Nat.le_of_ble_eq_true rfl⟩ hI rfl rfl (h_me_eq ev26).1 rfl hl.1 rfl (Nat.le_of_ble_eq_true rfl) dL_areSticks_281 ⟨by decide, by decide⟩) hI (fun H locs hI => ?_)
                    refine lv_aload_n hx hb dL_areSticks_284 rfl (lv_at hl 0 rfl) ?_
                    refine lv_iload_n hx hb dL_areSticks_285 rfl (lv_at hl 1 rfl) ?_
                    refine lv_iload_n hx hb dL_areSticks_286 rfl (lv_at hl 3 rfl) ?_
                    obtain ⟨v27, ev27, hq⟩ := b_s hq
                    refine gx0_i (g_runVX (As := [.int x1, .int x3]) (rest := [.int v26]) (ci := 9) hC (c_X7_lengthInOtherMetric l hl0 V g D cT f n x0 x1 x3 (.inr v27) (h_nt_eq ev27)) k_X7_lengthInOtherMetric m_723 rfl rfl ⟨Nat.le_of_ble_eq_true rfl, Nat.le_of_ble_eq_true rfl⟩ hI rfl rfl (h_me_eq (h_nt_eq ev27)).1 rfl hl.1 rfl (Nat.le_of_ble_eq_true rfl) dL_areSticks_287 ⟨by decide, by decide⟩) hI (fun H locs hI => ?_)
                    refine lv_iload hx hb dL_areSticks_290 (lv_at hl 4 rfl) ?_
                    have hj300 : ∀ (x0 : Nat) (x1 : Int32) (x2 : Int32) (x3 : Int32) (x5 : Int32) (t0 : Int32) (t1 : Int32) (H : Heap) (locs : List Loc) (ls : Array Slot), g_at g_no V g D cT f n s H locs → lv_has ls 11 [(0, .ref x0), (1, .int x1), (2, .int x2), (3, .int x3), (5, .int x5)] → p_L_areSticks_j300 V g f (p_L_areSticks_l8 V g f K171 K267 K314 K322 N) K314 x0 x1 x2 x3 x5 t0 t1 = some o → W p l e rm_L_areSticks s m args below meth c H locs 0 0 (MQ below (g_Ri o n) args s 4 24 g_no) (F0 m 300 ls [.int t0, .int t1]) := by
                      intro x0 x1 x2 x3 x5 t0 t1 H locs ls hI hl hq
                      unfold p_L_areSticks_j300 at hq
                      refine lv_icmp_eq (tgt := 316) hx hb dL_areSticks_300 (by decide) (fun c28 => ?_) (fun c28 => ?_)
                      · replace hq := i_t c28 hq
                        refine lv_iinc (v := x3 + (1 : Int32)) (lv' := [(3, .int (x3 + (1 : Int32))), (0, .ref x0), (1, .int x1), (2, .int x2), (5, .int x5)]) hx hb dL_areSticks_316 hl (k := 3) rfl rfl (by decide) rfl (fun ls hl => ?_)
                        refine lv_goto (tgt := 8) hx hb dL_areSticks_319 (by decide) ?_
                        exact ih x0 x1 x2 (x3 + (1 : Int32)) H locs ls hI (lv_sub hl [1, 2, 3, 0] rfl) hq
                      · replace hq := i_f c28 hq
                        refine lv_aload_n hx hb dL_areSticks_303 rfl (lv_at hl 0 rfl) ?_
                        refine lv_iload_n hx hb dL_areSticks_304 rfl (lv_at hl 1 rfl) ?_
                        refine lv_iload_n hx hb dL_areSticks_305 rfl (lv_at hl 3 rfl) ?_
                        obtain ⟨v29, ev29, hq⟩ := b_s hq
                        refine gx0_i (g_runVX (As := [.int x1, .int x3]) (rest := []) (ci := 9) hC (c_X7_lengthInOtherMetric l hl0 V g D cT f n x0 x1 x3 (.inr v29) (h_nt_eq ev29)) k_X7_lengthInOtherMetric m_723 rfl rfl ⟨Nat.le_of_ble_eq_true rfl, Nat.le_of_ble_eq_true rfl⟩ hI rfl rfl (h_me_eq (h_nt_eq ev29)).1 rfl hl.1 rfl (Nat.le_of_ble_eq_true rfl) dL_areSticks_306 ⟨by decide, by decide⟩) hI (fun H locs hI => ?_)
                        refine lv_iload hx hb dL_areSticks_309 (lv_at hl 4 rfl) ?_
                        refine lv_icmp_eq (tgt := 316) hx hb dL_areSticks_311 (by decide) (fun c30 => ?_) (fun c30 => ?_)
                        · replace hq := i_t c30 hq
                          refine lv_iinc (v := x3 + (1 : Int32)) (lv' := [(3, .int (x3 + (1 : Int32))), (0, .ref x0), (1, .int x1), (2, .int x2), (5, .int x5)]) hx hb dL_areSticks_316 hl (k := 3) rfl rfl (by decide) rfl (fun ls hl => ?_)
                          refine lv_goto (tgt := 8) hx hb dL_areSticks_319 (by decide) ?_
                          exact ih x0 x1 x2 (x3 + (1 : Int32)) H locs ls hI (lv_sub hl [1, 2, 3, 0] rfl) hq
                        · replace hq := i_f c30 hq
                          exact hK314  H locs ls hI (lv_sub hl [] rfl) hq
                    refine lv_icmp_lt (tgt := 299) hx hb dL_areSticks_292 (by decide) (fun c31 => ?_) (fun c31 => ?_)
                    · replace hq := i_t c31 hq
                      refine lv_iconst (v := (0 : Int32)) hx hb dL_areSticks_299 (by decide) ?_
                      exact hj300 x0 x1 x2 x3 x5 (0 : Int32) v26 H locs ls hI (lv_sub hl [0, 1, 2, 3, 4] rfl) hq
                    · replace hq := i_f c31 hq
                      refine lv_iconst (v := (1 : Int32)) hx hb dL_areSticks_295 (by decide) ?_
                      refine lv_goto (tgt := 300) hx hb dL_areSticks_296 (by decide) ?_
                      exact hj300 x0 x1 x2 x3 x5 (1 : Int32) v26 H locs ls hI (lv_sub hl [0, 1, 2, 3, 4] rfl) hq
                refine lv_icmp_ge (tgt := 269) hx hb dL_areSticks_216 (by decide) (fun c32 => ?_) (fun c32 => ?_)
                · replace hq := i_t c32 hq
                  exact hj269 x0 x1 x2 x3 x5 H locs ls hI (lv_sub hl [0, 1, 2, 3, 4] rfl) hq
                · replace hq := i_f c32 hq
                  refine lv_aload_n hx hb dL_areSticks_219 rfl (lv_at hl 0 rfl) ?_
                  refine lv_iload_n hx hb dL_areSticks_220 rfl (lv_at hl 1 rfl) ?_
                  refine lv_iload_n hx hb dL_areSticks_221 rfl (lv_at hl 3 rfl) ?_
                  obtain ⟨v33, ev33, hq⟩ := b_s hq
                  refine gx0_i (g_runVX (As := [.int x1, .int x3]) (rest := []) (ci := 9) hC (c_X7_lengthGain l hl0 V g D cT f n x0 x1 x3 (.inr v33) (h_nt_eq ev33)) k_X7_lengthGain m_701 rfl rfl ⟨Nat.le_of_ble_eq_true rfl, Nat.le_of_ble_eq_true rfl⟩ hI rfl rfl (h_me_eq (h_nt_eq ev33)).1 rfl hl.1 rfl (Nat.le_of_ble_eq_true rfl) dL_areSticks_222 ⟨by decide, by decide⟩) hI (fun H locs hI => ?_)
                  refine lv_if_lt (tgt := 267) hx hb dL_areSticks_225 (by decide) (fun c34 => ?_) (fun c34 => ?_)
                  · replace hq := i_t c34 hq
                    exact hK267  H locs ls hI (lv_sub hl [] rfl) hq
                  · replace hq := i_f c34 hq
                    refine lv_aload_n hx hb dL_areSticks_228 rfl (lv_at hl 0 rfl) ?_
                    refine lv_iload_n hx hb dL_areSticks_229 rfl (lv_at hl 1 rfl) ?_
                    refine lv_iload_n hx hb dL_areSticks_230 rfl (lv_at hl 3 rfl) ?_
                    obtain ⟨v35, ev35, hq⟩ := b_s hq
                    refine gx0_i (g_runVX (As := [.int x1, .int x3]) (rest := []) (ci := 9) hC (c_X7_lengthGain l hl0 V g D cT f n x0 x1 x3 (.inr v35) (h_nt_eq ev35)) k_X7_lengthGain m_701 rfl rfl ⟨Nat.le_of_ble_eq_true rfl, Nat.le_of_ble_eq_true rfl⟩ hI rfl rfl (h_me_eq (h_nt_eq ev35)).1 rfl hl.1 rfl (Nat.le_of_ble_eq_true rfl) dL_areSticks_231 ⟨by decide, by decide⟩) hI (fun H locs hI => ?_)
                    refine lv_iload hx hb dL_areSticks_234 (lv_at hl 4 rfl) ?_
                    refine lv_aload_n hx hb dL_areSticks_236 rfl (lv_at hl 0 rfl) ?_
                    refine lv_iload_n hx hb dL_areSticks_237 rfl (lv_at hl 1 rfl) ?_
                    refine lv_iload_n hx hb dL_areSticks_238 rfl (lv_at hl 3 rfl) ?_
                    refine lv_iconst (v := (1 : Int32)) hx hb dL_areSticks_239 (by decide) ?_
                    refine lv_iadd hx hb dL_areSticks_240 ?_
                    obtain ⟨v36, ev36, hq⟩ := b_s hq
                    refine gx0_i (g_runVX (As := [.int x1, .int (x3 + (1 : Int32))]) (rest := [.int x5, .int v35]) (ci := 9) hC (c_X7_lengthAt l hl0 V g D cT f n x0 x1 (x3 + (1 : Int32)) (.inr v36) (h_nt_eq ev36)) k_X7_lengthAt m_691 rfl rfl ⟨Nat.le_of_ble_eq_true rfl, Nat.le_of_ble_eq_true rfl⟩ hI rfl rfl (h_me_eq (h_nt_eq ev36)).1 rfl hl.1 rfl (Nat.le_of_ble_eq_true rfl) dL_areSticks_241 ⟨by decide, by decide⟩) hI (fun H locs hI => ?_)
                    refine lv_isub hx hb dL_areSticks_244 ?_
                    refine lv_icmp_ne (tgt := 267) hx hb dL_areSticks_245 (by decide) (fun c37 => ?_) (fun c37 => ?_)
                    · replace hq := i_f c37 hq
                      exact hK267  H locs ls hI (lv_sub hl [] rfl) hq
                    · replace hq := i_t c37 hq
                      refine lv_aload_n hx hb dL_areSticks_248 rfl (lv_at hl 0 rfl) ?_
                      refine lv_iload_n hx hb dL_areSticks_249 rfl (lv_at hl 1 rfl) ?_
                      refine lv_iload_n hx hb dL_areSticks_250 rfl (lv_at hl 3 rfl) ?_
                      obtain ⟨v38, ev38, hq⟩ := b_s hq
                      refine gx0_i (g_runVX (As := [.int x1, .int x3]) (rest := []) (ci := 9) hC (c_X7_lengthGain l hl0 V g D cT f n x0 x1 x3 (.inr v38) (h_nt_eq ev38)) k_X7_lengthGain m_701 rfl rfl ⟨Nat.le_of_ble_eq_true rfl, Nat.le_of_ble_eq_true rfl⟩ hI rfl rfl (h_me_eq (h_nt_eq ev38)).1 rfl hl.1 rfl (Nat.le_of_ble_eq_true rfl) dL_areSticks_251 ⟨by decide, by decide⟩) hI (fun H locs hI => ?_)
                      refine lv_aload_n hx hb dL_areSticks_254 rfl (lv_at hl 0 rfl) ?_
                      refine lv_iload_n hx hb dL_areSticks_255 rfl (lv_at hl 1 rfl) ?_
                      refine lv_aload_n hx hb dL_areSticks_256 rfl (lv_at hl 0 rfl) ?_
                      refine lv_iload_n hx hb dL_areSticks_257 rfl (lv_at hl 1 rfl) ?_
                      obtain ⟨v39, ev39, hq⟩ := b_s hq
                      refine gx0_i (g_runVX (As := [.int x1]) (rest := [.int x1, .ref x0, .int v38]) (ci := 9) hC (c_X7_levelOfGreatestGain l hl0 V g D cT f n x0 x1 (.inr v39) (h_nt_eq ev39)) k_X7_levelOfGreatestGain m_710 rfl rfl ⟨Nat.le_of_ble_eq_true rfl, Nat.le_of_ble_eq_true rfl⟩ hI rfl rfl (h_me_eq (h_nt_eq ev39)).1 rfl hl.1 rfl (Nat.le_of_ble_eq_true rfl) dL_areSticks_258 ⟨by decide, by decide⟩) hI (fun H locs hI => ?_)
                      obtain ⟨v40, ev40, hq⟩ := b_s hq
                      refine gx0_i (g_runVX (As := [.int x1, .int v39]) (rest := [.int v38]) (ci := 9) hC (c_X7_lengthGain l hl0 V g D cT f n x0 x1 v39 (.inr v40) (h_nt_eq ev40)) k_X7_lengthGain m_701 rfl rfl ⟨Nat.le_of_ble_eq_true rfl, Nat.le_of_ble_eq_true rfl⟩ hI rfl rfl (h_me_eq (h_nt_eq ev40)).1 rfl hl.1 rfl (Nat.le_of_ble_eq_true rfl) dL_areSticks_261 ⟨by decide, by decide⟩) hI (fun H locs hI => ?_)
                      refine lv_icmp_le (tgt := 269) hx hb dL_areSticks_264 (by decide) (fun c41 => ?_) (fun c41 => ?_)
                      · replace hq := i_t c41 hq
                        exact hj269 x0 x1 x2 x3 x5 H locs ls hI (lv_sub hl [0, 1, 2, 3, 4] rfl) hq
                      · replace hq := i_f c41 hq
                        exact hK267  H locs ls hI (lv_sub hl [] rfl) hq
              refine lv_if_le (tgt := 213) hx hb dL_areSticks_197 (by decide) (fun c42 => ?_) (fun c42 => ?_)
              · replace hq := i_t c42 hq
                exact hj213 x0 x1 x2 x3 x5 H locs ls hI (lv_sub hl [0, 1, 2, 3, 5] rfl) hq
              · replace hq := i_f c42 hq
                refine lv_iload hx hb dL_areSticks_200 (lv_at hl 4 rfl) ?_
                refine lv_aload_n hx hb dL_areSticks_202 rfl (lv_at hl 0 rfl) ?_
                refine lv_iload_n hx hb dL_areSticks_203 rfl (lv_at hl 1 rfl) ?_
                refine lv_iload_n hx hb dL_areSticks_204 rfl (lv_at hl 3 rfl) ?_
                refine lv_iconst (v := (1 : Int32)) hx hb dL_areSticks_205 (by decide) ?_
                refine lv_isub hx hb dL_areSticks_206 ?_
                obtain ⟨v43, ev43, hq⟩ := b_s hq
                refine gx0_i (g_runVX (As := [.int x1, .int (x3 - (1 : Int32))]) (rest := [.int x4]) (ci := 9) hC (c_X7_stickCount l hl0 V g D cT f n x0 x1 (x3 - (1 : Int32)) (.inr v43) (h_nt_eq ev43)) k_X7_stickCount m_636 rfl rfl ⟨Nat.le_of_ble_eq_true rfl, Nat.le_of_ble_eq_true rfl⟩ hI rfl rfl (h_me_eq (h_nt_eq ev43)).1 rfl hl.1 rfl (Nat.le_of_ble_eq_true rfl) dL_areSticks_207 ⟨by decide, by decide⟩) hI (fun H locs hI => ?_)
                refine lv_icmp_gt (tgt := 267) hx hb dL_areSticks_210 (by decide) (fun c44 => ?_) (fun c44 => ?_)
                · replace hq := i_t c44 hq
                  exact hK267  H locs ls hI (lv_sub hl [] rfl) hq
                · replace hq := i_f c44 hq
                  exact hj213 x0 x1 x2 x3 x5 H locs ls hI (lv_sub hl [0, 1, 2, 3, 5] rfl) hq
  refine hl8 _ ?_ _ ?_ _ ?_ _ ?_ FU a0 a1 v1 (0 : Int32) H locs ls hI (lv_sub hl [2, 3, 1, 0] rfl) hq
  · intro  H locs ls hI hl hq
    refine lv_iconst (v := (0 : Int32)) hx hb dL_areSticks_171 (by decide) ?_
    refine W.widen (k := 4) (n := 24) (by decide) (by decide) ?_
    exact ge_Pi hx hb hlocks hr (by decide +kernel) hI hq dL_areSticks_172
  · intro  H locs ls hI hl hq
    refine lv_iconst (v := (0 : Int32)) hx hb dL_areSticks_267 (by decide) ?_
    refine W.widen (k := 4) (n := 24) (by decide) (by decide) ?_
    exact ge_Pi hx hb hlocks hr (by decide +kernel) hI hq dL_areSticks_268
  · intro  H locs ls hI hl hq
    refine lv_iconst (v := (0 : Int32)) hx hb dL_areSticks_314 (by decide) ?_
    refine W.widen (k := 4) (n := 24) (by decide) (by decide) ?_
    exact ge_Pi hx hb hlocks hr (by decide +kernel) hI hq dL_areSticks_315
  · intro x0 x1 H locs ls hI hl hq
    refine lv_aload_n hx hb dL_areSticks_322 rfl (lv_at hl 0 rfl) ?_
    refine lv_iload_n hx hb dL_areSticks_323 rfl (lv_at hl 1 rfl) ?_
    obtain ⟨v45, ev45, hq⟩ := b_s hq
    refine gx0_i (g_runVX (As := [.int x1]) (rest := []) (ci := 9) hC (c_X7_coarsestExactLevel l hl0 V g D cT f n x0 x1 (.inr v45) (h_nt_eq ev45)) k_X7_coarsestExactLevel m_727 rfl rfl ⟨Nat.le_of_ble_eq_true rfl, Nat.le_of_ble_eq_true rfl⟩ hI rfl rfl (h_me_eq (h_nt_eq ev45)).1 rfl hl.1 rfl (Nat.le_of_ble_eq_true rfl) dL_areSticks_324 ⟨by decide, by decide⟩) hI (fun H locs hI => ?_)
    refine lv_istore_n (lv' := [(3, .int v45), (0, .ref x0), (1, .int x1)]) hx hb dL_areSticks_327 rfl hl (by decide) rfl (fun ls hl => ?_)
    refine lv_aload_n hx hb dL_areSticks_328 rfl (lv_at hl 1 rfl) ?_
    refine lv_iload_n hx hb dL_areSticks_329 rfl (lv_at hl 2 rfl) ?_
    refine lv_iload_n hx hb dL_areSticks_330 rfl (lv_at hl 0 rfl) ?_
    obtain ⟨v46, ev46, hq⟩ := b_s hq
    refine gx0_i (g_runVX (As := [.int x1, .int v45]) (rest := []) (ci := 9) hC (c_X7_lengthAt l hl0 V g D cT f n x0 x1 v45 (.inr v46) (h_nt_eq ev46)) k_X7_lengthAt m_691 rfl rfl ⟨Nat.le_of_ble_eq_true rfl, Nat.le_of_ble_eq_true rfl⟩ hI rfl rfl (h_me_eq (h_nt_eq ev46)).1 rfl hl.1 rfl (Nat.le_of_ble_eq_true rfl) dL_areSticks_331 ⟨by decide, by decide⟩) hI (fun H locs hI => ?_)
    refine lv_aload_n hx hb dL_areSticks_334 rfl (lv_at hl 1 rfl) ?_
    refine lv_iload_n hx hb dL_areSticks_335 rfl (lv_at hl 2 rfl) ?_
    refine lv_iconst (v := (0 : Int32)) hx hb dL_areSticks_336 (by decide) ?_
    obtain ⟨v47, ev47, hq⟩ := b_s hq
    refine gx0_i (g_runVX (As := [.int x1, .int (0 : Int32)]) (rest := [.int v46]) (ci := 9) hC (c_X7_lengthAt l hl0 V g D cT f n x0 x1 (0 : Int32) (.inr v47) (h_nt_eq ev47)) k_X7_lengthAt m_691 rfl rfl ⟨Nat.le_of_ble_eq_true rfl, Nat.le_of_ble_eq_true rfl⟩ hI rfl rfl (h_me_eq (h_nt_eq ev47)).1 rfl hl.1 rfl (Nat.le_of_ble_eq_true rfl) dL_areSticks_337 ⟨by decide, by decide⟩) hI (fun H locs hI => ?_)
    refine lv_icmp_ne (tgt := 398) hx hb dL_areSticks_340 (by decide) (fun c48 => ?_) (fun c48 => ?_)
    · replace hq := i_f c48 hq
      refine lv_iconst (v := (0 : Int32)) hx hb dL_areSticks_398 (by decide) ?_
      refine W.widen (k := 4) (n := 24) (by decide) (by decide) ?_
      exact ge_Pi hx hb hlocks hr (by decide +kernel) hI hq dL_areSticks_399
    · replace hq := i_t c48 hq
      refine lv_iload_n hx hb dL_areSticks_343 rfl (lv_at hl 0 rfl) ?_
      refine lv_bipush (v := (7 : Int32)) hx hb dL_areSticks_344 (by decide) ?_
      have hj366 : ∀ (x0 : Nat) (x1 : Int32) (H : Heap) (locs : List Loc) (ls : Array Slot), g_at g_no V g D cT f n s H locs → lv_has ls 11 [(0, .ref x0), (1, .int x1)] → p_L_areSticks_j366 V g f x0 x1 = some o → W p l e rm_L_areSticks s m args below meth c H locs 0 0 (MQ below (g_Ri o n) args s 4 24 g_no) (F0 m 366 ls []) := by
        intro x0 x1 H locs ls hI hl hq
        unfold p_L_areSticks_j366 at hq
        refine lv_aload_n hx hb dL_areSticks_366 rfl (lv_at hl 0 rfl) ?_
        refine lv_iload_n hx hb dL_areSticks_367 rfl (lv_at hl 1 rfl) ?_
        refine lv_iconst (v := (0 : Int32)) hx hb dL_areSticks_368 (by decide) ?_
        obtain ⟨v49, ev49, hq⟩ := b_s hq
        refine gx0_i (g_runVX (As := [.int x1, .int (0 : Int32)]) (rest := []) (ci := 9) hC (c_X7_coarsestLevelFor l hl0 V g D cT f n x0 x1 (0 : Int32) (.inr v49) (h_nt_eq ev49)) k_X7_coarsestLevelFor m_714 rfl rfl ⟨Nat.le_of_ble_eq_true rfl, Nat.le_of_ble_eq_true rfl⟩ hI rfl rfl (h_me_eq (h_nt_eq ev49)).1 rfl hl.1 rfl (Nat.le_of_ble_eq_true rfl) dL_areSticks_369 ⟨by decide, by decide⟩) hI (fun H locs hI => ?_)
        refine lv_bipush (v := (7 : Int32)) hx hb dL_areSticks_372 (by decide) ?_
        refine lv_icmp_ne (tgt := 398) hx hb dL_areSticks_374 (by decide) (fun c50 => ?_) (fun c50 => ?_)
        · replace hq := i_f c50 hq
          refine lv_iconst (v := (0 : Int32)) hx hb dL_areSticks_398 (by decide) ?_
          refine W.widen (k := 4) (n := 24) (by decide) (by decide) ?_
          exact ge_Pi hx hb hlocks hr (by decide +kernel) hI hq dL_areSticks_399
        · replace hq := i_t c50 hq
          refine lv_aload_n hx hb dL_areSticks_377 rfl (lv_at hl 0 rfl) ?_
          refine lv_iload_n hx hb dL_areSticks_378 rfl (lv_at hl 1 rfl) ?_
          refine lv_aload_n hx hb dL_areSticks_379 rfl (lv_at hl 0 rfl) ?_
          refine lv_iload_n hx hb dL_areSticks_380 rfl (lv_at hl 1 rfl) ?_
          refine lv_iconst (v := (0 : Int32)) hx hb dL_areSticks_381 (by decide) ?_
          obtain ⟨v51, ev51, hq⟩ := b_s hq
          refine gx0_i (g_runVX (As := [.int x1, .int (0 : Int32)]) (rest := [.int x1, .ref x0]) (ci := 9) hC (c_X7_lengthAt l hl0 V g D cT f n x0 x1 (0 : Int32) (.inr v51) (h_nt_eq ev51)) k_X7_lengthAt m_691 rfl rfl ⟨Nat.le_of_ble_eq_true rfl, Nat.le_of_ble_eq_true rfl⟩ hI rfl rfl (h_me_eq (h_nt_eq ev51)).1 rfl hl.1 rfl (Nat.le_of_ble_eq_true rfl) dL_areSticks_382 ⟨by decide, by decide⟩) hI (fun H locs hI => ?_)
          refine lv_iconst (v := (1 : Int32)) hx hb dL_areSticks_385 (by decide) ?_
          refine lv_iadd hx hb dL_areSticks_386 ?_
          obtain ⟨v52, ev52, hq⟩ := b_s hq
          refine gx0_i (g_runVX (As := [.int x1, .int (v51 + (1 : Int32))]) (rest := []) (ci := 9) hC (c_X7_coarsestLevelFor l hl0 V g D cT f n x0 x1 (v51 + (1 : Int32)) (.inr v52) (h_nt_eq ev52)) k_X7_coarsestLevelFor m_714 rfl rfl ⟨Nat.le_of_ble_eq_true rfl, Nat.le_of_ble_eq_true rfl⟩ hI rfl rfl (h_me_eq (h_nt_eq ev52)).1 rfl hl.1 rfl (Nat.le_of_ble_eq_true rfl) dL_areSticks_387 ⟨by decide, by decide⟩) hI (fun H locs hI => ?_)
          refine lv_iconst (v := (-1 : Int32)) hx hb dL_areSticks_390 (by decide) ?_
          refine lv_icmp_ne (tgt := 398) hx hb dL_areSticks_391 (by decide) (fun c53 => ?_) (fun c53 => ?_)
          · replace hq := i_f c53 hq
            refine lv_iconst (v := (0 : Int32)) hx hb dL_areSticks_398 (by decide) ?_
            refine W.widen (k := 4) (n := 24) (by decide) (by decide) ?_
            exact ge_Pi hx hb hlocks hr (by decide +kernel) hI hq dL_areSticks_399
          · replace hq := i_t c53 hq
            refine lv_iconst (v := (1 : Int32)) hx hb dL_areSticks_394 (by decide) ?_
            refine lv_goto (tgt := 399) hx hb dL_areSticks_395 (by decide) ?_
            refine W.widen (k := 4) (n := 24) (by decide) (by decide) ?_
            exact ge_Pi hx hb hlocks hr (by decide +kernel) hI hq dL_areSticks_399
      refine lv_icmp_eq (tgt := 366) hx hb dL_areSticks_346 (by decide) (fun c54 => ?_) (fun c54 => ?_)
      · replace hq := i_t c54 hq
        exact hj366 x0 x1 H locs ls hI (lv_sub hl [1, 2] rfl) hq
      · replace hq := i_f c54 hq
        refine lv_aload_n hx hb dL_areSticks_349 rfl (lv_at hl 1 rfl) ?_
        refine lv_iload_n hx hb dL_areSticks_350 rfl (lv_at hl 2 rfl) ?_
        refine lv_iload_n hx hb dL_areSticks_351 rfl (lv_at hl 0 rfl) ?_
        refine lv_iconst (v := (1 : Int32)) hx hb dL_areSticks_352 (by decide) ?_
        refine lv_iadd hx hb dL_areSticks_353 ?_
        obtain ⟨v55, ev55, hq⟩ := b_s hq
        refine gx0_i (g_runVX (As := [.int x1, .int (v45 + (1 : Int32))]) (rest := []) (ci := 9) hC (c_X7_lengthAt l hl0 V g D cT f n x0 x1 (v45 + (1 : Int32)) (.inr v55) (h_nt_eq ev55)) k_X7_lengthAt m_691 rfl rfl ⟨Nat.le_of_ble_eq_true rfl, Nat.le_of_ble_eq_true rfl⟩ hI rfl rfl (h_me_eq (h_nt_eq ev55)).1 rfl hl.1 rfl (Nat.le_of_ble_eq_true rfl) dL_areSticks_354 ⟨by decide, by decide⟩) hI (fun H locs hI => ?_)
        refine lv_aload_n hx hb dL_areSticks_357 rfl (lv_at hl 1 rfl) ?_
        refine lv_iload_n hx hb dL_areSticks_358 rfl (lv_at hl 2 rfl) ?_
        refine lv_iconst (v := (0 : Int32)) hx hb dL_areSticks_359 (by decide) ?_
        obtain ⟨v56, ev56, hq⟩ := b_s hq
        refine gx0_i (g_runVX (As := [.int x1, .int (0 : Int32)]) (rest := [.int v55]) (ci := 9) hC (c_X7_lengthAt l hl0 V g D cT f n x0 x1 (0 : Int32) (.inr v56) (h_nt_eq ev56)) k_X7_lengthAt m_691 rfl rfl ⟨Nat.le_of_ble_eq_true rfl, Nat.le_of_ble_eq_true rfl⟩ hI rfl rfl (h_me_eq (h_nt_eq ev56)).1 rfl hl.1 rfl (Nat.le_of_ble_eq_true rfl) dL_areSticks_360 ⟨by decide, by decide⟩) hI (fun H locs hI => ?_)
        refine lv_icmp_ge (tgt := 398) hx hb dL_areSticks_363 (by decide) (fun c57 => ?_) (fun c57 => ?_)
        · replace hq := i_t c57 hq
          refine lv_iconst (v := (0 : Int32)) hx hb dL_areSticks_398 (by decide) ?_
          refine W.widen (k := 4) (n := 24) (by decide) (by decide) ?_
          exact ge_Pi hx hb hlocks hr (by decide +kernel) hI hq dL_areSticks_399
        · replace hq := i_f c57 hq
          exact hj366 x0 x1 H locs ls hI (lv_sub hl [1, 2] rfl) hq


abbrev rm_J6_stringSize_0f7a4 : Room := { frames := 2, cells := 0, slots := 0, locals := 120 }
theorem k_J6_stringSize_0f7a4 : g_CS yJ6_stringSize_0f7a4 cJ6_stringSize_0f7a4 4 (some .int) 1 := ⟨⟨m_1104, m_19, by decide +kernel⟩, m_1103⟩
set_option maxHeartbeats 4000000 in
set_option maxRecDepth 100000 in
theorem c_J6_stringSize_0f7a4 (l : Launch) (V : Nat → Nat) (g : GH) (D : va_G) (cT : Nat → ClassId) (f : GH) (n : Nat) (a0 : Int32) (o : Int32) (hq : p_J6_stringSize_0f7a4 V g f a0 = some o) : Met l yJ6_stringSize_0f7a4 (Cond.code yJ6_stringSize_0f7a4 cJ6_stringSize_0f7a4 4 (some .int) :: g_B) rm_J6_stringSize_0f7a4 (va_Pc [.int a0] (g_I V g D cT f n)) (g_Ri o n) 0 0 g_no := by
  refine g_begin (own := RJ6) [.int a0] [(0, .int a0)] g_no (fun _ h => h.elim) (by decide) rfl (Nat.le_of_ble_eq_true rfl) rfl ?_
  intro p e s m args below meth c hx hb hr hlocks hin hC hI ls hl
  obtain ⟨hx, hb, hml, hown, hB⟩ := id hC
  obtain ⟨H, hH⟩ : ∃ H, H = s.heap := ⟨_, rfl⟩
  obtain ⟨locs, hlocs⟩ : ∃ L : List Loc, L = [] := ⟨_, rfl⟩
  rw [← hH, ← hlocs] at hI ⊢
  clear hH hlocs
  unfold p_J6_stringSize_0f7a4 at hq
  refine lv_iconst (v := (1 : Int32)) hx hb dJ6_stringSize_0f7a4_0 (by decide) ?_
  refine lv_istore_n (lv' := [(1, .int (1 : Int32)), (0, .int a0)]) hx hb dJ6_stringSize_0f7a4_1 rfl hl (by decide) rfl (fun ls hl => ?_)
  refine lv_iload_n hx hb dJ6_stringSize_0f7a4_2 rfl (lv_at hl 1 rfl) ?_
  have hj11 : ∀ (x0 : Int32) (x1 : Int32) (H : Heap) (locs : List Loc) (ls : Array Slot), g_at g_no V g D cT f n s H locs → lv_has ls 4 [(0, .int x0), (1, .int x1)] → p_J6_stringSize_0f7a4_j11 V g f x0 x1 = some o → W p l e rm_J6_stringSize_0f7a4 s m args below meth c H locs 0 0 (MQ below (g_Ri o n) args s 0 0 g_no) (F0 m 11 ls []) := by
    intro x0 x1 H locs ls hI hl hq
    unfold p_J6_stringSize_0f7a4_j11 at hq
    refine lv_bipush (v := (-10 : Int32)) hx hb dJ6_stringSize_0f7a4_11 (by decide) ?_
    refine lv_istore_n (lv' := [(2, .int (-10 : Int32)), (0, .int x0), (1, .int x1)]) hx hb dJ6_stringSize_0f7a4_13 rfl hl (by decide) rfl (fun ls hl => ?_)
    refine lv_iconst (v := (1 : Int32)) hx hb dJ6_stringSize_0f7a4_14 (by decide) ?_
    refine lv_istore_n (lv' := [(3, .int (1 : Int32)), (2, .int (-10 : Int32)), (0, .int x0), (1, .int x1)]) hx hb dJ6_stringSize_0f7a4_15 rfl hl (by decide) rfl (fun ls hl => ?_)
    have hl16 : ∀ (K27 : Int32 → Int32 → Option Int32) (hK27 : ∀ (x1 : Int32) (x3 : Int32) (H : Heap) (locs : List Loc) (ls : Array Slot), g_at g_no V g D cT f n s H locs → lv_has ls 4 [(1, .int x1), (3, .int x3)] → K27 x1 x3 = some o → W p l e rm_J6_stringSize_0f7a4 s m args below meth c H locs 0 0 (MQ below (g_Ri o n) args s 0 0 g_no) (F0 m 27 ls [])) (K42 : Int32 → Option Int32) (hK42 : ∀ (x1 : Int32) (H : Heap) (locs : List Loc) (ls : Array Slot), g_at g_no V g D cT f n s H locs → lv_has ls 4 [(1, .int x1)] → K42 x1 = some o → W p l e rm_J6_stringSize_0f7a4 s m args below meth c H locs 0 0 (MQ below (g_Ri o n) args s 0 0 g_no) (F0 m 42 ls [])) (N : Nat) (x0 : Int32) (x1 : Int32) (x2 : Int32) (x3 : Int32) (H : Heap) (locs : List Loc) (ls : Array Slot), g_at g_no V g D cT f n s H locs → lv_has ls 4 [(0, .int x0), (1, .int x1), (2, .int x2), (3, .int x3)] → p_J6_stringSize_0f7a4_l16 V g f K27 K42 N x0 x1 x2 x3 = some o → W p l e rm_J6_stringSize_0f7a4 s m args below meth c H locs 0 0 (MQ below (g_Ri o n) args s 0 0 g_no) (F0 m 16 ls []) := by
      intro K27 hK27 K42 hK42 N
      induction N with
      | zero =>
        intro x0 x1 x2 x3 H locs ls hI hl hq
        rw [p_J6_stringSize_0f7a4_l16] at hq
        cases hq
      | succ N ih =>
        intro x0 x1 x2 x3 H locs ls hI hl hq
        rw [p_J6_stringSize_0f7a4_l16] at hq
        refine lv_iload_n hx hb dJ6_stringSize_0f7a4_16 rfl (lv_at hl 3 rfl) ?_
        refine lv_bipush (v := (10 : Int32)) hx hb dJ6_stringSize_0f7a4_17 (by decide) ?_
        refine lv_icmp_ge (tgt := 42) hx hb dJ6_stringSize_0f7a4_19 (by decide) (fun c1 => ?_) (fun c1 => ?_)
        · replace hq := i_t c1 hq
          exact hK42 x1 H locs ls hI (lv_sub hl [1] rfl) hq
        · replace hq := i_f c1 hq
          refine lv_iload_n hx hb dJ6_stringSize_0f7a4_22 rfl (lv_at hl 0 rfl) ?_
          refine lv_iload_n hx hb dJ6_stringSize_0f7a4_23 rfl (lv_at hl 2 rfl) ?_
          refine lv_icmp_le (tgt := 31) hx hb dJ6_stringSize_0f7a4_24 (by decide) (fun c2 => ?_) (fun c2 => ?_)
          · replace hq := i_t c2 hq
            refine lv_bipush (v := (10 : Int32)) hx hb dJ6_stringSize_0f7a4_31 (by decide) ?_
            refine lv_iload_n hx hb dJ6_stringSize_0f7a4_33 rfl (lv_at hl 2 rfl) ?_
            refine lv_imul hx hb dJ6_stringSize_0f7a4_34 ?_
            refine lv_istore_n (lv' := [(2, .int ((10 : Int32) * x2)), (0, .int x0), (1, .int x1), (3, .int x3)]) hx hb dJ6_stringSize_0f7a4_35 rfl hl (by decide) rfl (fun ls hl => ?_)
            refine lv_iinc (v := x3 + (1 : Int32)) (lv' := [(3, .int (x3 + (1 : Int32))), (2, .int ((10 : Int32) * x2)), (0, .int x0), (1, .int x1)]) hx hb dJ6_stringSize_0f7a4_36 hl (k := 3) rfl rfl (by decide) rfl (fun ls hl => ?_)
            refine lv_goto (tgt := 16) hx hb dJ6_stringSize_0f7a4_39 (by decide) ?_
            exact ih x0 x1 ((10 : Int32) * x2) (x3 + (1 : Int32)) H locs ls hI (lv_sub hl [2, 3, 1, 0] rfl) hq
          · replace hq := i_f c2 hq
            exact hK27 x1 x3 H locs ls hI (lv_sub hl [1, 3] rfl) hq
    refine hl16 _ ?_ _ ?_ FU x0 x1 (-10 : Int32) (1 : Int32) H locs ls hI (lv_sub hl [2, 3, 1, 0] rfl) hq
    · intro x1 x3 H locs ls hI hl hq
      refine lv_iload_n hx hb dJ6_stringSize_0f7a4_27 rfl (lv_at hl 1 rfl) ?_
      refine lv_iload_n hx hb dJ6_stringSize_0f7a4_28 rfl (lv_at hl 0 rfl) ?_
      refine lv_iadd hx hb dJ6_stringSize_0f7a4_29 ?_
      exact ge_Ri hx hb hlocks hr rfl hI hq dJ6_stringSize_0f7a4_30
    · intro x1 H locs ls hI hl hq
      refine lv_bipush (v := (10 : Int32)) hx hb dJ6_stringSize_0f7a4_42 (by decide) ?_
      refine lv_iload_n hx hb dJ6_stringSize_0f7a4_44 rfl (lv_at hl 0 rfl) ?_
      refine lv_iadd hx hb dJ6_stringSize_0f7a4_45 ?_
      exact ge_Ri hx hb hlocks hr rfl hI hq dJ6_stringSize_0f7a4_46
  refine lv_if_lt (tgt := 11) hx hb dJ6_stringSize_0f7a4_3 (by decide) (fun c3 => ?_) (fun c3 => ?_)
  · replace hq := i_t c3 hq
    exact hj11 a0 (1 : Int32) H locs ls hI (lv_sub hl [1, 0] rfl) hq
  · replace hq := i_f c3 hq
    refine lv_iconst (v := (0 : Int32)) hx hb dJ6_stringSize_0f7a4_6 (by decide) ?_
    refine lv_istore_n (lv' := [(1, .int (0 : Int32)), (0, .int a0)]) hx hb dJ6_stringSize_0f7a4_7 rfl hl (by decide) rfl (fun ls hl => ?_)
    refine lv_iload_n hx hb dJ6_stringSize_0f7a4_8 rfl (lv_at hl 1 rfl) ?_
    refine lv_ineg hx hb dJ6_stringSize_0f7a4_9 ?_
    refine lv_istore_n (lv' := [(0, .int (-a0)), (1, .int (0 : Int32))]) hx hb dJ6_stringSize_0f7a4_10 rfl hl (by decide) rfl (fun ls hl => ?_)
    exact hj11 (-a0) (0 : Int32) H locs ls hI (lv_sub hl [0, 1] rfl) hq

abbrev rm_J5_append_c97b9 : Room := { frames := 6, cells := 1, slots := 600, locals := 211 }
set_option maxHeartbeats 4000000 in
set_option maxRecDepth 100000 in
theorem c_J5_append_c97b9 (l : Launch) (V : Nat → Nat) (g : GH) (D : va_G) (cT : Nat → ClassId) (f : GH) (n : Nat) (a0 : Nat) (a1 : Int32) (o : Nat × GH × Nat) (hq : p_J5_append_c97b9 V g f n a0 a1 = some o) : Met l yJ5_append_c97b9 (Cond.code yJ5_append_c97b9 cJ5_append_c97b9 4 (some (.object "java/lang/AbstractStringBuilder")) :: g_B) rm_J5_append_c97b9 (va_Pc [.ref a0, .int a1] (g_I V g D cT f n)) (g_Wr V D cT o.1 o.2.1 o.2.2) 1 600 (g_A V) := by
  refine g_begin (own := RJ5) [.ref a0, .int a1] [(0, .ref a0), (1, .int a1)] (g_A V) (fun _ h => h) (by decide) rfl (Nat.le_of_ble_eq_true rfl) rfl ?_
  intro p e s m args below meth c hx hb hr hlocks hin hC hI ls hl
  obtain ⟨hx, hb, hml, hown, hB⟩ := id hC
  obtain ⟨H, hH⟩ : ∃ H, H = s.heap := ⟨_, rfl⟩
  obtain ⟨locs, hlocs⟩ : ∃ L : List Loc, L = [] := ⟨_, rfl⟩
  rw [← hH, ← hlocs] at hI ⊢
  clear hH hlocs
  unfold p_J5_append_c97b9 at hq
  replace hq := (h_me_eq hq).2
  refine lv_aload_n hx hb dJ5_append_c97b9_0 rfl (lv_at hl 0 rfl) ?_
  obtain ⟨v1, ev1, hq⟩ := b_s hq
  refine fa_gi (own := RJ5) (ref := "java/lang/AbstractStringBuilder") (k := 3) hx hb hB inB_RJ4 hown hI rfl (by decide) m_218 (fun _ h9 => h9) ev1 dJ5_append_c97b9_1 ?_
  refine lv_istore_n (lv' := [(2, .int v1), (0, .ref a0), (1, .int a1)]) hx hb dJ5_append_c97b9_4 rfl hl (by decide) rfl (fun ls hl => ?_)
  refine lv_iload_n hx hb dJ5_append_c97b9_5 rfl (lv_at hl 0 rfl) ?_
  refine lv_iload_n hx hb dJ5_append_c97b9_6 rfl (lv_at hl 2 rfl) ?_
  obtain ⟨v2, ev2, hq⟩ := b_s hq
  refine gr_i (g_runS (As := [.int a1]) (rest := [.int v1]) hC (c_J6_stringSize_0f7a4 l V g D cT f n a1 v2 ev2) k_J6_stringSize_0f7a4 m_1102 rfl rfl ⟨Nat.le_of_ble_eq_true rfl, Nat.le_of_ble_eq_true rfl⟩ hI rfl hl.1 rfl (Nat.le_of_ble_eq_true rfl) dJ5_append_c97b9_7 ⟨by decide, by decide⟩) hI (fun H locs hI => ?_)
  refine lv_iadd hx hb dJ5_append_c97b9_10 ?_
  refine lv_istore_n (lv' := [(3, .int (v1 + v2)), (2, .int v1), (0, .ref a0), (1, .int a1)]) hx hb dJ5_append_c97b9_11 rfl hl (by decide) rfl (fun ls hl => ?_)
  refine lv_aload_n hx hb dJ5_append_c97b9_12 rfl (lv_at hl 2 rfl) ?_
  refine lv_iload_n hx hb dJ5_append_c97b9_13 rfl (lv_at hl 0 rfl) ?_
  obtain ⟨v3, ev3, hq⟩ := b_s hq
  refine gw_v (g_runU (As := [.int (v1 + v2)]) (rest := []) (ci := 1) hC (c_J5_ensureCapacityInternal_d00df l V g D cT f n a0 (v1 + v2) v3 ev3) (⟨⟨m_1014, m_9⟩, m_1013, m_1268, mx_0, rfl, by decide, by decide, by decide +kernel⟩ : g_CU "java/lang/StringBuilder" "java/lang/AbstractStringBuilder" (⟨"java/lang/AbstractStringBuilder", "ensureCapacityInternal", "(I)V"⟩ : MethodName) yJ5_ensureCapacityInternal_d00df cJ5_ensureCapacityInternal_d00df 3 none 1) m_1011 rfl rfl ⟨Nat.le_of_ble_eq_true rfl, Nat.le_of_ble_eq_true rfl⟩ hI rfl rfl (h_me_eq ev3).1 rfl hl.1 rfl (Nat.le_of_ble_eq_true rfl) dJ5_append_c97b9_14 ⟨by decide, by decide⟩) hI (fun H locs hI => ?_)
  refine lv_aload_n hx hb dJ5_append_c97b9_17 rfl (lv_at hl 2 rfl) ?_
  obtain ⟨v4, ev4, hq⟩ := b_s hq
  refine gr_i (g_runU (As := []) (rest := []) (ci := 1) hC (c_J5_isLatin1_aae02 l V g D cT v3.1 v3.2 a0 v4 ev4) (⟨⟨m_1044, m_9⟩, m_1041, m_1042, m_1043, rfl, by decide, by decide, by decide +kernel⟩ : g_CU "java/lang/StringBuilder" "java/lang/AbstractStringBuilder" (⟨"java/lang/AbstractStringBuilder", "isLatin1", "()Z"⟩ : MethodName) yJ5_isLatin1_aae02 cJ5_isLatin1_aae02 1 (some .boolean) 0) m_1040 rfl rfl ⟨Nat.le_of_ble_eq_true rfl, Nat.le_of_ble_eq_true rfl⟩ hI rfl rfl (h_me_eq ev4).1 rfl hl.1 rfl (Nat.le_of_ble_eq_true rfl) dJ5_append_c97b9_18 ⟨by decide, by decide⟩) hI (fun H locs hI => ?_)
  refine lv_if_eq (tgt := 37) hx hb dJ5_append_c97b9_21 (by decide) (fun c5 => ?_) (fun c5 => ?_)
  · replace hq := i_t c5 hq
    cases hq
  · replace hq := i_f c5 hq
    refine lv_iload_n hx hb dJ5_append_c97b9_24 rfl (lv_at hl 3 rfl) ?_
    refine lv_iload_n hx hb dJ5_append_c97b9_25 rfl (lv_at hl 0 rfl) ?_
    refine lv_aload_n hx hb dJ5_append_c97b9_26 rfl (lv_at hl 2 rfl) ?_
    obtain ⟨v6, ev6, hq⟩ := b_s hq
    refine fa_gr (own := RJ5) (ref := "java/lang/AbstractStringBuilder") (k := 0) hx hb hB inB_RJ4 hown hI rfl (by decide) m_215 (fun _ h9 => h9) ev6 dJ5_append_c97b9_27 ?_
    obtain ⟨v7, ev7, hq⟩ := b_s hq
    refine gw_i (g_runS (As := [.int a1, .int (v1 + v2), .ref v6]) (rest := []) hC (c_J6_getChars_ba4f3 l V g D cT v3.1 v3.2 a1 (v1 + v2) v6 v7 ev7) k_J6_getChars_ba4f3 m_1105 rfl rfl ⟨Nat.le_of_ble_eq_true rfl, Nat.le_of_ble_eq_true rfl⟩ hI rfl hl.1 rfl (Nat.le_of_ble_eq_true rfl) dJ5_append_c97b9_30 ⟨by decide, by decide⟩) hI (fun H locs hI => ?_)
    refine lv_pop hx hb dJ5_append_c97b9_33 rfl ?_
    refine lv_goto (tgt := 48) hx hb dJ5_append_c97b9_34 (by decide) ?_
    refine lv_aload_n hx hb dJ5_append_c97b9_48 rfl (lv_at hl 2 rfl) ?_
    refine lv_iload_n hx hb dJ5_append_c97b9_49 rfl (lv_at hl 0 rfl) ?_
    obtain ⟨f8, ef8, hq⟩ := b_s hq
    refine fa_pt (own := RJ5) (ref := "java/lang/AbstractStringBuilder") (k := 3) hx hb hB inB_RJ4 tyJ4_ok nmJ4 hown hI rfl (by decide) m_218 (fun _ h9 => h9) (by decide) rfl rfl ef8 dJ5_append_c97b9_50 (fun H locs hI => ?_)
    refine lv_aload_n hx hb dJ5_append_c97b9_53 rfl (lv_at hl 2 rfl) ?_
    obtain rfl := Option.some.inj hq
    exact ge_Wr hx hb hlocks hr (Or.inl ⟨_, rfl⟩) hI rfl rfl dJ5_append_c97b9_54

abbrev rm_J5_getValue_6d5f1 : Room := { frames := 2, cells := 0, slots := 0, locals := 120 }
set_option maxHeartbeats 4000000 in
set_option maxRecDepth 100000 in
theorem c_J5_getValue_6d5f1 (l : Launch) (V : Nat → Nat) (g : GH) (D : va_G) (cT : Nat → ClassId) (f : GH) (n : Nat) (a0 : Nat) (o : Nat) (hq : p_J5_getValue_6d5f1 V g f a0 = some o) : Met l yJ5_getValue_6d5f1 (Cond.code yJ5_getValue_6d5f1 cJ5_getValue_6d5f1 1 (some (.array .byte)) :: g_B) rm_J5_getValue_6d5f1 (va_Pc [.ref a0] (g_I V g D cT f n)) (g_Rr o n) 0 0 g_no := by
  refine g_begin (own := RJ5) [.ref a0] [(0, .ref a0)] g_no (fun _ h => h.elim) (by decide) rfl (Nat.le_of_ble_eq_true rfl) rfl ?_
  intro p e s m args below meth c hx hb hr hlocks hin hC hI ls hl
  obtain ⟨hx, hb, hml, hown, hB⟩ := id hC
  obtain ⟨H, hH⟩ : ∃ H, H = s.heap := ⟨_, rfl⟩
  obtain ⟨locs, hlocs⟩ : ∃ L : List Loc, L = [] := ⟨_, rfl⟩
  rw [← hH, ← hlocs] at hI ⊢
  clear hH hlocs
  unfold p_J5_getValue_6d5f1 at hq
  replace hq := (h_me_eq hq).2
  refine lv_aload_n hx hb dJ5_getValue_6d5f1_0 rfl (lv_at hl 0 rfl) ?_
  obtain ⟨v1, ev1, hq⟩ := b_s hq
  refine fa_gr (own := RJ5) (ref := "java/lang/AbstractStringBuilder") (k := 0) hx hb hB inB_RJ4 hown hI rfl (by decide) m_215 (fun _ h9 => h9) ev1 dJ5_getValue_6d5f1_1 ?_
  exact ge_Rr hx hb hlocks hr (Or.inr ⟨_, rfl⟩) hI hq dJ5_getValue_6d5f1_4

abbrev rm_J4_length_8abf5 : Room := { frames := 3, cells := 0, slots := 0, locals := 140 }
set_option maxHeartbeats 4000000 in
set_option maxRecDepth 100000 in
theorem c_J4_length_8abf5 (l : Launch) (V : Nat → Nat) (g : GH) (D : va_G) (cT : Nat → ClassId) (f : GH) (n : Nat) (a0 : Nat) (o : Int32) (hq : p_J4_length_8abf5 V g f a0 = some o) : Met l yJ4_length_8abf5 (Cond.code yJ4_length_8abf5 cJ4_length_8abf5 1 (some .int) :: g_B) rm_J4_length_8abf5 (va_Pc [.ref a0] (g_I V g D cT f n)) (g_Ri o n) 0 0 g_no := by
  refine g_begin (own := RJ4) [.ref a0] [(0, .ref a0)] g_no (fun _ h => h.elim) (by decide) rfl (Nat.le_of_ble_eq_true rfl) rfl ?_
  intro p e s m args below meth c hx hb hr hlocks hin hC hI ls hl
  obtain ⟨hx, hb, hml, hown, hB⟩ := id hC
  obtain ⟨H, hH⟩ : ∃ H, H = s.heap := ⟨_, rfl⟩
  obtain ⟨locs, hlocs⟩ : ∃ L : List Loc, L = [] := ⟨_, rfl⟩
  rw [← hH, ← hlocs] at hI ⊢
  clear hH hlocs
  unfold p_J4_length_8abf5 at hq
  replace hq := (h_me_eq hq).2
  refine lv_aload_n hx hb dJ4_length_8abf5_0 rfl (lv_at hl 0 rfl) ?_
  obtain ⟨v1, ev1, hq⟩ := b_s hq
  refine gr_i (g_runSU (As := []) (rest := []) (ci := 1) hC (c_J5_length_8abf5 l V g D cT f n a0 v1 ev1) (⟨⟨m_1148, m_9⟩, m_1142, m_1143, m_227, by decide, by decide +kernel⟩ : g_CSU "java/lang/StringBuilder" yJ5_length_8abf5 cJ5_length_8abf5 1 (some .int) 0) m_1147 rfl rfl ⟨Nat.le_of_ble_eq_true rfl, Nat.le_of_ble_eq_true rfl⟩ hI rfl (h_me_eq ev1).1 rfl hl.1 rfl (Nat.le_of_ble_eq_true rfl) dJ4_length_8abf5_1 ⟨by decide, by decide⟩) hI (fun H locs hI => ?_)
  exact ge_Ri hx hb hlocks hr rfl hI hq dJ4_length_8abf5_4

abbrev rm_J7_checkLength_df160 : Room := { frames := 2, cells := 0, slots := 0, locals := 120 }
theorem k_J7_checkLength_df160 : g_CS yJ7_checkLength_df160 cJ7_checkLength_df160 2 none 2 := ⟨⟨m_1158, m_16, by decide +kernel⟩, m_1157⟩
set_option maxHeartbeats 4000000 in
set_option maxRecDepth 100000 in
theorem c_J7_checkLength_df160 (l : Launch) (V : Nat → Nat) (g : GH) (D : va_G) (cT : Nat → ClassId) (f : GH) (n : Nat) (a0 : Int32) (a1 : Int32) (o : Unit) (hq : p_J7_checkLength_df160 V g f a0 a1 = some o) : Met l yJ7_checkLength_df160 (Cond.code yJ7_checkLength_df160 cJ7_checkLength_df160 2 none :: g_B) rm_J7_checkLength_df160 (va_Pc [.int a0, .int a1] (g_I V g D cT f n)) (g_Rv o n) 0 0 g_no := by
  refine g_begin (own := RJ7) [.int a0, .int a1] [(0, .int a0), (1, .int a1)] g_no (fun _ h => h.elim) (by decide) rfl (Nat.le_of_ble_eq_true rfl) rfl ?_
  intro p e s m args below meth c hx hb hr hlocks hin hC hI ls hl
  obtain ⟨hx, hb, hml, hown, hB⟩ := id hC
  obtain ⟨H, hH⟩ : ∃ H, H = s.heap := ⟨_, rfl⟩
  obtain ⟨locs, hlocs⟩ : ∃ L : List Loc, L = [] := ⟨_, rfl⟩
  rw [← hH, ← hlocs] at hI ⊢
  clear hH hlocs
  unfold p_J7_checkLength_df160 at hq
  refine lv_iload_n hx hb dJ7_checkLength_df160_0 rfl (lv_at hl 1 rfl) ?_
  refine lv_iload_n hx hb dJ7_checkLength_df160_1 rfl (lv_at hl 0 rfl) ?_
  refine lv_icmp_ge (tgt := 37) hx hb dJ7_checkLength_df160_2 (by decide) (fun c1 => ?_) (fun c1 => ?_)
  · replace hq := i_t c1 hq
    exact ge_Rv hx hb hlocks hr hI dJ7_checkLength_df160_37
  · replace hq := i_f c1 hq
    cases hq

abbrev rm_J7_copyOfRangeByte_39247 : Room := { frames := 3, cells := 1, slots := 600, locals := 141 }
theorem k_J7_copyOfRangeByte_39247 : g_CS yJ7_copyOfRangeByte_39247 cJ7_copyOfRangeByte_39247 5 (some (.array .byte)) 3 := ⟨⟨m_1155, m_16, by decide +kernel⟩, m_1154⟩
set_option maxHeartbeats 4000000 in
set_option maxRecDepth 100000 in
theorem c_J7_copyOfRangeByte_39247 (l : Launch) (V : Nat → Nat) (g : GH) (D : va_G) (cT : Nat → ClassId) (f : GH) (n : Nat) (a0 : Nat) (a1 : Int32) (a2 : Int32) (o : Nat × GH × Nat) (hq : p_J7_copyOfRangeByte_39247 V g f n a0 a1 a2 = some o) : Met l yJ7_copyOfRangeByte_39247 (Cond.code yJ7_copyOfRangeByte_39247 cJ7_copyOfRangeByte_39247 5 (some (.array .byte)) :: g_B) rm_J7_copyOfRangeByte_39247 (va_Pc [.ref a0, .int a1, .int a2] (g_I V g D cT f n)) (g_Wr V D cT o.1 o.2.1 o.2.2) 1 600 (g_A V) := by
  refine g_begin (own := RJ7) [.ref a0, .int a1, .int a2] [(0, .ref a0), (1, .int a1), (2, .int a2)] (g_A V) (fun _ h => h) (by decide) rfl (Nat.le_of_ble_eq_true rfl) rfl ?_
  intro p e s m args below meth c hx hb hr hlocks hin hC hI ls hl
  obtain ⟨hx, hb, hml, hown, hB⟩ := id hC
  obtain ⟨H, hH⟩ : ∃ H, H = s.heap := ⟨_, rfl⟩
  obtain ⟨locs, hlocs⟩ : ∃ L : List Loc, L = [] := ⟨_, rfl⟩
  rw [← hH, ← hlocs] at hI ⊢
  clear hH hlocs
  unfold p_J7_copyOfRangeByte_39247 at hq
  refine lv_iload_n hx hb dJ7_copyOfRangeByte_39247_0 rfl (lv_at hl 1 rfl) ?_
  refine lv_iload_n hx hb dJ7_copyOfRangeByte_39247_1 rfl (lv_at hl 2 rfl) ?_
  obtain ⟨v1, ev1, hq⟩ := b_s hq
  refine gr_v (g_runS (As := [.int a1, .int a2]) (rest := []) hC (c_J7_checkLength_df160 l V g D cT f n a1 a2 v1 ev1) k_J7_checkLength_df160 m_1156 rfl rfl ⟨Nat.le_of_ble_eq_true rfl, Nat.le_of_ble_eq_true rfl⟩ hI rfl hl.1 rfl (Nat.le_of_ble_eq_true rfl) dJ7_copyOfRangeByte_39247_2 ⟨by decide, by decide⟩) hI (fun H locs hI => ?_)
  refine lv_iload_n hx hb dJ7_copyOfRangeByte_39247_5 rfl (lv_at hl 2 rfl) ?_
  refine lv_iload_n hx hb dJ7_copyOfRangeByte_39247_6 rfl (lv_at hl 1 rfl) ?_
  refine lv_isub hx hb dJ7_copyOfRangeByte_39247_7 ?_
  refine lv_istore_n (lv' := [(3, .int (a2 - a1)), (0, .ref a0), (1, .int a1), (2, .int a2)]) hx hb dJ7_copyOfRangeByte_39247_8 rfl hl (by decide) rfl (fun ls hl => ?_)
  refine lv_iload_n hx hb dJ7_copyOfRangeByte_39247_9 rfl (lv_at hl 0 rfl) ?_
  obtain ⟨f2, ef2, hq⟩ := b_s hq
  refine fa_newv (atype := .byte) (M := 600) (t := 1) hx hb hB m_129 rfl (by decide) (by decide) hI (by decide) (by decide) (by decide) ef2 dJ7_copyOfRangeByte_39247_10 (fun H locs hI => ?_)
  refine lv_astore (lv' := [(4, .ref n), (3, .int (a2 - a1)), (0, .ref a0), (1, .int a1), (2, .int a2)]) hx hb dJ7_copyOfRangeByte_39247_12 hl (by decide) rfl (fun ls hl => ?_)
  refine lv_aload_n hx hb dJ7_copyOfRangeByte_39247_14 rfl (lv_at hl 2 rfl) ?_
  refine lv_iload_n hx hb dJ7_copyOfRangeByte_39247_15 rfl (lv_at hl 3 rfl) ?_
  refine lv_aload hx hb dJ7_copyOfRangeByte_39247_16 (lv_at hl 0 rfl) ?_
  refine lv_iconst (v := (0 : Int32)) hx hb dJ7_copyOfRangeByte_39247_18 (by decide) ?_
  refine lv_aload_n hx hb dJ7_copyOfRangeByte_39247_19 rfl (lv_at hl 2 rfl) ?_
  obtain ⟨v3, ev3, hq⟩ := b_s hq
  refine fa_al hx hb hI (by decide) ev3 dJ7_copyOfRangeByte_39247_20 ?_
  refine lv_iload_n hx hb dJ7_copyOfRangeByte_39247_21 rfl (lv_at hl 3 rfl) ?_
  refine lv_isub hx hb dJ7_copyOfRangeByte_39247_22 ?_
  refine lv_iload_n hx hb dJ7_copyOfRangeByte_39247_23 rfl (lv_at hl 1 rfl) ?_
  obtain ⟨v4, ev4, hq⟩ := b_s hq
  refine g_min hx hb (hml.trans hl.1.symm) hown (hB _ m_1038) (hB _ m_767) (hB _ m_15) (hB _ m_768) (Nat.le_of_ble_eq_true rfl) (Nat.le_of_ble_eq_true rfl) (Nat.le_of_ble_eq_true rfl) (Nat.le_of_ble_eq_true rfl) ev4 dJ7_copyOfRangeByte_39247_24 ?_
  obtain ⟨f5, ef5, hq⟩ := b_s hq
  refine fa_cpb (own := RJ7) hx hb (hml.trans hl.1.symm) hB hown m_1039 m_240 m_239 m_13 hI ef5 (by decide) (by decide) dJ7_copyOfRangeByte_39247_27 (fun H locs hI => ?_)
  refine lv_aload hx hb dJ7_copyOfRangeByte_39247_30 (lv_at hl 0 rfl) ?_
  obtain rfl := Option.some.inj hq
  exact ge_Wr hx hb hlocks hr (Or.inr ⟨_, rfl⟩) hI rfl rfl dJ7_copyOfRangeByte_39247_32

abbrev rm_J7_copyOfRange_39247 : Room := { frames := 4, cells := 1, slots := 600, locals := 165 }
theorem k_J7_copyOfRange_39247 : g_CS yJ7_copyOfRange_39247 cJ7_copyOfRange_39247 3 (some (.array .byte)) 3 := ⟨⟨m_1152, m_16, by decide +kernel⟩, m_1151⟩
set_option maxHeartbeats 4000000 in
set_option maxRecDepth 100000 in
theorem c_J7_copyOfRange_39247 (l : Launch) (V : Nat → Nat) (g : GH) (D : va_G) (cT : Nat → ClassId) (f : GH) (n : Nat) (a0 : Nat) (a1 : Int32) (a2 : Int32) (o : Nat × GH × Nat) (hq : p_J7_copyOfRange_39247 V g f n a0 a1 a2 = some o) : Met l yJ7_copyOfRange_39247 (Cond.code yJ7_copyOfRange_39247 cJ7_copyOfRange_39247 3 (some (.array .byte)) :: g_B) rm_J7_copyOfRange_39247 (va_Pc [.ref a0, .int a1, .int a2] (g_I V g D cT f n)) (g_Wr V D cT o.1 o.2.1 o.2.2) 1 600 (g_A V) := by
  refine g_begin (own := RJ7) [.ref a0, .int a1, .int a2] [(0, .ref a0), (1, .int a1), (2, .int a2)] (g_A V) (fun _ h => h) (by decide) rfl (Nat.le_of_ble_eq_true rfl) rfl ?_
  intro p e s m args below meth c hx hb hr hlocks hin hC hI ls hl
  obtain ⟨hx, hb, hml, hown, hB⟩ := id hC
  obtain ⟨H, hH⟩ : ∃ H, H = s.heap := ⟨_, rfl⟩
  obtain ⟨locs, hlocs⟩ : ∃ L : List Loc, L = [] := ⟨_, rfl⟩
  rw [← hH, ← hlocs] at hI ⊢
  clear hH hlocs
  unfold p_J7_copyOfRange_39247 at hq
  refine lv_iload_n hx hb dJ7_copyOfRange_39247_0 rfl (lv_at hl 1 rfl) ?_
  refine lv_if_ne (tgt := 10) hx hb dJ7_copyOfRange_39247_1 (by decide) (fun c1 => ?_) (fun c1 => ?_)
  · replace hq := i_f c1 hq
    refine lv_aload_n hx hb dJ7_copyOfRange_39247_10 rfl (lv_at hl 0 rfl) ?_
    refine lv_iload_n hx hb dJ7_copyOfRange_39247_11 rfl (lv_at hl 1 rfl) ?_
    refine lv_iload_n hx hb dJ7_copyOfRange_39247_12 rfl (lv_at hl 2 rfl) ?_
    obtain ⟨v2, ev2, hq⟩ := b_s hq
    refine gw_r (g_runS (As := [.ref a0, .int a1, .int a2]) (rest := []) hC (c_J7_copyOfRangeByte_39247 l V g D cT f n a0 a1 a2 v2 ev2) k_J7_copyOfRangeByte_39247 m_1153 rfl rfl ⟨Nat.le_of_ble_eq_true rfl, Nat.le_of_ble_eq_true rfl⟩ hI rfl hl.1 rfl (Nat.le_of_ble_eq_true rfl) dJ7_copyOfRange_39247_13 ⟨by decide, by decide⟩) hI (fun H locs hI => ?_)
    obtain rfl := Option.some.inj hq
    exact ge_Wr hx hb hlocks hr (Or.inr ⟨_, rfl⟩) hI rfl rfl dJ7_copyOfRange_39247_16
  · replace hq := i_t c1 hq
    refine lv_iload_n hx hb dJ7_copyOfRange_39247_4 rfl (lv_at hl 2 rfl) ?_
    refine lv_aload_n hx hb dJ7_copyOfRange_39247_5 rfl (lv_at hl 0 rfl) ?_
    obtain ⟨v3, ev3, hq⟩ := b_s hq
    refine fa_al hx hb hI (by decide) ev3 dJ7_copyOfRange_39247_6 ?_
    refine lv_icmp_eq (tgt := 17) hx hb dJ7_copyOfRange_39247_7 (by decide) (fun c4 => ?_) (fun c4 => ?_)
    · replace hq := i_t c4 hq
      refine lv_aload_n hx hb dJ7_copyOfRange_39247_17 rfl (lv_at hl 0 rfl) ?_
      obtain ⟨f5, ef5, hq⟩ := b_s hq
      refine fa_cl (own := RJ7) hx hb (hml.trans hl.1.symm) hB hown m_1031 m_1032 m_1033 m_1034 m_1035 (g_nwx hI (i := 10) rfl) hI ef5 (by decide) (by decide) (by decide) (by decide) dJ7_copyOfRange_39247_18 (fun H locs hI => ?_)
      obtain ⟨_, ev6, hq⟩ := b_s hq
      refine fa_castB (own := RJ7) hx hb hown (hB _ m_1037) hI ev6 dJ7_copyOfRange_39247_21 ?_
      obtain rfl := Option.some.inj hq
      exact ge_Wr hx hb hlocks hr (Or.inr ⟨_, rfl⟩) hI rfl rfl dJ7_copyOfRange_39247_24
    · replace hq := i_f c4 hq
      refine lv_aload_n hx hb dJ7_copyOfRange_39247_10 rfl (lv_at hl 0 rfl) ?_
      refine lv_iload_n hx hb dJ7_copyOfRange_39247_11 rfl (lv_at hl 1 rfl) ?_
      refine lv_iload_n hx hb dJ7_copyOfRange_39247_12 rfl (lv_at hl 2 rfl) ?_
      obtain ⟨v7, ev7, hq⟩ := b_s hq
      refine gw_r (g_runS (As := [.ref a0, .int a1, .int a2]) (rest := []) hC (c_J7_copyOfRangeByte_39247 l V g D cT f n a0 a1 a2 v7 ev7) k_J7_copyOfRangeByte_39247 m_1153 rfl rfl ⟨Nat.le_of_ble_eq_true rfl, Nat.le_of_ble_eq_true rfl⟩ hI rfl hl.1 rfl (Nat.le_of_ble_eq_true rfl) dJ7_copyOfRange_39247_13 ⟨by decide, by decide⟩) hI (fun H locs hI => ?_)
      obtain rfl := Option.some.inj hq
      exact ge_Wr hx hb hlocks hr (Or.inr ⟨_, rfl⟩) hI rfl rfl dJ7_copyOfRange_39247_16

abbrev rm_J0_init_db425 : Room := { frames := 5, cells := 1, slots := 600, locals := 187 }
theorem k_J0_init_db425 : g_CI yJ0_init_db425 cJ0_init_db425 5 2 := ⟨⟨m_1134, m_11, by decide +kernel⟩, rfl, m_1133⟩
set_option maxHeartbeats 4000000 in
set_option maxRecDepth 100000 in
theorem c_J0_init_db425 (l : Launch) (V : Nat → Nat) (g : GH) (D : va_G) (cT : Nat → ClassId) (f : GH) (n : Nat) (a0 : Nat) (a1 : Nat) (a2 : Option Nat) (o : GH × Nat) (hq : p_J0_init_db425 V g f n a0 a1 a2 = some o) : Met l yJ0_init_db425 (Cond.code yJ0_init_db425 cJ0_init_db425 5 none :: g_B) rm_J0_init_db425 (va_Pc [.ref a0, .ref a1, va_rf a2] (g_I V g D cT f n)) (g_Wv V D cT o.1 o.2) 1 600 (g_A V) := by
  rcases a2 with _ | a2
  · refine g_begin (own := RJ0) [.ref a0, .ref a1, va_rf none] [(0, .ref a0), (1, .ref a1), (2, va_rf none)] (g_A V) (fun _ h => h) (by decide) rfl (Nat.le_of_ble_eq_true rfl) rfl ?_
    intro p e s m args below meth c hx hb hr hlocks hin hC hI ls hl
    obtain ⟨hx, hb, hml, hown, hB⟩ := id hC
    obtain ⟨H, hH⟩ : ∃ H, H = s.heap := ⟨_, rfl⟩
    obtain ⟨locs, hlocs⟩ : ∃ L : List Loc, L = [] := ⟨_, rfl⟩
    rw [← hH, ← hlocs] at hI ⊢
    clear hH hlocs
    unfold p_J0_init_db425 at hq
    replace hq := (h_me_eq hq).2
    refine lv_aload_n hx hb dJ0_init_db425_0 rfl (lv_at hl 0 rfl) ?_
    refine W.objInit hx hb hown (hB _ m_1135) (hB _ m_33) (hB _ m_34) rfl (by rw [hml]; exact hl.1) rfl dJ0_init_db425_1 (Nat.le_of_ble_eq_true rfl) (Nat.le_of_ble_eq_true rfl) ?_
    refine W.eq (g2 := F0 m 4 ls []) rfl ?_
    refine lv_aload_n hx hb dJ0_init_db425_4 rfl (lv_at hl 1 rfl) ?_
    obtain ⟨v1, ev1, hq⟩ := b_s hq
    refine gr_r (g_runU (As := []) (rest := []) (ci := 1) hC (c_J5_getValue_6d5f1 l V g D cT f n a1 v1 ev1) (⟨⟨m_1140, m_9⟩, m_1137, m_1138, m_1139, rfl, by decide, by decide, by decide +kernel⟩ : g_CU "java/lang/StringBuilder" "java/lang/AbstractStringBuilder" (⟨"java/lang/AbstractStringBuilder", "getValue", "()[B"⟩ : MethodName) yJ5_getValue_6d5f1 cJ5_getValue_6d5f1 1 (some (.array .byte)) 0) m_1136 rfl rfl ⟨Nat.le_of_ble_eq_true rfl, Nat.le_of_ble_eq_true rfl⟩ hI rfl rfl (h_me_eq ev1).1 rfl hl.1 rfl (Nat.le_of_ble_eq_true rfl) dJ0_init_db425_5 ⟨by decide, by decide⟩) hI (fun H locs hI => ?_)
    refine lv_astore_n (lv' := [(3, .ref v1), (0, .ref a0), (1, .ref a1), (2, va_rf none)]) hx hb dJ0_init_db425_8 rfl hl (by decide) rfl (fun ls hl => ?_)
    refine lv_aload_n hx hb dJ0_init_db425_9 rfl (lv_at hl 2 rfl) ?_
    obtain ⟨v2, ev2, hq⟩ := b_s hq
    refine gr_i (g_runO (As := []) (rest := []) (ci := 1) hC (c_J4_length_8abf5 l V g D cT f n a1 v2 ev2) (⟨⟨m_1146, m_10⟩, m_1145, m_1143, m_1144, m_1142, m_1148, by decide, by decide, by decide +kernel⟩ : g_CO "java/lang/StringBuilder" "java/lang/AbstractStringBuilder" (⟨"java/lang/AbstractStringBuilder", "length", "()I"⟩ : MethodName) yJ4_length_8abf5 cJ4_length_8abf5 1 (some .int) 0 cJ5_length_8abf5 1 (some .int)) m_1141 rfl rfl ⟨Nat.le_of_ble_eq_true rfl, Nat.le_of_ble_eq_true rfl⟩ hI rfl rfl (h_me_eq ev2).1 rfl hl.1 rfl (Nat.le_of_ble_eq_true rfl) dJ0_init_db425_10 ⟨by decide, by decide⟩) hI (fun H locs hI => ?_)
    refine lv_istore (lv' := [(4, .int v2), (3, .ref v1), (0, .ref a0), (1, .ref a1), (2, va_rf none)]) hx hb dJ0_init_db425_13 hl (by decide) rfl (fun ls hl => ?_)
    refine lv_aload_n hx hb dJ0_init_db425_15 rfl (lv_at hl 3 rfl) ?_
    obtain ⟨v3, ev3, hq⟩ := b_s hq
    refine gr_i (g_runU (As := []) (rest := []) (ci := 1) hC (c_J5_isLatin1_aae02 l V g D cT f n a1 v3 ev3) (⟨⟨m_1044, m_9⟩, m_1041, m_1042, m_1043, rfl, by decide, by decide, by decide +kernel⟩ : g_CU "java/lang/StringBuilder" "java/lang/AbstractStringBuilder" (⟨"java/lang/AbstractStringBuilder", "isLatin1", "()Z"⟩ : MethodName) yJ5_isLatin1_aae02 cJ5_isLatin1_aae02 1 (some .boolean) 0) m_1149 rfl rfl ⟨Nat.le_of_ble_eq_true rfl, Nat.le_of_ble_eq_true rfl⟩ hI rfl rfl (h_me_eq ev3).1 rfl hl.1 rfl (Nat.le_of_ble_eq_true rfl) dJ0_init_db425_16 ⟨by decide, by decide⟩) hI (fun H locs hI => ?_)
    refine lv_if_eq (tgt := 41) hx hb dJ0_init_db425_19 (by decide) (fun c4 => ?_) (fun c4 => ?_)
    · replace hq := i_t c4 hq
      cases hq
    · replace hq := i_f c4 hq
      refine lv_aload_n hx hb dJ0_init_db425_22 rfl (lv_at hl 2 rfl) ?_
      refine lv_iconst (v := (0 : Int32)) hx hb dJ0_init_db425_23 (by decide) ?_
      obtain ⟨f5, ef5, hq⟩ := b_s hq
      refine fa_ptF (own := RJ0) (ref := "java/lang/String") (k := 1) hx hb hB inB_RJ0 tyJ0_ok nmJ0 hown hI rfl (by decide) m_1170 (fun _ h9 => h9) (by decide) hin (by decide) (by decide +kernel) (by decide +kernel) ef5 dJ0_init_db425_24 (fun H locs hI => ?_)
      refine lv_aload_n hx hb dJ0_init_db425_27 rfl (lv_at hl 2 rfl) ?_
      refine lv_aload_n hx hb dJ0_init_db425_28 rfl (lv_at hl 1 rfl) ?_
      refine lv_iconst (v := (0 : Int32)) hx hb dJ0_init_db425_29 (by decide) ?_
      refine lv_iload hx hb dJ0_init_db425_30 (lv_at hl 0 rfl) ?_
      obtain ⟨v6, ev6, hq⟩ := b_s hq
      refine gw_r (g_runS (As := [.ref v1, .int (0 : Int32), .int v2]) (rest := [.ref a0]) hC (c_J7_copyOfRange_39247 l V g D cT f5 n v1 (0 : Int32) v2 v6 ev6) k_J7_copyOfRange_39247 m_1150 rfl rfl ⟨Nat.le_of_ble_eq_true rfl, Nat.le_of_ble_eq_true rfl⟩ hI rfl hl.1 rfl (Nat.le_of_ble_eq_true rfl) dJ0_init_db425_32 ⟨by decide, by decide⟩) hI (fun H locs hI => ?_)
      obtain ⟨f7, ef7, hq⟩ := b_s hq
      refine fa_ptF (own := RJ0) (ref := "java/lang/String") (k := 0) hx hb hB inB_RJ0 tyJ0_ok nmJ0 hown hI rfl (by decide) m_1169 (fun _ h9 => h9) (by decide) hin (by decide) rfl rfl ef7 dJ0_init_db425_35 (fun H locs hI => ?_)
      refine lv_goto (tgt := 97) hx hb dJ0_init_db425_38 (by decide) ?_
      obtain rfl := Option.some.inj hq
      exact ge_Wv hx hb hlocks hr hI rfl dJ0_init_db425_97
  · refine g_begin (own := RJ0) [.ref a0, .ref a1, va_rf (some a2)] [(0, .ref a0), (1, .ref a1), (2, va_rf (some a2))] (g_A V) (fun _ h => h) (by decide) rfl (Nat.le_of_ble_eq_true rfl) rfl ?_
    intro p e s m args below meth c hx hb hr hlocks hin hC hI ls hl
    obtain ⟨hx, hb, hml, hown, hB⟩ := id hC
    obtain ⟨H, hH⟩ : ∃ H, H = s.heap := ⟨_, rfl⟩
    obtain ⟨locs, hlocs⟩ : ∃ L : List Loc, L = [] := ⟨_, rfl⟩
    rw [← hH, ← hlocs] at hI ⊢
    clear hH hlocs
    unfold p_J0_init_db425 at hq
    replace hq := (h_me_eq hq).2
    refine lv_aload_n hx hb dJ0_init_db425_0 rfl (lv_at hl 0 rfl) ?_
    refine W.objInit hx hb hown (hB _ m_1135) (hB _ m_33) (hB _ m_34) rfl (by rw [hml]; exact hl.1) rfl dJ0_init_db425_1 (Nat.le_of_ble_eq_true rfl) (Nat.le_of_ble_eq_true rfl) ?_
    refine W.eq (g2 := F0 m 4 ls []) rfl ?_
    refine lv_aload_n hx hb dJ0_init_db425_4 rfl (lv_at hl 1 rfl) ?_
    obtain ⟨v1, ev1, hq⟩ := b_s hq
    refine gr_r (g_runU (As := []) (rest := []) (ci := 1) hC (c_J5_getValue_6d5f1 l V g D cT f n a1 v1 ev1) (⟨⟨m_1140, m_9⟩, m_1137, m_1138, m_1139, rfl, by decide, by decide, by decide +kernel⟩ : g_CU "java/lang/StringBuilder" "java/lang/AbstractStringBuilder" (⟨"java/lang/AbstractStringBuilder", "getValue", "()[B"⟩ : MethodName) yJ5_getValue_6d5f1 cJ5_getValue_6d5f1 1 (some (.array .byte)) 0) m_1136 rfl rfl ⟨Nat.le_of_ble_eq_true rfl, Nat.le_of_ble_eq_true rfl⟩ hI rfl rfl (h_me_eq ev1).1 rfl hl.1 rfl (Nat.le_of_ble_eq_true rfl) dJ0_init_db425_5 ⟨by decide, by decide⟩) hI (fun H locs hI => ?_)
    refine lv_astore_n (lv' := [(3, .ref v1), (0, .ref a0), (1, .ref a1), (2, va_rf (some a2))]) hx hb dJ0_init_db425_8 rfl hl (by decide) rfl (fun ls hl => ?_)
    refine lv_aload_n hx hb dJ0_init_db425_9 rfl (lv_at hl 2 rfl) ?_
    obtain ⟨v2, ev2, hq⟩ := b_s hq
    refine gr_i (g_runO (As := []) (rest := []) (ci := 1) hC (c_J4_length_8abf5 l V g D cT f n a1 v2 ev2) (⟨⟨m_1146, m_10⟩, m_1145, m_1143, m_1144, m_1142, m_1148, by decide, by decide, by decide +kernel⟩ : g_CO "java/lang/StringBuilder" "java/lang/AbstractStringBuilder" (⟨"java/lang/AbstractStringBuilder", "length", "()I"⟩ : MethodName) yJ4_length_8abf5 cJ4_length_8abf5 1 (some .int) 0 cJ5_length_8abf5 1 (some .int)) m_1141 rfl rfl ⟨Nat.le_of_ble_eq_true rfl, Nat.le_of_ble_eq_true rfl⟩ hI rfl rfl (h_me_eq ev2).1 rfl hl.1 rfl (Nat.le_of_ble_eq_true rfl) dJ0_init_db425_10 ⟨by decide, by decide⟩) hI (fun H locs hI => ?_)
    refine lv_istore (lv' := [(4, .int v2), (3, .ref v1), (0, .ref a0), (1, .ref a1), (2, va_rf (some a2))]) hx hb dJ0_init_db425_13 hl (by decide) rfl (fun ls hl => ?_)
    refine lv_aload_n hx hb dJ0_init_db425_15 rfl (lv_at hl 3 rfl) ?_
    obtain ⟨v3, ev3, hq⟩ := b_s hq
    refine gr_i (g_runU (As := []) (rest := []) (ci := 1) hC (c_J5_isLatin1_aae02 l V g D cT f n a1 v3 ev3) (⟨⟨m_1044, m_9⟩, m_1041, m_1042, m_1043, rfl, by decide, by decide, by decide +kernel⟩ : g_CU "java/lang/StringBuilder" "java/lang/AbstractStringBuilder" (⟨"java/lang/AbstractStringBuilder", "isLatin1", "()Z"⟩ : MethodName) yJ5_isLatin1_aae02 cJ5_isLatin1_aae02 1 (some .boolean) 0) m_1149 rfl rfl ⟨Nat.le_of_ble_eq_true rfl, Nat.le_of_ble_eq_true rfl⟩ hI rfl rfl (h_me_eq ev3).1 rfl hl.1 rfl (Nat.le_of_ble_eq_true rfl) dJ0_init_db425_16 ⟨by decide, by decide⟩) hI (fun H locs hI => ?_)
    refine lv_if_eq (tgt := 41) hx hb dJ0_init_db425_19 (by decide) (fun c4 => ?_) (fun c4 => ?_)
    · replace hq := i_t c4 hq
      cases hq
    · replace hq := i_f c4 hq
      refine lv_aload_n hx hb dJ0_init_db425_22 rfl (lv_at hl 2 rfl) ?_
      refine lv_iconst (v := (0 : Int32)) hx hb dJ0_init_db425_23 (by decide) ?_
      obtain ⟨f5, ef5, hq⟩ := b_s hq
      refine fa_ptF (own := RJ0) (ref := "java/lang/String") (k := 1) hx hb hB inB_RJ0 tyJ0_ok nmJ0 hown hI rfl (by decide) m_1170 (fun _ h9 => h9) (by decide) hin (by decide) (by decide +kernel) (by decide +kernel) ef5 dJ0_init_db425_24 (fun H locs hI => ?_)
      refine lv_aload_n hx hb dJ0_init_db425_27 rfl (lv_at hl 2 rfl) ?_
      refine lv_aload_n hx hb dJ0_init_db425_28 rfl (lv_at hl 1 rfl) ?_
      refine lv_iconst (v := (0 : Int32)) hx hb dJ0_init_db425_29 (by decide) ?_
      refine lv_iload hx hb dJ0_init_db425_30 (lv_at hl 0 rfl) ?_
      obtain ⟨v6, ev6, hq⟩ := b_s hq
      refine gw_r (g_runS (As := [.ref v1, .int (0 : Int32), .int v2]) (rest := [.ref a0]) hC (c_J7_copyOfRange_39247 l V g D cT f5 n v1 (0 : Int32) v2 v6 ev6) k_J7_copyOfRange_39247 m_1150 rfl rfl ⟨Nat.le_of_ble_eq_true rfl, Nat.le_of_ble_eq_true rfl⟩ hI rfl hl.1 rfl (Nat.le_of_ble_eq_true rfl) dJ0_init_db425_32 ⟨by decide, by decide⟩) hI (fun H locs hI => ?_)
      obtain ⟨f7, ef7, hq⟩ := b_s hq
      refine fa_ptF (own := RJ0) (ref := "java/lang/String") (k := 0) hx hb hB inB_RJ0 tyJ0_ok nmJ0 hown hI rfl (by decide) m_1169 (fun _ h9 => h9) (by decide) hin (by decide) rfl rfl ef7 dJ0_init_db425_35 (fun H locs hI => ?_)
      refine lv_goto (tgt := 97) hx hb dJ0_init_db425_38 (by decide) ?_
      obtain rfl := Option.some.inj hq
      exact ge_Wv hx hb hlocks hr hI rfl dJ0_init_db425_97

abbrev rm_J0_init_81219 : Room := { frames := 6, cells := 1, slots := 600, locals := 211 }
theorem k_J0_init_81219 : g_CI yJ0_init_81219 cJ0_init_81219 2 1 := ⟨⟨m_1131, m_11, by decide +kernel⟩, rfl, m_1130⟩
set_option maxHeartbeats 4000000 in
set_option maxRecDepth 100000 in
theorem c_J0_init_81219 (l : Launch) (V : Nat → Nat) (g : GH) (D : va_G) (cT : Nat → ClassId) (f : GH) (n : Nat) (a0 : Nat) (a1 : Nat) (o : GH × Nat) (hq : p_J0_init_81219 V g f n a0 a1 = some o) : Met l yJ0_init_81219 (Cond.code yJ0_init_81219 cJ0_init_81219 2 none :: g_B) rm_J0_init_81219 (va_Pc [.ref a0, .ref a1] (g_I V g D cT f n)) (g_Wv V D cT o.1 o.2) 1 600 (g_A V) := by
  refine g_begin (own := RJ0) [.ref a0, .ref a1] [(0, .ref a0), (1, .ref a1)] (g_A V) (fun _ h => h) (by decide) rfl (Nat.le_of_ble_eq_true rfl) rfl ?_
  intro p e s m args below meth c hx hb hr hlocks hin hC hI ls hl
  obtain ⟨hx, hb, hml, hown, hB⟩ := id hC
  obtain ⟨H, hH⟩ : ∃ H, H = s.heap := ⟨_, rfl⟩
  obtain ⟨locs, hlocs⟩ : ∃ L : List Loc, L = [] := ⟨_, rfl⟩
  rw [← hH, ← hlocs] at hI ⊢
  clear hH hlocs
  unfold p_J0_init_81219 at hq
  replace hq := (h_me_eq hq).2
  refine lv_aload_n hx hb dJ0_init_81219_0 rfl (lv_at hl 0 rfl) ?_
  refine lv_aload_n hx hb dJ0_init_81219_1 rfl (lv_at hl 1 rfl) ?_
  refine lv_nullN hx hb dJ0_init_81219_2 ?_
  obtain ⟨v1, ev1, hq⟩ := b_s hq
  refine gw_v (g_runI (As := [.ref a1, va_rf none]) (rest := []) hC (c_J0_init_db425 l V g D cT f n a0 a1 none v1 ev1) k_J0_init_db425 m_1132 rfl rfl ⟨Nat.le_of_ble_eq_true rfl, Nat.le_of_ble_eq_true rfl⟩ hI rfl hl.1 rfl (Nat.le_of_ble_eq_true rfl) dJ0_init_81219_3 ⟨by decide, by decide⟩) hI (fun H locs hI => ?_)
  obtain rfl := Option.some.inj hq
  exact ge_Wv hx hb hlocks hr hI rfl dJ0_init_81219_6

abbrev rm_J4_init_a7421 : Room := { frames := 10, cells := 2, slots := 660, locals := 299 }
theorem k_J4_init_a7421 : g_CI yJ4_init_a7421 cJ4_init_a7421 2 1 := ⟨⟨m_1239, m_10, by decide +kernel⟩, rfl, m_1238⟩
set_option maxHeartbeats 4000000 in
set_option maxRecDepth 100000 in
theorem c_J4_init_a7421 (l : Launch) (V : Nat → Nat) (g : GH) (D : va_G) (cT : Nat → ClassId) (f : GH) (n : Nat) (a0 : Nat) (a1 : Nat) (o : GH × Nat) (hq : p_J4_init_a7421 V g f n a0 a1 = some o) : Met l yJ4_init_a7421 (Cond.code yJ4_init_a7421 cJ4_init_a7421 2 none :: g_B) rm_J4_init_a7421 (va_Pc [.ref a0, .ref a1] (g_I V g D cT f n)) (g_Wv V D cT o.1 o.2) 2 660 (g_A V) := by
  refine g_begin (own := RJ4) [.ref a0, .ref a1] [(0, .ref a0), (1, .ref a1)] (g_A V) (fun _ h => h) (by decide) rfl (Nat.le_of_ble_eq_true rfl) rfl ?_
  intro p e s m args below meth c hx hb hr hlocks hin hC hI ls hl
  obtain ⟨hx, hb, hml, hown, hB⟩ := id hC
  obtain ⟨H, hH⟩ : ∃ H, H = s.heap := ⟨_, rfl⟩
  obtain ⟨locs, hlocs⟩ : ∃ L : List Loc, L = [] := ⟨_, rfl⟩
  rw [← hH, ← hlocs] at hI ⊢
  clear hH hlocs
  unfold p_J4_init_a7421 at hq
  replace hq := (h_me_eq hq).2
  refine lv_aload_n hx hb dJ4_init_a7421_0 rfl (lv_at hl 0 rfl) ?_
  refine lv_aload_n hx hb dJ4_init_a7421_1 rfl (lv_at hl 1 rfl) ?_
  obtain ⟨v1, ev1, hq⟩ := b_s hq
  refine gw_v (g_runI (As := [.ref a1]) (rest := []) hC (c_J5_init_a7421 l V g D cT f n a0 a1 v1 ev1) k_J5_init_a7421 m_1240 rfl rfl ⟨Nat.le_of_ble_eq_true rfl, Nat.le_of_ble_eq_true rfl⟩ hI rfl hl.1 rfl (Nat.le_of_ble_eq_true rfl) dJ4_init_a7421_2 ⟨by decide, by decide⟩) hI (fun H locs hI => ?_)
  obtain rfl := Option.some.inj hq
  exact ge_Wv hx hb hlocks hr hI rfl dJ4_init_a7421_5

abbrev rm_J4_append_cf468 : Room := { frames := 7, cells := 1, slots := 600, locals := 232 }
theorem k_J4_append_cf468 : g_CV yJ4_append_cf468 cJ4_append_cf468 2 (some (.object "java/lang/StringBuilder")) 1 := ⟨⟨m_1251, m_10, by decide +kernel⟩, m_1249, m_1250⟩
set_option maxHeartbeats 4000000 in
set_option maxRecDepth 100000 in
theorem c_J4_append_cf468 (l : Launch) (V : Nat → Nat) (g : GH) (D : va_G) (cT : Nat → ClassId) (f : GH) (n : Nat) (a0 : Nat) (a1 : Int32) (o : Nat × GH × Nat) (hq : p_J4_append_cf468 V g f n a0 a1 = some o) : Met l yJ4_append_cf468 (Cond.code yJ4_append_cf468 cJ4_append_cf468 2 (some (.object "java/lang/StringBuilder")) :: g_B) rm_J4_append_cf468 (va_Pc [.ref a0, .int a1] (g_I V g D cT f n)) (g_Wr V D cT o.1 o.2.1 o.2.2) 1 600 (g_A V) := by
  refine g_begin (own := RJ4) [.ref a0, .int a1] [(0, .ref a0), (1, .int a1)] (g_A V) (fun _ h => h) (by decide) rfl (Nat.le_of_ble_eq_true rfl) rfl ?_
  intro p e s m args below meth c hx hb hr hlocks hin hC hI ls hl
  obtain ⟨hx, hb, hml, hown, hB⟩ := id hC
  obtain ⟨H, hH⟩ : ∃ H, H = s.heap := ⟨_, rfl⟩
  obtain ⟨locs, hlocs⟩ : ∃ L : List Loc, L = [] := ⟨_, rfl⟩
  rw [← hH, ← hlocs] at hI ⊢
  clear hH hlocs
  unfold p_J4_append_cf468 at hq
  replace hq := (h_me_eq hq).2
  refine lv_aload_n hx hb dJ4_append_cf468_0 rfl (lv_at hl 0 rfl) ?_
  refine lv_iload_n hx hb dJ4_append_cf468_1 rfl (lv_at hl 1 rfl) ?_
  obtain ⟨v1, ev1, hq⟩ := b_s hq
  refine gw_r (g_runSU (As := [.int a1]) (rest := []) (ci := 1) hC (c_J5_append_3fe6f l V g D cT f n a0 a1 v1 ev1) (⟨⟨m_1254, m_9⟩, m_1253, m_1275, m_227, by decide, by decide +kernel⟩ : g_CSU "java/lang/StringBuilder" yJ5_append_3fe6f cJ5_append_3fe6f 2 (some (.object "java/lang/AbstractStringBuilder")) 1) m_1252 rfl rfl ⟨Nat.le_of_ble_eq_true rfl, Nat.le_of_ble_eq_true rfl⟩ hI rfl (h_me_eq ev1).1 rfl hl.1 rfl (Nat.le_of_ble_eq_true rfl) dJ4_append_cf468_2 ⟨by decide, by decide⟩) hI (fun H locs hI => ?_)
  refine lv_pop hx hb dJ4_append_cf468_5 rfl ?_
  refine lv_aload_n hx hb dJ4_append_cf468_6 rfl (lv_at hl 0 rfl) ?_
  obtain rfl := Option.some.inj hq
  exact ge_Wr hx hb hlocks hr (Or.inl ⟨_, rfl⟩) hI rfl rfl dJ4_append_cf468_7

abbrev rm_J4_append_bf812 : Room := { frames := 7, cells := 1, slots := 600, locals := 234 }
theorem k_J4_append_bf812 : g_CV yJ4_append_bf812 cJ4_append_bf812 2 (some (.object "java/lang/StringBuilder")) 1 := ⟨⟨m_1098, m_10, by decide +kernel⟩, m_1096, m_1097⟩
set_option maxHeartbeats 4000000 in
set_option maxRecDepth 100000 in
theorem c_J4_append_bf812 (l : Launch) (V : Nat → Nat) (g : GH) (D : va_G) (cT : Nat → ClassId) (f : GH) (n : Nat) (a0 : Nat) (a1 : Int32) (o : Nat × GH × Nat) (hq : p_J4_append_bf812 V g f n a0 a1 = some o) : Met l yJ4_append_bf812 (Cond.code yJ4_append_bf812 cJ4_append_bf812 2 (some (.object "java/lang/StringBuilder")) :: g_B) rm_J4_append_bf812 (va_Pc [.ref a0, .int a1] (g_I V g D cT f n)) (g_Wr V D cT o.1 o.2.1 o.2.2) 1 600 (g_A V) := by
  refine g_begin (own := RJ4) [.ref a0, .int a1] [(0, .ref a0), (1, .int a1)] (g_A V) (fun _ h => h) (by decide) rfl (Nat.le_of_ble_eq_true rfl) rfl ?_
  intro p e s m args below meth c hx hb hr hlocks hin hC hI ls hl
  obtain ⟨hx, hb, hml, hown, hB⟩ := id hC
  obtain ⟨H, hH⟩ : ∃ H, H = s.heap := ⟨_, rfl⟩
  obtain ⟨locs, hlocs⟩ : ∃ L : List Loc, L = [] := ⟨_, rfl⟩
  rw [← hH, ← hlocs] at hI ⊢
  clear hH hlocs
  unfold p_J4_append_bf812 at hq
  replace hq := (h_me_eq hq).2
  refine lv_aload_n hx hb dJ4_append_bf812_0 rfl (lv_at hl 0 rfl) ?_
  refine lv_iload_n hx hb dJ4_append_bf812_1 rfl (lv_at hl 1 rfl) ?_
  obtain ⟨v1, ev1, hq⟩ := b_s hq
  refine gw_r (g_runSU (As := [.int a1]) (rest := []) (ci := 1) hC (c_J5_append_c97b9 l V g D cT f n a0 a1 v1 ev1) (⟨⟨m_1101, m_9⟩, m_1100, m_1273, m_227, by decide, by decide +kernel⟩ : g_CSU "java/lang/StringBuilder" yJ5_append_c97b9 cJ5_append_c97b9 4 (some (.object "java/lang/AbstractStringBuilder")) 1) m_1099 rfl rfl ⟨Nat.le_of_ble_eq_true rfl, Nat.le_of_ble_eq_true rfl⟩ hI rfl (h_me_eq ev1).1 rfl hl.1 rfl (Nat.le_of_ble_eq_true rfl) dJ4_append_bf812_2 ⟨by decide, by decide⟩) hI (fun H locs hI => ?_)
  refine lv_pop hx hb dJ4_append_bf812_5 rfl ?_
  refine lv_aload_n hx hb dJ4_append_bf812_6 rfl (lv_at hl 0 rfl) ?_
  obtain rfl := Option.some.inj hq
  exact ge_Wr hx hb hlocks hr (Or.inl ⟨_, rfl⟩) hI rfl rfl dJ4_append_bf812_7

abbrev rm_J4_toString_0e30d : Room := { frames := 7, cells := 2, slots := 604, locals := 232 }
theorem k_J4_toString_0e30d : g_CV yJ4_toString_0e30d cJ4_toString_0e30d 1 (some (.object "java/lang/String")) 0 := ⟨⟨m_1126, m_10, by decide +kernel⟩, m_1124, m_1125⟩
set_option maxHeartbeats 4000000 in
set_option maxRecDepth 100000 in
theorem c_J4_toString_0e30d (l : Launch) (V : Nat → Nat) (g : GH) (D : va_G) (cT : Nat → ClassId) (f : GH) (n : Nat) (a0 : Nat) (o : Nat × GH × Nat) (hq : p_J4_toString_0e30d V g f n a0 = some o) : Met l yJ4_toString_0e30d (Cond.code yJ4_toString_0e30d cJ4_toString_0e30d 1 (some (.object "java/lang/String")) :: g_B) rm_J4_toString_0e30d (va_Pc [.ref a0] (g_I V g D cT f n)) (g_Wr V D cT o.1 o.2.1 o.2.2) 2 604 (g_A V) := by
  refine g_begin (own := RJ4) [.ref a0] [(0, .ref a0)] (g_A V) (fun _ h => h) (by decide) rfl (Nat.le_of_ble_eq_true rfl) rfl ?_
  intro p e s m args below meth c hx hb hr hlocks hin hC hI ls hl
  obtain ⟨hx, hb, hml, hown, hB⟩ := id hC
  obtain ⟨H, hH⟩ : ∃ H, H = s.heap := ⟨_, rfl⟩
  obtain ⟨locs, hlocs⟩ : ∃ L : List Loc, L = [] := ⟨_, rfl⟩
  rw [← hH, ← hlocs] at hI ⊢
  clear hH hlocs
  unfold p_J4_toString_0e30d at hq
  replace hq := (h_me_eq hq).2
  obtain ⟨f1, ef1, hq⟩ := b_s hq
  refine fa_new (own := RJ4) (ci := 0) hx hb hB inB_RJ0 tyJ0_ok hown m_1127 m_1128 m_11 hI rfl (by decide +kernel) (by decide) (by decide) ef1 dJ4_toString_0e30d_0 (fun H locs hI => ?_)
  refine lv_dup hx hb dJ4_toString_0e30d_3 rfl ?_
  refine lv_aload_n hx hb dJ4_toString_0e30d_4 rfl (lv_at hl 0 rfl) ?_
  obtain ⟨v2, ev2, hq⟩ := b_s hq
  refine gw_v (g_runI (As := [.ref a0]) (rest := [.ref n]) hC (c_J0_init_81219 l V g D cT f1 (n + 1) n a0 v2 ev2) k_J0_init_81219 m_1129 rfl rfl ⟨Nat.le_of_ble_eq_true rfl, Nat.le_of_ble_eq_true rfl⟩ hI rfl hl.1 rfl (Nat.le_of_ble_eq_true rfl) dJ4_toString_0e30d_5 ⟨by decide, by decide⟩) hI (fun H locs hI => ?_)
  obtain rfl := Option.some.inj hq
  exact ge_Wr hx hb hlocks hr (Or.inl ⟨_, rfl⟩) hI rfl rfl dJ4_toString_0e30d_8

abbrev rm_J0_isLatin1_aae02D : Room := { frames := 2, cells := 0, slots := 0, locals := 120 }
theorem k_J0_isLatin1_aae02D : g_CV yJ0_isLatin1_aae02 cJ0_isLatin1_aae02 1 (some .boolean) 0 := ⟨⟨m_419, m_11, by decide +kernel⟩, m_417, m_418⟩
set_option maxHeartbeats 4000000 in
set_option maxRecDepth 100000 in
theorem c_J0_isLatin1_aae02D (l : Launch) (V : Nat → Nat) (g : GH) (D : va_G) (cT : Nat → ClassId) (f : GH) (n : Nat) (a0 : Nat) (o : Int32) (hq : p_J0_isLatin1_aae02D V g f a0 = some o) : Met l yJ0_isLatin1_aae02 (Cond.code yJ0_isLatin1_aae02 cJ0_isLatin1_aae02 1 (some .boolean) :: g_B) rm_J0_isLatin1_aae02D (va_Pc [.ref a0] (g_I V g D cT f n)) (g_Ri o n) 0 0 g_no := by
  refine g_begin (own := RJ0) [.ref a0] [(0, .ref a0)] g_no (fun _ h => h.elim) (by decide) rfl (Nat.le_of_ble_eq_true rfl) rfl ?_
  intro p e s m args below meth c hx hb hr hlocks hin hC hI ls hl
  obtain ⟨hx, hb, hml, hown, hB⟩ := id hC
  obtain ⟨H, hH⟩ : ∃ H, H = s.heap := ⟨_, rfl⟩
  obtain ⟨locs, hlocs⟩ : ∃ L : List Loc, L = [] := ⟨_, rfl⟩
  rw [← hH, ← hlocs] at hI ⊢
  clear hH hlocs
  unfold p_J0_isLatin1_aae02D at hq
  replace hq := (h_me_eq hq).2
  refine fs_gs (i := 18) hx hb hown hI rfl (hB _ m_411) (fun _ h9 => h9) dJ0_isLatin1_aae02_0 ?_
  refine lv_if_eq (tgt := 17) hx hb dJ0_isLatin1_aae02_3 (by decide) (fun c => absurd c (by decide)) (fun _ => ?_)
  refine lv_aload_n hx hb dJ0_isLatin1_aae02_6 rfl (lv_at hl 0 rfl) ?_
  obtain ⟨v1, ev1, hq⟩ := b_s hq
  refine fa_gi (own := RJ0) (ref := "java/lang/String") (k := 1) hx hb hB inB_RJ0 hown hI rfl (by decide) m_1170 (fun _ h9 => h9) ev1 dJ0_isLatin1_aae02_7 ?_
  refine lv_if_ne (tgt := 17) hx hb dJ0_isLatin1_aae02_10 (by decide) (fun c2 => ?_) (fun c2 => ?_)
  · replace hq := i_f c2 hq
    refine lv_iconst (v := (0 : Int32)) hx hb dJ0_isLatin1_aae02_17 (by decide) ?_
    exact ge_Ri hx hb hlocks hr (by decide +kernel) hI hq dJ0_isLatin1_aae02_18
  · replace hq := i_t c2 hq
    refine lv_iconst (v := (1 : Int32)) hx hb dJ0_isLatin1_aae02_13 (by decide) ?_
    refine lv_goto (tgt := 18) hx hb dJ0_isLatin1_aae02_14 (by decide) ?_
    exact ge_Ri hx hb hlocks hr (by decide +kernel) hI hq dJ0_isLatin1_aae02_18

abbrev rm_J1_charAt_3b067D : Room := { frames := 4, cells := 0, slots := 0, locals := 163 }
theorem k_J1_charAt_3b067D : g_CS yJ1_charAt_3b067 cJ1_charAt_3b067 2 (some .char) 2 := ⟨⟨m_422, m_18, by decide +kernel⟩, m_421⟩
set_option maxHeartbeats 4000000 in
set_option maxRecDepth 100000 in
theorem c_J1_charAt_3b067D (l : Launch) (V : Nat → Nat) (g : GH) (D : va_G) (cT : Nat → ClassId) (f : GH) (n : Nat) (a0 : Nat) (a1 : Int32) (o : Int32) (hq : p_J1_charAt_3b067D V g f a0 a1 = some o) : Met l yJ1_charAt_3b067 (Cond.code yJ1_charAt_3b067 cJ1_charAt_3b067 2 (some .char) :: g_B) rm_J1_charAt_3b067D (va_Pc [.ref a0, .int a1] (g_I V g D cT f n)) (g_Ri o n) 0 0 g_no := by
  refine g_begin (own := RJ1) [.ref a0, .int a1] [(0, .ref a0), (1, .int a1)] g_no (fun _ h => h.elim) (by decide) rfl (Nat.le_of_ble_eq_true rfl) rfl ?_
  intro p e s m args below meth c hx hb hr hlocks hin hC hI ls hl
  obtain ⟨hx, hb, hml, hown, hB⟩ := id hC
  obtain ⟨H, hH⟩ : ∃ H, H = s.heap := ⟨_, rfl⟩
  obtain ⟨locs, hlocs⟩ : ∃ L : List Loc, L = [] := ⟨_, rfl⟩
  rw [← hH, ← hlocs] at hI ⊢
  clear hH hlocs
  unfold p_J1_charAt_3b067D at hq
  refine lv_iload_n hx hb dJ1_charAt_3b067_0 rfl (lv_at hl 1 rfl) ?_
  refine lv_aload_n hx hb dJ1_charAt_3b067_1 rfl (lv_at hl 0 rfl) ?_
  obtain ⟨v1, ev1, hq⟩ := b_s hq
  refine fa_al hx hb hI (by decide) ev1 dJ1_charAt_3b067_2 ?_
  obtain ⟨v2, ev2, hq⟩ := b_s hq
  refine gr_v (g_runS (As := [.int a1, .int v1]) (rest := []) hC (c_J0_checkIndex_df160 l V g D cT f n a1 v1 v2 ev2) k_J0_checkIndex_df160 m_423 rfl rfl ⟨Nat.le_of_ble_eq_true rfl, Nat.le_of_ble_eq_true rfl⟩ hI rfl hl.1 rfl (Nat.le_of_ble_eq_true rfl) dJ1_charAt_3b067_3 ⟨by decide, by decide⟩) hI (fun H locs hI => ?_)
  refine lv_aload_n hx hb dJ1_charAt_3b067_6 rfl (lv_at hl 0 rfl) ?_
  refine lv_iload_n hx hb dJ1_charAt_3b067_7 rfl (lv_at hl 1 rfl) ?_
  obtain ⟨v3, ev3, hq⟩ := b_s hq
  refine fa_lb hx hb hI ev3 dJ1_charAt_3b067_8 ?_
  refine lv_sipush (v := (255 : Int32)) hx hb dJ1_charAt_3b067_9 (by decide) ?_
  refine lv_iand hx hb dJ1_charAt_3b067_12 ?_
  refine lv_i2c (v := ((v3 &&& (255 : Int32)).toUInt32 % 65536).toInt32) hx hb dJ1_charAt_3b067_13 rfl ?_
  obtain ⟨_, ev4, hq⟩ := b_s hq
  exact ge_Ri hx hb hlocks hr (h_cz_eq ev4).2.1 hI hq dJ1_charAt_3b067_14

abbrev rm_J0_charAt_5068eD : Room := { frames := 5, cells := 0, slots := 0, locals := 184 }
theorem k_J0_charAt_5068eD : g_CV yJ0_charAt_5068e cJ0_charAt_5068e 2 (some .char) 1 := ⟨⟨m_415, m_11, by decide +kernel⟩, m_413, m_414⟩
set_option maxHeartbeats 4000000 in
set_option maxRecDepth 100000 in
theorem c_J0_charAt_5068eD (l : Launch) (V : Nat → Nat) (g : GH) (D : va_G) (cT : Nat → ClassId) (f : GH) (n : Nat) (a0 : Nat) (a1 : Int32) (o : Int32) (hq : p_J0_charAt_5068eD V g f a0 a1 = some o) : Met l yJ0_charAt_5068e (Cond.code yJ0_charAt_5068e cJ0_charAt_5068e 2 (some .char) :: g_B) rm_J0_charAt_5068eD (va_Pc [.ref a0, .int a1] (g_I V g D cT f n)) (g_Ri o n) 0 0 g_no := by
  refine g_begin (own := RJ0) [.ref a0, .int a1] [(0, .ref a0), (1, .int a1)] g_no (fun _ h => h.elim) (by decide) rfl (Nat.le_of_ble_eq_true rfl) rfl ?_
  intro p e s m args below meth c hx hb hr hlocks hin hC hI ls hl
  obtain ⟨hx, hb, hml, hown, hB⟩ := id hC
  obtain ⟨H, hH⟩ : ∃ H, H = s.heap := ⟨_, rfl⟩
  obtain ⟨locs, hlocs⟩ : ∃ L : List Loc, L = [] := ⟨_, rfl⟩
  rw [← hH, ← hlocs] at hI ⊢
  clear hH hlocs
  unfold p_J0_charAt_5068eD at hq
  replace hq := (h_me_eq hq).2
  refine lv_aload_n hx hb dJ0_charAt_5068e_0 rfl (lv_at hl 0 rfl) ?_
  obtain ⟨v1, ev1, hq⟩ := b_s hq
  refine gr_i (g_runV (As := []) (rest := []) (ci := 0) hC (c_J0_isLatin1_aae02D l V g D cT f n a0 v1 ev1) k_J0_isLatin1_aae02D m_416 rfl rfl ⟨Nat.le_of_ble_eq_true rfl, Nat.le_of_ble_eq_true rfl⟩ hI rfl rfl (h_me_eq ev1).1 rfl hl.1 rfl (Nat.le_of_ble_eq_true rfl) dJ0_charAt_5068e_1 ⟨by decide, by decide⟩) hI (fun H locs hI => ?_)
  refine lv_if_eq (tgt := 16) hx hb dJ0_charAt_5068e_4 (by decide) (fun c2 => ?_) (fun c2 => ?_)
  · replace hq := i_t c2 hq
    cases hq
  · replace hq := i_f c2 hq
    refine lv_aload_n hx hb dJ0_charAt_5068e_7 rfl (lv_at hl 0 rfl) ?_
    obtain ⟨v3, ev3, hq⟩ := b_s hq
    refine fa_gr (own := RJ0) (ref := "java/lang/String") (k := 0) hx hb hB inB_RJ0 hown hI rfl (by decide) m_1169 (fun _ h9 => h9) ev3 dJ0_charAt_5068e_8 ?_
    refine lv_iload_n hx hb dJ0_charAt_5068e_11 rfl (lv_at hl 1 rfl) ?_
    obtain ⟨v4, ev4, hq⟩ := b_s hq
    refine gr_i (g_runS (As := [.ref v3, .int a1]) (rest := []) hC (c_J1_charAt_3b067D l V g D cT f n v3 a1 v4 ev4) k_J1_charAt_3b067D m_420 rfl rfl ⟨Nat.le_of_ble_eq_true rfl, Nat.le_of_ble_eq_true rfl⟩ hI rfl hl.1 rfl (Nat.le_of_ble_eq_true rfl) dJ0_charAt_5068e_12 ⟨by decide, by decide⟩) hI (fun H locs hI => ?_)
    obtain ⟨_, ev5, hq⟩ := b_s hq
    exact ge_Ri hx hb hlocks hr (h_cz_eq ev5).2.1 hI hq dJ0_charAt_5068e_15

abbrev rm_J0_coder_7d493D : Room := { frames := 2, cells := 0, slots := 0, locals := 120 }
theorem k_J0_coder_7d493D : g_CV yJ0_coder_7d493 cJ0_coder_7d493 1 (some .byte) 0 := ⟨⟨m_410, m_11, by decide +kernel⟩, m_408, m_409⟩
set_option maxHeartbeats 4000000 in
set_option maxRecDepth 100000 in
theorem c_J0_coder_7d493D (l : Launch) (V : Nat → Nat) (g : GH) (D : va_G) (cT : Nat → ClassId) (f : GH) (n : Nat) (a0 : Nat) (o : Int32) (hq : p_J0_coder_7d493D V g f a0 = some o) : Met l yJ0_coder_7d493 (Cond.code yJ0_coder_7d493 cJ0_coder_7d493 1 (some .byte) :: g_B) rm_J0_coder_7d493D (va_Pc [.ref a0] (g_I V g D cT f n)) (g_Ri o n) 0 0 g_no := by
  refine g_begin (own := RJ0) [.ref a0] [(0, .ref a0)] g_no (fun _ h => h.elim) (by decide) rfl (Nat.le_of_ble_eq_true rfl) rfl ?_
  intro p e s m args below meth c hx hb hr hlocks hin hC hI ls hl
  obtain ⟨hx, hb, hml, hown, hB⟩ := id hC
  obtain ⟨H, hH⟩ : ∃ H, H = s.heap := ⟨_, rfl⟩
  obtain ⟨locs, hlocs⟩ : ∃ L : List Loc, L = [] := ⟨_, rfl⟩
  rw [← hH, ← hlocs] at hI ⊢
  clear hH hlocs
  unfold p_J0_coder_7d493D at hq
  replace hq := (h_me_eq hq).2
  refine fs_gs (i := 18) hx hb hown hI rfl (hB _ m_411) (fun _ h9 => h9) dJ0_coder_7d493_0 ?_
  refine lv_if_eq (tgt := 13) hx hb dJ0_coder_7d493_3 (by decide) (fun c => absurd c (by decide)) (fun _ => ?_)
  refine lv_aload_n hx hb dJ0_coder_7d493_6 rfl (lv_at hl 0 rfl) ?_
  obtain ⟨v1, ev1, hq⟩ := b_s hq
  refine fa_gi (own := RJ0) (ref := "java/lang/String") (k := 1) hx hb hB inB_RJ0 hown hI rfl (by decide) m_1170 (fun _ h9 => h9) ev1 dJ0_coder_7d493_7 ?_
  refine lv_goto (tgt := 14) hx hb dJ0_coder_7d493_10 (by decide) ?_
  obtain ⟨_, ev2, hq⟩ := b_s hq
  exact ge_Ri hx hb hlocks hr (h_yz_eq ev2).2.1 hI hq dJ0_coder_7d493_14

abbrev rm_J0_length_8abf5D : Room := { frames := 3, cells := 0, slots := 0, locals := 140 }
theorem k_J0_length_8abf5D : g_CV yJ0_length_8abf5 cJ0_length_8abf5 1 (some .int) 0 := ⟨⟨m_406, m_11, by decide +kernel⟩, m_404, m_405⟩
set_option maxHeartbeats 4000000 in
set_option maxRecDepth 100000 in
theorem c_J0_length_8abf5D (l : Launch) (V : Nat → Nat) (g : GH) (D : va_G) (cT : Nat → ClassId) (f : GH) (n : Nat) (a0 : Nat) (o : Int32) (hq : p_J0_length_8abf5D V g f a0 = some o) : Met l yJ0_length_8abf5 (Cond.code yJ0_length_8abf5 cJ0_length_8abf5 1 (some .int) :: g_B) rm_J0_length_8abf5D (va_Pc [.ref a0] (g_I V g D cT f n)) (g_Ri o n) 0 0 g_no := by
  refine g_begin (own := RJ0) [.ref a0] [(0, .ref a0)] g_no (fun _ h => h.elim) (by decide) rfl (Nat.le_of_ble_eq_true rfl) rfl ?_
  intro p e s m args below meth c hx hb hr hlocks hin hC hI ls hl
  obtain ⟨hx, hb, hml, hown, hB⟩ := id hC
  obtain ⟨H, hH⟩ : ∃ H, H = s.heap := ⟨_, rfl⟩
  obtain ⟨locs, hlocs⟩ : ∃ L : List Loc, L = [] := ⟨_, rfl⟩
  rw [← hH, ← hlocs] at hI ⊢
  clear hH hlocs
  unfold p_J0_length_8abf5D at hq
  replace hq := (h_me_eq hq).2
  refine lv_aload_n hx hb dJ0_length_8abf5_0 rfl (lv_at hl 0 rfl) ?_
  obtain ⟨v1, ev1, hq⟩ := b_s hq
  refine fa_gr (own := RJ0) (ref := "java/lang/String") (k := 0) hx hb hB inB_RJ0 hown hI rfl (by decide) m_1169 (fun _ h9 => h9) ev1 dJ0_length_8abf5_1 ?_
  obtain ⟨v2, ev2, hq⟩ := b_s hq
  refine fa_al hx hb hI (by decide) ev2 dJ0_length_8abf5_4 ?_
  refine lv_aload_n hx hb dJ0_length_8abf5_5 rfl (lv_at hl 0 rfl) ?_
  obtain ⟨v3, ev3, hq⟩ := b_s hq
  refine gr_i (g_runV (As := []) (rest := [.int v2]) (ci := 0) hC (c_J0_coder_7d493D l V g D cT f n a0 v3 ev3) k_J0_coder_7d493D m_407 rfl rfl ⟨Nat.le_of_ble_eq_true rfl, Nat.le_of_ble_eq_true rfl⟩ hI rfl rfl (h_me_eq ev3).1 rfl hl.1 rfl (Nat.le_of_ble_eq_true rfl) dJ0_length_8abf5_6 ⟨by decide, by decide⟩) hI (fun H locs hI => ?_)
  refine lv_ishr hx hb dJ0_length_8abf5_9 ?_
  exact ge_Ri hx hb hlocks hr rfl hI hq dJ0_length_8abf5_10


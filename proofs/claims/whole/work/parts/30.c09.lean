abbrev rm_J7_copyOf_9075b : Room := { frames := 3, cells := 1, slots := 200, locals := 141 }
theorem k_J7_copyOf_9075b : g_CS yJ7_copyOf_9075b cJ7_copyOf_9075b 3 (some (.array .byte)) 2 := ⟨⟨m_1233, m_27, by decide +kernel⟩, m_1232⟩
set_option maxHeartbeats 4000000 in
set_option maxRecDepth 100000 in
theorem c_J7_copyOf_9075b (l : Launch) (V : Nat → Nat) (g : GH) (D : va_G) (cT : Nat → ClassId) (f : GH) (n : Nat) (a0 : Nat) (a1 : Int32) (o : Nat × GH × Nat) (hq : p_J7_copyOf_9075b V g f n a0 a1 = some o) : Met l yJ7_copyOf_9075b (Cond.code yJ7_copyOf_9075b cJ7_copyOf_9075b 3 (some (.array .byte)) :: g_B) rm_J7_copyOf_9075b (va_Pc [.ref a0, .int a1] (g_I V g D cT f n)) (g_Wr V D cT o.1 o.2.1 o.2.2) 1 200 (g_A V) := by
  refine g_begin (own := RJ7) [.ref a0, .int a1] [(0, .ref a0), (1, .int a1)] (g_A V) (fun _ h => h) (by decide) rfl (Nat.le_of_ble_eq_true rfl) rfl ?_
  intro p e s m args below meth c hx hb hr hlocks hin hC hI ls hl
  obtain ⟨hx, hb, hml, hown, hB⟩ := id hC
  obtain ⟨H, hH⟩ : ∃ H, H = s.heap := ⟨_, rfl⟩
  obtain ⟨locs, hlocs⟩ : ∃ L : List Loc, L = [] := ⟨_, rfl⟩
  rw [← hH, ← hlocs] at hI ⊢
  clear hH hlocs
  unfold p_J7_copyOf_9075b at hq
  refine lv_iload_n hx hb dJ7_copyOf_9075b_0 rfl (lv_at hl 1 rfl) ?_
  refine lv_aload_n hx hb dJ7_copyOf_9075b_1 rfl (lv_at hl 0 rfl) ?_
  obtain ⟨v1, ev1, hq⟩ := b_s hq
  refine fa_al hx hb hI (by decide) ev1 dJ7_copyOf_9075b_2 ?_
  refine lv_icmp_ne (tgt := 14) hx hb dJ7_copyOf_9075b_3 (by decide) (fun c2 => ?_) (fun c2 => ?_)
  · replace hq := i_f c2 hq
    refine lv_iload_n hx hb dJ7_copyOf_9075b_14 rfl (lv_at hl 1 rfl) ?_
    obtain ⟨f3, ef3, hq⟩ := b_s hq
    refine fa_newv (atype := .byte) (M := 200) (t := 1) hx hb hB m_132 rfl (by decide) (by decide) hI (by decide) (by decide) (by decide) ef3 dJ7_copyOf_9075b_15 (fun H locs hI => ?_)
    refine lv_astore_n (lv' := [(2, .ref n), (0, .ref a0), (1, .int a1)]) hx hb dJ7_copyOf_9075b_17 rfl hl (by decide) rfl (fun ls hl => ?_)
    refine lv_aload_n hx hb dJ7_copyOf_9075b_18 rfl (lv_at hl 1 rfl) ?_
    refine lv_iconst (v := (0 : Int32)) hx hb dJ7_copyOf_9075b_19 (by decide) ?_
    refine lv_aload_n hx hb dJ7_copyOf_9075b_20 rfl (lv_at hl 0 rfl) ?_
    refine lv_iconst (v := (0 : Int32)) hx hb dJ7_copyOf_9075b_21 (by decide) ?_
    refine lv_aload_n hx hb dJ7_copyOf_9075b_22 rfl (lv_at hl 1 rfl) ?_
    obtain ⟨v4, ev4, hq⟩ := b_s hq
    refine fa_al hx hb hI (by decide) ev4 dJ7_copyOf_9075b_23 ?_
    refine lv_iload_n hx hb dJ7_copyOf_9075b_24 rfl (lv_at hl 2 rfl) ?_
    obtain ⟨v5, ev5, hq⟩ := b_s hq
    refine gr_i (g_runS (As := [.int v4, .int a1]) (rest := [.int (0 : Int32), .ref n, .int (0 : Int32), .ref a0]) hC (c_J9_min_7cf53 l V g D cT f3 (n + 1) v4 a1 v5 ev5) k_J9_min_7cf53 m_1241 rfl rfl ⟨Nat.le_of_ble_eq_true rfl, Nat.le_of_ble_eq_true rfl⟩ hI rfl hl.1 rfl (Nat.le_of_ble_eq_true rfl) dJ7_copyOf_9075b_25 ⟨by decide, by decide⟩) hI (fun H locs hI => ?_)
    obtain ⟨f6, ef6, hq⟩ := b_s hq
    refine fa_cpb (own := RJ7) hx hb (hml.trans hl.1.symm) hB hown m_1242 m_252 m_251 m_13 hI ef6 (by decide) (by decide) dJ7_copyOf_9075b_28 (fun H locs hI => ?_)
    refine lv_aload_n hx hb dJ7_copyOf_9075b_31 rfl (lv_at hl 0 rfl) ?_
    obtain rfl := Option.some.inj hq
    exact ge_Wr hx hb hlocks hr (Or.inr ⟨_, rfl⟩) hI rfl rfl dJ7_copyOf_9075b_32
  · replace hq := i_t c2 hq
    cases hq

abbrev rm_J5_ensureCapacityInternal_d00df : Room := { frames := 5, cells := 1, slots := 200, locals := 189 }
set_option maxHeartbeats 4000000 in
set_option maxRecDepth 100000 in
theorem c_J5_ensureCapacityInternal_d00df (l : Launch) (V : Nat → Nat) (g : GH) (D : va_G) (cT : Nat → ClassId) (f : GH) (n : Nat) (a0 : Nat) (a1 : Int32) (o : GH × Nat) (hq : p_J5_ensureCapacityInternal_d00df V g f n a0 a1 = some o) : Met l yJ5_ensureCapacityInternal_d00df (Cond.code yJ5_ensureCapacityInternal_d00df cJ5_ensureCapacityInternal_d00df 3 none :: g_B) rm_J5_ensureCapacityInternal_d00df (va_Pc [.ref a0, .int a1] (g_I V g D cT f n)) (g_Wv V D cT o.1 o.2) 1 200 (g_A V) := by
  refine g_begin (own := RJ5) [.ref a0, .int a1] [(0, .ref a0), (1, .int a1)] (g_A V) (fun _ h => h) (by decide) rfl (Nat.le_of_ble_eq_true rfl) rfl ?_
  intro p e s m args below meth c hx hb hr hlocks hin hC hI ls hl
  obtain ⟨hx, hb, hml, hown, hB⟩ := id hC
  obtain ⟨H, hH⟩ : ∃ H, H = s.heap := ⟨_, rfl⟩
  obtain ⟨locs, hlocs⟩ : ∃ L : List Loc, L = [] := ⟨_, rfl⟩
  rw [← hH, ← hlocs] at hI ⊢
  clear hH hlocs
  unfold p_J5_ensureCapacityInternal_d00df at hq
  replace hq := (h_me_eq hq).2
  refine lv_aload_n hx hb dJ5_ensureCapacityInternal_d00df_0 rfl (lv_at hl 0 rfl) ?_
  obtain ⟨v1, ev1, hq⟩ := b_s hq
  refine fa_gr (own := RJ5) (ref := "java/lang/AbstractStringBuilder") (k := 0) hx hb hB inB_RJ4 hown hI rfl (by decide) m_226 (fun _ h9 => h9) ev1 dJ5_ensureCapacityInternal_d00df_1 ?_
  obtain ⟨v2, ev2, hq⟩ := b_s hq
  refine fa_al hx hb hI (by decide) ev2 dJ5_ensureCapacityInternal_d00df_4 ?_
  refine lv_aload_n hx hb dJ5_ensureCapacityInternal_d00df_5 rfl (lv_at hl 0 rfl) ?_
  obtain ⟨v3, ev3, hq⟩ := b_s hq
  refine fa_gi (own := RJ5) (ref := "java/lang/AbstractStringBuilder") (k := 1) hx hb hB inB_RJ4 hown hI rfl (by decide) m_227 (fun _ h9 => h9) ev3 dJ5_ensureCapacityInternal_d00df_6 ?_
  refine lv_ishr hx hb dJ5_ensureCapacityInternal_d00df_9 ?_
  refine lv_istore_n (lv' := [(2, .int (v2 >>> (v3 &&& 31))), (0, .ref a0), (1, .int a1)]) hx hb dJ5_ensureCapacityInternal_d00df_10 rfl hl (by decide) rfl (fun ls hl => ?_)
  refine lv_iload_n hx hb dJ5_ensureCapacityInternal_d00df_11 rfl (lv_at hl 2 rfl) ?_
  refine lv_iload_n hx hb dJ5_ensureCapacityInternal_d00df_12 rfl (lv_at hl 0 rfl) ?_
  refine lv_isub hx hb dJ5_ensureCapacityInternal_d00df_13 ?_
  refine lv_if_le (tgt := 38) hx hb dJ5_ensureCapacityInternal_d00df_14 (by decide) (fun c4 => ?_) (fun c4 => ?_)
  · replace hq := i_t c4 hq
    refine W.widen (k := 1) (n := 200) (by decide) (by decide) ?_
    obtain rfl := Option.some.inj hq
    exact ge_Wv hx hb hlocks hr hI rfl dJ5_ensureCapacityInternal_d00df_38
  · replace hq := i_f c4 hq
    refine lv_aload_n hx hb dJ5_ensureCapacityInternal_d00df_17 rfl (lv_at hl 1 rfl) ?_
    refine lv_aload_n hx hb dJ5_ensureCapacityInternal_d00df_18 rfl (lv_at hl 1 rfl) ?_
    obtain ⟨v5, ev5, hq⟩ := b_s hq
    refine fa_gr (own := RJ5) (ref := "java/lang/AbstractStringBuilder") (k := 0) hx hb hB inB_RJ4 hown hI rfl (by decide) m_226 (fun _ h9 => h9) ev5 dJ5_ensureCapacityInternal_d00df_19 ?_
    refine lv_aload_n hx hb dJ5_ensureCapacityInternal_d00df_22 rfl (lv_at hl 1 rfl) ?_
    refine lv_iload_n hx hb dJ5_ensureCapacityInternal_d00df_23 rfl (lv_at hl 2 rfl) ?_
    obtain ⟨v6, ev6, hq⟩ := b_s hq
    refine gr_i (g_runU (As := [.int a1]) (rest := [.ref v5, .ref a0]) (ci := 1) hC (c_J5_newCapacity_0f7a4 l V g D cT f n a0 a1 v6 ev6) (⟨⟨m_1221, m_9⟩, m_1220, m_2211, mx_1, rfl, by decide, by decide, by decide +kernel⟩ : g_CU "java/lang/StringBuilder" "java/lang/AbstractStringBuilder" (⟨"java/lang/AbstractStringBuilder", "newCapacity", "(I)I"⟩ : MethodName) yJ5_newCapacity_0f7a4 cJ5_newCapacity_0f7a4 6 (some .int) 1) m_1218 rfl rfl ⟨Nat.le_of_ble_eq_true rfl, Nat.le_of_ble_eq_true rfl⟩ hI rfl rfl (h_me_eq ev6).1 rfl hl.1 rfl (Nat.le_of_ble_eq_true rfl) dJ5_ensureCapacityInternal_d00df_24 ⟨by decide, by decide⟩) hI (fun H locs hI => ?_)
    refine lv_aload_n hx hb dJ5_ensureCapacityInternal_d00df_27 rfl (lv_at hl 1 rfl) ?_
    obtain ⟨v7, ev7, hq⟩ := b_s hq
    refine fa_gi (own := RJ5) (ref := "java/lang/AbstractStringBuilder") (k := 1) hx hb hB inB_RJ4 hown hI rfl (by decide) m_227 (fun _ h9 => h9) ev7 dJ5_ensureCapacityInternal_d00df_28 ?_
    refine lv_ishl hx hb dJ5_ensureCapacityInternal_d00df_31 ?_
    obtain ⟨v8, ev8, hq⟩ := b_s hq
    refine gw_r (g_runS (As := [.ref v5, .int (v6 <<< (v7 &&& 31))]) (rest := [.ref a0]) hC (c_J7_copyOf_9075b l V g D cT f n v5 (v6 <<< (v7 &&& 31)) v8 ev8) k_J7_copyOf_9075b m_1231 rfl rfl ⟨Nat.le_of_ble_eq_true rfl, Nat.le_of_ble_eq_true rfl⟩ hI rfl hl.1 rfl (Nat.le_of_ble_eq_true rfl) dJ5_ensureCapacityInternal_d00df_32 ⟨by decide, by decide⟩) hI (fun H locs hI => ?_)
    obtain ⟨f9, ef9, hq⟩ := b_s hq
    refine fa_pt (own := RJ5) (ref := "java/lang/AbstractStringBuilder") (k := 0) hx hb hB inB_RJ4 tyJ4_ok nmJ4 hown hI rfl (by decide) m_226 (fun _ h9 => h9) (by decide) rfl rfl ef9 dJ5_ensureCapacityInternal_d00df_35 (fun H locs hI => ?_)
    obtain rfl := Option.some.inj hq
    exact ge_Wv hx hb hlocks hr hI rfl dJ5_ensureCapacityInternal_d00df_38

abbrev rm_J5_isLatin1_aae02 : Room := { frames := 2, cells := 0, slots := 0, locals := 120 }
set_option maxHeartbeats 4000000 in
set_option maxRecDepth 100000 in
theorem c_J5_isLatin1_aae02 (l : Launch) (V : Nat → Nat) (g : GH) (D : va_G) (cT : Nat → ClassId) (f : GH) (n : Nat) (a0 : Nat) (o : Int32) (hq : p_J5_isLatin1_aae02 V g f a0 = some o) : Met l yJ5_isLatin1_aae02 (Cond.code yJ5_isLatin1_aae02 cJ5_isLatin1_aae02 1 (some .boolean) :: g_B) rm_J5_isLatin1_aae02 (va_Pc [.ref a0] (g_I V g D cT f n)) (g_Ri o n) 0 0 g_no := by
  refine g_begin (own := RJ5) [.ref a0] [(0, .ref a0)] g_no (fun _ h => h.elim) (by decide) rfl (Nat.le_of_ble_eq_true rfl) rfl ?_
  intro p e s m args below meth c hx hb hr hlocks hin hC hI ls hl
  obtain ⟨hx, hb, hml, hown, hB⟩ := id hC
  obtain ⟨H, hH⟩ : ∃ H, H = s.heap := ⟨_, rfl⟩
  obtain ⟨locs, hlocs⟩ : ∃ L : List Loc, L = [] := ⟨_, rfl⟩
  rw [← hH, ← hlocs] at hI ⊢
  clear hH hlocs
  unfold p_J5_isLatin1_aae02 at hq
  replace hq := (h_me_eq hq).2
  refine fs_gs (i := 18) hx hb hown hI rfl (hB _ m_217) (fun _ h9 => h9) dJ5_isLatin1_aae02_0 ?_
  refine lv_if_eq (tgt := 17) hx hb dJ5_isLatin1_aae02_3 (by decide) (fun c => absurd c (by decide)) (fun _ => ?_)
  refine lv_aload_n hx hb dJ5_isLatin1_aae02_6 rfl (lv_at hl 0 rfl) ?_
  obtain ⟨v1, ev1, hq⟩ := b_s hq
  refine fa_gi (own := RJ5) (ref := "java/lang/AbstractStringBuilder") (k := 1) hx hb hB inB_RJ4 hown hI rfl (by decide) m_227 (fun _ h9 => h9) ev1 dJ5_isLatin1_aae02_7 ?_
  refine lv_if_ne (tgt := 17) hx hb dJ5_isLatin1_aae02_10 (by decide) (fun c2 => ?_) (fun c2 => ?_)
  · replace hq := i_f c2 hq
    refine lv_iconst (v := (0 : Int32)) hx hb dJ5_isLatin1_aae02_17 (by decide) ?_
    exact ge_Ri hx hb hlocks hr (by decide +kernel) hI hq dJ5_isLatin1_aae02_18
  · replace hq := i_t c2 hq
    refine lv_iconst (v := (1 : Int32)) hx hb dJ5_isLatin1_aae02_13 (by decide) ?_
    refine lv_goto (tgt := 18) hx hb dJ5_isLatin1_aae02_14 (by decide) ?_
    exact ge_Ri hx hb hlocks hr (by decide +kernel) hI hq dJ5_isLatin1_aae02_18

abbrev rm_J6_getChars_ba4f3 : Room := { frames := 2, cells := 0, slots := 0, locals := 120 }
theorem k_J6_getChars_ba4f3 : g_CS yJ6_getChars_ba4f3 cJ6_getChars_ba4f3 7 (some .int) 3 := ⟨⟨m_1310, m_28, by decide +kernel⟩, m_1309⟩
set_option maxHeartbeats 4000000 in
set_option maxRecDepth 100000 in
theorem c_J6_getChars_ba4f3 (l : Launch) (V : Nat → Nat) (g : GH) (D : va_G) (cT : Nat → ClassId) (f : GH) (n : Nat) (a0 : Int32) (a1 : Int32) (a2 : Nat) (o : Int32 × GH) (hq : p_J6_getChars_ba4f3 V g f a0 a1 a2 = some o) : Met l yJ6_getChars_ba4f3 (Cond.code yJ6_getChars_ba4f3 cJ6_getChars_ba4f3 7 (some .int) :: g_B) rm_J6_getChars_ba4f3 (va_Pc [.int a0, .int a1, .ref a2] (g_I V g D cT f n)) (g_Wi V D cT o.1 o.2 n) 0 0 (g_A V) := by
  refine g_begin (own := RJ6) [.int a0, .int a1, .ref a2] [(0, .int a0), (1, .int a1), (2, .ref a2)] (g_A V) (fun _ h => h) (by decide) rfl (Nat.le_of_ble_eq_true rfl) rfl ?_
  intro p e s m args below meth c hx hb hr hlocks hin hC hI ls hl
  obtain ⟨hx, hb, hml, hown, hB⟩ := id hC
  obtain ⟨H, hH⟩ : ∃ H, H = s.heap := ⟨_, rfl⟩
  obtain ⟨locs, hlocs⟩ : ∃ L : List Loc, L = [] := ⟨_, rfl⟩
  rw [← hH, ← hlocs] at hI ⊢
  clear hH hlocs
  unfold p_J6_getChars_ba4f3 at hq
  refine lv_iload_n hx hb dJ6_getChars_ba4f3_0 rfl (lv_at hl 1 rfl) ?_
  refine lv_istore (lv' := [(5, .int a1), (0, .int a0), (1, .int a1), (2, .ref a2)]) hx hb dJ6_getChars_ba4f3_1 hl (by decide) rfl (fun ls hl => ?_)
  refine lv_iload_n hx hb dJ6_getChars_ba4f3_3 rfl (lv_at hl 1 rfl) ?_
  have hj12 : ∀ (x0 : Int32) (x2 : Nat) (x5 : Int32) (t0 : Int32) (f : GH) (H : Heap) (locs : List Loc) (ls : Array Slot), g_at (g_A V) V g D cT f n s H locs → lv_has ls 7 [(0, .int x0), (2, .ref x2), (5, .int x5)] → p_J6_getChars_ba4f3_j12 V g x0 x2 x5 t0 f = some o → W p l e rm_J6_getChars_ba4f3 s m args below meth c H locs 0 0 (MQ below (g_Wi V D cT o.1 o.2 n) args s 0 0 (g_A V)) (F0 m 12 ls [.int t0]) := by
    intro x0 x2 x5 t0 f H locs ls hI hl hq
    unfold p_J6_getChars_ba4f3_j12 at hq
    refine lv_istore (lv' := [(6, .int t0), (0, .int x0), (2, .ref x2), (5, .int x5)]) hx hb dJ6_getChars_ba4f3_12 hl (by decide) rfl (fun ls hl => ?_)
    refine lv_iload hx hb dJ6_getChars_ba4f3_14 (lv_at hl 0 rfl) ?_
    refine lv_if_ne (tgt := 22) hx hb dJ6_getChars_ba4f3_16 (by decide) (fun c1 => ?_) (fun c1 => ?_)
    · replace hq := i_f c1 hq
      have hl22 : ∀ (K72 : Int32 → Nat → Int32 → Int32 → GH → Option (Int32 × GH)) (hK72 : ∀ (x0 : Int32) (x2 : Nat) (x5 : Int32) (x6 : Int32) (f : GH) (H : Heap) (locs : List Loc) (ls : Array Slot), g_at (g_A V) V g D cT f n s H locs → lv_has ls 7 [(0, .int x0), (2, .ref x2), (5, .int x5), (6, .int x6)] → K72 x0 x2 x5 x6 f = some o → W p l e rm_J6_getChars_ba4f3 s m args below meth c H locs 0 0 (MQ below (g_Wi V D cT o.1 o.2 n) args s 0 0 (g_A V)) (F0 m 72 ls [])) (N : Nat) (x0 : Int32) (x2 : Nat) (x5 : Int32) (x6 : Int32) (f : GH) (H : Heap) (locs : List Loc) (ls : Array Slot), g_at (g_A V) V g D cT f n s H locs → lv_has ls 7 [(0, .int x0), (2, .ref x2), (5, .int x5), (6, .int x6)] → p_J6_getChars_ba4f3_l22 V g K72 N x0 x2 x5 x6 f = some o → W p l e rm_J6_getChars_ba4f3 s m args below meth c H locs 0 0 (MQ below (g_Wi V D cT o.1 o.2 n) args s 0 0 (g_A V)) (F0 m 22 ls []) := by
        intro K72 hK72 N
        induction N with
        | zero =>
          intro x0 x2 x5 x6 f H locs ls hI hl hq
          rw [p_J6_getChars_ba4f3_l22] at hq
          cases hq
        | succ N ih =>
          intro x0 x2 x5 x6 f H locs ls hI hl hq
          rw [p_J6_getChars_ba4f3_l22] at hq
          refine lv_iload_n hx hb dJ6_getChars_ba4f3_22 rfl (lv_at hl 0 rfl) ?_
          refine lv_bipush (v := (-100 : Int32)) hx hb dJ6_getChars_ba4f3_23 (by decide) ?_
          refine lv_icmp_gt (tgt := 72) hx hb dJ6_getChars_ba4f3_25 (by decide) (fun c2 => ?_) (fun c2 => ?_)
          · replace hq := i_t c2 hq
            exact hK72 x0 x2 x5 x6 f H locs ls hI (lv_sub hl [0, 1, 2, 3] rfl) hq
          · replace hq := i_f c2 hq
            refine lv_iload_n hx hb dJ6_getChars_ba4f3_28 rfl (lv_at hl 0 rfl) ?_
            refine lv_bipush (v := (100 : Int32)) hx hb dJ6_getChars_ba4f3_29 (by decide) ?_
            refine lv_idiv hx hb dJ6_getChars_ba4f3_31 (by decide) ?_
            refine lv_istore_n (lv' := [(3, .int (x0 / (100 : Int32))), (0, .int x0), (2, .ref x2), (5, .int x5), (6, .int x6)]) hx hb dJ6_getChars_ba4f3_32 rfl hl (by decide) rfl (fun ls hl => ?_)
            refine lv_iload_n hx hb dJ6_getChars_ba4f3_33 rfl (lv_at hl 0 rfl) ?_
            refine lv_bipush (v := (100 : Int32)) hx hb dJ6_getChars_ba4f3_34 (by decide) ?_
            refine lv_imul hx hb dJ6_getChars_ba4f3_36 ?_
            refine lv_iload_n hx hb dJ6_getChars_ba4f3_37 rfl (lv_at hl 1 rfl) ?_
            refine lv_isub hx hb dJ6_getChars_ba4f3_38 ?_
            refine lv_istore (lv' := [(4, .int (((x0 / (100 : Int32)) * (100 : Int32)) - x0)), (3, .int (x0 / (100 : Int32))), (0, .int x0), (2, .ref x2), (5, .int x5), (6, .int x6)]) hx hb dJ6_getChars_ba4f3_39 hl (by decide) rfl (fun ls hl => ?_)
            refine lv_iload_n hx hb dJ6_getChars_ba4f3_41 rfl (lv_at hl 1 rfl) ?_
            refine lv_istore_n (lv' := [(0, .int (x0 / (100 : Int32))), (4, .int (((x0 / (100 : Int32)) * (100 : Int32)) - x0)), (3, .int (x0 / (100 : Int32))), (2, .ref x2), (5, .int x5), (6, .int x6)]) hx hb dJ6_getChars_ba4f3_42 rfl hl (by decide) rfl (fun ls hl => ?_)
            refine lv_aload_n hx hb dJ6_getChars_ba4f3_43 rfl (lv_at hl 3 rfl) ?_
            refine lv_iinc (v := x5 + (-1 : Int32)) (lv' := [(5, .int (x5 + (-1 : Int32))), (0, .int (x0 / (100 : Int32))), (4, .int (((x0 / (100 : Int32)) * (100 : Int32)) - x0)), (3, .int (x0 / (100 : Int32))), (2, .ref x2), (6, .int x6)]) hx hb dJ6_getChars_ba4f3_44 hl (k := 4) rfl rfl (by decide) rfl (fun ls hl => ?_)
            refine lv_iload hx hb dJ6_getChars_ba4f3_47 (lv_at hl 0 rfl) ?_
            refine fs_gs (i := 16) hx hb hown hI rfl (hB _ m_1311) (fun _ h9 => h9) dJ6_getChars_ba4f3_49 ?_
            refine lv_iload hx hb dJ6_getChars_ba4f3_52 (lv_at hl 2 rfl) ?_
            obtain ⟨v3, ev3, hq⟩ := b_s hq
            refine fs_lb hx hb hI ev3 dJ6_getChars_ba4f3_54 ?_
            obtain ⟨f4, ef4, hq⟩ := b_s hq
            refine fa_sb hx hb hI ef4 dJ6_getChars_ba4f3_55 (fun H locs hI => ?_)
            refine lv_aload_n hx hb dJ6_getChars_ba4f3_56 rfl (lv_at hl 4 rfl) ?_
            refine lv_iinc (v := (x5 + (-1 : Int32)) + (-1 : Int32)) (lv' := [(5, .int ((x5 + (-1 : Int32)) + (-1 : Int32))), (0, .int (x0 / (100 : Int32))), (4, .int (((x0 / (100 : Int32)) * (100 : Int32)) - x0)), (3, .int (x0 / (100 : Int32))), (2, .ref x2), (6, .int x6)]) hx hb dJ6_getChars_ba4f3_57 hl (k := 0) rfl rfl (by decide) rfl (fun ls hl => ?_)
            refine lv_iload hx hb dJ6_getChars_ba4f3_60 (lv_at hl 0 rfl) ?_
            refine fs_gs (i := 17) hx hb hown hI rfl (hB _ m_1313) (fun _ h9 => h9) dJ6_getChars_ba4f3_62 ?_
            refine lv_iload hx hb dJ6_getChars_ba4f3_65 (lv_at hl 2 rfl) ?_
            obtain ⟨v5, ev5, hq⟩ := b_s hq
            refine fs_lb hx hb hI ev5 dJ6_getChars_ba4f3_67 ?_
            obtain ⟨f6, ef6, hq⟩ := b_s hq
            refine fa_sb hx hb hI ef6 dJ6_getChars_ba4f3_68 (fun H locs hI => ?_)
            refine lv_goto (tgt := 22) hx hb dJ6_getChars_ba4f3_69 (by decide) ?_
            exact ih (x0 / (100 : Int32)) x2 ((x5 + (-1 : Int32)) + (-1 : Int32)) x6 f6 H locs ls hI (lv_sub hl [1, 4, 0, 5] rfl) hq
      refine hl22 _ ?_ FU x0 x2 x5 t0 f H locs ls hI (lv_sub hl [1, 2, 3, 0] rfl) hq
      · intro x0 x2 x5 x6 f H locs ls hI hl hq
        refine lv_aload_n hx hb dJ6_getChars_ba4f3_72 rfl (lv_at hl 1 rfl) ?_
        refine lv_iinc (v := x5 + (-1 : Int32)) (lv' := [(5, .int (x5 + (-1 : Int32))), (0, .int x0), (2, .ref x2), (6, .int x6)]) hx hb dJ6_getChars_ba4f3_73 hl (k := 2) rfl rfl (by decide) rfl (fun ls hl => ?_)
        refine lv_iload hx hb dJ6_getChars_ba4f3_76 (lv_at hl 0 rfl) ?_
        refine fs_gs (i := 16) hx hb hown hI rfl (hB _ m_1311) (fun _ h9 => h9) dJ6_getChars_ba4f3_78 ?_
        refine lv_iload_n hx hb dJ6_getChars_ba4f3_81 rfl (lv_at hl 1 rfl) ?_
        refine lv_ineg hx hb dJ6_getChars_ba4f3_82 ?_
        obtain ⟨v7, ev7, hq⟩ := b_s hq
        refine fs_lb hx hb hI ev7 dJ6_getChars_ba4f3_83 ?_
        obtain ⟨f8, ef8, hq⟩ := b_s hq
        refine fa_sb hx hb hI ef8 dJ6_getChars_ba4f3_84 (fun H locs hI => ?_)
        refine lv_iload_n hx hb dJ6_getChars_ba4f3_85 rfl (lv_at hl 1 rfl) ?_
        refine lv_bipush (v := (-9 : Int32)) hx hb dJ6_getChars_ba4f3_86 (by decide) ?_
        have hj104 : ∀ (x2 : Nat) (x5 : Int32) (x6 : Int32) (f : GH) (H : Heap) (locs : List Loc) (ls : Array Slot), g_at (g_A V) V g D cT f n s H locs → lv_has ls 7 [(2, .ref x2), (5, .int x5), (6, .int x6)] → p_J6_getChars_ba4f3_j104 V g x2 x5 x6 f = some o → W p l e rm_J6_getChars_ba4f3 s m args below meth c H locs 0 0 (MQ below (g_Wi V D cT o.1 o.2 n) args s 0 0 (g_A V)) (F0 m 104 ls []) := by
          intro x2 x5 x6 f H locs ls hI hl hq
          unfold p_J6_getChars_ba4f3_j104 at hq
          refine lv_iload hx hb dJ6_getChars_ba4f3_104 (lv_at hl 2 rfl) ?_
          refine lv_if_eq (tgt := 118) hx hb dJ6_getChars_ba4f3_106 (by decide) (fun c9 => ?_) (fun c9 => ?_)
          · replace hq := i_t c9 hq
            refine lv_iload hx hb dJ6_getChars_ba4f3_118 (lv_at hl 1 rfl) ?_
            exact ge_Wi hx hb hlocks hr rfl hI (congrArg (fun z => z.1) (Option.some.inj hq)) (congrArg (fun z => z.2) (Option.some.inj hq)) dJ6_getChars_ba4f3_120
          · replace hq := i_f c9 hq
            refine lv_aload_n hx hb dJ6_getChars_ba4f3_109 rfl (lv_at hl 0 rfl) ?_
            refine lv_iinc (v := x5 + (-1 : Int32)) (lv' := [(5, .int (x5 + (-1 : Int32))), (2, .ref x2), (6, .int x6)]) hx hb dJ6_getChars_ba4f3_110 hl (k := 1) rfl rfl (by decide) rfl (fun ls hl => ?_)
            refine lv_iload hx hb dJ6_getChars_ba4f3_113 (lv_at hl 0 rfl) ?_
            refine lv_bipush (v := (45 : Int32)) hx hb dJ6_getChars_ba4f3_115 (by decide) ?_
            obtain ⟨f10, ef10, hq⟩ := b_s hq
            refine fa_sb hx hb hI ef10 dJ6_getChars_ba4f3_117 (fun H locs hI => ?_)
            refine lv_iload hx hb dJ6_getChars_ba4f3_118 (lv_at hl 0 rfl) ?_
            exact ge_Wi hx hb hlocks hr rfl hI (congrArg (fun z => z.1) (Option.some.inj hq)) (congrArg (fun z => z.2) (Option.some.inj hq)) dJ6_getChars_ba4f3_120
        refine lv_icmp_ge (tgt := 104) hx hb dJ6_getChars_ba4f3_88 (by decide) (fun c11 => ?_) (fun c11 => ?_)
        · replace hq := i_t c11 hq
          exact hj104 x2 (x5 + (-1 : Int32)) x6 f8 H locs ls hI (lv_sub hl [2, 0, 3] rfl) hq
        · replace hq := i_f c11 hq
          refine lv_aload_n hx hb dJ6_getChars_ba4f3_91 rfl (lv_at hl 2 rfl) ?_
          refine lv_iinc (v := (x5 + (-1 : Int32)) + (-1 : Int32)) (lv' := [(5, .int ((x5 + (-1 : Int32)) + (-1 : Int32))), (0, .int x0), (2, .ref x2), (6, .int x6)]) hx hb dJ6_getChars_ba4f3_92 hl (k := 0) rfl rfl (by decide) rfl (fun ls hl => ?_)
          refine lv_iload hx hb dJ6_getChars_ba4f3_95 (lv_at hl 0 rfl) ?_
          refine fs_gs (i := 17) hx hb hown hI rfl (hB _ m_1313) (fun _ h9 => h9) dJ6_getChars_ba4f3_97 ?_
          refine lv_iload_n hx hb dJ6_getChars_ba4f3_100 rfl (lv_at hl 1 rfl) ?_
          refine lv_ineg hx hb dJ6_getChars_ba4f3_101 ?_
          obtain ⟨v12, ev12, hq⟩ := b_s hq
          refine fs_lb hx hb hI ev12 dJ6_getChars_ba4f3_102 ?_
          obtain ⟨f13, ef13, hq⟩ := b_s hq
          refine fa_sb hx hb hI ef13 dJ6_getChars_ba4f3_103 (fun H locs hI => ?_)
          exact hj104 x2 ((x5 + (-1 : Int32)) + (-1 : Int32)) x6 f13 H locs ls hI (lv_sub hl [2, 0, 3] rfl) hq
    · replace hq := i_t c1 hq
      refine lv_iload_n hx hb dJ6_getChars_ba4f3_19 rfl (lv_at hl 1 rfl) ?_
      refine lv_ineg hx hb dJ6_getChars_ba4f3_20 ?_
      refine lv_istore_n (lv' := [(0, .int (-x0)), (6, .int t0), (2, .ref x2), (5, .int x5)]) hx hb dJ6_getChars_ba4f3_21 rfl hl (by decide) rfl (fun ls hl => ?_)
      have hl22 : ∀ (K72 : Int32 → Nat → Int32 → Int32 → GH → Option (Int32 × GH)) (hK72 : ∀ (x0 : Int32) (x2 : Nat) (x5 : Int32) (x6 : Int32) (f : GH) (H : Heap) (locs : List Loc) (ls : Array Slot), g_at (g_A V) V g D cT f n s H locs → lv_has ls 7 [(0, .int x0), (2, .ref x2), (5, .int x5), (6, .int x6)] → K72 x0 x2 x5 x6 f = some o → W p l e rm_J6_getChars_ba4f3 s m args below meth c H locs 0 0 (MQ below (g_Wi V D cT o.1 o.2 n) args s 0 0 (g_A V)) (F0 m 72 ls [])) (N : Nat) (x0 : Int32) (x2 : Nat) (x5 : Int32) (x6 : Int32) (f : GH) (H : Heap) (locs : List Loc) (ls : Array Slot), g_at (g_A V) V g D cT f n s H locs → lv_has ls 7 [(0, .int x0), (2, .ref x2), (5, .int x5), (6, .int x6)] → p_J6_getChars_ba4f3_l22 V g K72 N x0 x2 x5 x6 f = some o → W p l e rm_J6_getChars_ba4f3 s m args below meth c H locs 0 0 (MQ below (g_Wi V D cT o.1 o.2 n) args s 0 0 (g_A V)) (F0 m 22 ls []) := by
        intro K72 hK72 N
        induction N with
        | zero =>
          intro x0 x2 x5 x6 f H locs ls hI hl hq
          rw [p_J6_getChars_ba4f3_l22] at hq
          cases hq
        | succ N ih =>
          intro x0 x2 x5 x6 f H locs ls hI hl hq
          rw [p_J6_getChars_ba4f3_l22] at hq
          refine lv_iload_n hx hb dJ6_getChars_ba4f3_22 rfl (lv_at hl 0 rfl) ?_
          refine lv_bipush (v := (-100 : Int32)) hx hb dJ6_getChars_ba4f3_23 (by decide) ?_
          refine lv_icmp_gt (tgt := 72) hx hb dJ6_getChars_ba4f3_25 (by decide) (fun c14 => ?_) (fun c14 => ?_)
          · replace hq := i_t c14 hq
            exact hK72 x0 x2 x5 x6 f H locs ls hI (lv_sub hl [0, 1, 2, 3] rfl) hq
          · replace hq := i_f c14 hq
            refine lv_iload_n hx hb dJ6_getChars_ba4f3_28 rfl (lv_at hl 0 rfl) ?_
            refine lv_bipush (v := (100 : Int32)) hx hb dJ6_getChars_ba4f3_29 (by decide) ?_
            refine lv_idiv hx hb dJ6_getChars_ba4f3_31 (by decide) ?_
            refine lv_istore_n (lv' := [(3, .int (x0 / (100 : Int32))), (0, .int x0), (2, .ref x2), (5, .int x5), (6, .int x6)]) hx hb dJ6_getChars_ba4f3_32 rfl hl (by decide) rfl (fun ls hl => ?_)
            refine lv_iload_n hx hb dJ6_getChars_ba4f3_33 rfl (lv_at hl 0 rfl) ?_
            refine lv_bipush (v := (100 : Int32)) hx hb dJ6_getChars_ba4f3_34 (by decide) ?_
            refine lv_imul hx hb dJ6_getChars_ba4f3_36 ?_
            refine lv_iload_n hx hb dJ6_getChars_ba4f3_37 rfl (lv_at hl 1 rfl) ?_
            refine lv_isub hx hb dJ6_getChars_ba4f3_38 ?_
            refine lv_istore (lv' := [(4, .int (((x0 / (100 : Int32)) * (100 : Int32)) - x0)), (3, .int (x0 / (100 : Int32))), (0, .int x0), (2, .ref x2), (5, .int x5), (6, .int x6)]) hx hb dJ6_getChars_ba4f3_39 hl (by decide) rfl (fun ls hl => ?_)
            refine lv_iload_n hx hb dJ6_getChars_ba4f3_41 rfl (lv_at hl 1 rfl) ?_
            refine lv_istore_n (lv' := [(0, .int (x0 / (100 : Int32))), (4, .int (((x0 / (100 : Int32)) * (100 : Int32)) - x0)), (3, .int (x0 / (100 : Int32))), (2, .ref x2), (5, .int x5), (6, .int x6)]) hx hb dJ6_getChars_ba4f3_42 rfl hl (by decide) rfl (fun ls hl => ?_)
            refine lv_aload_n hx hb dJ6_getChars_ba4f3_43 rfl (lv_at hl 3 rfl) ?_
            refine lv_iinc (v := x5 + (-1 : Int32)) (lv' := [(5, .int (x5 + (-1 : Int32))), (0, .int (x0 / (100 : Int32))), (4, .int (((x0 / (100 : Int32)) * (100 : Int32)) - x0)), (3, .int (x0 / (100 : Int32))), (2, .ref x2), (6, .int x6)]) hx hb dJ6_getChars_ba4f3_44 hl (k := 4) rfl rfl (by decide) rfl (fun ls hl => ?_)
            refine lv_iload hx hb dJ6_getChars_ba4f3_47 (lv_at hl 0 rfl) ?_
            refine fs_gs (i := 16) hx hb hown hI rfl (hB _ m_1311) (fun _ h9 => h9) dJ6_getChars_ba4f3_49 ?_
            refine lv_iload hx hb dJ6_getChars_ba4f3_52 (lv_at hl 2 rfl) ?_
            obtain ⟨v15, ev15, hq⟩ := b_s hq
            refine fs_lb hx hb hI ev15 dJ6_getChars_ba4f3_54 ?_
            obtain ⟨f16, ef16, hq⟩ := b_s hq
            refine fa_sb hx hb hI ef16 dJ6_getChars_ba4f3_55 (fun H locs hI => ?_)
            refine lv_aload_n hx hb dJ6_getChars_ba4f3_56 rfl (lv_at hl 4 rfl) ?_
            refine lv_iinc (v := (x5 + (-1 : Int32)) + (-1 : Int32)) (lv' := [(5, .int ((x5 + (-1 : Int32)) + (-1 : Int32))), (0, .int (x0 / (100 : Int32))), (4, .int (((x0 / (100 : Int32)) * (100 : Int32)) - x0)), (3, .int (x0 / (100 : Int32))), (2, .ref x2), (6, .int x6)]) hx hb dJ6_getChars_ba4f3_57 hl (k := 0) rfl rfl (by decide) rfl (fun ls hl => ?_)
            refine lv_iload hx hb dJ6_getChars_ba4f3_60 (lv_at hl 0 rfl) ?_
            refine fs_gs (i := 17) hx hb hown hI rfl (hB _ m_1313) (fun _ h9 => h9) dJ6_getChars_ba4f3_62 ?_
            refine lv_iload hx hb dJ6_getChars_ba4f3_65 (lv_at hl 2 rfl) ?_
            obtain ⟨v17, ev17, hq⟩ := b_s hq
            refine fs_lb hx hb hI ev17 dJ6_getChars_ba4f3_67 ?_
            obtain ⟨f18, ef18, hq⟩ := b_s hq
            refine fa_sb hx hb hI ef18 dJ6_getChars_ba4f3_68 (fun H locs hI => ?_)
            refine lv_goto (tgt := 22) hx hb dJ6_getChars_ba4f3_69 (by decide) ?_
            exact ih (x0 / (100 : Int32)) x2 ((x5 + (-1 : Int32)) + (-1 : Int32)) x6 f18 H locs ls hI (lv_sub hl [1, 4, 0, 5] rfl) hq
      refine hl22 _ ?_ FU (-x0) x2 x5 t0 f H locs ls hI (lv_sub hl [0, 2, 3, 1] rfl) hq
      · intro x0 x2 x5 x6 f H locs ls hI hl hq
        refine lv_aload_n hx hb dJ6_getChars_ba4f3_72 rfl (lv_at hl 1 rfl) ?_
        refine lv_iinc (v := x5 + (-1 : Int32)) (lv' := [(5, .int (x5 + (-1 : Int32))), (0, .int x0), (2, .ref x2), (6, .int x6)]) hx hb dJ6_getChars_ba4f3_73 hl (k := 2) rfl rfl (by decide) rfl (fun ls hl => ?_)
        refine lv_iload hx hb dJ6_getChars_ba4f3_76 (lv_at hl 0 rfl) ?_
        refine fs_gs (i := 16) hx hb hown hI rfl (hB _ m_1311) (fun _ h9 => h9) dJ6_getChars_ba4f3_78 ?_
        refine lv_iload_n hx hb dJ6_getChars_ba4f3_81 rfl (lv_at hl 1 rfl) ?_
        refine lv_ineg hx hb dJ6_getChars_ba4f3_82 ?_
        obtain ⟨v19, ev19, hq⟩ := b_s hq
        refine fs_lb hx hb hI ev19 dJ6_getChars_ba4f3_83 ?_
        obtain ⟨f20, ef20, hq⟩ := b_s hq
        refine fa_sb hx hb hI ef20 dJ6_getChars_ba4f3_84 (fun H locs hI => ?_)
        refine lv_iload_n hx hb dJ6_getChars_ba4f3_85 rfl (lv_at hl 1 rfl) ?_
        refine lv_bipush (v := (-9 : Int32)) hx hb dJ6_getChars_ba4f3_86 (by decide) ?_
        have hj104 : ∀ (x2 : Nat) (x5 : Int32) (x6 : Int32) (f : GH) (H : Heap) (locs : List Loc) (ls : Array Slot), g_at (g_A V) V g D cT f n s H locs → lv_has ls 7 [(2, .ref x2), (5, .int x5), (6, .int x6)] → p_J6_getChars_ba4f3_j104 V g x2 x5 x6 f = some o → W p l e rm_J6_getChars_ba4f3 s m args below meth c H locs 0 0 (MQ below (g_Wi V D cT o.1 o.2 n) args s 0 0 (g_A V)) (F0 m 104 ls []) := by
          intro x2 x5 x6 f H locs ls hI hl hq
          unfold p_J6_getChars_ba4f3_j104 at hq
          refine lv_iload hx hb dJ6_getChars_ba4f3_104 (lv_at hl 2 rfl) ?_
          refine lv_if_eq (tgt := 118) hx hb dJ6_getChars_ba4f3_106 (by decide) (fun c21 => ?_) (fun c21 => ?_)
          · replace hq := i_t c21 hq
            refine lv_iload hx hb dJ6_getChars_ba4f3_118 (lv_at hl 1 rfl) ?_
            exact ge_Wi hx hb hlocks hr rfl hI (congrArg (fun z => z.1) (Option.some.inj hq)) (congrArg (fun z => z.2) (Option.some.inj hq)) dJ6_getChars_ba4f3_120
          · replace hq := i_f c21 hq
            refine lv_aload_n hx hb dJ6_getChars_ba4f3_109 rfl (lv_at hl 0 rfl) ?_
            refine lv_iinc (v := x5 + (-1 : Int32)) (lv' := [(5, .int (x5 + (-1 : Int32))), (2, .ref x2), (6, .int x6)]) hx hb dJ6_getChars_ba4f3_110 hl (k := 1) rfl rfl (by decide) rfl (fun ls hl => ?_)
            refine lv_iload hx hb dJ6_getChars_ba4f3_113 (lv_at hl 0 rfl) ?_
            refine lv_bipush (v := (45 : Int32)) hx hb dJ6_getChars_ba4f3_115 (by decide) ?_
            obtain ⟨f22, ef22, hq⟩ := b_s hq
            refine fa_sb hx hb hI ef22 dJ6_getChars_ba4f3_117 (fun H locs hI => ?_)
            refine lv_iload hx hb dJ6_getChars_ba4f3_118 (lv_at hl 0 rfl) ?_
            exact ge_Wi hx hb hlocks hr rfl hI (congrArg (fun z => z.1) (Option.some.inj hq)) (congrArg (fun z => z.2) (Option.some.inj hq)) dJ6_getChars_ba4f3_120
        refine lv_icmp_ge (tgt := 104) hx hb dJ6_getChars_ba4f3_88 (by decide) (fun c23 => ?_) (fun c23 => ?_)
        · replace hq := i_t c23 hq
          exact hj104 x2 (x5 + (-1 : Int32)) x6 f20 H locs ls hI (lv_sub hl [2, 0, 3] rfl) hq
        · replace hq := i_f c23 hq
          refine lv_aload_n hx hb dJ6_getChars_ba4f3_91 rfl (lv_at hl 2 rfl) ?_
          refine lv_iinc (v := (x5 + (-1 : Int32)) + (-1 : Int32)) (lv' := [(5, .int ((x5 + (-1 : Int32)) + (-1 : Int32))), (0, .int x0), (2, .ref x2), (6, .int x6)]) hx hb dJ6_getChars_ba4f3_92 hl (k := 0) rfl rfl (by decide) rfl (fun ls hl => ?_)
          refine lv_iload hx hb dJ6_getChars_ba4f3_95 (lv_at hl 0 rfl) ?_
          refine fs_gs (i := 17) hx hb hown hI rfl (hB _ m_1313) (fun _ h9 => h9) dJ6_getChars_ba4f3_97 ?_
          refine lv_iload_n hx hb dJ6_getChars_ba4f3_100 rfl (lv_at hl 1 rfl) ?_
          refine lv_ineg hx hb dJ6_getChars_ba4f3_101 ?_
          obtain ⟨v24, ev24, hq⟩ := b_s hq
          refine fs_lb hx hb hI ev24 dJ6_getChars_ba4f3_102 ?_
          obtain ⟨f25, ef25, hq⟩ := b_s hq
          refine fa_sb hx hb hI ef25 dJ6_getChars_ba4f3_103 (fun H locs hI => ?_)
          exact hj104 x2 ((x5 + (-1 : Int32)) + (-1 : Int32)) x6 f25 H locs ls hI (lv_sub hl [2, 0, 3] rfl) hq
  refine lv_if_ge (tgt := 11) hx hb dJ6_getChars_ba4f3_4 (by decide) (fun c26 => ?_) (fun c26 => ?_)
  · replace hq := i_t c26 hq
    refine lv_iconst (v := (0 : Int32)) hx hb dJ6_getChars_ba4f3_11 (by decide) ?_
    exact hj12 a0 a2 a1 (0 : Int32) f H locs ls hI (lv_sub hl [1, 3, 0] rfl) hq
  · replace hq := i_f c26 hq
    refine lv_iconst (v := (1 : Int32)) hx hb dJ6_getChars_ba4f3_7 (by decide) ?_
    refine lv_goto (tgt := 12) hx hb dJ6_getChars_ba4f3_8 (by decide) ?_
    exact hj12 a0 a2 a1 (1 : Int32) f H locs ls hI (lv_sub hl [1, 3, 0] rfl) hq

abbrev rm_J6_stringSize_0f7a4 : Room := { frames := 2, cells := 0, slots := 0, locals := 120 }
theorem k_J6_stringSize_0f7a4 : g_CS yJ6_stringSize_0f7a4 cJ6_stringSize_0f7a4 4 (some .int) 1 := ⟨⟨m_1307, m_28, by decide +kernel⟩, m_1306⟩
set_option maxHeartbeats 4000000 in
set_option maxRecDepth 100000 in
theorem c_J6_stringSize_0f7a4 (l : Launch) (V : Nat → Nat) (g : GH) (D : va_G) (cT : Nat → ClassId) (f : GH) (n : Nat) (a0 : Int32) (o : Int32) (hq : p_J6_stringSize_0f7a4 V g f a0 = some o) : Met l yJ6_stringSize_0f7a4 (Cond.code yJ6_stringSize_0f7a4 cJ6_stringSize_0f7a4 4 (some .int) :: g_B) rm_J6_stringSize_0f7a4 (va_Pc [.int a0] (g_I V g D cT f n)) (g_Ri o n) 0 0 g_no := by
  refine g_begin (own := RJ6) [.int a0] [(0, .int a0)] g_no (fun _ h => h.elim) (by decide) rfl (Nat.le_of_ble_eq_true rfl) rfl ?_
  intro p e s m args below meth c hx hb hr hlocks hin hC hI ls hl
  obtain ⟨hx, hb, hml, hown, hB⟩ := id hC
  obtain ⟨H, hH⟩ : ∃ H, H = s.heap := ⟨_, rfl⟩
  obtain ⟨locs, hlocs⟩ : ∃ L : List Loc, L = [] := ⟨_, rfl⟩
  rw [← hH, ← hlocs] at hI ⊢
  clear hH hlocs
  unfold p_J6_stringSize_0f7a4 at hq
  refine lv_iconst (v := (1 : Int32)) hx hb dJ6_stringSize_0f7a4_0 (by decide) ?_
  refine lv_istore_n (lv' := [(1, .int (1 : Int32)), (0, .int a0)]) hx hb dJ6_stringSize_0f7a4_1 rfl hl (by decide) rfl (fun ls hl => ?_)
  refine lv_iload_n hx hb dJ6_stringSize_0f7a4_2 rfl (lv_at hl 1 rfl) ?_
  have hj11 : ∀ (x0 : Int32) (x1 : Int32) (H : Heap) (locs : List Loc) (ls : Array Slot), g_at g_no V g D cT f n s H locs → lv_has ls 4 [(0, .int x0), (1, .int x1)] → p_J6_stringSize_0f7a4_j11 V g f x0 x1 = some o → W p l e rm_J6_stringSize_0f7a4 s m args below meth c H locs 0 0 (MQ below (g_Ri o n) args s 0 0 g_no) (F0 m 11 ls []) := by
    intro x0 x1 H locs ls hI hl hq
    unfold p_J6_stringSize_0f7a4_j11 at hq
    refine lv_bipush (v := (-10 : Int32)) hx hb dJ6_stringSize_0f7a4_11 (by decide) ?_
    refine lv_istore_n (lv' := [(2, .int (-10 : Int32)), (0, .int x0), (1, .int x1)]) hx hb dJ6_stringSize_0f7a4_13 rfl hl (by decide) rfl (fun ls hl => ?_)
    refine lv_iconst (v := (1 : Int32)) hx hb dJ6_stringSize_0f7a4_14 (by decide) ?_
    refine lv_istore_n (lv' := [(3, .int (1 : Int32)), (2, .int (-10 : Int32)), (0, .int x0), (1, .int x1)]) hx hb dJ6_stringSize_0f7a4_15 rfl hl (by decide) rfl (fun ls hl => ?_)
    have hl16 : ∀ (K27 : Int32 → Int32 → Option Int32) (hK27 : ∀ (x1 : Int32) (x3 : Int32) (H : Heap) (locs : List Loc) (ls : Array Slot), g_at g_no V g D cT f n s H locs → lv_has ls 4 [(1, .int x1), (3, .int x3)] → K27 x1 x3 = some o → W p l e rm_J6_stringSize_0f7a4 s m args below meth c H locs 0 0 (MQ below (g_Ri o n) args s 0 0 g_no) (F0 m 27 ls [])) (K42 : Int32 → Option Int32) (hK42 : ∀ (x1 : Int32) (H : Heap) (locs : List Loc) (ls : Array Slot), g_at g_no V g D cT f n s H locs → lv_has ls 4 [(1, .int x1)] → K42 x1 = some o → W p l e rm_J6_stringSize_0f7a4 s m args below meth c H locs 0 0 (MQ below (g_Ri o n) args s 0 0 g_no) (F0 m 42 ls [])) (N : Nat) (x0 : Int32) (x1 : Int32) (x2 : Int32) (x3 : Int32) (H : Heap) (locs : List Loc) (ls : Array Slot), g_at g_no V g D cT f n s H locs → lv_has ls 4 [(0, .int x0), (1, .int x1), (2, .int x2), (3, .int x3)] → p_J6_stringSize_0f7a4_l16 V g f K27 K42 N x0 x1 x2 x3 = some o → W p l e rm_J6_stringSize_0f7a4 s m args below meth c H locs 0 0 (MQ below (g_Ri o n) args s 0 0 g_no) (F0 m 16 ls []) := by
      intro K27 hK27 K42 hK42 N
      induction N with
      | zero =>
        intro x0 x1 x2 x3 H locs ls hI hl hq
        rw [p_J6_stringSize_0f7a4_l16] at hq
        cases hq
      | succ N ih =>
        intro x0 x1 x2 x3 H locs ls hI hl hq
        rw [p_J6_stringSize_0f7a4_l16] at hq
        refine lv_iload_n hx hb dJ6_stringSize_0f7a4_16 rfl (lv_at hl 3 rfl) ?_
        refine lv_bipush (v := (10 : Int32)) hx hb dJ6_stringSize_0f7a4_17 (by decide) ?_
        refine lv_icmp_ge (tgt := 42) hx hb dJ6_stringSize_0f7a4_19 (by decide) (fun c1 => ?_) (fun c1 => ?_)
        · replace hq := i_t c1 hq
          exact hK42 x1 H locs ls hI (lv_sub hl [1] rfl) hq
        · replace hq := i_f c1 hq
          refine lv_iload_n hx hb dJ6_stringSize_0f7a4_22 rfl (lv_at hl 0 rfl) ?_
          refine lv_iload_n hx hb dJ6_stringSize_0f7a4_23 rfl (lv_at hl 2 rfl) ?_
          refine lv_icmp_le (tgt := 31) hx hb dJ6_stringSize_0f7a4_24 (by decide) (fun c2 => ?_) (fun c2 => ?_)
          · replace hq := i_t c2 hq
            refine lv_bipush (v := (10 : Int32)) hx hb dJ6_stringSize_0f7a4_31 (by decide) ?_
            refine lv_iload_n hx hb dJ6_stringSize_0f7a4_33 rfl (lv_at hl 2 rfl) ?_
            refine lv_imul hx hb dJ6_stringSize_0f7a4_34 ?_
            refine lv_istore_n (lv' := [(2, .int ((10 : Int32) * x2)), (0, .int x0), (1, .int x1), (3, .int x3)]) hx hb dJ6_stringSize_0f7a4_35 rfl hl (by decide) rfl (fun ls hl => ?_)
            refine lv_iinc (v := x3 + (1 : Int32)) (lv' := [(3, .int (x3 + (1 : Int32))), (2, .int ((10 : Int32) * x2)), (0, .int x0), (1, .int x1)]) hx hb dJ6_stringSize_0f7a4_36 hl (k := 3) rfl rfl (by decide) rfl (fun ls hl => ?_)
            refine lv_goto (tgt := 16) hx hb dJ6_stringSize_0f7a4_39 (by decide) ?_
            exact ih x0 x1 ((10 : Int32) * x2) (x3 + (1 : Int32)) H locs ls hI (lv_sub hl [2, 3, 1, 0] rfl) hq
          · replace hq := i_f c2 hq
            exact hK27 x1 x3 H locs ls hI (lv_sub hl [1, 3] rfl) hq
    refine hl16 _ ?_ _ ?_ FU x0 x1 (-10 : Int32) (1 : Int32) H locs ls hI (lv_sub hl [2, 3, 1, 0] rfl) hq
    · intro x1 x3 H locs ls hI hl hq
      refine lv_iload_n hx hb dJ6_stringSize_0f7a4_27 rfl (lv_at hl 1 rfl) ?_
      refine lv_iload_n hx hb dJ6_stringSize_0f7a4_28 rfl (lv_at hl 0 rfl) ?_
      refine lv_iadd hx hb dJ6_stringSize_0f7a4_29 ?_
      exact ge_Ri hx hb hlocks hr rfl hI hq dJ6_stringSize_0f7a4_30
    · intro x1 H locs ls hI hl hq
      refine lv_bipush (v := (10 : Int32)) hx hb dJ6_stringSize_0f7a4_42 (by decide) ?_
      refine lv_iload_n hx hb dJ6_stringSize_0f7a4_44 rfl (lv_at hl 0 rfl) ?_
      refine lv_iadd hx hb dJ6_stringSize_0f7a4_45 ?_
      exact ge_Ri hx hb hlocks hr rfl hI hq dJ6_stringSize_0f7a4_46
  refine lv_if_lt (tgt := 11) hx hb dJ6_stringSize_0f7a4_3 (by decide) (fun c3 => ?_) (fun c3 => ?_)
  · replace hq := i_t c3 hq
    exact hj11 a0 (1 : Int32) H locs ls hI (lv_sub hl [1, 0] rfl) hq
  · replace hq := i_f c3 hq
    refine lv_iconst (v := (0 : Int32)) hx hb dJ6_stringSize_0f7a4_6 (by decide) ?_
    refine lv_istore_n (lv' := [(1, .int (0 : Int32)), (0, .int a0)]) hx hb dJ6_stringSize_0f7a4_7 rfl hl (by decide) rfl (fun ls hl => ?_)
    refine lv_iload_n hx hb dJ6_stringSize_0f7a4_8 rfl (lv_at hl 1 rfl) ?_
    refine lv_ineg hx hb dJ6_stringSize_0f7a4_9 ?_
    refine lv_istore_n (lv' := [(0, .int (-a0)), (1, .int (0 : Int32))]) hx hb dJ6_stringSize_0f7a4_10 rfl hl (by decide) rfl (fun ls hl => ?_)
    exact hj11 (-a0) (0 : Int32) H locs ls hI (lv_sub hl [0, 1] rfl) hq

abbrev rm_J5_append_c97b9 : Room := { frames := 6, cells := 1, slots := 200, locals := 211 }
set_option maxHeartbeats 4000000 in
set_option maxRecDepth 100000 in
theorem c_J5_append_c97b9 (l : Launch) (V : Nat → Nat) (g : GH) (D : va_G) (cT : Nat → ClassId) (f : GH) (n : Nat) (a0 : Nat) (a1 : Int32) (o : Nat × GH × Nat) (hq : p_J5_append_c97b9 V g f n a0 a1 = some o) : Met l yJ5_append_c97b9 (Cond.code yJ5_append_c97b9 cJ5_append_c97b9 4 (some (.object "java/lang/AbstractStringBuilder")) :: g_B) rm_J5_append_c97b9 (va_Pc [.ref a0, .int a1] (g_I V g D cT f n)) (g_Wr V D cT o.1 o.2.1 o.2.2) 1 200 (g_A V) := by
  refine g_begin (own := RJ5) [.ref a0, .int a1] [(0, .ref a0), (1, .int a1)] (g_A V) (fun _ h => h) (by decide) rfl (Nat.le_of_ble_eq_true rfl) rfl ?_
  intro p e s m args below meth c hx hb hr hlocks hin hC hI ls hl
  obtain ⟨hx, hb, hml, hown, hB⟩ := id hC
  obtain ⟨H, hH⟩ : ∃ H, H = s.heap := ⟨_, rfl⟩
  obtain ⟨locs, hlocs⟩ : ∃ L : List Loc, L = [] := ⟨_, rfl⟩
  rw [← hH, ← hlocs] at hI ⊢
  clear hH hlocs
  unfold p_J5_append_c97b9 at hq
  replace hq := (h_me_eq hq).2
  refine lv_aload_n hx hb dJ5_append_c97b9_0 rfl (lv_at hl 0 rfl) ?_
  obtain ⟨v1, ev1, hq⟩ := b_s hq
  refine fa_gi (own := RJ5) (ref := "java/lang/AbstractStringBuilder") (k := 3) hx hb hB inB_RJ4 hown hI rfl (by decide) m_230 (fun _ h9 => h9) ev1 dJ5_append_c97b9_1 ?_
  refine lv_istore_n (lv' := [(2, .int v1), (0, .ref a0), (1, .int a1)]) hx hb dJ5_append_c97b9_4 rfl hl (by decide) rfl (fun ls hl => ?_)
  refine lv_iload_n hx hb dJ5_append_c97b9_5 rfl (lv_at hl 0 rfl) ?_
  refine lv_iload_n hx hb dJ5_append_c97b9_6 rfl (lv_at hl 2 rfl) ?_
  obtain ⟨v2, ev2, hq⟩ := b_s hq
  refine gr_i (g_runS (As := [.int a1]) (rest := [.int v1]) hC (c_J6_stringSize_0f7a4 l V g D cT f n a1 v2 ev2) k_J6_stringSize_0f7a4 m_1305 rfl rfl ⟨Nat.le_of_ble_eq_true rfl, Nat.le_of_ble_eq_true rfl⟩ hI rfl hl.1 rfl (Nat.le_of_ble_eq_true rfl) dJ5_append_c97b9_7 ⟨by decide, by decide⟩) hI (fun H locs hI => ?_)
  refine lv_iadd hx hb dJ5_append_c97b9_10 ?_
  refine lv_istore_n (lv' := [(3, .int (v1 + v2)), (2, .int v1), (0, .ref a0), (1, .int a1)]) hx hb dJ5_append_c97b9_11 rfl hl (by decide) rfl (fun ls hl => ?_)
  refine lv_aload_n hx hb dJ5_append_c97b9_12 rfl (lv_at hl 2 rfl) ?_
  refine lv_iload_n hx hb dJ5_append_c97b9_13 rfl (lv_at hl 0 rfl) ?_
  obtain ⟨v3, ev3, hq⟩ := b_s hq
  refine gw_v (g_runU (As := [.int (v1 + v2)]) (rest := []) (ci := 1) hC (c_J5_ensureCapacityInternal_d00df l V g D cT f n a0 (v1 + v2) v3 ev3) (⟨⟨m_1217, m_9⟩, m_1216, m_2210, mx_0, rfl, by decide, by decide, by decide +kernel⟩ : g_CU "java/lang/StringBuilder" "java/lang/AbstractStringBuilder" (⟨"java/lang/AbstractStringBuilder", "ensureCapacityInternal", "(I)V"⟩ : MethodName) yJ5_ensureCapacityInternal_d00df cJ5_ensureCapacityInternal_d00df 3 none 1) m_1214 rfl rfl ⟨Nat.le_of_ble_eq_true rfl, Nat.le_of_ble_eq_true rfl⟩ hI rfl rfl (h_me_eq ev3).1 rfl hl.1 rfl (Nat.le_of_ble_eq_true rfl) dJ5_append_c97b9_14 ⟨by decide, by decide⟩) hI (fun H locs hI => ?_)
  refine lv_aload_n hx hb dJ5_append_c97b9_17 rfl (lv_at hl 2 rfl) ?_
  obtain ⟨v4, ev4, hq⟩ := b_s hq
  refine gr_i (g_runU (As := []) (rest := []) (ci := 1) hC (c_J5_isLatin1_aae02 l V g D cT v3.1 v3.2 a0 v4 ev4) (⟨⟨m_1247, m_9⟩, m_1244, m_1245, m_1246, rfl, by decide, by decide, by decide +kernel⟩ : g_CU "java/lang/StringBuilder" "java/lang/AbstractStringBuilder" (⟨"java/lang/AbstractStringBuilder", "isLatin1", "()Z"⟩ : MethodName) yJ5_isLatin1_aae02 cJ5_isLatin1_aae02 1 (some .boolean) 0) m_1243 rfl rfl ⟨Nat.le_of_ble_eq_true rfl, Nat.le_of_ble_eq_true rfl⟩ hI rfl rfl (h_me_eq ev4).1 rfl hl.1 rfl (Nat.le_of_ble_eq_true rfl) dJ5_append_c97b9_18 ⟨by decide, by decide⟩) hI (fun H locs hI => ?_)
  refine lv_if_eq (tgt := 37) hx hb dJ5_append_c97b9_21 (by decide) (fun c5 => ?_) (fun c5 => ?_)
  · replace hq := i_t c5 hq
    cases hq
  · replace hq := i_f c5 hq
    refine lv_iload_n hx hb dJ5_append_c97b9_24 rfl (lv_at hl 3 rfl) ?_
    refine lv_iload_n hx hb dJ5_append_c97b9_25 rfl (lv_at hl 0 rfl) ?_
    refine lv_aload_n hx hb dJ5_append_c97b9_26 rfl (lv_at hl 2 rfl) ?_
    obtain ⟨v6, ev6, hq⟩ := b_s hq
    refine fa_gr (own := RJ5) (ref := "java/lang/AbstractStringBuilder") (k := 0) hx hb hB inB_RJ4 hown hI rfl (by decide) m_226 (fun _ h9 => h9) ev6 dJ5_append_c97b9_27 ?_
    obtain ⟨v7, ev7, hq⟩ := b_s hq
    refine gw_i (g_runS (As := [.int a1, .int (v1 + v2), .ref v6]) (rest := []) hC (c_J6_getChars_ba4f3 l V g D cT v3.1 v3.2 a1 (v1 + v2) v6 v7 ev7) k_J6_getChars_ba4f3 m_1308 rfl rfl ⟨Nat.le_of_ble_eq_true rfl, Nat.le_of_ble_eq_true rfl⟩ hI rfl hl.1 rfl (Nat.le_of_ble_eq_true rfl) dJ5_append_c97b9_30 ⟨by decide, by decide⟩) hI (fun H locs hI => ?_)
    refine lv_pop hx hb dJ5_append_c97b9_33 rfl ?_
    refine lv_goto (tgt := 48) hx hb dJ5_append_c97b9_34 (by decide) ?_
    refine lv_aload_n hx hb dJ5_append_c97b9_48 rfl (lv_at hl 2 rfl) ?_
    refine lv_iload_n hx hb dJ5_append_c97b9_49 rfl (lv_at hl 0 rfl) ?_
    obtain ⟨f8, ef8, hq⟩ := b_s hq
    refine fa_pt (own := RJ5) (ref := "java/lang/AbstractStringBuilder") (k := 3) hx hb hB inB_RJ4 tyJ4_ok nmJ4 hown hI rfl (by decide) m_230 (fun _ h9 => h9) (by decide) rfl rfl ef8 dJ5_append_c97b9_50 (fun H locs hI => ?_)
    refine lv_aload_n hx hb dJ5_append_c97b9_53 rfl (lv_at hl 2 rfl) ?_
    obtain rfl := Option.some.inj hq
    exact ge_Wr hx hb hlocks hr (Or.inl ⟨_, rfl⟩) hI rfl rfl dJ5_append_c97b9_54

abbrev rm_J4_append_bf812 : Room := { frames := 7, cells := 1, slots := 200, locals := 234 }
theorem k_J4_append_bf812 : g_CV yJ4_append_bf812 cJ4_append_bf812 2 (some (.object "java/lang/StringBuilder")) 1 := ⟨⟨m_1301, m_10, by decide +kernel⟩, m_1299, m_1300⟩
set_option maxHeartbeats 4000000 in
set_option maxRecDepth 100000 in
theorem c_J4_append_bf812 (l : Launch) (V : Nat → Nat) (g : GH) (D : va_G) (cT : Nat → ClassId) (f : GH) (n : Nat) (a0 : Nat) (a1 : Int32) (o : Nat × GH × Nat) (hq : p_J4_append_bf812 V g f n a0 a1 = some o) : Met l yJ4_append_bf812 (Cond.code yJ4_append_bf812 cJ4_append_bf812 2 (some (.object "java/lang/StringBuilder")) :: g_B) rm_J4_append_bf812 (va_Pc [.ref a0, .int a1] (g_I V g D cT f n)) (g_Wr V D cT o.1 o.2.1 o.2.2) 1 200 (g_A V) := by
  refine g_begin (own := RJ4) [.ref a0, .int a1] [(0, .ref a0), (1, .int a1)] (g_A V) (fun _ h => h) (by decide) rfl (Nat.le_of_ble_eq_true rfl) rfl ?_
  intro p e s m args below meth c hx hb hr hlocks hin hC hI ls hl
  obtain ⟨hx, hb, hml, hown, hB⟩ := id hC
  obtain ⟨H, hH⟩ : ∃ H, H = s.heap := ⟨_, rfl⟩
  obtain ⟨locs, hlocs⟩ : ∃ L : List Loc, L = [] := ⟨_, rfl⟩
  rw [← hH, ← hlocs] at hI ⊢
  clear hH hlocs
  unfold p_J4_append_bf812 at hq
  replace hq := (h_me_eq hq).2
  refine lv_aload_n hx hb dJ4_append_bf812_0 rfl (lv_at hl 0 rfl) ?_
  refine lv_iload_n hx hb dJ4_append_bf812_1 rfl (lv_at hl 1 rfl) ?_
  obtain ⟨v1, ev1, hq⟩ := b_s hq
  refine gw_r (g_runSU (As := [.int a1]) (rest := []) (ci := 1) hC (c_J5_append_c97b9 l V g D cT f n a0 a1 v1 ev1) (⟨⟨m_1304, m_9⟩, m_1303, m_2215, m_239, by decide, by decide +kernel⟩ : g_CSU "java/lang/StringBuilder" yJ5_append_c97b9 cJ5_append_c97b9 4 (some (.object "java/lang/AbstractStringBuilder")) 1) m_1302 rfl rfl ⟨Nat.le_of_ble_eq_true rfl, Nat.le_of_ble_eq_true rfl⟩ hI rfl (h_me_eq ev1).1 rfl hl.1 rfl (Nat.le_of_ble_eq_true rfl) dJ4_append_bf812_2 ⟨by decide, by decide⟩) hI (fun H locs hI => ?_)
  refine lv_pop hx hb dJ4_append_bf812_5 rfl ?_
  refine lv_aload_n hx hb dJ4_append_bf812_6 rfl (lv_at hl 0 rfl) ?_
  obtain rfl := Option.some.inj hq
  exact ge_Wr hx hb hlocks hr (Or.inl ⟨_, rfl⟩) hI rfl rfl dJ4_append_bf812_7

abbrev rm_J1_canEncode_fc78d : Room := { frames := 2, cells := 0, slots := 0, locals := 120 }
theorem k_J1_canEncode_fc78d : g_CS yJ1_canEncode_fc78d cJ1_canEncode_fc78d 1 (some .boolean) 1 := ⟨⟨m_1445, m_19, by decide +kernel⟩, m_1444⟩
set_option maxHeartbeats 4000000 in
set_option maxRecDepth 100000 in
theorem c_J1_canEncode_fc78d (l : Launch) (V : Nat → Nat) (g : GH) (D : va_G) (cT : Nat → ClassId) (f : GH) (n : Nat) (a0 : Int32) (o : Int32) (hq : p_J1_canEncode_fc78d V g f a0 = some o) : Met l yJ1_canEncode_fc78d (Cond.code yJ1_canEncode_fc78d cJ1_canEncode_fc78d 1 (some .boolean) :: g_B) rm_J1_canEncode_fc78d (va_Pc [.int a0] (g_I V g D cT f n)) (g_Ri o n) 0 0 g_no := by
  refine g_begin (own := RJ1) [.int a0] [(0, .int a0)] g_no (fun _ h => h.elim) (by decide) rfl (Nat.le_of_ble_eq_true rfl) rfl ?_
  intro p e s m args below meth c hx hb hr hlocks hin hC hI ls hl
  obtain ⟨hx, hb, hml, hown, hB⟩ := id hC
  obtain ⟨H, hH⟩ : ∃ H, H = s.heap := ⟨_, rfl⟩
  obtain ⟨locs, hlocs⟩ : ∃ L : List Loc, L = [] := ⟨_, rfl⟩
  rw [← hH, ← hlocs] at hI ⊢
  clear hH hlocs
  unfold p_J1_canEncode_fc78d at hq
  refine lv_iload_n hx hb dJ1_canEncode_fc78d_0 rfl (lv_at hl 0 rfl) ?_
  refine lv_sipush (v := (255 : Int32)) hx hb dJ1_canEncode_fc78d_1 (by decide) ?_
  refine lv_icmp_gt (tgt := 11) hx hb dJ1_canEncode_fc78d_4 (by decide) (fun c1 => ?_) (fun c1 => ?_)
  · replace hq := i_t c1 hq
    refine lv_iconst (v := (0 : Int32)) hx hb dJ1_canEncode_fc78d_11 (by decide) ?_
    exact ge_Ri hx hb hlocks hr (by decide +kernel) hI hq dJ1_canEncode_fc78d_12
  · replace hq := i_f c1 hq
    refine lv_iconst (v := (1 : Int32)) hx hb dJ1_canEncode_fc78d_7 (by decide) ?_
    refine lv_goto (tgt := 12) hx hb dJ1_canEncode_fc78d_8 (by decide) ?_
    exact ge_Ri hx hb hlocks hr (by decide +kernel) hI hq dJ1_canEncode_fc78d_12

abbrev rm_J5_append_3fe6f : Room := { frames := 6, cells := 1, slots := 200, locals := 211 }
set_option maxHeartbeats 4000000 in
set_option maxRecDepth 100000 in
theorem c_J5_append_3fe6f (l : Launch) (V : Nat → Nat) (g : GH) (D : va_G) (cT : Nat → ClassId) (f : GH) (n : Nat) (a0 : Nat) (a1 : Int32) (o : Nat × GH × Nat) (hq : p_J5_append_3fe6f V g f n a0 a1 = some o) : Met l yJ5_append_3fe6f (Cond.code yJ5_append_3fe6f cJ5_append_3fe6f 2 (some (.object "java/lang/AbstractStringBuilder")) :: g_B) rm_J5_append_3fe6f (va_Pc [.ref a0, .int a1] (g_I V g D cT f n)) (g_Wr V D cT o.1 o.2.1 o.2.2) 1 200 (g_A V) := by
  refine g_begin (own := RJ5) [.ref a0, .int a1] [(0, .ref a0), (1, .int a1)] (g_A V) (fun _ h => h) (by decide) rfl (Nat.le_of_ble_eq_true rfl) rfl ?_
  intro p e s m args below meth c hx hb hr hlocks hin hC hI ls hl
  obtain ⟨hx, hb, hml, hown, hB⟩ := id hC
  obtain ⟨H, hH⟩ : ∃ H, H = s.heap := ⟨_, rfl⟩
  obtain ⟨locs, hlocs⟩ : ∃ L : List Loc, L = [] := ⟨_, rfl⟩
  rw [← hH, ← hlocs] at hI ⊢
  clear hH hlocs
  unfold p_J5_append_3fe6f at hq
  replace hq := (h_me_eq hq).2
  refine lv_aload_n hx hb dJ5_append_3fe6f_0 rfl (lv_at hl 0 rfl) ?_
  refine lv_aload_n hx hb dJ5_append_3fe6f_1 rfl (lv_at hl 0 rfl) ?_
  obtain ⟨v1, ev1, hq⟩ := b_s hq
  refine fa_gi (own := RJ5) (ref := "java/lang/AbstractStringBuilder") (k := 3) hx hb hB inB_RJ4 hown hI rfl (by decide) m_230 (fun _ h9 => h9) ev1 dJ5_append_3fe6f_2 ?_
  refine lv_iconst (v := (1 : Int32)) hx hb dJ5_append_3fe6f_5 (by decide) ?_
  refine lv_iadd hx hb dJ5_append_3fe6f_6 ?_
  obtain ⟨v2, ev2, hq⟩ := b_s hq
  refine gw_v (g_runU (As := [.int (v1 + (1 : Int32))]) (rest := []) (ci := 1) hC (c_J5_ensureCapacityInternal_d00df l V g D cT f n a0 (v1 + (1 : Int32)) v2 ev2) (⟨⟨m_1217, m_9⟩, m_1216, m_2210, mx_0, rfl, by decide, by decide, by decide +kernel⟩ : g_CU "java/lang/StringBuilder" "java/lang/AbstractStringBuilder" (⟨"java/lang/AbstractStringBuilder", "ensureCapacityInternal", "(I)V"⟩ : MethodName) yJ5_ensureCapacityInternal_d00df cJ5_ensureCapacityInternal_d00df 3 none 1) m_1214 rfl rfl ⟨Nat.le_of_ble_eq_true rfl, Nat.le_of_ble_eq_true rfl⟩ hI rfl rfl (h_me_eq ev2).1 rfl hl.1 rfl (Nat.le_of_ble_eq_true rfl) dJ5_append_3fe6f_7 ⟨by decide, by decide⟩) hI (fun H locs hI => ?_)
  refine lv_aload_n hx hb dJ5_append_3fe6f_10 rfl (lv_at hl 0 rfl) ?_
  obtain ⟨v3, ev3, hq⟩ := b_s hq
  refine gr_i (g_runU (As := []) (rest := []) (ci := 1) hC (c_J5_isLatin1_aae02 l V g D cT v2.1 v2.2 a0 v3 ev3) (⟨⟨m_1247, m_9⟩, m_1244, m_1245, m_1246, rfl, by decide, by decide, by decide +kernel⟩ : g_CU "java/lang/StringBuilder" "java/lang/AbstractStringBuilder" (⟨"java/lang/AbstractStringBuilder", "isLatin1", "()Z"⟩ : MethodName) yJ5_isLatin1_aae02 cJ5_isLatin1_aae02 1 (some .boolean) 0) m_1243 rfl rfl ⟨Nat.le_of_ble_eq_true rfl, Nat.le_of_ble_eq_true rfl⟩ hI rfl rfl (h_me_eq ev3).1 rfl hl.1 rfl (Nat.le_of_ble_eq_true rfl) dJ5_append_3fe6f_11 ⟨by decide, by decide⟩) hI (fun H locs hI => ?_)
  refine lv_if_eq (tgt := 45) hx hb dJ5_append_3fe6f_14 (by decide) (fun c4 => ?_) (fun c4 => ?_)
  · replace hq := i_t c4 hq
    cases hq
  · replace hq := i_f c4 hq
    refine lv_iload_n hx hb dJ5_append_3fe6f_17 rfl (lv_at hl 1 rfl) ?_
    obtain ⟨v5, ev5, hq⟩ := b_s hq
    refine gr_i (g_runS (As := [.int a1]) (rest := []) hC (c_J1_canEncode_fc78d l V g D cT v2.1 v2.2 a1 v5 ev5) k_J1_canEncode_fc78d m_1443 rfl rfl ⟨Nat.le_of_ble_eq_true rfl, Nat.le_of_ble_eq_true rfl⟩ hI rfl hl.1 rfl (Nat.le_of_ble_eq_true rfl) dJ5_append_3fe6f_18 ⟨by decide, by decide⟩) hI (fun H locs hI => ?_)
    refine lv_if_eq (tgt := 45) hx hb dJ5_append_3fe6f_21 (by decide) (fun c6 => ?_) (fun c6 => ?_)
    · replace hq := i_t c6 hq
      cases hq
    · replace hq := i_f c6 hq
      refine lv_aload_n hx hb dJ5_append_3fe6f_24 rfl (lv_at hl 0 rfl) ?_
      obtain ⟨v7, ev7, hq⟩ := b_s hq
      refine fa_gr (own := RJ5) (ref := "java/lang/AbstractStringBuilder") (k := 0) hx hb hB inB_RJ4 hown hI rfl (by decide) m_226 (fun _ h9 => h9) ev7 dJ5_append_3fe6f_25 ?_
      refine lv_aload_n hx hb dJ5_append_3fe6f_28 rfl (lv_at hl 0 rfl) ?_
      refine lv_dup hx hb dJ5_append_3fe6f_29 rfl ?_
      obtain ⟨v8, ev8, hq⟩ := b_s hq
      refine fa_gi (own := RJ5) (ref := "java/lang/AbstractStringBuilder") (k := 3) hx hb hB inB_RJ4 hown hI rfl (by decide) m_230 (fun _ h9 => h9) ev8 dJ5_append_3fe6f_30 ?_
      refine lv_dup_x1 hx hb dJ5_append_3fe6f_33 rfl rfl ?_
      refine lv_iconst (v := (1 : Int32)) hx hb dJ5_append_3fe6f_34 (by decide) ?_
      refine lv_iadd hx hb dJ5_append_3fe6f_35 ?_
      obtain ⟨f9, ef9, hq⟩ := b_s hq
      refine fa_pt (own := RJ5) (ref := "java/lang/AbstractStringBuilder") (k := 3) hx hb hB inB_RJ4 tyJ4_ok nmJ4 hown hI rfl (by decide) m_230 (fun _ h9 => h9) (by decide) rfl rfl ef9 dJ5_append_3fe6f_36 (fun H locs hI => ?_)
      refine lv_iload_n hx hb dJ5_append_3fe6f_39 rfl (lv_at hl 1 rfl) ?_
      refine lv_i2b (v := a1.toInt8.toInt32) hx hb dJ5_append_3fe6f_40 rfl ?_
      obtain ⟨f10, ef10, hq⟩ := b_s hq
      refine fa_sb hx hb hI ef10 dJ5_append_3fe6f_41 (fun H locs hI => ?_)
      refine lv_goto (tgt := 75) hx hb dJ5_append_3fe6f_42 (by decide) ?_
      refine lv_aload_n hx hb dJ5_append_3fe6f_75 rfl (lv_at hl 0 rfl) ?_
      obtain rfl := Option.some.inj hq
      exact ge_Wr hx hb hlocks hr (Or.inl ⟨_, rfl⟩) hI rfl rfl dJ5_append_3fe6f_76

abbrev rm_J4_append_cf468 : Room := { frames := 7, cells := 1, slots := 200, locals := 232 }
theorem k_J4_append_cf468 : g_CV yJ4_append_cf468 cJ4_append_cf468 2 (some (.object "java/lang/StringBuilder")) 1 := ⟨⟨m_1439, m_10, by decide +kernel⟩, m_1437, m_1438⟩
set_option maxHeartbeats 4000000 in
set_option maxRecDepth 100000 in
theorem c_J4_append_cf468 (l : Launch) (V : Nat → Nat) (g : GH) (D : va_G) (cT : Nat → ClassId) (f : GH) (n : Nat) (a0 : Nat) (a1 : Int32) (o : Nat × GH × Nat) (hq : p_J4_append_cf468 V g f n a0 a1 = some o) : Met l yJ4_append_cf468 (Cond.code yJ4_append_cf468 cJ4_append_cf468 2 (some (.object "java/lang/StringBuilder")) :: g_B) rm_J4_append_cf468 (va_Pc [.ref a0, .int a1] (g_I V g D cT f n)) (g_Wr V D cT o.1 o.2.1 o.2.2) 1 200 (g_A V) := by
  refine g_begin (own := RJ4) [.ref a0, .int a1] [(0, .ref a0), (1, .int a1)] (g_A V) (fun _ h => h) (by decide) rfl (Nat.le_of_ble_eq_true rfl) rfl ?_
  intro p e s m args below meth c hx hb hr hlocks hin hC hI ls hl
  obtain ⟨hx, hb, hml, hown, hB⟩ := id hC
  obtain ⟨H, hH⟩ : ∃ H, H = s.heap := ⟨_, rfl⟩
  obtain ⟨locs, hlocs⟩ : ∃ L : List Loc, L = [] := ⟨_, rfl⟩
  rw [← hH, ← hlocs] at hI ⊢
  clear hH hlocs
  unfold p_J4_append_cf468 at hq
  replace hq := (h_me_eq hq).2
  refine lv_aload_n hx hb dJ4_append_cf468_0 rfl (lv_at hl 0 rfl) ?_
  refine lv_iload_n hx hb dJ4_append_cf468_1 rfl (lv_at hl 1 rfl) ?_
  obtain ⟨v1, ev1, hq⟩ := b_s hq
  refine gw_r (g_runSU (As := [.int a1]) (rest := []) (ci := 1) hC (c_J5_append_3fe6f l V g D cT f n a0 a1 v1 ev1) (⟨⟨m_1442, m_9⟩, m_1441, m_2216, m_239, by decide, by decide +kernel⟩ : g_CSU "java/lang/StringBuilder" yJ5_append_3fe6f cJ5_append_3fe6f 2 (some (.object "java/lang/AbstractStringBuilder")) 1) m_1440 rfl rfl ⟨Nat.le_of_ble_eq_true rfl, Nat.le_of_ble_eq_true rfl⟩ hI rfl (h_me_eq ev1).1 rfl hl.1 rfl (Nat.le_of_ble_eq_true rfl) dJ4_append_cf468_2 ⟨by decide, by decide⟩) hI (fun H locs hI => ?_)
  refine lv_pop hx hb dJ4_append_cf468_5 rfl ?_
  refine lv_aload_n hx hb dJ4_append_cf468_6 rfl (lv_at hl 0 rfl) ?_
  obtain rfl := Option.some.inj hq
  exact ge_Wr hx hb hlocks hr (Or.inl ⟨_, rfl⟩) hI rfl rfl dJ4_append_cf468_7

abbrev rm_J5_length_8abf5 : Room := { frames := 2, cells := 0, slots := 0, locals := 120 }
set_option maxHeartbeats 4000000 in
set_option maxRecDepth 100000 in
theorem c_J5_length_8abf5 (l : Launch) (V : Nat → Nat) (g : GH) (D : va_G) (cT : Nat → ClassId) (f : GH) (n : Nat) (a0 : Nat) (o : Int32) (hq : p_J5_length_8abf5 V g f a0 = some o) : Met l yJ5_length_8abf5 (Cond.code yJ5_length_8abf5 cJ5_length_8abf5 1 (some .int) :: g_B) rm_J5_length_8abf5 (va_Pc [.ref a0] (g_I V g D cT f n)) (g_Ri o n) 0 0 g_no := by
  refine g_begin (own := RJ5) [.ref a0] [(0, .ref a0)] g_no (fun _ h => h.elim) (by decide) rfl (Nat.le_of_ble_eq_true rfl) rfl ?_
  intro p e s m args below meth c hx hb hr hlocks hin hC hI ls hl
  obtain ⟨hx, hb, hml, hown, hB⟩ := id hC
  obtain ⟨H, hH⟩ : ∃ H, H = s.heap := ⟨_, rfl⟩
  obtain ⟨locs, hlocs⟩ : ∃ L : List Loc, L = [] := ⟨_, rfl⟩
  rw [← hH, ← hlocs] at hI ⊢
  clear hH hlocs
  unfold p_J5_length_8abf5 at hq
  replace hq := (h_me_eq hq).2
  refine lv_aload_n hx hb dJ5_length_8abf5_0 rfl (lv_at hl 0 rfl) ?_
  obtain ⟨v1, ev1, hq⟩ := b_s hq
  refine fa_gi (own := RJ5) (ref := "java/lang/AbstractStringBuilder") (k := 3) hx hb hB inB_RJ4 hown hI rfl (by decide) m_230 (fun _ h9 => h9) ev1 dJ5_length_8abf5_1 ?_
  exact ge_Ri hx hb hlocks hr rfl hI hq dJ5_length_8abf5_4

abbrev rm_J4_length_8abf5 : Room := { frames := 3, cells := 0, slots := 0, locals := 140 }
theorem k_J4_length_8abf5 : g_CV yJ4_length_8abf5 cJ4_length_8abf5 1 (some .int) 0 := ⟨⟨m_1346, m_10, by decide +kernel⟩, m_1345, m_2217⟩
set_option maxHeartbeats 4000000 in
set_option maxRecDepth 100000 in
theorem c_J4_length_8abf5 (l : Launch) (V : Nat → Nat) (g : GH) (D : va_G) (cT : Nat → ClassId) (f : GH) (n : Nat) (a0 : Nat) (o : Int32) (hq : p_J4_length_8abf5 V g f a0 = some o) : Met l yJ4_length_8abf5 (Cond.code yJ4_length_8abf5 cJ4_length_8abf5 1 (some .int) :: g_B) rm_J4_length_8abf5 (va_Pc [.ref a0] (g_I V g D cT f n)) (g_Ri o n) 0 0 g_no := by
  refine g_begin (own := RJ4) [.ref a0] [(0, .ref a0)] g_no (fun _ h => h.elim) (by decide) rfl (Nat.le_of_ble_eq_true rfl) rfl ?_
  intro p e s m args below meth c hx hb hr hlocks hin hC hI ls hl
  obtain ⟨hx, hb, hml, hown, hB⟩ := id hC
  obtain ⟨H, hH⟩ : ∃ H, H = s.heap := ⟨_, rfl⟩
  obtain ⟨locs, hlocs⟩ : ∃ L : List Loc, L = [] := ⟨_, rfl⟩
  rw [← hH, ← hlocs] at hI ⊢
  clear hH hlocs
  unfold p_J4_length_8abf5 at hq
  replace hq := (h_me_eq hq).2
  refine lv_aload_n hx hb dJ4_length_8abf5_0 rfl (lv_at hl 0 rfl) ?_
  obtain ⟨v1, ev1, hq⟩ := b_s hq
  refine gr_i (g_runSU (As := []) (rest := []) (ci := 1) hC (c_J5_length_8abf5 l V g D cT f n a0 v1 ev1) (⟨⟨m_1348, m_9⟩, m_1342, m_1343, m_239, by decide, by decide +kernel⟩ : g_CSU "java/lang/StringBuilder" yJ5_length_8abf5 cJ5_length_8abf5 1 (some .int) 0) m_1347 rfl rfl ⟨Nat.le_of_ble_eq_true rfl, Nat.le_of_ble_eq_true rfl⟩ hI rfl (h_me_eq ev1).1 rfl hl.1 rfl (Nat.le_of_ble_eq_true rfl) dJ4_length_8abf5_1 ⟨by decide, by decide⟩) hI (fun H locs hI => ?_)
  exact ge_Ri hx hb hlocks hr rfl hI hq dJ4_length_8abf5_4

abbrev rm_J5_setLength_d00df : Room := { frames := 6, cells := 1, slots := 200, locals := 211 }
set_option maxHeartbeats 4000000 in
set_option maxRecDepth 100000 in
theorem c_J5_setLength_d00df (l : Launch) (V : Nat → Nat) (g : GH) (D : va_G) (cT : Nat → ClassId) (f : GH) (n : Nat) (a0 : Nat) (a1 : Int32) (o : GH × Nat) (hq : p_J5_setLength_d00df V g f n a0 a1 = some o) : Met l yJ5_setLength_d00df (Cond.code yJ5_setLength_d00df cJ5_setLength_d00df 2 none :: g_B) rm_J5_setLength_d00df (va_Pc [.ref a0, .int a1] (g_I V g D cT f n)) (g_Wv V D cT o.1 o.2) 1 200 (g_A V) := by
  refine g_begin (own := RJ5) [.ref a0, .int a1] [(0, .ref a0), (1, .int a1)] (g_A V) (fun _ h => h) (by decide) rfl (Nat.le_of_ble_eq_true rfl) rfl ?_
  intro p e s m args below meth c hx hb hr hlocks hin hC hI ls hl
  obtain ⟨hx, hb, hml, hown, hB⟩ := id hC
  obtain ⟨H, hH⟩ : ∃ H, H = s.heap := ⟨_, rfl⟩
  obtain ⟨locs, hlocs⟩ : ∃ L : List Loc, L = [] := ⟨_, rfl⟩
  rw [← hH, ← hlocs] at hI ⊢
  clear hH hlocs
  unfold p_J5_setLength_d00df at hq
  replace hq := (h_me_eq hq).2
  refine lv_iload_n hx hb dJ5_setLength_d00df_0 rfl (lv_at hl 1 rfl) ?_
  refine lv_if_ge (tgt := 13) hx hb dJ5_setLength_d00df_1 (by decide) (fun c1 => ?_) (fun c1 => ?_)
  · replace hq := i_t c1 hq
    refine lv_aload_n hx hb dJ5_setLength_d00df_13 rfl (lv_at hl 0 rfl) ?_
    refine lv_iload_n hx hb dJ5_setLength_d00df_14 rfl (lv_at hl 1 rfl) ?_
    obtain ⟨v2, ev2, hq⟩ := b_s hq
    refine gw_v (g_runU (As := [.int a1]) (rest := []) (ci := 1) hC (c_J5_ensureCapacityInternal_d00df l V g D cT f n a0 a1 v2 ev2) (⟨⟨m_1217, m_9⟩, m_1216, m_2210, mx_0, rfl, by decide, by decide, by decide +kernel⟩ : g_CU "java/lang/StringBuilder" "java/lang/AbstractStringBuilder" (⟨"java/lang/AbstractStringBuilder", "ensureCapacityInternal", "(I)V"⟩ : MethodName) yJ5_ensureCapacityInternal_d00df cJ5_ensureCapacityInternal_d00df 3 none 1) m_1214 rfl rfl ⟨Nat.le_of_ble_eq_true rfl, Nat.le_of_ble_eq_true rfl⟩ hI rfl rfl (h_me_eq ev2).1 rfl hl.1 rfl (Nat.le_of_ble_eq_true rfl) dJ5_setLength_d00df_15 ⟨by decide, by decide⟩) hI (fun H locs hI => ?_)
    refine lv_aload_n hx hb dJ5_setLength_d00df_18 rfl (lv_at hl 0 rfl) ?_
    obtain ⟨v3, ev3, hq⟩ := b_s hq
    refine fa_gi (own := RJ5) (ref := "java/lang/AbstractStringBuilder") (k := 3) hx hb hB inB_RJ4 hown hI rfl (by decide) m_230 (fun _ h9 => h9) ev3 dJ5_setLength_d00df_19 ?_
    refine lv_iload_n hx hb dJ5_setLength_d00df_22 rfl (lv_at hl 1 rfl) ?_
    refine lv_icmp_ge (tgt := 63) hx hb dJ5_setLength_d00df_23 (by decide) (fun c4 => ?_) (fun c4 => ?_)
    · replace hq := i_t c4 hq
      refine lv_aload_n hx hb dJ5_setLength_d00df_63 rfl (lv_at hl 0 rfl) ?_
      obtain ⟨v5, ev5, hq⟩ := b_s hq
      refine fa_gi (own := RJ5) (ref := "java/lang/AbstractStringBuilder") (k := 3) hx hb hB inB_RJ4 hown hI rfl (by decide) m_230 (fun _ h9 => h9) ev5 dJ5_setLength_d00df_64 ?_
      refine lv_iload_n hx hb dJ5_setLength_d00df_67 rfl (lv_at hl 1 rfl) ?_
      refine lv_icmp_le (tgt := 76) hx hb dJ5_setLength_d00df_68 (by decide) (fun c6 => ?_) (fun c6 => ?_)
      · replace hq := i_t c6 hq
        refine lv_aload_n hx hb dJ5_setLength_d00df_76 rfl (lv_at hl 0 rfl) ?_
        refine lv_iload_n hx hb dJ5_setLength_d00df_77 rfl (lv_at hl 1 rfl) ?_
        obtain ⟨f7, ef7, hq⟩ := b_s hq
        refine fa_pt (own := RJ5) (ref := "java/lang/AbstractStringBuilder") (k := 3) hx hb hB inB_RJ4 tyJ4_ok nmJ4 hown hI rfl (by decide) m_230 (fun _ h9 => h9) (by decide) rfl rfl ef7 dJ5_setLength_d00df_78 (fun H locs hI => ?_)
        obtain rfl := Option.some.inj hq
        exact ge_Wv hx hb hlocks hr hI rfl dJ5_setLength_d00df_81
      · replace hq := i_f c6 hq
        refine lv_aload_n hx hb dJ5_setLength_d00df_71 rfl (lv_at hl 0 rfl) ?_
        refine lv_iconst (v := (1 : Int32)) hx hb dJ5_setLength_d00df_72 (by decide) ?_
        obtain ⟨f8, ef8, hq⟩ := b_s hq
        refine fa_pt (own := RJ5) (ref := "java/lang/AbstractStringBuilder") (k := 2) hx hb hB inB_RJ4 tyJ4_ok nmJ4 hown hI rfl (by decide) m_228 (fun _ h9 => h9) (by decide) (by decide +kernel) (by decide +kernel) ef8 dJ5_setLength_d00df_73 (fun H locs hI => ?_)
        refine lv_aload_n hx hb dJ5_setLength_d00df_76 rfl (lv_at hl 0 rfl) ?_
        refine lv_iload_n hx hb dJ5_setLength_d00df_77 rfl (lv_at hl 1 rfl) ?_
        obtain ⟨f9, ef9, hq⟩ := b_s hq
        refine fa_pt (own := RJ5) (ref := "java/lang/AbstractStringBuilder") (k := 3) hx hb hB inB_RJ4 tyJ4_ok nmJ4 hown hI rfl (by decide) m_230 (fun _ h9 => h9) (by decide) rfl rfl ef9 dJ5_setLength_d00df_78 (fun H locs hI => ?_)
        obtain rfl := Option.some.inj hq
        exact ge_Wv hx hb hlocks hr hI rfl dJ5_setLength_d00df_81
    · replace hq := i_f c4 hq
      cases hq
  · replace hq := i_f c1 hq
    cases hq

abbrev rm_J4_setLength_d00df : Room := { frames := 7, cells := 1, slots := 200, locals := 232 }
theorem k_J4_setLength_d00df : g_CV yJ4_setLength_d00df cJ4_setLength_d00df 2 none 1 := ⟨⟨m_1191, m_10, by decide +kernel⟩, m_1189, m_1190⟩
set_option maxHeartbeats 4000000 in
set_option maxRecDepth 100000 in
theorem c_J4_setLength_d00df (l : Launch) (V : Nat → Nat) (g : GH) (D : va_G) (cT : Nat → ClassId) (f : GH) (n : Nat) (a0 : Nat) (a1 : Int32) (o : GH × Nat) (hq : p_J4_setLength_d00df V g f n a0 a1 = some o) : Met l yJ4_setLength_d00df (Cond.code yJ4_setLength_d00df cJ4_setLength_d00df 2 none :: g_B) rm_J4_setLength_d00df (va_Pc [.ref a0, .int a1] (g_I V g D cT f n)) (g_Wv V D cT o.1 o.2) 1 200 (g_A V) := by
  refine g_begin (own := RJ4) [.ref a0, .int a1] [(0, .ref a0), (1, .int a1)] (g_A V) (fun _ h => h) (by decide) rfl (Nat.le_of_ble_eq_true rfl) rfl ?_
  intro p e s m args below meth c hx hb hr hlocks hin hC hI ls hl
  obtain ⟨hx, hb, hml, hown, hB⟩ := id hC
  obtain ⟨H, hH⟩ : ∃ H, H = s.heap := ⟨_, rfl⟩
  obtain ⟨locs, hlocs⟩ : ∃ L : List Loc, L = [] := ⟨_, rfl⟩
  rw [← hH, ← hlocs] at hI ⊢
  clear hH hlocs
  unfold p_J4_setLength_d00df at hq
  replace hq := (h_me_eq hq).2
  refine lv_aload_n hx hb dJ4_setLength_d00df_0 rfl (lv_at hl 0 rfl) ?_
  refine lv_iload_n hx hb dJ4_setLength_d00df_1 rfl (lv_at hl 1 rfl) ?_
  obtain ⟨v1, ev1, hq⟩ := b_s hq
  refine gw_v (g_runSU (As := [.int a1]) (rest := []) (ci := 1) hC (c_J5_setLength_d00df l V g D cT f n a0 a1 v1 ev1) (⟨⟨m_1194, m_9⟩, m_1193, m_2207, m_239, by decide, by decide +kernel⟩ : g_CSU "java/lang/StringBuilder" yJ5_setLength_d00df cJ5_setLength_d00df 2 none 1) m_1192 rfl rfl ⟨Nat.le_of_ble_eq_true rfl, Nat.le_of_ble_eq_true rfl⟩ hI rfl (h_me_eq ev1).1 rfl hl.1 rfl (Nat.le_of_ble_eq_true rfl) dJ4_setLength_d00df_2 ⟨by decide, by decide⟩) hI (fun H locs hI => ?_)
  obtain rfl := Option.some.inj hq
  exact ge_Wv hx hb hlocks hr hI rfl dJ4_setLength_d00df_5

abbrev rm_X7_writeLengths : Room := { frames := 9, cells := 17, slots := 3206, locals := 255 }
theorem k_X7_writeLengths : g_CV yX7_writeLengths cX7_writeLengths 5 (some .int) 1 := ⟨⟨m_1187, m_1, by decide +kernel⟩, m_1185, m_1186⟩
set_option maxHeartbeats 4000000 in
set_option maxRecDepth 100000 in
theorem c_X7_writeLengths (l : Launch) (hl0 : l.stackTraces = false) (V : Nat → Nat) (g : GH) (D : va_G) (cT : Nat → ClassId) (f : GH) (n : Nat) (a0 : Nat) (a1 : Int32) (o : (Nat × GH) ⊕ (Int32 × GH × Nat)) (hq : p_X7_writeLengths V g f n a0 a1 = some o) : vx_Met l yX7_writeLengths (Cond.code yX7_writeLengths cX7_writeLengths 5 (some .int) :: g_B) rm_X7_writeLengths (va_Pc [.ref a0, .int a1] (g_I V g D cT f n)) (g_Zi V D cT o) (g_YX V D cT o) 17 3206 (g_A V) := by
  refine g_beginX (own := RX7) [.ref a0, .int a1] [(0, .ref a0), (1, .int a1)] (g_A V) (fun _ h => h) (by decide) rfl (Nat.le_of_ble_eq_true rfl) rfl ?_
  intro p e s m args below meth c hx hb hr hlocks ht0 hC hI ls hl
  obtain ⟨hx, hb, hml, hown, hB⟩ := id hC
  obtain ⟨H, hH⟩ : ∃ H, H = s.heap := ⟨_, rfl⟩
  obtain ⟨locs, hlocs⟩ : ∃ L : List Loc, L = [] := ⟨_, rfl⟩
  rw [← hH, ← hlocs] at hI ⊢
  clear hH hlocs
  unfold p_X7_writeLengths at hq
  replace hq := (h_me_eq hq).2
  refine lv_aload_n hx hb dX7_writeLengths_0 rfl (lv_at hl 0 rfl) ?_
  refine lv_iload_n hx hb dX7_writeLengths_1 rfl (lv_at hl 1 rfl) ?_
  rcases x_b_eq hq with ⟨v1, ev1, hq⟩ | ⟨v1, ev1, hq⟩
  · exact gt_RW hlocks ht0 (g_runVX (As := [.int a1]) (rest := []) (ci := 9) hC (c_X7_coastAt l hl0 V g D cT f n a0 a1 (.inl v1) ev1) k_X7_coastAt m_750 rfl rfl ⟨Nat.le_of_ble_eq_true rfl, Nat.le_of_ble_eq_true rfl⟩ hI rfl rfl (h_me_eq ev1).1 rfl hl.1 rfl (Nat.le_of_ble_eq_true rfl) dX7_writeLengths_2 ⟨by decide, by decide⟩) no_r hI hq (by decide) (by decide)
  · refine gx_r (g_runVX (As := [.int a1]) (rest := []) (ci := 9) hC (c_X7_coastAt l hl0 V g D cT f n a0 a1 (.inr v1) ev1) k_X7_coastAt m_750 rfl rfl ⟨Nat.le_of_ble_eq_true rfl, Nat.le_of_ble_eq_true rfl⟩ hI rfl rfl (h_me_eq ev1).1 rfl hl.1 rfl (Nat.le_of_ble_eq_true rfl) dX7_writeLengths_2 ⟨by decide, by decide⟩) hI (fun H locs hI => ?_)
    refine lv_astore_n (lv' := [(2, .ref v1), (0, .ref a0), (1, .int a1)]) hx hb dX7_writeLengths_5 rfl hl (by decide) rfl (fun ls hl => ?_)
    refine lv_aload_n hx hb dX7_writeLengths_6 rfl (lv_at hl 0 rfl) ?_
    obtain ⟨v2, ev2, hq⟩ := b_s hq
    refine fa_gi (own := RX7) (ref := "CoastlineRuler$Coast") (k := 3) hx hb hB inB_RX2 hown hI rfl (by decide) m_63 (fun _ h9 => h9) ev2 dX7_writeLengths_7 ?_
    have hj18 : ∀ (x0 : Nat) (x2 : Nat) (t0 : Int32) (f : GH) (n : Nat) (H : Heap) (locs : List Loc) (ls : Array Slot), g_at (g_A V) V g D cT f n s H locs → lv_has ls 5 [(0, .ref x0), (2, .ref x2)] → p_X7_writeLengths_j18 V g x0 x2 t0 f n = some o → W p l e rm_X7_writeLengths s m args below meth c H locs 1 6 (vx_MQ below (g_Zi V D cT o) (g_YX V D cT o) args s 17 3206 (g_A V)) (F0 m 18 ls [.int t0]) := by
      intro x0 x2 t0 f n H locs ls hI hl hq
      unfold p_X7_writeLengths_j18 at hq
      refine lv_istore_n (lv' := [(3, .int t0), (0, .ref x0), (2, .ref x2)]) hx hb dX7_writeLengths_18 rfl hl (by decide) rfl (fun ls hl => ?_)
      refine lv_aload_n hx hb dX7_writeLengths_19 rfl (lv_at hl 1 rfl) ?_
      obtain ⟨v3, ev3, hq⟩ := b_s hq
      refine fa_gr (own := RX7) (ref := "CoastlineRuler") (k := 12) hx hb hB inB_RX7 hown hI rfl (by decide) m_277 (fun _ h9 => h9) ev3 dX7_writeLengths_20 ?_
      refine lv_iconst (v := (0 : Int32)) hx hb dX7_writeLengths_23 (by decide) ?_
      obtain ⟨v4, ev4, hq⟩ := b_s hq
      refine gw_v (g_runV (As := [.int (0 : Int32)]) (rest := []) (ci := 1) hC (c_J4_setLength_d00df l V g D cT f n v3 (0 : Int32) v4 ev4) k_J4_setLength_d00df m_1188 rfl rfl ⟨Nat.le_of_ble_eq_true rfl, Nat.le_of_ble_eq_true rfl⟩ hI rfl rfl (h_me_eq ev4).1 rfl hl.1 rfl (Nat.le_of_ble_eq_true rfl) dX7_writeLengths_24 ⟨by decide, by decide⟩) hI (fun H locs hI => ?_)
      refine lv_aload_n hx hb dX7_writeLengths_27 rfl (lv_at hl 1 rfl) ?_
      obtain ⟨v5, ev5, hq⟩ := b_s hq
      refine fa_gr (own := RX7) (ref := "CoastlineRuler") (k := 12) hx hb hB inB_RX7 hown hI rfl (by decide) m_277 (fun _ h9 => h9) ev5 dX7_writeLengths_28 ?_
      refine lv_aload_n hx hb dX7_writeLengths_31 rfl (lv_at hl 2 rfl) ?_
      refine lv_iconst (v := (0 : Int32)) hx hb dX7_writeLengths_32 (by decide) ?_
      refine lv_aload_n hx hb dX7_writeLengths_33 rfl (lv_at hl 1 rfl) ?_
      obtain ⟨v6, ev6, hq⟩ := b_s hq
      refine fa_gr (own := RX7) (ref := "CoastlineRuler") (k := 0) hx hb hB inB_RX7 hown hI rfl (by decide) m_265 (fun _ h9 => h9) ev6 dX7_writeLengths_34 ?_
      obtain ⟨v7, ev7, hq⟩ := b_s hq
      refine fa_gi (own := RX7) (ref := "CoastlineRuler$Chart") (k := 2) hx hb hB inB_RX1 hown hI rfl (by decide) m_83 (fun _ h9 => h9) ev7 dX7_writeLengths_37 ?_
      obtain ⟨v8, ev8, hq⟩ := b_s hq
      refine gr_i (g_runV (As := [.int (0 : Int32), .int v7]) (rest := [.ref v5]) (ci := 5) hC (c_X2_measure l V g D cT v4.1 v4.2 x2 (0 : Int32) v7 v8 ev8) k_X2_measure m_812 rfl rfl ⟨Nat.le_of_ble_eq_true rfl, Nat.le_of_ble_eq_true rfl⟩ hI rfl rfl (h_me_eq ev8).1 rfl hl.1 rfl (Nat.le_of_ble_eq_true rfl) dX7_writeLengths_40 ⟨by decide, by decide⟩) hI (fun H locs hI => ?_)
      obtain ⟨v9, ev9, hq⟩ := b_s hq
      refine gw_r (g_runV (As := [.int v8]) (rest := []) (ci := 1) hC (c_J4_append_bf812 l V g D cT v4.1 v4.2 v5 v8 v9 ev9) k_J4_append_bf812 m_1435 rfl rfl ⟨Nat.le_of_ble_eq_true rfl, Nat.le_of_ble_eq_true rfl⟩ hI rfl rfl (h_me_eq ev9).1 rfl hl.1 rfl (Nat.le_of_ble_eq_true rfl) dX7_writeLengths_43 ⟨by decide, by decide⟩) hI (fun H locs hI => ?_)
      refine lv_pop hx hb dX7_writeLengths_46 rfl ?_
      refine lv_iconst (v := (1 : Int32)) hx hb dX7_writeLengths_47 (by decide) ?_
      refine lv_istore (lv' := [(4, .int (1 : Int32)), (3, .int t0), (0, .ref x0), (2, .ref x2)]) hx hb dX7_writeLengths_48 hl (by decide) rfl (fun ls hl => ?_)
      refine lv_iload hx hb dX7_writeLengths_50 (lv_at hl 0 rfl) ?_
      refine lv_bipush (v := (7 : Int32)) hx hb dX7_writeLengths_52 (by decide) ?_
      refine lv_icmp_gt (tgt := 109) hx hb dX7_writeLengths_54 (by decide) (fun c => absurd c (by decide)) (fun _ => ?_)
      refine lv_aload_n hx hb dX7_writeLengths_57 rfl (lv_at hl 3 rfl) ?_
      refine lv_iload hx hb dX7_writeLengths_58 (lv_at hl 0 rfl) ?_
      refine lv_iconst (v := (1 : Int32)) hx hb dX7_writeLengths_60 (by decide) ?_
      refine lv_isub hx hb dX7_writeLengths_61 ?_
      obtain ⟨v10, ev10, hq⟩ := b_s hq
      refine gr_i (g_runV (As := [.int ((1 : Int32) - (1 : Int32))]) (rest := []) (ci := 5) hC (c_X2_sticks l V g D cT v9.2.1 v9.2.2 x2 ((1 : Int32) - (1 : Int32)) v10 ev10) k_X2_sticks m_840 rfl rfl ⟨Nat.le_of_ble_eq_true rfl, Nat.le_of_ble_eq_true rfl⟩ hI rfl rfl (h_me_eq ev10).1 rfl hl.1 rfl (Nat.le_of_ble_eq_true rfl) dX7_writeLengths_62 ⟨by decide, by decide⟩) hI (fun H locs hI => ?_)
      refine lv_iload_n hx hb dX7_writeLengths_65 rfl (lv_at hl 1 rfl) ?_
      refine lv_icmp_gt (tgt := 72) hx hb dX7_writeLengths_66 (by decide) (fun c11 => ?_) (fun c11 => ?_)
      · replace hq := i_t c11 hq
        refine lv_aload_n hx hb dX7_writeLengths_72 rfl (lv_at hl 2 rfl) ?_
        obtain ⟨v12, ev12, hq⟩ := b_s hq
        refine fa_gr (own := RX7) (ref := "CoastlineRuler") (k := 12) hx hb hB inB_RX7 hown hI rfl (by decide) m_277 (fun _ h9 => h9) ev12 dX7_writeLengths_73 ?_
        refine lv_bipush (v := (32 : Int32)) hx hb dX7_writeLengths_76 (by decide) ?_
        obtain ⟨v13, ev13, hq⟩ := b_s hq
        refine gw_r (g_runV (As := [.int (32 : Int32)]) (rest := []) (ci := 1) hC (c_J4_append_cf468 l V g D cT v9.2.1 v9.2.2 v12 (32 : Int32) v13 ev13) k_J4_append_cf468 m_1436 rfl rfl ⟨Nat.le_of_ble_eq_true rfl, Nat.le_of_ble_eq_true rfl⟩ hI rfl rfl (h_me_eq ev13).1 rfl hl.1 rfl (Nat.le_of_ble_eq_true rfl) dX7_writeLengths_78 ⟨by decide, by decide⟩) hI (fun H locs hI => ?_)
        refine lv_pop hx hb dX7_writeLengths_81 rfl ?_
        refine lv_aload_n hx hb dX7_writeLengths_82 rfl (lv_at hl 2 rfl) ?_
        obtain ⟨v14, ev14, hq⟩ := b_s hq
        refine fa_gr (own := RX7) (ref := "CoastlineRuler") (k := 12) hx hb hB inB_RX7 hown hI rfl (by decide) m_277 (fun _ h9 => h9) ev14 dX7_writeLengths_83 ?_
        refine lv_aload_n hx hb dX7_writeLengths_86 rfl (lv_at hl 3 rfl) ?_
        refine lv_iload hx hb dX7_writeLengths_87 (lv_at hl 0 rfl) ?_
        refine lv_aload_n hx hb dX7_writeLengths_89 rfl (lv_at hl 2 rfl) ?_
        obtain ⟨v15, ev15, hq⟩ := b_s hq
        refine fa_gr (own := RX7) (ref := "CoastlineRuler") (k := 0) hx hb hB inB_RX7 hown hI rfl (by decide) m_265 (fun _ h9 => h9) ev15 dX7_writeLengths_90 ?_
        obtain ⟨v16, ev16, hq⟩ := b_s hq
        refine fa_gi (own := RX7) (ref := "CoastlineRuler$Chart") (k := 2) hx hb hB inB_RX1 hown hI rfl (by decide) m_83 (fun _ h9 => h9) ev16 dX7_writeLengths_93 ?_
        obtain ⟨v17, ev17, hq⟩ := b_s hq
        refine gr_i (g_runV (As := [.int (1 : Int32), .int v16]) (rest := [.ref v14]) (ci := 5) hC (c_X2_measure l V g D cT v13.2.1 v13.2.2 x2 (1 : Int32) v16 v17 ev17) k_X2_measure m_812 rfl rfl ⟨Nat.le_of_ble_eq_true rfl, Nat.le_of_ble_eq_true rfl⟩ hI rfl rfl (h_me_eq ev17).1 rfl hl.1 rfl (Nat.le_of_ble_eq_true rfl) dX7_writeLengths_96 ⟨by decide, by decide⟩) hI (fun H locs hI => ?_)
        obtain ⟨v18, ev18, hq⟩ := b_s hq
        refine gw_r (g_runV (As := [.int v17]) (rest := []) (ci := 1) hC (c_J4_append_bf812 l V g D cT v13.2.1 v13.2.2 v14 v17 v18 ev18) k_J4_append_bf812 m_1435 rfl rfl ⟨Nat.le_of_ble_eq_true rfl, Nat.le_of_ble_eq_true rfl⟩ hI rfl rfl (h_me_eq ev18).1 rfl hl.1 rfl (Nat.le_of_ble_eq_true rfl) dX7_writeLengths_99 ⟨by decide, by decide⟩) hI (fun H locs hI => ?_)
        refine lv_pop hx hb dX7_writeLengths_102 rfl ?_
        refine lv_iinc (v := (2 : Int32)) (lv' := [(4, .int (2 : Int32)), (3, .int t0), (0, .ref x0), (2, .ref x2)]) hx hb dX7_writeLengths_103 hl (k := 0) rfl (by decide) (by decide) rfl (fun ls hl => ?_)
        refine lv_goto (tgt := 50) hx hb dX7_writeLengths_106 (by decide) ?_
        refine lv_iload hx hb dX7_writeLengths_50 (lv_at hl 0 rfl) ?_
        refine lv_bipush (v := (7 : Int32)) hx hb dX7_writeLengths_52 (by decide) ?_
        refine lv_icmp_gt (tgt := 109) hx hb dX7_writeLengths_54 (by decide) (fun c => absurd c (by decide)) (fun _ => ?_)
        refine lv_aload_n hx hb dX7_writeLengths_57 rfl (lv_at hl 3 rfl) ?_
        refine lv_iload hx hb dX7_writeLengths_58 (lv_at hl 0 rfl) ?_
        refine lv_iconst (v := (1 : Int32)) hx hb dX7_writeLengths_60 (by decide) ?_
        refine lv_isub hx hb dX7_writeLengths_61 ?_
        obtain ⟨v19, ev19, hq⟩ := b_s hq
        refine gr_i (g_runV (As := [.int ((2 : Int32) - (1 : Int32))]) (rest := []) (ci := 5) hC (c_X2_sticks l V g D cT v18.2.1 v18.2.2 x2 ((2 : Int32) - (1 : Int32)) v19 ev19) k_X2_sticks m_840 rfl rfl ⟨Nat.le_of_ble_eq_true rfl, Nat.le_of_ble_eq_true rfl⟩ hI rfl rfl (h_me_eq ev19).1 rfl hl.1 rfl (Nat.le_of_ble_eq_true rfl) dX7_writeLengths_62 ⟨by decide, by decide⟩) hI (fun H locs hI => ?_)
        refine lv_iload_n hx hb dX7_writeLengths_65 rfl (lv_at hl 1 rfl) ?_
        refine lv_icmp_gt (tgt := 72) hx hb dX7_writeLengths_66 (by decide) (fun c20 => ?_) (fun c20 => ?_)
        · replace hq := i_t c20 hq
          refine lv_aload_n hx hb dX7_writeLengths_72 rfl (lv_at hl 2 rfl) ?_
          obtain ⟨v21, ev21, hq⟩ := b_s hq
          refine fa_gr (own := RX7) (ref := "CoastlineRuler") (k := 12) hx hb hB inB_RX7 hown hI rfl (by decide) m_277 (fun _ h9 => h9) ev21 dX7_writeLengths_73 ?_
          refine lv_bipush (v := (32 : Int32)) hx hb dX7_writeLengths_76 (by decide) ?_
          obtain ⟨v22, ev22, hq⟩ := b_s hq
          refine gw_r (g_runV (As := [.int (32 : Int32)]) (rest := []) (ci := 1) hC (c_J4_append_cf468 l V g D cT v18.2.1 v18.2.2 v21 (32 : Int32) v22 ev22) k_J4_append_cf468 m_1436 rfl rfl ⟨Nat.le_of_ble_eq_true rfl, Nat.le_of_ble_eq_true rfl⟩ hI rfl rfl (h_me_eq ev22).1 rfl hl.1 rfl (Nat.le_of_ble_eq_true rfl) dX7_writeLengths_78 ⟨by decide, by decide⟩) hI (fun H locs hI => ?_)
          refine lv_pop hx hb dX7_writeLengths_81 rfl ?_
          refine lv_aload_n hx hb dX7_writeLengths_82 rfl (lv_at hl 2 rfl) ?_
          obtain ⟨v23, ev23, hq⟩ := b_s hq
          refine fa_gr (own := RX7) (ref := "CoastlineRuler") (k := 12) hx hb hB inB_RX7 hown hI rfl (by decide) m_277 (fun _ h9 => h9) ev23 dX7_writeLengths_83 ?_
          refine lv_aload_n hx hb dX7_writeLengths_86 rfl (lv_at hl 3 rfl) ?_
          refine lv_iload hx hb dX7_writeLengths_87 (lv_at hl 0 rfl) ?_
          refine lv_aload_n hx hb dX7_writeLengths_89 rfl (lv_at hl 2 rfl) ?_
          obtain ⟨v24, ev24, hq⟩ := b_s hq
          refine fa_gr (own := RX7) (ref := "CoastlineRuler") (k := 0) hx hb hB inB_RX7 hown hI rfl (by decide) m_265 (fun _ h9 => h9) ev24 dX7_writeLengths_90 ?_
          obtain ⟨v25, ev25, hq⟩ := b_s hq
          refine fa_gi (own := RX7) (ref := "CoastlineRuler$Chart") (k := 2) hx hb hB inB_RX1 hown hI rfl (by decide) m_83 (fun _ h9 => h9) ev25 dX7_writeLengths_93 ?_
          obtain ⟨v26, ev26, hq⟩ := b_s hq
          refine gr_i (g_runV (As := [.int (2 : Int32), .int v25]) (rest := [.ref v23]) (ci := 5) hC (c_X2_measure l V g D cT v22.2.1 v22.2.2 x2 (2 : Int32) v25 v26 ev26) k_X2_measure m_812 rfl rfl ⟨Nat.le_of_ble_eq_true rfl, Nat.le_of_ble_eq_true rfl⟩ hI rfl rfl (h_me_eq ev26).1 rfl hl.1 rfl (Nat.le_of_ble_eq_true rfl) dX7_writeLengths_96 ⟨by decide, by decide⟩) hI (fun H locs hI => ?_)
          obtain ⟨v27, ev27, hq⟩ := b_s hq
          refine gw_r (g_runV (As := [.int v26]) (rest := []) (ci := 1) hC (c_J4_append_bf812 l V g D cT v22.2.1 v22.2.2 v23 v26 v27 ev27) k_J4_append_bf812 m_1435 rfl rfl ⟨Nat.le_of_ble_eq_true rfl, Nat.le_of_ble_eq_true rfl⟩ hI rfl rfl (h_me_eq ev27).1 rfl hl.1 rfl (Nat.le_of_ble_eq_true rfl) dX7_writeLengths_99 ⟨by decide, by decide⟩) hI (fun H locs hI => ?_)
          refine lv_pop hx hb dX7_writeLengths_102 rfl ?_
          refine lv_iinc (v := (3 : Int32)) (lv' := [(4, .int (3 : Int32)), (3, .int t0), (0, .ref x0), (2, .ref x2)]) hx hb dX7_writeLengths_103 hl (k := 0) rfl (by decide) (by decide) rfl (fun ls hl => ?_)
          refine lv_goto (tgt := 50) hx hb dX7_writeLengths_106 (by decide) ?_
          refine lv_iload hx hb dX7_writeLengths_50 (lv_at hl 0 rfl) ?_
          refine lv_bipush (v := (7 : Int32)) hx hb dX7_writeLengths_52 (by decide) ?_
          refine lv_icmp_gt (tgt := 109) hx hb dX7_writeLengths_54 (by decide) (fun c => absurd c (by decide)) (fun _ => ?_)
          refine lv_aload_n hx hb dX7_writeLengths_57 rfl (lv_at hl 3 rfl) ?_
          refine lv_iload hx hb dX7_writeLengths_58 (lv_at hl 0 rfl) ?_
          refine lv_iconst (v := (1 : Int32)) hx hb dX7_writeLengths_60 (by decide) ?_
          refine lv_isub hx hb dX7_writeLengths_61 ?_
          obtain ⟨v28, ev28, hq⟩ := b_s hq
          refine gr_i (g_runV (As := [.int ((3 : Int32) - (1 : Int32))]) (rest := []) (ci := 5) hC (c_X2_sticks l V g D cT v27.2.1 v27.2.2 x2 ((3 : Int32) - (1 : Int32)) v28 ev28) k_X2_sticks m_840 rfl rfl ⟨Nat.le_of_ble_eq_true rfl, Nat.le_of_ble_eq_true rfl⟩ hI rfl rfl (h_me_eq ev28).1 rfl hl.1 rfl (Nat.le_of_ble_eq_true rfl) dX7_writeLengths_62 ⟨by decide, by decide⟩) hI (fun H locs hI => ?_)
          refine lv_iload_n hx hb dX7_writeLengths_65 rfl (lv_at hl 1 rfl) ?_
          refine lv_icmp_gt (tgt := 72) hx hb dX7_writeLengths_66 (by decide) (fun c29 => ?_) (fun c29 => ?_)
          · replace hq := i_t c29 hq
            refine lv_aload_n hx hb dX7_writeLengths_72 rfl (lv_at hl 2 rfl) ?_
            obtain ⟨v30, ev30, hq⟩ := b_s hq
            refine fa_gr (own := RX7) (ref := "CoastlineRuler") (k := 12) hx hb hB inB_RX7 hown hI rfl (by decide) m_277 (fun _ h9 => h9) ev30 dX7_writeLengths_73 ?_
            refine lv_bipush (v := (32 : Int32)) hx hb dX7_writeLengths_76 (by decide) ?_
            obtain ⟨v31, ev31, hq⟩ := b_s hq
            refine gw_r (g_runV (As := [.int (32 : Int32)]) (rest := []) (ci := 1) hC (c_J4_append_cf468 l V g D cT v27.2.1 v27.2.2 v30 (32 : Int32) v31 ev31) k_J4_append_cf468 m_1436 rfl rfl ⟨Nat.le_of_ble_eq_true rfl, Nat.le_of_ble_eq_true rfl⟩ hI rfl rfl (h_me_eq ev31).1 rfl hl.1 rfl (Nat.le_of_ble_eq_true rfl) dX7_writeLengths_78 ⟨by decide, by decide⟩) hI (fun H locs hI => ?_)
            refine lv_pop hx hb dX7_writeLengths_81 rfl ?_
            refine lv_aload_n hx hb dX7_writeLengths_82 rfl (lv_at hl 2 rfl) ?_
            obtain ⟨v32, ev32, hq⟩ := b_s hq
            refine fa_gr (own := RX7) (ref := "CoastlineRuler") (k := 12) hx hb hB inB_RX7 hown hI rfl (by decide) m_277 (fun _ h9 => h9) ev32 dX7_writeLengths_83 ?_
            refine lv_aload_n hx hb dX7_writeLengths_86 rfl (lv_at hl 3 rfl) ?_
            refine lv_iload hx hb dX7_writeLengths_87 (lv_at hl 0 rfl) ?_
            refine lv_aload_n hx hb dX7_writeLengths_89 rfl (lv_at hl 2 rfl) ?_
            obtain ⟨v33, ev33, hq⟩ := b_s hq
            refine fa_gr (own := RX7) (ref := "CoastlineRuler") (k := 0) hx hb hB inB_RX7 hown hI rfl (by decide) m_265 (fun _ h9 => h9) ev33 dX7_writeLengths_90 ?_
            obtain ⟨v34, ev34, hq⟩ := b_s hq
            refine fa_gi (own := RX7) (ref := "CoastlineRuler$Chart") (k := 2) hx hb hB inB_RX1 hown hI rfl (by decide) m_83 (fun _ h9 => h9) ev34 dX7_writeLengths_93 ?_
            obtain ⟨v35, ev35, hq⟩ := b_s hq
            refine gr_i (g_runV (As := [.int (3 : Int32), .int v34]) (rest := [.ref v32]) (ci := 5) hC (c_X2_measure l V g D cT v31.2.1 v31.2.2 x2 (3 : Int32) v34 v35 ev35) k_X2_measure m_812 rfl rfl ⟨Nat.le_of_ble_eq_true rfl, Nat.le_of_ble_eq_true rfl⟩ hI rfl rfl (h_me_eq ev35).1 rfl hl.1 rfl (Nat.le_of_ble_eq_true rfl) dX7_writeLengths_96 ⟨by decide, by decide⟩) hI (fun H locs hI => ?_)
            obtain ⟨v36, ev36, hq⟩ := b_s hq
            refine gw_r (g_runV (As := [.int v35]) (rest := []) (ci := 1) hC (c_J4_append_bf812 l V g D cT v31.2.1 v31.2.2 v32 v35 v36 ev36) k_J4_append_bf812 m_1435 rfl rfl ⟨Nat.le_of_ble_eq_true rfl, Nat.le_of_ble_eq_true rfl⟩ hI rfl rfl (h_me_eq ev36).1 rfl hl.1 rfl (Nat.le_of_ble_eq_true rfl) dX7_writeLengths_99 ⟨by decide, by decide⟩) hI (fun H locs hI => ?_)
            refine lv_pop hx hb dX7_writeLengths_102 rfl ?_
            refine lv_iinc (v := (4 : Int32)) (lv' := [(4, .int (4 : Int32)), (3, .int t0), (0, .ref x0), (2, .ref x2)]) hx hb dX7_writeLengths_103 hl (k := 0) rfl (by decide) (by decide) rfl (fun ls hl => ?_)
            refine lv_goto (tgt := 50) hx hb dX7_writeLengths_106 (by decide) ?_
            refine lv_iload hx hb dX7_writeLengths_50 (lv_at hl 0 rfl) ?_
            refine lv_bipush (v := (7 : Int32)) hx hb dX7_writeLengths_52 (by decide) ?_
            refine lv_icmp_gt (tgt := 109) hx hb dX7_writeLengths_54 (by decide) (fun c => absurd c (by decide)) (fun _ => ?_)
            refine lv_aload_n hx hb dX7_writeLengths_57 rfl (lv_at hl 3 rfl) ?_
            refine lv_iload hx hb dX7_writeLengths_58 (lv_at hl 0 rfl) ?_
            refine lv_iconst (v := (1 : Int32)) hx hb dX7_writeLengths_60 (by decide) ?_
            refine lv_isub hx hb dX7_writeLengths_61 ?_
            obtain ⟨v37, ev37, hq⟩ := b_s hq
            refine gr_i (g_runV (As := [.int ((4 : Int32) - (1 : Int32))]) (rest := []) (ci := 5) hC (c_X2_sticks l V g D cT v36.2.1 v36.2.2 x2 ((4 : Int32) - (1 : Int32)) v37 ev37) k_X2_sticks m_840 rfl rfl ⟨Nat.le_of_ble_eq_true rfl, Nat.le_of_ble_eq_true rfl⟩ hI rfl rfl (h_me_eq ev37).1 rfl hl.1 rfl (Nat.le_of_ble_eq_true rfl) dX7_writeLengths_62 ⟨by decide, by decide⟩) hI (fun H locs hI => ?_)
            refine lv_iload_n hx hb dX7_writeLengths_65 rfl (lv_at hl 1 rfl) ?_
            refine lv_icmp_gt (tgt := 72) hx hb dX7_writeLengths_66 (by decide) (fun c38 => ?_) (fun c38 => ?_)
            · replace hq := i_t c38 hq
              refine lv_aload_n hx hb dX7_writeLengths_72 rfl (lv_at hl 2 rfl) ?_
              obtain ⟨v39, ev39, hq⟩ := b_s hq
              refine fa_gr (own := RX7) (ref := "CoastlineRuler") (k := 12) hx hb hB inB_RX7 hown hI rfl (by decide) m_277 (fun _ h9 => h9) ev39 dX7_writeLengths_73 ?_
              refine lv_bipush (v := (32 : Int32)) hx hb dX7_writeLengths_76 (by decide) ?_
              obtain ⟨v40, ev40, hq⟩ := b_s hq
              refine gw_r (g_runV (As := [.int (32 : Int32)]) (rest := []) (ci := 1) hC (c_J4_append_cf468 l V g D cT v36.2.1 v36.2.2 v39 (32 : Int32) v40 ev40) k_J4_append_cf468 m_1436 rfl rfl ⟨Nat.le_of_ble_eq_true rfl, Nat.le_of_ble_eq_true rfl⟩ hI rfl rfl (h_me_eq ev40).1 rfl hl.1 rfl (Nat.le_of_ble_eq_true rfl) dX7_writeLengths_78 ⟨by decide, by decide⟩) hI (fun H locs hI => ?_)
              refine lv_pop hx hb dX7_writeLengths_81 rfl ?_
              refine lv_aload_n hx hb dX7_writeLengths_82 rfl (lv_at hl 2 rfl) ?_
              obtain ⟨v41, ev41, hq⟩ := b_s hq
              refine fa_gr (own := RX7) (ref := "CoastlineRuler") (k := 12) hx hb hB inB_RX7 hown hI rfl (by decide) m_277 (fun _ h9 => h9) ev41 dX7_writeLengths_83 ?_
              refine lv_aload_n hx hb dX7_writeLengths_86 rfl (lv_at hl 3 rfl) ?_
              refine lv_iload hx hb dX7_writeLengths_87 (lv_at hl 0 rfl) ?_
              refine lv_aload_n hx hb dX7_writeLengths_89 rfl (lv_at hl 2 rfl) ?_
              obtain ⟨v42, ev42, hq⟩ := b_s hq
              refine fa_gr (own := RX7) (ref := "CoastlineRuler") (k := 0) hx hb hB inB_RX7 hown hI rfl (by decide) m_265 (fun _ h9 => h9) ev42 dX7_writeLengths_90 ?_
              obtain ⟨v43, ev43, hq⟩ := b_s hq
              refine fa_gi (own := RX7) (ref := "CoastlineRuler$Chart") (k := 2) hx hb hB inB_RX1 hown hI rfl (by decide) m_83 (fun _ h9 => h9) ev43 dX7_writeLengths_93 ?_
              obtain ⟨v44, ev44, hq⟩ := b_s hq
              refine gr_i (g_runV (As := [.int (4 : Int32), .int v43]) (rest := [.ref v41]) (ci := 5) hC (c_X2_measure l V g D cT v40.2.1 v40.2.2 x2 (4 : Int32) v43 v44 ev44) k_X2_measure m_812 rfl rfl ⟨Nat.le_of_ble_eq_true rfl, Nat.le_of_ble_eq_true rfl⟩ hI rfl rfl (h_me_eq ev44).1 rfl hl.1 rfl (Nat.le_of_ble_eq_true rfl) dX7_writeLengths_96 ⟨by decide, by decide⟩) hI (fun H locs hI => ?_)
              obtain ⟨v45, ev45, hq⟩ := b_s hq
              refine gw_r (g_runV (As := [.int v44]) (rest := []) (ci := 1) hC (c_J4_append_bf812 l V g D cT v40.2.1 v40.2.2 v41 v44 v45 ev45) k_J4_append_bf812 m_1435 rfl rfl ⟨Nat.le_of_ble_eq_true rfl, Nat.le_of_ble_eq_true rfl⟩ hI rfl rfl (h_me_eq ev45).1 rfl hl.1 rfl (Nat.le_of_ble_eq_true rfl) dX7_writeLengths_99 ⟨by decide, by decide⟩) hI (fun H locs hI => ?_)
              refine lv_pop hx hb dX7_writeLengths_102 rfl ?_
              refine lv_iinc (v := (5 : Int32)) (lv' := [(4, .int (5 : Int32)), (3, .int t0), (0, .ref x0), (2, .ref x2)]) hx hb dX7_writeLengths_103 hl (k := 0) rfl (by decide) (by decide) rfl (fun ls hl => ?_)
              refine lv_goto (tgt := 50) hx hb dX7_writeLengths_106 (by decide) ?_
              refine lv_iload hx hb dX7_writeLengths_50 (lv_at hl 0 rfl) ?_
              refine lv_bipush (v := (7 : Int32)) hx hb dX7_writeLengths_52 (by decide) ?_
              refine lv_icmp_gt (tgt := 109) hx hb dX7_writeLengths_54 (by decide) (fun c => absurd c (by decide)) (fun _ => ?_)
              refine lv_aload_n hx hb dX7_writeLengths_57 rfl (lv_at hl 3 rfl) ?_
              refine lv_iload hx hb dX7_writeLengths_58 (lv_at hl 0 rfl) ?_
              refine lv_iconst (v := (1 : Int32)) hx hb dX7_writeLengths_60 (by decide) ?_
              refine lv_isub hx hb dX7_writeLengths_61 ?_
              obtain ⟨v46, ev46, hq⟩ := b_s hq
              refine gr_i (g_runV (As := [.int ((5 : Int32) - (1 : Int32))]) (rest := []) (ci := 5) hC (c_X2_sticks l V g D cT v45.2.1 v45.2.2 x2 ((5 : Int32) - (1 : Int32)) v46 ev46) k_X2_sticks m_840 rfl rfl ⟨Nat.le_of_ble_eq_true rfl, Nat.le_of_ble_eq_true rfl⟩ hI rfl rfl (h_me_eq ev46).1 rfl hl.1 rfl (Nat.le_of_ble_eq_true rfl) dX7_writeLengths_62 ⟨by decide, by decide⟩) hI (fun H locs hI => ?_)
              refine lv_iload_n hx hb dX7_writeLengths_65 rfl (lv_at hl 1 rfl) ?_
              refine lv_icmp_gt (tgt := 72) hx hb dX7_writeLengths_66 (by decide) (fun c47 => ?_) (fun c47 => ?_)
              · replace hq := i_t c47 hq
                refine lv_aload_n hx hb dX7_writeLengths_72 rfl (lv_at hl 2 rfl) ?_
                obtain ⟨v48, ev48, hq⟩ := b_s hq
                refine fa_gr (own := RX7) (ref := "CoastlineRuler") (k := 12) hx hb hB inB_RX7 hown hI rfl (by decide) m_277 (fun _ h9 => h9) ev48 dX7_writeLengths_73 ?_
                refine lv_bipush (v := (32 : Int32)) hx hb dX7_writeLengths_76 (by decide) ?_
                obtain ⟨v49, ev49, hq⟩ := b_s hq
                refine gw_r (g_runV (As := [.int (32 : Int32)]) (rest := []) (ci := 1) hC (c_J4_append_cf468 l V g D cT v45.2.1 v45.2.2 v48 (32 : Int32) v49 ev49) k_J4_append_cf468 m_1436 rfl rfl ⟨Nat.le_of_ble_eq_true rfl, Nat.le_of_ble_eq_true rfl⟩ hI rfl rfl (h_me_eq ev49).1 rfl hl.1 rfl (Nat.le_of_ble_eq_true rfl) dX7_writeLengths_78 ⟨by decide, by decide⟩) hI (fun H locs hI => ?_)
                refine lv_pop hx hb dX7_writeLengths_81 rfl ?_
                refine lv_aload_n hx hb dX7_writeLengths_82 rfl (lv_at hl 2 rfl) ?_
                obtain ⟨v50, ev50, hq⟩ := b_s hq
                refine fa_gr (own := RX7) (ref := "CoastlineRuler") (k := 12) hx hb hB inB_RX7 hown hI rfl (by decide) m_277 (fun _ h9 => h9) ev50 dX7_writeLengths_83 ?_
                refine lv_aload_n hx hb dX7_writeLengths_86 rfl (lv_at hl 3 rfl) ?_
                refine lv_iload hx hb dX7_writeLengths_87 (lv_at hl 0 rfl) ?_
                refine lv_aload_n hx hb dX7_writeLengths_89 rfl (lv_at hl 2 rfl) ?_
                obtain ⟨v51, ev51, hq⟩ := b_s hq
                refine fa_gr (own := RX7) (ref := "CoastlineRuler") (k := 0) hx hb hB inB_RX7 hown hI rfl (by decide) m_265 (fun _ h9 => h9) ev51 dX7_writeLengths_90 ?_
                obtain ⟨v52, ev52, hq⟩ := b_s hq
                refine fa_gi (own := RX7) (ref := "CoastlineRuler$Chart") (k := 2) hx hb hB inB_RX1 hown hI rfl (by decide) m_83 (fun _ h9 => h9) ev52 dX7_writeLengths_93 ?_
                obtain ⟨v53, ev53, hq⟩ := b_s hq
                refine gr_i (g_runV (As := [.int (5 : Int32), .int v52]) (rest := [.ref v50]) (ci := 5) hC (c_X2_measure l V g D cT v49.2.1 v49.2.2 x2 (5 : Int32) v52 v53 ev53) k_X2_measure m_812 rfl rfl ⟨Nat.le_of_ble_eq_true rfl, Nat.le_of_ble_eq_true rfl⟩ hI rfl rfl (h_me_eq ev53).1 rfl hl.1 rfl (Nat.le_of_ble_eq_true rfl) dX7_writeLengths_96 ⟨by decide, by decide⟩) hI (fun H locs hI => ?_)
                obtain ⟨v54, ev54, hq⟩ := b_s hq
                refine gw_r (g_runV (As := [.int v53]) (rest := []) (ci := 1) hC (c_J4_append_bf812 l V g D cT v49.2.1 v49.2.2 v50 v53 v54 ev54) k_J4_append_bf812 m_1435 rfl rfl ⟨Nat.le_of_ble_eq_true rfl, Nat.le_of_ble_eq_true rfl⟩ hI rfl rfl (h_me_eq ev54).1 rfl hl.1 rfl (Nat.le_of_ble_eq_true rfl) dX7_writeLengths_99 ⟨by decide, by decide⟩) hI (fun H locs hI => ?_)
                refine lv_pop hx hb dX7_writeLengths_102 rfl ?_
                refine lv_iinc (v := (6 : Int32)) (lv' := [(4, .int (6 : Int32)), (3, .int t0), (0, .ref x0), (2, .ref x2)]) hx hb dX7_writeLengths_103 hl (k := 0) rfl (by decide) (by decide) rfl (fun ls hl => ?_)
                refine lv_goto (tgt := 50) hx hb dX7_writeLengths_106 (by decide) ?_
                refine lv_iload hx hb dX7_writeLengths_50 (lv_at hl 0 rfl) ?_
                refine lv_bipush (v := (7 : Int32)) hx hb dX7_writeLengths_52 (by decide) ?_
                refine lv_icmp_gt (tgt := 109) hx hb dX7_writeLengths_54 (by decide) (fun c => absurd c (by decide)) (fun _ => ?_)
                refine lv_aload_n hx hb dX7_writeLengths_57 rfl (lv_at hl 3 rfl) ?_
                refine lv_iload hx hb dX7_writeLengths_58 (lv_at hl 0 rfl) ?_
                refine lv_iconst (v := (1 : Int32)) hx hb dX7_writeLengths_60 (by decide) ?_
                refine lv_isub hx hb dX7_writeLengths_61 ?_
                obtain ⟨v55, ev55, hq⟩ := b_s hq
                refine gr_i (g_runV (As := [.int ((6 : Int32) - (1 : Int32))]) (rest := []) (ci := 5) hC (c_X2_sticks l V g D cT v54.2.1 v54.2.2 x2 ((6 : Int32) - (1 : Int32)) v55 ev55) k_X2_sticks m_840 rfl rfl ⟨Nat.le_of_ble_eq_true rfl, Nat.le_of_ble_eq_true rfl⟩ hI rfl rfl (h_me_eq ev55).1 rfl hl.1 rfl (Nat.le_of_ble_eq_true rfl) dX7_writeLengths_62 ⟨by decide, by decide⟩) hI (fun H locs hI => ?_)
                refine lv_iload_n hx hb dX7_writeLengths_65 rfl (lv_at hl 1 rfl) ?_
                refine lv_icmp_gt (tgt := 72) hx hb dX7_writeLengths_66 (by decide) (fun c56 => ?_) (fun c56 => ?_)
                · replace hq := i_t c56 hq
                  refine lv_aload_n hx hb dX7_writeLengths_72 rfl (lv_at hl 2 rfl) ?_
                  obtain ⟨v57, ev57, hq⟩ := b_s hq
                  refine fa_gr (own := RX7) (ref := "CoastlineRuler") (k := 12) hx hb hB inB_RX7 hown hI rfl (by decide) m_277 (fun _ h9 => h9) ev57 dX7_writeLengths_73 ?_
                  refine lv_bipush (v := (32 : Int32)) hx hb dX7_writeLengths_76 (by decide) ?_
                  obtain ⟨v58, ev58, hq⟩ := b_s hq
                  refine gw_r (g_runV (As := [.int (32 : Int32)]) (rest := []) (ci := 1) hC (c_J4_append_cf468 l V g D cT v54.2.1 v54.2.2 v57 (32 : Int32) v58 ev58) k_J4_append_cf468 m_1436 rfl rfl ⟨Nat.le_of_ble_eq_true rfl, Nat.le_of_ble_eq_true rfl⟩ hI rfl rfl (h_me_eq ev58).1 rfl hl.1 rfl (Nat.le_of_ble_eq_true rfl) dX7_writeLengths_78 ⟨by decide, by decide⟩) hI (fun H locs hI => ?_)
                  refine lv_pop hx hb dX7_writeLengths_81 rfl ?_
                  refine lv_aload_n hx hb dX7_writeLengths_82 rfl (lv_at hl 2 rfl) ?_
                  obtain ⟨v59, ev59, hq⟩ := b_s hq
                  refine fa_gr (own := RX7) (ref := "CoastlineRuler") (k := 12) hx hb hB inB_RX7 hown hI rfl (by decide) m_277 (fun _ h9 => h9) ev59 dX7_writeLengths_83 ?_
                  refine lv_aload_n hx hb dX7_writeLengths_86 rfl (lv_at hl 3 rfl) ?_
                  refine lv_iload hx hb dX7_writeLengths_87 (lv_at hl 0 rfl) ?_
                  refine lv_aload_n hx hb dX7_writeLengths_89 rfl (lv_at hl 2 rfl) ?_
                  obtain ⟨v60, ev60, hq⟩ := b_s hq
                  refine fa_gr (own := RX7) (ref := "CoastlineRuler") (k := 0) hx hb hB inB_RX7 hown hI rfl (by decide) m_265 (fun _ h9 => h9) ev60 dX7_writeLengths_90 ?_
                  obtain ⟨v61, ev61, hq⟩ := b_s hq
                  refine fa_gi (own := RX7) (ref := "CoastlineRuler$Chart") (k := 2) hx hb hB inB_RX1 hown hI rfl (by decide) m_83 (fun _ h9 => h9) ev61 dX7_writeLengths_93 ?_
                  obtain ⟨v62, ev62, hq⟩ := b_s hq
                  refine gr_i (g_runV (As := [.int (6 : Int32), .int v61]) (rest := [.ref v59]) (ci := 5) hC (c_X2_measure l V g D cT v58.2.1 v58.2.2 x2 (6 : Int32) v61 v62 ev62) k_X2_measure m_812 rfl rfl ⟨Nat.le_of_ble_eq_true rfl, Nat.le_of_ble_eq_true rfl⟩ hI rfl rfl (h_me_eq ev62).1 rfl hl.1 rfl (Nat.le_of_ble_eq_true rfl) dX7_writeLengths_96 ⟨by decide, by decide⟩) hI (fun H locs hI => ?_)
                  obtain ⟨v63, ev63, hq⟩ := b_s hq
                  refine gw_r (g_runV (As := [.int v62]) (rest := []) (ci := 1) hC (c_J4_append_bf812 l V g D cT v58.2.1 v58.2.2 v59 v62 v63 ev63) k_J4_append_bf812 m_1435 rfl rfl ⟨Nat.le_of_ble_eq_true rfl, Nat.le_of_ble_eq_true rfl⟩ hI rfl rfl (h_me_eq ev63).1 rfl hl.1 rfl (Nat.le_of_ble_eq_true rfl) dX7_writeLengths_99 ⟨by decide, by decide⟩) hI (fun H locs hI => ?_)
                  refine lv_pop hx hb dX7_writeLengths_102 rfl ?_
                  refine lv_iinc (v := (7 : Int32)) (lv' := [(4, .int (7 : Int32)), (3, .int t0), (0, .ref x0), (2, .ref x2)]) hx hb dX7_writeLengths_103 hl (k := 0) rfl (by decide) (by decide) rfl (fun ls hl => ?_)
                  refine lv_goto (tgt := 50) hx hb dX7_writeLengths_106 (by decide) ?_
                  refine lv_iload hx hb dX7_writeLengths_50 (lv_at hl 0 rfl) ?_
                  refine lv_bipush (v := (7 : Int32)) hx hb dX7_writeLengths_52 (by decide) ?_
                  refine lv_icmp_gt (tgt := 109) hx hb dX7_writeLengths_54 (by decide) (fun c => absurd c (by decide)) (fun _ => ?_)
                  refine lv_aload_n hx hb dX7_writeLengths_57 rfl (lv_at hl 3 rfl) ?_
                  refine lv_iload hx hb dX7_writeLengths_58 (lv_at hl 0 rfl) ?_
                  refine lv_iconst (v := (1 : Int32)) hx hb dX7_writeLengths_60 (by decide) ?_
                  refine lv_isub hx hb dX7_writeLengths_61 ?_
                  obtain ⟨v64, ev64, hq⟩ := b_s hq
                  refine gr_i (g_runV (As := [.int ((7 : Int32) - (1 : Int32))]) (rest := []) (ci := 5) hC (c_X2_sticks l V g D cT v63.2.1 v63.2.2 x2 ((7 : Int32) - (1 : Int32)) v64 ev64) k_X2_sticks m_840 rfl rfl ⟨Nat.le_of_ble_eq_true rfl, Nat.le_of_ble_eq_true rfl⟩ hI rfl rfl (h_me_eq ev64).1 rfl hl.1 rfl (Nat.le_of_ble_eq_true rfl) dX7_writeLengths_62 ⟨by decide, by decide⟩) hI (fun H locs hI => ?_)
                  refine lv_iload_n hx hb dX7_writeLengths_65 rfl (lv_at hl 1 rfl) ?_
                  refine lv_icmp_gt (tgt := 72) hx hb dX7_writeLengths_66 (by decide) (fun c65 => ?_) (fun c65 => ?_)
                  · replace hq := i_t c65 hq
                    refine lv_aload_n hx hb dX7_writeLengths_72 rfl (lv_at hl 2 rfl) ?_
                    obtain ⟨v66, ev66, hq⟩ := b_s hq
                    refine fa_gr (own := RX7) (ref := "CoastlineRuler") (k := 12) hx hb hB inB_RX7 hown hI rfl (by decide) m_277 (fun _ h9 => h9) ev66 dX7_writeLengths_73 ?_
                    refine lv_bipush (v := (32 : Int32)) hx hb dX7_writeLengths_76 (by decide) ?_
                    obtain ⟨v67, ev67, hq⟩ := b_s hq
                    refine gw_r (g_runV (As := [.int (32 : Int32)]) (rest := []) (ci := 1) hC (c_J4_append_cf468 l V g D cT v63.2.1 v63.2.2 v66 (32 : Int32) v67 ev67) k_J4_append_cf468 m_1436 rfl rfl ⟨Nat.le_of_ble_eq_true rfl, Nat.le_of_ble_eq_true rfl⟩ hI rfl rfl (h_me_eq ev67).1 rfl hl.1 rfl (Nat.le_of_ble_eq_true rfl) dX7_writeLengths_78 ⟨by decide, by decide⟩) hI (fun H locs hI => ?_)
                    refine lv_pop hx hb dX7_writeLengths_81 rfl ?_
                    refine lv_aload_n hx hb dX7_writeLengths_82 rfl (lv_at hl 2 rfl) ?_
                    obtain ⟨v68, ev68, hq⟩ := b_s hq
                    refine fa_gr (own := RX7) (ref := "CoastlineRuler") (k := 12) hx hb hB inB_RX7 hown hI rfl (by decide) m_277 (fun _ h9 => h9) ev68 dX7_writeLengths_83 ?_
                    refine lv_aload_n hx hb dX7_writeLengths_86 rfl (lv_at hl 3 rfl) ?_
                    refine lv_iload hx hb dX7_writeLengths_87 (lv_at hl 0 rfl) ?_
                    refine lv_aload_n hx hb dX7_writeLengths_89 rfl (lv_at hl 2 rfl) ?_
                    obtain ⟨v69, ev69, hq⟩ := b_s hq
                    refine fa_gr (own := RX7) (ref := "CoastlineRuler") (k := 0) hx hb hB inB_RX7 hown hI rfl (by decide) m_265 (fun _ h9 => h9) ev69 dX7_writeLengths_90 ?_
                    obtain ⟨v70, ev70, hq⟩ := b_s hq
                    refine fa_gi (own := RX7) (ref := "CoastlineRuler$Chart") (k := 2) hx hb hB inB_RX1 hown hI rfl (by decide) m_83 (fun _ h9 => h9) ev70 dX7_writeLengths_93 ?_
                    obtain ⟨v71, ev71, hq⟩ := b_s hq
                    refine gr_i (g_runV (As := [.int (7 : Int32), .int v70]) (rest := [.ref v68]) (ci := 5) hC (c_X2_measure l V g D cT v67.2.1 v67.2.2 x2 (7 : Int32) v70 v71 ev71) k_X2_measure m_812 rfl rfl ⟨Nat.le_of_ble_eq_true rfl, Nat.le_of_ble_eq_true rfl⟩ hI rfl rfl (h_me_eq ev71).1 rfl hl.1 rfl (Nat.le_of_ble_eq_true rfl) dX7_writeLengths_96 ⟨by decide, by decide⟩) hI (fun H locs hI => ?_)
                    obtain ⟨v72, ev72, hq⟩ := b_s hq
                    refine gw_r (g_runV (As := [.int v71]) (rest := []) (ci := 1) hC (c_J4_append_bf812 l V g D cT v67.2.1 v67.2.2 v68 v71 v72 ev72) k_J4_append_bf812 m_1435 rfl rfl ⟨Nat.le_of_ble_eq_true rfl, Nat.le_of_ble_eq_true rfl⟩ hI rfl rfl (h_me_eq ev72).1 rfl hl.1 rfl (Nat.le_of_ble_eq_true rfl) dX7_writeLengths_99 ⟨by decide, by decide⟩) hI (fun H locs hI => ?_)
                    refine lv_pop hx hb dX7_writeLengths_102 rfl ?_
                    refine lv_iinc (v := (8 : Int32)) (lv' := [(4, .int (8 : Int32)), (3, .int t0), (0, .ref x0), (2, .ref x2)]) hx hb dX7_writeLengths_103 hl (k := 0) rfl (by decide) (by decide) rfl (fun ls hl => ?_)
                    refine lv_goto (tgt := 50) hx hb dX7_writeLengths_106 (by decide) ?_
                    refine lv_iload hx hb dX7_writeLengths_50 (lv_at hl 0 rfl) ?_
                    refine lv_bipush (v := (7 : Int32)) hx hb dX7_writeLengths_52 (by decide) ?_
                    refine lv_icmp_gt (tgt := 109) hx hb dX7_writeLengths_54 (by decide) (fun _ => ?_) (fun c => absurd (by decide) c)
                    refine lv_aload_n hx hb dX7_writeLengths_109 rfl (lv_at hl 2 rfl) ?_
                    obtain ⟨v73, ev73, hq⟩ := b_s hq
                    refine fa_gr (own := RX7) (ref := "CoastlineRuler") (k := 12) hx hb hB inB_RX7 hown hI rfl (by decide) m_277 (fun _ h9 => h9) ev73 dX7_writeLengths_110 ?_
                    obtain ⟨v74, ev74, hq⟩ := b_s hq
                    refine gr_i (g_runV (As := []) (rest := []) (ci := 1) hC (c_J4_length_8abf5 l V g D cT v72.2.1 v72.2.2 v73 v74 ev74) k_J4_length_8abf5 m_1449 rfl rfl ⟨Nat.le_of_ble_eq_true rfl, Nat.le_of_ble_eq_true rfl⟩ hI rfl rfl (h_me_eq ev74).1 rfl hl.1 rfl (Nat.le_of_ble_eq_true rfl) dX7_writeLengths_113 ⟨by decide, by decide⟩) hI (fun H locs hI => ?_)
                    exact ge_Zi hx hb hlocks hr rfl hI hq dX7_writeLengths_116
                  · replace hq := i_f c65 hq
                    refine lv_goto (tgt := 109) hx hb dX7_writeLengths_69 (by decide) ?_
                    refine lv_aload_n hx hb dX7_writeLengths_109 rfl (lv_at hl 2 rfl) ?_
                    obtain ⟨v75, ev75, hq⟩ := b_s hq
                    refine fa_gr (own := RX7) (ref := "CoastlineRuler") (k := 12) hx hb hB inB_RX7 hown hI rfl (by decide) m_277 (fun _ h9 => h9) ev75 dX7_writeLengths_110 ?_
                    obtain ⟨v76, ev76, hq⟩ := b_s hq
                    refine gr_i (g_runV (As := []) (rest := []) (ci := 1) hC (c_J4_length_8abf5 l V g D cT v63.2.1 v63.2.2 v75 v76 ev76) k_J4_length_8abf5 m_1449 rfl rfl ⟨Nat.le_of_ble_eq_true rfl, Nat.le_of_ble_eq_true rfl⟩ hI rfl rfl (h_me_eq ev76).1 rfl hl.1 rfl (Nat.le_of_ble_eq_true rfl) dX7_writeLengths_113 ⟨by decide, by decide⟩) hI (fun H locs hI => ?_)
                    refine W.widen (k := 17) (n := 3206) (by decide) (by decide) ?_
                    exact ge_Zi hx hb hlocks hr rfl hI hq dX7_writeLengths_116
                · replace hq := i_f c56 hq
                  refine lv_goto (tgt := 109) hx hb dX7_writeLengths_69 (by decide) ?_
                  refine lv_aload_n hx hb dX7_writeLengths_109 rfl (lv_at hl 2 rfl) ?_
                  obtain ⟨v77, ev77, hq⟩ := b_s hq
                  refine fa_gr (own := RX7) (ref := "CoastlineRuler") (k := 12) hx hb hB inB_RX7 hown hI rfl (by decide) m_277 (fun _ h9 => h9) ev77 dX7_writeLengths_110 ?_
                  obtain ⟨v78, ev78, hq⟩ := b_s hq
                  refine gr_i (g_runV (As := []) (rest := []) (ci := 1) hC (c_J4_length_8abf5 l V g D cT v54.2.1 v54.2.2 v77 v78 ev78) k_J4_length_8abf5 m_1449 rfl rfl ⟨Nat.le_of_ble_eq_true rfl, Nat.le_of_ble_eq_true rfl⟩ hI rfl rfl (h_me_eq ev78).1 rfl hl.1 rfl (Nat.le_of_ble_eq_true rfl) dX7_writeLengths_113 ⟨by decide, by decide⟩) hI (fun H locs hI => ?_)
                  refine W.widen (k := 17) (n := 3206) (by decide) (by decide) ?_
                  exact ge_Zi hx hb hlocks hr rfl hI hq dX7_writeLengths_116
              · replace hq := i_f c47 hq
                refine lv_goto (tgt := 109) hx hb dX7_writeLengths_69 (by decide) ?_
                refine lv_aload_n hx hb dX7_writeLengths_109 rfl (lv_at hl 2 rfl) ?_
                obtain ⟨v79, ev79, hq⟩ := b_s hq
                refine fa_gr (own := RX7) (ref := "CoastlineRuler") (k := 12) hx hb hB inB_RX7 hown hI rfl (by decide) m_277 (fun _ h9 => h9) ev79 dX7_writeLengths_110 ?_
                obtain ⟨v80, ev80, hq⟩ := b_s hq
                refine gr_i (g_runV (As := []) (rest := []) (ci := 1) hC (c_J4_length_8abf5 l V g D cT v45.2.1 v45.2.2 v79 v80 ev80) k_J4_length_8abf5 m_1449 rfl rfl ⟨Nat.le_of_ble_eq_true rfl, Nat.le_of_ble_eq_true rfl⟩ hI rfl rfl (h_me_eq ev80).1 rfl hl.1 rfl (Nat.le_of_ble_eq_true rfl) dX7_writeLengths_113 ⟨by decide, by decide⟩) hI (fun H locs hI => ?_)
                refine W.widen (k := 17) (n := 3206) (by decide) (by decide) ?_
                exact ge_Zi hx hb hlocks hr rfl hI hq dX7_writeLengths_116
            · replace hq := i_f c38 hq
              refine lv_goto (tgt := 109) hx hb dX7_writeLengths_69 (by decide) ?_
              refine lv_aload_n hx hb dX7_writeLengths_109 rfl (lv_at hl 2 rfl) ?_
              obtain ⟨v81, ev81, hq⟩ := b_s hq
              refine fa_gr (own := RX7) (ref := "CoastlineRuler") (k := 12) hx hb hB inB_RX7 hown hI rfl (by decide) m_277 (fun _ h9 => h9) ev81 dX7_writeLengths_110 ?_
              obtain ⟨v82, ev82, hq⟩ := b_s hq
              refine gr_i (g_runV (As := []) (rest := []) (ci := 1) hC (c_J4_length_8abf5 l V g D cT v36.2.1 v36.2.2 v81 v82 ev82) k_J4_length_8abf5 m_1449 rfl rfl ⟨Nat.le_of_ble_eq_true rfl, Nat.le_of_ble_eq_true rfl⟩ hI rfl rfl (h_me_eq ev82).1 rfl hl.1 rfl (Nat.le_of_ble_eq_true rfl) dX7_writeLengths_113 ⟨by decide, by decide⟩) hI (fun H locs hI => ?_)
              refine W.widen (k := 17) (n := 3206) (by decide) (by decide) ?_
              exact ge_Zi hx hb hlocks hr rfl hI hq dX7_writeLengths_116
          · replace hq := i_f c29 hq
            refine lv_goto (tgt := 109) hx hb dX7_writeLengths_69 (by decide) ?_
            refine lv_aload_n hx hb dX7_writeLengths_109 rfl (lv_at hl 2 rfl) ?_
            obtain ⟨v83, ev83, hq⟩ := b_s hq
            refine fa_gr (own := RX7) (ref := "CoastlineRuler") (k := 12) hx hb hB inB_RX7 hown hI rfl (by decide) m_277 (fun _ h9 => h9) ev83 dX7_writeLengths_110 ?_
            obtain ⟨v84, ev84, hq⟩ := b_s hq
            refine gr_i (g_runV (As := []) (rest := []) (ci := 1) hC (c_J4_length_8abf5 l V g D cT v27.2.1 v27.2.2 v83 v84 ev84) k_J4_length_8abf5 m_1449 rfl rfl ⟨Nat.le_of_ble_eq_true rfl, Nat.le_of_ble_eq_true rfl⟩ hI rfl rfl (h_me_eq ev84).1 rfl hl.1 rfl (Nat.le_of_ble_eq_true rfl) dX7_writeLengths_113 ⟨by decide, by decide⟩) hI (fun H locs hI => ?_)
            refine W.widen (k := 17) (n := 3206) (by decide) (by decide) ?_
            exact ge_Zi hx hb hlocks hr rfl hI hq dX7_writeLengths_116
        · replace hq := i_f c20 hq
          refine lv_goto (tgt := 109) hx hb dX7_writeLengths_69 (by decide) ?_
          refine lv_aload_n hx hb dX7_writeLengths_109 rfl (lv_at hl 2 rfl) ?_
          obtain ⟨v85, ev85, hq⟩ := b_s hq
          refine fa_gr (own := RX7) (ref := "CoastlineRuler") (k := 12) hx hb hB inB_RX7 hown hI rfl (by decide) m_277 (fun _ h9 => h9) ev85 dX7_writeLengths_110 ?_
          obtain ⟨v86, ev86, hq⟩ := b_s hq
          refine gr_i (g_runV (As := []) (rest := []) (ci := 1) hC (c_J4_length_8abf5 l V g D cT v18.2.1 v18.2.2 v85 v86 ev86) k_J4_length_8abf5 m_1449 rfl rfl ⟨Nat.le_of_ble_eq_true rfl, Nat.le_of_ble_eq_true rfl⟩ hI rfl rfl (h_me_eq ev86).1 rfl hl.1 rfl (Nat.le_of_ble_eq_true rfl) dX7_writeLengths_113 ⟨by decide, by decide⟩) hI (fun H locs hI => ?_)
          refine W.widen (k := 17) (n := 3206) (by decide) (by decide) ?_
          exact ge_Zi hx hb hlocks hr rfl hI hq dX7_writeLengths_116
      · replace hq := i_f c11 hq
        refine lv_goto (tgt := 109) hx hb dX7_writeLengths_69 (by decide) ?_
        refine lv_aload_n hx hb dX7_writeLengths_109 rfl (lv_at hl 2 rfl) ?_
        obtain ⟨v87, ev87, hq⟩ := b_s hq
        refine fa_gr (own := RX7) (ref := "CoastlineRuler") (k := 12) hx hb hB inB_RX7 hown hI rfl (by decide) m_277 (fun _ h9 => h9) ev87 dX7_writeLengths_110 ?_
        obtain ⟨v88, ev88, hq⟩ := b_s hq
        refine gr_i (g_runV (As := []) (rest := []) (ci := 1) hC (c_J4_length_8abf5 l V g D cT v9.2.1 v9.2.2 v87 v88 ev88) k_J4_length_8abf5 m_1449 rfl rfl ⟨Nat.le_of_ble_eq_true rfl, Nat.le_of_ble_eq_true rfl⟩ hI rfl rfl (h_me_eq ev88).1 rfl hl.1 rfl (Nat.le_of_ble_eq_true rfl) dX7_writeLengths_113 ⟨by decide, by decide⟩) hI (fun H locs hI => ?_)
        refine W.widen (k := 17) (n := 3206) (by decide) (by decide) ?_
        exact ge_Zi hx hb hlocks hr rfl hI hq dX7_writeLengths_116
    refine lv_if_eq (tgt := 17) hx hb dX7_writeLengths_10 (by decide) (fun c89 => ?_) (fun c89 => ?_)
    · replace hq := i_t c89 hq
      refine lv_iconst (v := (1 : Int32)) hx hb dX7_writeLengths_17 (by decide) ?_
      exact hj18 a0 v1 (1 : Int32) f n H locs ls hI (lv_sub hl [1, 0] rfl) hq
    · replace hq := i_f c89 hq
      refine lv_iconst (v := (2 : Int32)) hx hb dX7_writeLengths_13 (by decide) ?_
      refine lv_goto (tgt := 18) hx hb dX7_writeLengths_14 (by decide) ?_
      exact hj18 a0 v1 (2 : Int32) f n H locs ls hI (lv_sub hl [1, 0] rfl) hq


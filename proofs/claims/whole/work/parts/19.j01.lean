abbrev rm_J4_setLength_d00df : Room := { frames := 7, cells := 1, slots := 200, locals := 232 }
theorem k_J4_setLength_d00df : g_CV yJ4_setLength_d00df cJ4_setLength_d00df 2 none 1 := ⟨⟨m_1191, m_10, by decide +kernel⟩, m_1189, m_1190⟩
set_option maxHeartbeats 4000000 in
set_option maxRecDepth 100000 in
theorem c_J4_setLength_d00df (l : Launch) (V : Nat → Nat) (g : GH) (D : va_G) (cT : Nat → ClassId) (f : GH) (n : Nat) (a0 : Nat) (a1 : Int32) (o : GH × Nat) (hq : p_J4_setLength_d00df V g f n a0 a1 = some o) : Met l yJ4_setLength_d00df (Cond.code yJ4_setLength_d00df cJ4_setLength_d00df 2 none :: g_B) rm_J4_setLength_d00df (va_Pc [.ref a0, .int a1] (g_I V g D cT f n)) (g_Wv V D cT o.1 o.2) 1 200 (g_A V) := by
  refine g_begin (own := RJ4) [.ref a0, .int a1] [(0, .ref a0), (1, .int a1)] (g_A V) (fun _ h => h) (by decide) rfl (Nat.le_of_ble_eq_true rfl) rfl ?_
  intro p e s m args below meth c hx hb hr hlocks hin hC hI ls hl
  obtain ⟨hx, hb, hml, hown, hB⟩ := id hC
  obtain ⟨H, hH⟩ : ∃ H, H = s.heap := ⟨_, rfl⟩
  obtain ⟨locs, hlocs⟩ : ∃ L : List Loc, L = [] := ⟨_, rfl⟩
  rw [← hH, ← hlocs] at hI ⊢
  clear hH hlocs
  unfold p_J4_setLength_d00df at hq
  replace hq := (h_me_eq hq).2
  refine lv_aload_n hx hb dJ4_setLength_d00df_0 rfl (lv_at hl 0 rfl) ?_
  refine lv_iload_n hx hb dJ4_setLength_d00df_1 rfl (lv_at hl 1 rfl) ?_
  obtain ⟨v1, ev1, hq⟩ := b_s hq
  refine gw_v (g_runSU (As := [.int a1]) (rest := []) (ci := 1) hC (c_J5_setLength_d00df l V g D cT f n a0 a1 v1 ev1) (⟨⟨m_1194, m_9⟩, m_1193, m_2207, m_239, by decide, by decide +kernel⟩ : g_CSU "java/lang/StringBuilder" yJ5_setLength_d00df cJ5_setLength_d00df 2 none 1) m_1192 rfl rfl ⟨Nat.le_of_ble_eq_true rfl, Nat.le_of_ble_eq_true rfl⟩ hI rfl (h_me_eq ev1).1 rfl hl.1 rfl (Nat.le_of_ble_eq_true rfl) dJ4_setLength_d00df_2 ⟨by decide, by decide⟩) hI (fun H locs hI => ?_)
  obtain rfl := Option.some.inj hq
  exact ge_Wv hx hb hlocks hr hI rfl dJ4_setLength_d00df_5

abbrev rm_J5_charAt_5068e : Room := { frames := 4, cells := 0, slots := 0, locals := 163 }
set_option maxHeartbeats 4000000 in
set_option maxRecDepth 100000 in
theorem c_J5_charAt_5068e (l : Launch) (V : Nat → Nat) (g : GH) (D : va_G) (cT : Nat → ClassId) (f : GH) (n : Nat) (a0 : Nat) (a1 : Int32) (o : Int32) (hq : p_J5_charAt_5068e V g f a0 a1 = some o) : Met l yJ5_charAt_5068e (Cond.code yJ5_charAt_5068e cJ5_charAt_5068e 5 (some .char) :: g_B) rm_J5_charAt_5068e (va_Pc [.ref a0, .int a1] (g_I V g D cT f n)) (g_Ri o n) 0 0 g_no := by
  refine g_begin (own := RJ5) [.ref a0, .int a1] [(0, .ref a0), (1, .int a1)] g_no (fun _ h => h.elim) (by decide) rfl (Nat.le_of_ble_eq_true rfl) rfl ?_
  intro p e s m args below meth c hx hb hr hlocks hin hC hI ls hl
  obtain ⟨hx, hb, hml, hown, hB⟩ := id hC
  obtain ⟨H, hH⟩ : ∃ H, H = s.heap := ⟨_, rfl⟩
  obtain ⟨locs, hlocs⟩ : ∃ L : List Loc, L = [] := ⟨_, rfl⟩
  rw [← hH, ← hlocs] at hI ⊢
  clear hH hlocs
  unfold p_J5_charAt_5068e at hq
  replace hq := (h_me_eq hq).2
  refine lv_aload_n hx hb dJ5_charAt_5068e_0 rfl (lv_at hl 0 rfl) ?_
  obtain ⟨v1, ev1, hq⟩ := b_s hq
  refine fa_gi (own := RJ5) (ref := "java/lang/AbstractStringBuilder") (k := 1) hx hb hB inB_RJ4 hown hI rfl (by decide) m_227 (fun _ h9 => h9) ev1 dJ5_charAt_5068e_1 ?_
  refine lv_istore_n (lv' := [(2, .int v1), (0, .ref a0), (1, .int a1)]) hx hb dJ5_charAt_5068e_4 rfl hl (by decide) rfl (fun ls hl => ?_)
  refine lv_aload_n hx hb dJ5_charAt_5068e_5 rfl (lv_at hl 1 rfl) ?_
  obtain ⟨v2, ev2, hq⟩ := b_s hq
  refine fa_gr (own := RJ5) (ref := "java/lang/AbstractStringBuilder") (k := 0) hx hb hB inB_RJ4 hown hI rfl (by decide) m_226 (fun _ h9 => h9) ev2 dJ5_charAt_5068e_6 ?_
  refine lv_astore_n (lv' := [(3, .ref v2), (2, .int v1), (0, .ref a0), (1, .int a1)]) hx hb dJ5_charAt_5068e_9 rfl hl (by decide) rfl (fun ls hl => ?_)
  refine lv_aload_n hx hb dJ5_charAt_5068e_10 rfl (lv_at hl 2 rfl) ?_
  obtain ⟨v3, ev3, hq⟩ := b_s hq
  refine fa_gi (own := RJ5) (ref := "java/lang/AbstractStringBuilder") (k := 3) hx hb hB inB_RJ4 hown hI rfl (by decide) m_230 (fun _ h9 => h9) ev3 dJ5_charAt_5068e_11 ?_
  refine lv_aload_n hx hb dJ5_charAt_5068e_14 rfl (lv_at hl 0 rfl) ?_
  obtain ⟨v4, ev4, hq⟩ := b_s hq
  refine fa_al hx hb hI (by decide) ev4 dJ5_charAt_5068e_15 ?_
  refine lv_iload_n hx hb dJ5_charAt_5068e_16 rfl (lv_at hl 1 rfl) ?_
  refine lv_ishr hx hb dJ5_charAt_5068e_17 ?_
  obtain ⟨v5, ev5, hq⟩ := b_s hq
  refine g_min hx hb (hml.trans hl.1.symm) hown (hB _ m_1465) (hB _ m_977) (hB _ m_22) (hB _ m_978) (Nat.le_of_ble_eq_true rfl) (Nat.le_of_ble_eq_true rfl) (Nat.le_of_ble_eq_true rfl) (Nat.le_of_ble_eq_true rfl) ev5 dJ5_charAt_5068e_18 ?_
  refine lv_istore (lv' := [(4, .int v5), (3, .ref v2), (2, .int v1), (0, .ref a0), (1, .int a1)]) hx hb dJ5_charAt_5068e_21 hl (by decide) rfl (fun ls hl => ?_)
  refine lv_iload_n hx hb dJ5_charAt_5068e_23 rfl (lv_at hl 4 rfl) ?_
  refine lv_iload hx hb dJ5_charAt_5068e_24 (lv_at hl 0 rfl) ?_
  obtain ⟨v6, ev6, hq⟩ := b_s hq
  refine gr_v (g_runS (As := [.int a1, .int v5]) (rest := []) hC (c_J0_checkIndex_df160 l V g D cT f n a1 v5 v6 ev6) k_J0_checkIndex_df160 m_1466 rfl rfl ⟨Nat.le_of_ble_eq_true rfl, Nat.le_of_ble_eq_true rfl⟩ hI rfl hl.1 rfl (Nat.le_of_ble_eq_true rfl) dJ5_charAt_5068e_26 ⟨by decide, by decide⟩) hI (fun H locs hI => ?_)
  refine lv_iload_n hx hb dJ5_charAt_5068e_29 rfl (lv_at hl 2 rfl) ?_
  refine lv_if_ne (tgt := 42) hx hb dJ5_charAt_5068e_30 (by decide) (fun c7 => ?_) (fun c7 => ?_)
  · replace hq := i_f c7 hq
    cases hq
  · replace hq := i_t c7 hq
    refine lv_aload_n hx hb dJ5_charAt_5068e_33 rfl (lv_at hl 1 rfl) ?_
    refine lv_iload_n hx hb dJ5_charAt_5068e_34 rfl (lv_at hl 4 rfl) ?_
    obtain ⟨v8, ev8, hq⟩ := b_s hq
    refine fa_lb hx hb hI ev8 dJ5_charAt_5068e_35 ?_
    refine lv_sipush (v := (255 : Int32)) hx hb dJ5_charAt_5068e_36 (by decide) ?_
    refine lv_iand hx hb dJ5_charAt_5068e_39 ?_
    refine lv_i2c (v := ((v8 &&& (255 : Int32)).toUInt32 % 65536).toInt32) hx hb dJ5_charAt_5068e_40 rfl ?_
    obtain ⟨_, ev9, hq⟩ := b_s hq
    exact ge_Ri hx hb hlocks hr (h_cz_eq ev9).2.1 hI hq dJ5_charAt_5068e_41

abbrev rm_J4_charAt_5068e : Room := { frames := 5, cells := 0, slots := 0, locals := 187 }
theorem k_J4_charAt_5068e : g_CV yJ4_charAt_5068e cJ4_charAt_5068e 2 (some .char) 1 := ⟨⟨m_1461, m_10, by decide +kernel⟩, m_1459, m_1460⟩
set_option maxHeartbeats 4000000 in
set_option maxRecDepth 100000 in
theorem c_J4_charAt_5068e (l : Launch) (V : Nat → Nat) (g : GH) (D : va_G) (cT : Nat → ClassId) (f : GH) (n : Nat) (a0 : Nat) (a1 : Int32) (o : Int32) (hq : p_J4_charAt_5068e V g f a0 a1 = some o) : Met l yJ4_charAt_5068e (Cond.code yJ4_charAt_5068e cJ4_charAt_5068e 2 (some .char) :: g_B) rm_J4_charAt_5068e (va_Pc [.ref a0, .int a1] (g_I V g D cT f n)) (g_Ri o n) 0 0 g_no := by
  refine g_begin (own := RJ4) [.ref a0, .int a1] [(0, .ref a0), (1, .int a1)] g_no (fun _ h => h.elim) (by decide) rfl (Nat.le_of_ble_eq_true rfl) rfl ?_
  intro p e s m args below meth c hx hb hr hlocks hin hC hI ls hl
  obtain ⟨hx, hb, hml, hown, hB⟩ := id hC
  obtain ⟨H, hH⟩ : ∃ H, H = s.heap := ⟨_, rfl⟩
  obtain ⟨locs, hlocs⟩ : ∃ L : List Loc, L = [] := ⟨_, rfl⟩
  rw [← hH, ← hlocs] at hI ⊢
  clear hH hlocs
  unfold p_J4_charAt_5068e at hq
  replace hq := (h_me_eq hq).2
  refine lv_aload_n hx hb dJ4_charAt_5068e_0 rfl (lv_at hl 0 rfl) ?_
  refine lv_iload_n hx hb dJ4_charAt_5068e_1 rfl (lv_at hl 1 rfl) ?_
  obtain ⟨v1, ev1, hq⟩ := b_s hq
  refine gr_i (g_runSU (As := [.int a1]) (rest := []) (ci := 1) hC (c_J5_charAt_5068e l V g D cT f n a0 a1 v1 ev1) (⟨⟨m_1464, m_9⟩, m_1463, m_2218, m_239, by decide, by decide +kernel⟩ : g_CSU "java/lang/StringBuilder" yJ5_charAt_5068e cJ5_charAt_5068e 5 (some .char) 1) m_1462 rfl rfl ⟨Nat.le_of_ble_eq_true rfl, Nat.le_of_ble_eq_true rfl⟩ hI rfl (h_me_eq ev1).1 rfl hl.1 rfl (Nat.le_of_ble_eq_true rfl) dJ4_charAt_5068e_2 ⟨by decide, by decide⟩) hI (fun H locs hI => ?_)
  obtain ⟨_, ev2, hq⟩ := b_s hq
  exact ge_Ri hx hb hlocks hr (h_cz_eq ev2).2.1 hI hq dJ4_charAt_5068e_5

